section AMM4
def xrp_66 : Nat → Nat := fun k => ([0, 1, 2, 3, 6, 7, 8, 9, 10, 11, 12, 15, 16, 17, 18, 19, 20, 21, 24, 25, 26, 29, 30, 33, 34] : List Nat).getD k 0
set_option maxRecDepth 20000 in
set_option maxHeartbeats 4000000 in
theorem xz_66 {l : Launch} {D : va_G} {en : XE} : x_Ok xT l D xcl en xrn (xG en) 66 xc_66 := by
  refine ⟨prog_10_method_27_code, (some .int), xBIG, xrp_66, by decide +kernel, rfl, rfl, ?_⟩
  intro p e R s m args below meth c s₁ A Q pc i f1 f2 B hml hA hg hi
  obtain ⟨hx, hb, hr, hown, hlocks, hin, htsB, S⟩ := xb_all (C := "ExpressHouse$Schema") B hml rfl rfl
  obtain ⟨hgN, hgZ, hgS, hgS2⟩ := xG_all hg
  refine xa_at (i := i) (pc := pc) ?_ hi
  refine xa_cons 0 ((And.intro (by decide) (Or.inl (Exists.intro (1) (And.intro rfl (And.intro (by decide +kernel) rfl)))))) ?_
  refine xa_cons 1 (xc_iconst hx hb (z := 3) (b := 3) (And.intro (by decide +kernel) rfl) (by decide +kernel) ⟨rfl, rfl⟩) ?_
  refine xa_cons 2 ((And.intro (by decide) (Or.inl (Exists.intro (0) (And.intro rfl (And.intro (by decide +kernel) rfl)))))) ?_
  refine xa_cons 3 (xc_getf (A := A) (own := "ExpressHouse$Schema") (index := 28) hx hb htsB xC_3 hown rfl (by decide) xw_221 (And.intro (by decide +kernel) rfl)) ?_
  refine xa_cons 4 (xc_iconst hx hb (z := 2) (b := 2) (And.intro (by decide +kernel) rfl) (by decide +kernel) ⟨rfl, rfl⟩) ?_
  refine xa_cons 5 ((And.intro (by decide) (And.intro (by decide +kernel) rfl))) ?_
  refine xa_cons 6 ((And.intro (by decide) (And.intro (by decide +kernel) rfl))) ?_
  refine xa_cons 7 ((And.intro (by decide) (And.intro (by decide +kernel) rfl))) ?_
  refine xa_cons 8 ((And.intro (Or.inl rfl) (Or.inl (Exists.intro (2) (And.intro rfl (And.intro (by decide +kernel) rfl)))))) ?_
  refine xa_cons 9 ((And.intro (by decide) (Or.inl (Exists.intro (2) (And.intro rfl (And.intro (by decide +kernel) rfl)))))) ?_
  refine xa_cons 10 ((And.intro (by decide) (Exists.intro (7) (And.intro (by decide +kernel) (And.intro (by decide +kernel) rfl))))) ?_
  refine xa_cons 11 ((And.intro (by decide) (Or.inl (Exists.intro (1) (And.intro rfl (And.intro (by decide +kernel) rfl)))))) ?_
  refine xa_cons 12 (xc_iconst hx hb (z := 3) (b := 3) (And.intro (by decide +kernel) rfl) (by decide +kernel) ⟨rfl, rfl⟩) ?_
  refine xa_cons 13 ((And.intro (by decide) (And.intro (by decide +kernel) rfl))) ?_
  refine xa_cons 14 ((And.intro hr (by decide +kernel))) ?_
  refine xa_cons 15 ((And.intro (by decide) (Or.inl (Exists.intro (2) (And.intro rfl (And.intro (by decide +kernel) rfl)))))) ?_
  refine xa_cons 16 ((And.intro (by decide) (Or.inl (Exists.intro (0) (And.intro rfl (And.intro (by decide +kernel) rfl)))))) ?_
  refine xa_cons 17 (xc_getf (A := A) (own := "ExpressHouse$Schema") (index := 28) hx hb htsB xC_3 hown rfl (by decide) xw_221 (And.intro (by decide +kernel) rfl)) ?_
  refine xa_cons 18 (xc_iconst hx hb (z := 0) (b := 0) (And.intro (by decide +kernel) rfl) (by decide +kernel) ⟨rfl, rfl⟩) ?_
  refine xa_cons 19 ((And.intro (by decide) (And.intro (by decide +kernel) rfl))) ?_
  refine xa_cons 20 ((And.intro (by decide) (Exists.intro (7) (And.intro (by decide +kernel) (And.intro (by decide +kernel) rfl))))) ?_
  refine xa_cons 21 (xc_iconst hx hb (z := 3) (b := 3) (And.intro (by decide +kernel) rfl) (by decide +kernel) ⟨rfl, rfl⟩) ?_
  refine xa_cons 22 ((Exists.intro (4) (And.intro (by decide +kernel) (by decide +kernel)))) ?_
  refine xa_cons 23 (xc_iconst hx hb (z := 4) (b := 4) (And.intro (by decide +kernel) rfl) (by decide +kernel) ⟨rfl, rfl⟩) ?_
  refine xa_cons 24 ((And.intro hr (by decide +kernel))) ?_
  exact xa_nil
def xrp_67 : Nat → Nat := fun k => ([0, 1, 4, 5, 6, 7, 8, 11, 14, 17, 18, 21, 22, 23, 26, 29, 30, 31, 32, 33, 34, 37, 40, 41, 44, 45, 48, 51, 54, 55, 58] : List Nat).getD k 0
set_option maxRecDepth 20000 in
set_option maxHeartbeats 4000000 in
theorem xz_67 {l : Launch} {D : va_G} {en : XE} : x_Ok xT l D xcl en xrn (xG en) 67 xc_67 := by
  refine ⟨prog_5_method_6_code, (some .int), xBIG, xrp_67, by decide +kernel, rfl, rfl, ?_⟩
  intro p e R s m args below meth c s₁ A Q pc i f1 f2 B hml hA hg hi
  obtain ⟨hx, hb, hr, hown, hlocks, hin, htsB, S⟩ := xb_all (C := "ExpressHouse$Judge") B hml rfl rfl
  obtain ⟨hgN, hgZ, hgS, hgS2⟩ := xG_all hg
  refine xa_at (i := i) (pc := pc) ?_ hi
  refine xa_cons 0 ((And.intro (by decide) (Or.inl (Exists.intro (0) (And.intro rfl (And.intro (by decide +kernel) rfl)))))) ?_
  refine xa_cons 1 ((And.intro (xc_callV (index := 43) (n := 0) (ci := 7) S xg_48 rfl xw_41 xw_608 xw_333 xw_334 rfl rfl rfl ⟨by decide, by decide, by decide +kernel⟩ rfl (And.intro (by decide +kernel) rfl)) (by decide +kernel))) ?_
  refine xa_cons 2 (xc_iconst hx hb (z := 0) (b := 0) (And.intro (by decide +kernel) rfl) (by decide +kernel) ⟨rfl, rfl⟩) ?_
  refine xa_cons 3 ((And.intro (Or.inl rfl) (Or.inl (Exists.intro (2) (And.intro rfl (And.intro (by decide +kernel) rfl)))))) ?_
  refine xa_cons 4 ((And.intro (by decide) (Or.inl (Exists.intro (2) (And.intro rfl (And.intro (by decide +kernel) rfl)))))) ?_
  refine xa_cons 5 ((And.intro (by decide) (Or.inl (Exists.intro (0) (And.intro rfl (And.intro (by decide +kernel) rfl)))))) ?_
  refine xa_cons 6 (xc_getf (A := A) (own := "ExpressHouse$Judge") (index := 20) hx hb htsB xC_7 hown rfl (by decide) xw_285 (And.intro (by decide +kernel) rfl)) ?_
  refine xa_cons 7 (xc_getf (A := A) (own := "ExpressHouse$Judge") (index := 46) hx hb htsB xC_2 hown rfl (by decide) xw_609 (And.intro (by decide +kernel) rfl)) ?_
  refine xa_cons 8 ((And.intro (by decide) (Exists.intro (40) (And.intro (by decide +kernel) (And.intro (by decide +kernel) rfl))))) ?_
  refine xa_cons 9 ((And.intro (by decide) (Or.inl (Exists.intro (0) (And.intro rfl (And.intro (by decide +kernel) rfl)))))) ?_
  refine xa_cons 10 (xc_getf (A := A) (own := "ExpressHouse$Judge") (index := 20) hx hb htsB xC_7 hown rfl (by decide) xw_285 (And.intro (by decide +kernel) rfl)) ?_
  refine xa_cons 11 ((And.intro (by decide) (Or.inl (Exists.intro (2) (And.intro rfl (And.intro (by decide +kernel) rfl)))))) ?_
  refine xa_cons 12 ((And.intro (by decide) (Or.inl (Exists.intro (1) (And.intro rfl (And.intro (by decide +kernel) rfl)))))) ?_
  refine xa_cons 13 ((And.intro (xc_callV (index := 49) (n := 2) (ci := 2) S xg_104 rfl xw_12 xw_610 xw_545 xw_546 rfl rfl rfl ⟨by decide, by decide, by decide +kernel⟩ rfl (And.intro (by decide +kernel) rfl)) (by decide +kernel))) ?_
  refine xa_cons 14 ((And.intro (by decide) (Exists.intro (22) (And.intro (by decide +kernel) (And.intro (by decide +kernel) rfl))))) ?_
  refine xa_cons 15 ((And.intro (by decide) (Or.inl (Exists.intro (0) (And.intro rfl (And.intro (by decide +kernel) rfl)))))) ?_
  refine xa_cons 16 ((And.intro (by decide) (Or.inl (Exists.intro (2) (And.intro rfl (And.intro (by decide +kernel) rfl)))))) ?_
  refine xa_cons 17 ((And.intro (by decide) (Or.inl (Exists.intro (0) (And.intro rfl (And.intro (by decide +kernel) rfl)))))) ?_
  refine xa_cons 18 ((And.intro (by decide) (Or.inl (Exists.intro (2) (And.intro rfl (And.intro (by decide +kernel) rfl)))))) ?_
  refine xa_cons 19 ((And.intro (by decide) (Or.inl (Exists.intro (1) (And.intro rfl (And.intro (by decide +kernel) rfl)))))) ?_
  refine xa_cons 20 ((And.intro (xc_callV (index := 53) (n := 2) (ci := 7) S xg_121 rfl xw_41 xw_613 xw_611 xw_612 rfl rfl rfl ⟨by decide, by decide, by decide +kernel⟩ rfl (And.intro (by decide +kernel) rfl)) (by decide +kernel))) ?_
  refine xa_cons 21 ((And.intro (by decide) (Exists.intro (7) (And.intro (by decide +kernel) (And.intro (by decide +kernel) rfl))))) ?_
  refine xa_cons 22 (xc_iconst hx hb (z := 1) (b := 1) (And.intro (by decide +kernel) rfl) (by decide +kernel) ⟨rfl, rfl⟩) ?_
  refine xa_cons 23 ((Exists.intro (4) (And.intro (by decide +kernel) (by decide +kernel)))) ?_
  refine xa_cons 24 (xc_iconst hx hb (z := 0) (b := 0) (And.intro (by decide +kernel) rfl) (by decide +kernel) ⟨rfl, rfl⟩) ?_
  refine xa_cons 25 ((And.intro (xc_callV (index := 56) (n := 2) (ci := 7) S xg_122 rfl xw_41 xw_616 xw_614 xw_615 rfl rfl rfl ⟨by decide, by decide, by decide +kernel⟩ rfl (And.intro (by decide +kernel) rfl)) (by decide +kernel))) ?_
  refine xa_cons 26 ((Exists.intro (1) (And.intro (And.intro (by decide +kernel) rfl) (by decide +kernel)))) ?_
  refine xa_cons 27 ((Exists.intro (-45) (And.intro (by decide +kernel) (by decide +kernel)))) ?_
  refine xa_cons 28 ((And.intro (by decide) (Or.inl (Exists.intro (0) (And.intro rfl (And.intro (by decide +kernel) rfl)))))) ?_
  refine xa_cons 29 (xc_getf (A := A) (own := "ExpressHouse$Judge") (index := 32) hx hb htsB xC_7 hown rfl (by decide) xw_532 (And.intro (by decide +kernel) rfl)) ?_
  refine xa_cons 30 ((And.intro hr (by decide +kernel))) ?_
  exact xa_nil
def xrp_68 : Nat → Nat := fun k => ([0, 1, 4, 5, 6, 7, 8, 11, 14, 17, 18, 21, 22, 23, 26, 29, 30, 31, 32, 33, 34, 37, 40, 41, 44, 45, 48, 51, 54, 55, 58] : List Nat).getD k 0
set_option maxRecDepth 20000 in
set_option maxHeartbeats 4000000 in
theorem xz_68 {l : Launch} {D : va_G} {en : XE} : x_Ok xT l D xcl en xrn (xG en) 68 xc_68 := by
  refine ⟨prog_5_method_10_code, (some .int), xBIG, xrp_68, by decide +kernel, rfl, rfl, ?_⟩
  intro p e R s m args below meth c s₁ A Q pc i f1 f2 B hml hA hg hi
  obtain ⟨hx, hb, hr, hown, hlocks, hin, htsB, S⟩ := xb_all (C := "ExpressHouse$Judge") B hml rfl rfl
  obtain ⟨hgN, hgZ, hgS, hgS2⟩ := xG_all hg
  refine xa_at (i := i) (pc := pc) ?_ hi
  refine xa_cons 0 ((And.intro (by decide) (Or.inl (Exists.intro (0) (And.intro rfl (And.intro (by decide +kernel) rfl)))))) ?_
  refine xa_cons 1 ((And.intro (xc_callV (index := 43) (n := 0) (ci := 7) S xg_48 rfl xw_41 xw_608 xw_333 xw_334 rfl rfl rfl ⟨by decide, by decide, by decide +kernel⟩ rfl (And.intro (by decide +kernel) rfl)) (by decide +kernel))) ?_
  refine xa_cons 2 (xc_iconst hx hb (z := 0) (b := 0) (And.intro (by decide +kernel) rfl) (by decide +kernel) ⟨rfl, rfl⟩) ?_
  refine xa_cons 3 ((And.intro (Or.inl rfl) (Or.inl (Exists.intro (2) (And.intro rfl (And.intro (by decide +kernel) rfl)))))) ?_
  refine xa_cons 4 ((And.intro (by decide) (Or.inl (Exists.intro (2) (And.intro rfl (And.intro (by decide +kernel) rfl)))))) ?_
  refine xa_cons 5 ((And.intro (by decide) (Or.inl (Exists.intro (0) (And.intro rfl (And.intro (by decide +kernel) rfl)))))) ?_
  refine xa_cons 6 (xc_getf (A := A) (own := "ExpressHouse$Judge") (index := 20) hx hb htsB xC_7 hown rfl (by decide) xw_285 (And.intro (by decide +kernel) rfl)) ?_
  refine xa_cons 7 (xc_getf (A := A) (own := "ExpressHouse$Judge") (index := 46) hx hb htsB xC_2 hown rfl (by decide) xw_609 (And.intro (by decide +kernel) rfl)) ?_
  refine xa_cons 8 ((And.intro (by decide) (Exists.intro (40) (And.intro (by decide +kernel) (And.intro (by decide +kernel) rfl))))) ?_
  refine xa_cons 9 ((And.intro (by decide) (Or.inl (Exists.intro (0) (And.intro rfl (And.intro (by decide +kernel) rfl)))))) ?_
  refine xa_cons 10 (xc_getf (A := A) (own := "ExpressHouse$Judge") (index := 20) hx hb htsB xC_7 hown rfl (by decide) xw_285 (And.intro (by decide +kernel) rfl)) ?_
  refine xa_cons 11 ((And.intro (by decide) (Or.inl (Exists.intro (2) (And.intro rfl (And.intro (by decide +kernel) rfl)))))) ?_
  refine xa_cons 12 ((And.intro (by decide) (Or.inl (Exists.intro (1) (And.intro rfl (And.intro (by decide +kernel) rfl)))))) ?_
  refine xa_cons 13 ((And.intro (xc_callV (index := 49) (n := 2) (ci := 2) S xg_104 rfl xw_12 xw_610 xw_545 xw_546 rfl rfl rfl ⟨by decide, by decide, by decide +kernel⟩ rfl (And.intro (by decide +kernel) rfl)) (by decide +kernel))) ?_
  refine xa_cons 14 ((And.intro (by decide) (Exists.intro (22) (And.intro (by decide +kernel) (And.intro (by decide +kernel) rfl))))) ?_
  refine xa_cons 15 ((And.intro (by decide) (Or.inl (Exists.intro (0) (And.intro rfl (And.intro (by decide +kernel) rfl)))))) ?_
  refine xa_cons 16 ((And.intro (by decide) (Or.inl (Exists.intro (2) (And.intro rfl (And.intro (by decide +kernel) rfl)))))) ?_
  refine xa_cons 17 ((And.intro (by decide) (Or.inl (Exists.intro (0) (And.intro rfl (And.intro (by decide +kernel) rfl)))))) ?_
  refine xa_cons 18 ((And.intro (by decide) (Or.inl (Exists.intro (2) (And.intro rfl (And.intro (by decide +kernel) rfl)))))) ?_
  refine xa_cons 19 ((And.intro (by decide) (Or.inl (Exists.intro (1) (And.intro rfl (And.intro (by decide +kernel) rfl)))))) ?_
  refine xa_cons 20 ((And.intro (xc_callV (index := 102) (n := 2) (ci := 7) S xg_123 rfl xw_41 xw_619 xw_617 xw_618 rfl rfl rfl ⟨by decide, by decide, by decide +kernel⟩ rfl (And.intro (by decide +kernel) rfl)) (by decide +kernel))) ?_
  refine xa_cons 21 ((And.intro (by decide) (Exists.intro (7) (And.intro (by decide +kernel) (And.intro (by decide +kernel) rfl))))) ?_
  refine xa_cons 22 (xc_iconst hx hb (z := 1) (b := 1) (And.intro (by decide +kernel) rfl) (by decide +kernel) ⟨rfl, rfl⟩) ?_
  refine xa_cons 23 ((Exists.intro (4) (And.intro (by decide +kernel) (by decide +kernel)))) ?_
  refine xa_cons 24 (xc_iconst hx hb (z := 0) (b := 0) (And.intro (by decide +kernel) rfl) (by decide +kernel) ⟨rfl, rfl⟩) ?_
  refine xa_cons 25 ((And.intro (xc_callV (index := 56) (n := 2) (ci := 7) S xg_122 rfl xw_41 xw_616 xw_614 xw_615 rfl rfl rfl ⟨by decide, by decide, by decide +kernel⟩ rfl (And.intro (by decide +kernel) rfl)) (by decide +kernel))) ?_
  refine xa_cons 26 ((Exists.intro (1) (And.intro (And.intro (by decide +kernel) rfl) (by decide +kernel)))) ?_
  refine xa_cons 27 ((Exists.intro (-45) (And.intro (by decide +kernel) (by decide +kernel)))) ?_
  refine xa_cons 28 ((And.intro (by decide) (Or.inl (Exists.intro (0) (And.intro rfl (And.intro (by decide +kernel) rfl)))))) ?_
  refine xa_cons 29 (xc_getf (A := A) (own := "ExpressHouse$Judge") (index := 32) hx hb htsB xC_7 hown rfl (by decide) xw_532 (And.intro (by decide +kernel) rfl)) ?_
  refine xa_cons 30 ((And.intro hr (by decide +kernel))) ?_
  exact xa_nil
def xrp_69 : Nat → Nat := fun k => ([0, 1, 4, 5, 6, 7, 8, 11, 14, 17, 18, 19, 20, 22, 24, 25, 28, 31, 34, 35, 36, 39, 40, 43, 44, 45, 48, 51, 52, 55, 56, 59, 62, 63, 65, 68, 71, 72, 73, 74, 75, 78, 81, 83, 84, 85, 87, 90, 93, 94, 97, 100, 101, 102, 103, 106, 109, 112, 113, 116] : List Nat).getD k 0
set_option maxRecDepth 20000 in
set_option maxHeartbeats 4000000 in
theorem xz_69 {l : Launch} {D : va_G} {en : XE} : x_Ok xT l D xcl en xrn (xG en) 69 xc_69 := by
  refine ⟨prog_5_method_13_code, (some .int), xBIG, xrp_69, by decide +kernel, rfl, rfl, ?_⟩
  intro p e R s m args below meth c s₁ A Q pc i f1 f2 B hml hA hg hi
  obtain ⟨hx, hb, hr, hown, hlocks, hin, htsB, S⟩ := xb_all (C := "ExpressHouse$Judge") B hml rfl rfl
  obtain ⟨hgN, hgZ, hgS, hgS2⟩ := xG_all hg
  refine xa_at (i := i) (pc := pc) ?_ hi
  refine xa_cons 0 ((And.intro (by decide) (Or.inl (Exists.intro (0) (And.intro rfl (And.intro (by decide +kernel) rfl)))))) ?_
  refine xa_cons 1 ((And.intro (xc_callV (index := 43) (n := 0) (ci := 7) S xg_48 rfl xw_41 xw_608 xw_333 xw_334 rfl rfl rfl ⟨by decide, by decide, by decide +kernel⟩ rfl (And.intro (by decide +kernel) rfl)) (by decide +kernel))) ?_
  refine xa_cons 2 (xc_iconst hx hb (z := 0) (b := 0) (And.intro (by decide +kernel) rfl) (by decide +kernel) ⟨rfl, rfl⟩) ?_
  refine xa_cons 3 ((And.intro (Or.inl rfl) (Or.inl (Exists.intro (2) (And.intro rfl (And.intro (by decide +kernel) rfl)))))) ?_
  refine xa_cons 4 ((And.intro (by decide) (Or.inl (Exists.intro (2) (And.intro rfl (And.intro (by decide +kernel) rfl)))))) ?_
  refine xa_cons 5 ((And.intro (by decide) (Or.inl (Exists.intro (0) (And.intro rfl (And.intro (by decide +kernel) rfl)))))) ?_
  refine xa_cons 6 (xc_getf (A := A) (own := "ExpressHouse$Judge") (index := 20) hx hb htsB xC_7 hown rfl (by decide) xw_285 (And.intro (by decide +kernel) rfl)) ?_
  refine xa_cons 7 (xc_getf (A := A) (own := "ExpressHouse$Judge") (index := 46) hx hb htsB xC_2 hown rfl (by decide) xw_609 (And.intro (by decide +kernel) rfl)) ?_
  refine xa_cons 8 ((And.intro (by decide) (Exists.intro (98) (And.intro (by decide +kernel) (And.intro (by decide +kernel) rfl))))) ?_
  refine xa_cons 9 (xc_iconst hx hb (z := 1) (b := 1) (And.intro (by decide +kernel) rfl) (by decide +kernel) ⟨rfl, rfl⟩) ?_
  refine xa_cons 10 ((And.intro (Or.inl rfl) (Or.inl (Exists.intro (3) (And.intro rfl (And.intro (by decide +kernel) rfl)))))) ?_
  refine xa_cons 11 (xc_iconst hx hb (z := 0) (b := 0) (And.intro (by decide +kernel) rfl) (by decide +kernel) ⟨rfl, rfl⟩) ?_
  refine xa_cons 12 ((And.intro (Or.inl rfl) (Or.inr (And.intro (by decide +kernel) rfl)))) ?_
  refine xa_cons 13 ((And.intro (by decide) (Or.inr (And.intro (by decide +kernel) rfl)))) ?_
  refine xa_cons 14 ((And.intro (by decide) (Or.inl (Exists.intro (0) (And.intro rfl (And.intro (by decide +kernel) rfl)))))) ?_
  refine xa_cons 15 (xc_getf (A := A) (own := "ExpressHouse$Judge") (index := 20) hx hb htsB xC_7 hown rfl (by decide) xw_285 (And.intro (by decide +kernel) rfl)) ?_
  refine xa_cons 16 (xc_getf (A := A) (own := "ExpressHouse$Judge") (index := 60) hx hb htsB xC_2 hown rfl (by decide) xw_620 (And.intro (by decide +kernel) rfl)) ?_
  refine xa_cons 17 (xc_getf (A := A) (own := "ExpressHouse$Judge") (index := 119) hx hb htsB xC_3 hown rfl (by decide) xw_621 (And.intro (by decide +kernel) rfl)) ?_
  refine xa_cons 18 ((And.intro (by decide) (Or.inl (Exists.intro (1) (And.intro rfl (And.intro (by decide +kernel) rfl)))))) ?_
  refine xa_cons 19 ((And.intro (by decide) (And.intro (by decide +kernel) rfl))) ?_
  refine xa_cons 20 ((And.intro (by decide) (Exists.intro (64) (And.intro (by decide +kernel) (And.intro (by decide +kernel) rfl))))) ?_
  refine xa_cons 21 ((And.intro (by decide) (Or.inl (Exists.intro (0) (And.intro rfl (And.intro (by decide +kernel) rfl)))))) ?_
  refine xa_cons 22 (xc_getf (A := A) (own := "ExpressHouse$Judge") (index := 20) hx hb htsB xC_7 hown rfl (by decide) xw_285 (And.intro (by decide +kernel) rfl)) ?_
  refine xa_cons 23 ((And.intro (by decide) (Or.inl (Exists.intro (2) (And.intro rfl (And.intro (by decide +kernel) rfl)))))) ?_
  refine xa_cons 24 ((And.intro (by decide) (Or.inl (Exists.intro (1) (And.intro rfl (And.intro (by decide +kernel) rfl)))))) ?_
  refine xa_cons 25 ((And.intro (xc_callV (index := 49) (n := 2) (ci := 2) S xg_104 rfl xw_12 xw_610 xw_545 xw_546 rfl rfl rfl ⟨by decide, by decide, by decide +kernel⟩ rfl (And.intro (by decide +kernel) rfl)) (by decide +kernel))) ?_
  refine xa_cons 26 ((And.intro (by decide) (Exists.intro (52) (And.intro (by decide +kernel) (And.intro (by decide +kernel) rfl))))) ?_
  refine xa_cons 27 ((And.intro (by decide) (Or.inl (Exists.intro (0) (And.intro rfl (And.intro (by decide +kernel) rfl)))))) ?_
  refine xa_cons 28 (xc_getf (A := A) (own := "ExpressHouse$Judge") (index := 24) hx hb htsB xC_7 hown rfl (by decide) xw_286 (And.intro (by decide +kernel) rfl)) ?_
  refine xa_cons 29 ((And.intro (by decide) (Or.inl (Exists.intro (0) (And.intro rfl (And.intro (by decide +kernel) rfl)))))) ?_
  refine xa_cons 30 (xc_getf (A := A) (own := "ExpressHouse$Judge") (index := 20) hx hb htsB xC_7 hown rfl (by decide) xw_285 (And.intro (by decide +kernel) rfl)) ?_
  refine xa_cons 31 (xc_getf (A := A) (own := "ExpressHouse$Judge") (index := 60) hx hb htsB xC_2 hown rfl (by decide) xw_620 (And.intro (by decide +kernel) rfl)) ?_
  refine xa_cons 32 ((And.intro (by decide) (Or.inl (Exists.intro (1) (And.intro rfl (And.intro (by decide +kernel) rfl)))))) ?_
  refine xa_cons 33 ((And.intro (by decide) (Or.inr (And.intro (by decide +kernel) rfl)))) ?_
  refine xa_cons 34 ((And.intro (xc_callV (index := 122) (n := 2) (ci := 3) S xg_124 rfl xw_15 xw_624 xw_622 xw_623 rfl rfl rfl ⟨by decide, by decide, by decide +kernel⟩ rfl (And.intro (by decide +kernel) rfl)) (by decide +kernel))) ?_
  refine xa_cons 35 (xc_new (own := "ExpressHouse$Judge") (index := 88) hx hb htsB xC_10 hown hA rfl rfl xw_625 xw_58 xw_59 (by decide) (by decide +kernel) (And.intro (by decide +kernel) rfl)) ?_
  refine xa_cons 36 ((And.intro (by decide +kernel) rfl)) ?_
  refine xa_cons 37 (xc_iconst hx hb (z := 5) (b := 5) (And.intro (by decide +kernel) rfl) (by decide +kernel) ⟨rfl, rfl⟩) ?_
  refine xa_cons 38 ((And.intro (by decide) (Or.inl (Exists.intro (2) (And.intro rfl (And.intro (by decide +kernel) rfl)))))) ?_
  refine xa_cons 39 ((And.intro (by decide +kernel) rfl)) ?_
  refine xa_cons 40 ((And.intro (xc_callIN (index := 125) (n := 2) (ci := 10) S xg_18 rfl xw_59 (hgN.1 _ (List.mem_of_getElem? (i := 7) rfl)) xw_60 rfl rfl rfl ⟨by decide, by decide, by decide +kernel⟩ rfl (And.intro (by decide +kernel) rfl)) (by decide +kernel))) ?_
  refine xa_cons 41 ((And.intro (xc_callV (index := 128) (n := 2) (ci := 6) S xg_56 rfl xw_35 xw_626 xw_361 xw_362 rfl rfl rfl ⟨by decide, by decide, by decide +kernel⟩ rfl (And.intro (by decide +kernel) rfl)) (by decide +kernel))) ?_
  refine xa_cons 42 ((And.intro (Or.inr rfl) (Or.inr (And.intro (by decide +kernel) rfl)))) ?_
  refine xa_cons 43 ((And.intro (by decide) (Or.inl (Exists.intro (3) (And.intro rfl (And.intro (by decide +kernel) rfl)))))) ?_
  refine xa_cons 44 ((And.intro (by decide) (Or.inl (Exists.intro (0) (And.intro rfl (And.intro (by decide +kernel) rfl)))))) ?_
  refine xa_cons 45 ((And.intro (by decide) (Or.inr (And.intro (by decide +kernel) rfl)))) ?_
  refine xa_cons 46 ((And.intro (xc_callV (index := 134) (n := 1) (ci := 7) S xg_125 rfl xw_41 xw_629 xw_627 xw_628 rfl rfl rfl ⟨by decide, by decide, by decide +kernel⟩ rfl (And.intro (by decide +kernel) rfl)) (by decide +kernel))) ?_
  refine xa_cons 47 ((And.intro (xc_callS (index := 35) S xg_126 rfl xw_41 xw_630 xw_631 ⟨by decide, by decide, by decide +kernel⟩ rfl (And.intro (by decide +kernel) rfl)) (by decide +kernel))) ?_
  refine xa_cons 48 ((And.intro (Or.inl rfl) (Or.inl (Exists.intro (3) (And.intro rfl (And.intro (by decide +kernel) rfl)))))) ?_
  refine xa_cons 49 ((Exists.intro (1) (And.intro (And.intro (by decide +kernel) rfl) (by decide +kernel)))) ?_
  refine xa_cons 50 ((Exists.intro (-75) (And.intro (by decide +kernel) (by decide +kernel)))) ?_
  refine xa_cons 51 ((And.intro (by decide) (Or.inl (Exists.intro (0) (And.intro rfl (And.intro (by decide +kernel) rfl)))))) ?_
  refine xa_cons 52 ((And.intro (by decide) (Or.inl (Exists.intro (2) (And.intro rfl (And.intro (by decide +kernel) rfl)))))) ?_
  refine xa_cons 53 ((And.intro (by decide) (Or.inl (Exists.intro (3) (And.intro rfl (And.intro (by decide +kernel) rfl)))))) ?_
  refine xa_cons 54 ((And.intro (xc_callV (index := 56) (n := 2) (ci := 7) S xg_122 rfl xw_41 xw_616 xw_614 xw_615 rfl rfl rfl ⟨by decide, by decide, by decide +kernel⟩ rfl (And.intro (by decide +kernel) rfl)) (by decide +kernel))) ?_
  refine xa_cons 55 ((Exists.intro (1) (And.intro (And.intro (by decide +kernel) rfl) (by decide +kernel)))) ?_
  refine xa_cons 56 ((Exists.intro (-103) (And.intro (by decide +kernel) (by decide +kernel)))) ?_
  refine xa_cons 57 ((And.intro (by decide) (Or.inl (Exists.intro (0) (And.intro rfl (And.intro (by decide +kernel) rfl)))))) ?_
  refine xa_cons 58 (xc_getf (A := A) (own := "ExpressHouse$Judge") (index := 32) hx hb htsB xC_7 hown rfl (by decide) xw_532 (And.intro (by decide +kernel) rfl)) ?_
  refine xa_cons 59 ((And.intro hr (by decide +kernel))) ?_
  exact xa_nil
def xrp_70 : Nat → Nat := fun k => ([0, 1, 4, 5, 6, 7, 8, 11, 14, 17, 18, 19, 20, 22, 24, 25, 28, 31, 34, 35, 36, 39, 40, 43, 44, 46, 49, 51, 52, 55, 56, 58, 61, 64, 65, 67, 68, 71, 74, 76, 79, 82, 83, 86, 87, 89, 90, 92, 94, 95, 98, 101, 104, 106, 107, 108, 109, 112, 114, 117, 118, 121, 122, 125, 128, 130, 131, 132, 134, 137, 139, 142, 144, 145, 146, 148, 151, 154, 155, 158, 161, 164, 167, 168, 169, 170, 173, 176, 179, 180, 183] : List Nat).getD k 0
set_option maxRecDepth 20000 in
set_option maxHeartbeats 4000000 in
theorem xz_70 {l : Launch} {D : va_G} {en : XE} : x_Ok xT l D xcl en xrn (xG en) 70 xc_70 := by
  refine ⟨prog_5_method_14_code, (some .int), xBIG, xrp_70, by decide +kernel, rfl, rfl, ?_⟩
  intro p e R s m args below meth c s₁ A Q pc i f1 f2 B hml hA hg hi
  obtain ⟨hx, hb, hr, hown, hlocks, hin, htsB, S⟩ := xb_all (C := "ExpressHouse$Judge") B hml rfl rfl
  obtain ⟨hgN, hgZ, hgS, hgS2⟩ := xG_all hg
  refine xa_at (i := i) (pc := pc) ?_ hi
  refine xa_cons 0 ((And.intro (by decide) (Or.inl (Exists.intro (0) (And.intro rfl (And.intro (by decide +kernel) rfl)))))) ?_
  refine xa_cons 1 ((And.intro (xc_callV (index := 43) (n := 0) (ci := 7) S xg_48 rfl xw_41 xw_608 xw_333 xw_334 rfl rfl rfl ⟨by decide, by decide, by decide +kernel⟩ rfl (And.intro (by decide +kernel) rfl)) (by decide +kernel))) ?_
  refine xa_cons 2 (xc_iconst hx hb (z := 0) (b := 0) (And.intro (by decide +kernel) rfl) (by decide +kernel) ⟨rfl, rfl⟩) ?_
  refine xa_cons 3 ((And.intro (Or.inl rfl) (Or.inl (Exists.intro (2) (And.intro rfl (And.intro (by decide +kernel) rfl)))))) ?_
  refine xa_cons 4 ((And.intro (by decide) (Or.inl (Exists.intro (2) (And.intro rfl (And.intro (by decide +kernel) rfl)))))) ?_
  refine xa_cons 5 ((And.intro (by decide) (Or.inl (Exists.intro (0) (And.intro rfl (And.intro (by decide +kernel) rfl)))))) ?_
  refine xa_cons 6 (xc_getf (A := A) (own := "ExpressHouse$Judge") (index := 20) hx hb htsB xC_7 hown rfl (by decide) xw_285 (And.intro (by decide +kernel) rfl)) ?_
  refine xa_cons 7 (xc_getf (A := A) (own := "ExpressHouse$Judge") (index := 46) hx hb htsB xC_2 hown rfl (by decide) xw_609 (And.intro (by decide +kernel) rfl)) ?_
  refine xa_cons 8 ((And.intro (by decide) (Exists.intro (165) (And.intro (by decide +kernel) (And.intro (by decide +kernel) rfl))))) ?_
  refine xa_cons 9 (xc_iconst hx hb (z := 1) (b := 1) (And.intro (by decide +kernel) rfl) (by decide +kernel) ⟨rfl, rfl⟩) ?_
  refine xa_cons 10 ((And.intro (Or.inl rfl) (Or.inl (Exists.intro (3) (And.intro rfl (And.intro (by decide +kernel) rfl)))))) ?_
  refine xa_cons 11 (xc_iconst hx hb (z := 0) (b := 0) (And.intro (by decide +kernel) rfl) (by decide +kernel) ⟨rfl, rfl⟩) ?_
  refine xa_cons 12 ((And.intro (Or.inl rfl) (Or.inr (And.intro (by decide +kernel) rfl)))) ?_
  refine xa_cons 13 ((And.intro (by decide) (Or.inr (And.intro (by decide +kernel) rfl)))) ?_
  refine xa_cons 14 ((And.intro (by decide) (Or.inl (Exists.intro (0) (And.intro rfl (And.intro (by decide +kernel) rfl)))))) ?_
  refine xa_cons 15 (xc_getf (A := A) (own := "ExpressHouse$Judge") (index := 20) hx hb htsB xC_7 hown rfl (by decide) xw_285 (And.intro (by decide +kernel) rfl)) ?_
  refine xa_cons 16 (xc_getf (A := A) (own := "ExpressHouse$Judge") (index := 60) hx hb htsB xC_2 hown rfl (by decide) xw_620 (And.intro (by decide +kernel) rfl)) ?_
  refine xa_cons 17 (xc_getf (A := A) (own := "ExpressHouse$Judge") (index := 64) hx hb htsB xC_3 hown rfl (by decide) xw_632 (And.intro (by decide +kernel) rfl)) ?_
  refine xa_cons 18 (xc_iconst hx hb (z := 3) (b := 3) (And.intro (by decide +kernel) rfl) (by decide +kernel) ⟨rfl, rfl⟩) ?_
  refine xa_cons 19 ((And.intro (by decide) (And.intro (by decide +kernel) rfl))) ?_
  refine xa_cons 20 ((And.intro (by decide) (Exists.intro (131) (And.intro (by decide +kernel) (And.intro (by decide +kernel) rfl))))) ?_
  refine xa_cons 21 ((And.intro (by decide) (Or.inl (Exists.intro (0) (And.intro rfl (And.intro (by decide +kernel) rfl)))))) ?_
  refine xa_cons 22 (xc_getf (A := A) (own := "ExpressHouse$Judge") (index := 20) hx hb htsB xC_7 hown rfl (by decide) xw_285 (And.intro (by decide +kernel) rfl)) ?_
  refine xa_cons 23 ((And.intro (by decide) (Or.inl (Exists.intro (2) (And.intro rfl (And.intro (by decide +kernel) rfl)))))) ?_
  refine xa_cons 24 ((And.intro (by decide) (Or.inr (And.intro (by decide +kernel) rfl)))) ?_
  refine xa_cons 25 ((And.intro (xc_callV (index := 79) (n := 2) (ci := 2) S xg_118 rfl xw_12 xw_633 xw_598 xw_599 rfl rfl rfl ⟨by decide, by decide, by decide +kernel⟩ rfl (And.intro (by decide +kernel) rfl)) (by decide +kernel))) ?_
  refine xa_cons 26 ((And.intro (Or.inr rfl) (Or.inr (And.intro (by decide +kernel) rfl)))) ?_
  refine xa_cons 27 ((And.intro (by decide) (Or.inl (Exists.intro (0) (And.intro rfl (And.intro (by decide +kernel) rfl)))))) ?_
  refine xa_cons 28 (xc_getf (A := A) (own := "ExpressHouse$Judge") (index := 20) hx hb htsB xC_7 hown rfl (by decide) xw_285 (And.intro (by decide +kernel) rfl)) ?_
  refine xa_cons 29 ((And.intro (by decide) (Or.inl (Exists.intro (2) (And.intro rfl (And.intro (by decide +kernel) rfl)))))) ?_
  refine xa_cons 30 ((And.intro (by decide) (Or.inr (And.intro (by decide +kernel) rfl)))) ?_
  refine xa_cons 31 ((And.intro (xc_callV (index := 138) (n := 2) (ci := 2) S xg_53 rfl xw_12 xw_634 xw_350 xw_351 rfl rfl rfl ⟨by decide, by decide, by decide +kernel⟩ rfl (And.intro (by decide +kernel) rfl)) (by decide +kernel))) ?_
  refine xa_cons 32 ((And.intro (by decide) (Exists.intro (25) (And.intro (by decide +kernel) (And.intro (by decide +kernel) rfl))))) ?_
  refine xa_cons 33 ((And.intro (by decide) (Or.inl (Exists.intro (0) (And.intro rfl (And.intro (by decide +kernel) rfl)))))) ?_
  refine xa_cons 34 ((And.intro (by decide) (Or.inr (And.intro (by decide +kernel) rfl)))) ?_
  refine xa_cons 35 ((And.intro (by decide) (Or.inl (Exists.intro (1) (And.intro rfl (And.intro (by decide +kernel) rfl)))))) ?_
  refine xa_cons 36 ((And.intro (xc_callV (index := 141) (n := 2) (ci := 7) S xg_127 rfl xw_41 xw_637 xw_635 xw_636 rfl rfl rfl ⟨by decide, by decide, by decide +kernel⟩ rfl (And.intro (by decide +kernel) rfl)) (by decide +kernel))) ?_
  refine xa_cons 37 ((And.intro (by decide) (Exists.intro (15) (And.intro (by decide +kernel) (And.intro (by decide +kernel) rfl))))) ?_
  refine xa_cons 38 ((And.intro (by decide) (Or.inr (And.intro (by decide +kernel) rfl)))) ?_
  refine xa_cons 39 (xc_getf (A := A) (own := "ExpressHouse$Judge") (index := 87) hx hb htsB xC_10 hown rfl (by decide) xw_638 (And.intro (by decide +kernel) rfl)) ?_
  refine xa_cons 40 ((And.intro (by decide) (Exists.intro (7) (And.intro (by decide +kernel) (And.intro (by decide +kernel) rfl))))) ?_
  refine xa_cons 41 (xc_iconst hx hb (z := 1) (b := 1) (And.intro (by decide +kernel) rfl) (by decide +kernel) ⟨rfl, rfl⟩) ?_
  refine xa_cons 42 ((Exists.intro (4) (And.intro (by decide +kernel) (by decide +kernel)))) ?_
  refine xa_cons 43 (xc_iconst hx hb (z := 0) (b := 0) (And.intro (by decide +kernel) rfl) (by decide +kernel) ⟨rfl, rfl⟩) ?_
  refine xa_cons 44 ((And.intro (Or.inl rfl) (Or.inr (And.intro (by decide +kernel) rfl)))) ?_
  refine xa_cons 45 (xc_iconst hx hb (z := 0) (b := 0) (And.intro (by decide +kernel) rfl) (by decide +kernel) ⟨rfl, rfl⟩) ?_
  refine xa_cons 46 ((And.intro (Or.inl rfl) (Or.inr (And.intro (by decide +kernel) rfl)))) ?_
  refine xa_cons 47 ((And.intro (by decide) (Or.inr (And.intro (by decide +kernel) rfl)))) ?_
  refine xa_cons 48 ((And.intro (by decide) (Or.inl (Exists.intro (0) (And.intro rfl (And.intro (by decide +kernel) rfl)))))) ?_
  refine xa_cons 49 (xc_getf (A := A) (own := "ExpressHouse$Judge") (index := 20) hx hb htsB xC_7 hown rfl (by decide) xw_285 (And.intro (by decide +kernel) rfl)) ?_
  refine xa_cons 50 (xc_getf (A := A) (own := "ExpressHouse$Judge") (index := 60) hx hb htsB xC_2 hown rfl (by decide) xw_620 (And.intro (by decide +kernel) rfl)) ?_
  refine xa_cons 51 (xc_getf (A := A) (own := "ExpressHouse$Judge") (index := 119) hx hb htsB xC_3 hown rfl (by decide) xw_621 (And.intro (by decide +kernel) rfl)) ?_
  refine xa_cons 52 (xc_bipush hx hb (z := 12) (b := 12) (And.intro (by decide +kernel) rfl) (by decide +kernel) ⟨rfl, rfl⟩) ?_
  refine xa_cons 53 ((And.intro (by decide) (Or.inl (Exists.intro (1) (And.intro rfl (And.intro (by decide +kernel) rfl)))))) ?_
  refine xa_cons 54 ((And.intro (by decide) (And.intro (by decide +kernel) rfl))) ?_
  refine xa_cons 55 ((And.intro (by decide) (And.intro (by decide +kernel) rfl))) ?_
  refine xa_cons 56 ((And.intro (by decide) (Exists.intro (52) (And.intro (by decide +kernel) (And.intro (by decide +kernel) rfl))))) ?_
  refine xa_cons 57 ((And.intro (by decide) (Or.inr (And.intro (by decide +kernel) rfl)))) ?_
  refine xa_cons 58 ((And.intro (by decide) (Exists.intro (47) (And.intro (by decide +kernel) (And.intro (by decide +kernel) rfl))))) ?_
  refine xa_cons 59 ((And.intro (by decide) (Or.inl (Exists.intro (0) (And.intro rfl (And.intro (by decide +kernel) rfl)))))) ?_
  refine xa_cons 60 (xc_getf (A := A) (own := "ExpressHouse$Judge") (index := 24) hx hb htsB xC_7 hown rfl (by decide) xw_286 (And.intro (by decide +kernel) rfl)) ?_
  refine xa_cons 61 ((And.intro (by decide) (Or.inl (Exists.intro (0) (And.intro rfl (And.intro (by decide +kernel) rfl)))))) ?_
  refine xa_cons 62 (xc_getf (A := A) (own := "ExpressHouse$Judge") (index := 20) hx hb htsB xC_7 hown rfl (by decide) xw_285 (And.intro (by decide +kernel) rfl)) ?_
  refine xa_cons 63 (xc_getf (A := A) (own := "ExpressHouse$Judge") (index := 60) hx hb htsB xC_2 hown rfl (by decide) xw_620 (And.intro (by decide +kernel) rfl)) ?_
  refine xa_cons 64 (xc_bipush hx hb (z := 12) (b := 12) (And.intro (by decide +kernel) rfl) (by decide +kernel) ⟨rfl, rfl⟩) ?_
  refine xa_cons 65 ((And.intro (by decide) (Or.inl (Exists.intro (1) (And.intro rfl (And.intro (by decide +kernel) rfl)))))) ?_
  refine xa_cons 66 ((And.intro (by decide) (And.intro (by decide +kernel) rfl))) ?_
  refine xa_cons 67 ((And.intro (by decide) (Or.inr (And.intro (by decide +kernel) rfl)))) ?_
  refine xa_cons 68 ((And.intro (xc_callV (index := 122) (n := 2) (ci := 3) S xg_124 rfl xw_15 xw_624 xw_622 xw_623 rfl rfl rfl ⟨by decide, by decide, by decide +kernel⟩ rfl (And.intro (by decide +kernel) rfl)) (by decide +kernel))) ?_
  refine xa_cons 69 ((And.intro (by decide) (Or.inr (And.intro (by decide +kernel) rfl)))) ?_
  refine xa_cons 70 ((And.intro (xc_callV (index := 128) (n := 2) (ci := 6) S xg_56 rfl xw_35 xw_626 xw_361 xw_362 rfl rfl rfl ⟨by decide, by decide, by decide +kernel⟩ rfl (And.intro (by decide +kernel) rfl)) (by decide +kernel))) ?_
  refine xa_cons 71 ((And.intro (Or.inr rfl) (Or.inr (And.intro (by decide +kernel) rfl)))) ?_
  refine xa_cons 72 ((And.intro (by decide) (Or.inl (Exists.intro (3) (And.intro rfl (And.intro (by decide +kernel) rfl)))))) ?_
  refine xa_cons 73 ((And.intro (by decide) (Or.inl (Exists.intro (0) (And.intro rfl (And.intro (by decide +kernel) rfl)))))) ?_
  refine xa_cons 74 ((And.intro (by decide) (Or.inr (And.intro (by decide +kernel) rfl)))) ?_
  refine xa_cons 75 ((And.intro (xc_callV (index := 134) (n := 1) (ci := 7) S xg_125 rfl xw_41 xw_629 xw_627 xw_628 rfl rfl rfl ⟨by decide, by decide, by decide +kernel⟩ rfl (And.intro (by decide +kernel) rfl)) (by decide +kernel))) ?_
  refine xa_cons 76 ((And.intro (xc_callS (index := 35) S xg_126 rfl xw_41 xw_630 xw_631 ⟨by decide, by decide, by decide +kernel⟩ rfl (And.intro (by decide +kernel) rfl)) (by decide +kernel))) ?_
  refine xa_cons 77 ((And.intro (Or.inl rfl) (Or.inl (Exists.intro (3) (And.intro rfl (And.intro (by decide +kernel) rfl)))))) ?_
  refine xa_cons 78 ((Exists.intro (1) (And.intro (And.intro (by decide +kernel) rfl) (by decide +kernel)))) ?_
  refine xa_cons 79 ((Exists.intro (-66) (And.intro (by decide +kernel) (by decide +kernel)))) ?_
  refine xa_cons 80 ((Exists.intro (1) (And.intro (And.intro (by decide +kernel) rfl) (by decide +kernel)))) ?_
  refine xa_cons 81 ((Exists.intro (-142) (And.intro (by decide +kernel) (by decide +kernel)))) ?_
  refine xa_cons 82 ((And.intro (by decide) (Or.inl (Exists.intro (0) (And.intro rfl (And.intro (by decide +kernel) rfl)))))) ?_
  refine xa_cons 83 ((And.intro (by decide) (Or.inl (Exists.intro (2) (And.intro rfl (And.intro (by decide +kernel) rfl)))))) ?_
  refine xa_cons 84 ((And.intro (by decide) (Or.inl (Exists.intro (3) (And.intro rfl (And.intro (by decide +kernel) rfl)))))) ?_
  refine xa_cons 85 ((And.intro (xc_callV (index := 56) (n := 2) (ci := 7) S xg_122 rfl xw_41 xw_616 xw_614 xw_615 rfl rfl rfl ⟨by decide, by decide, by decide +kernel⟩ rfl (And.intro (by decide +kernel) rfl)) (by decide +kernel))) ?_
  refine xa_cons 86 ((Exists.intro (1) (And.intro (And.intro (by decide +kernel) rfl) (by decide +kernel)))) ?_
  refine xa_cons 87 ((Exists.intro (-170) (And.intro (by decide +kernel) (by decide +kernel)))) ?_
  refine xa_cons 88 ((And.intro (by decide) (Or.inl (Exists.intro (0) (And.intro rfl (And.intro (by decide +kernel) rfl)))))) ?_
  refine xa_cons 89 (xc_getf (A := A) (own := "ExpressHouse$Judge") (index := 32) hx hb htsB xC_7 hown rfl (by decide) xw_532 (And.intro (by decide +kernel) rfl)) ?_
  refine xa_cons 90 ((And.intro hr (by decide +kernel))) ?_
  exact xa_nil
def xrp_71 : Nat → Nat := fun k => ([0, 1, 4, 5, 6, 7, 8, 9, 10, 13, 16, 19, 21, 22, 23, 24, 27, 28, 31, 32, 35, 38, 40, 41, 42, 43, 46, 47, 50, 53, 56, 58, 59, 60, 62, 65, 68, 69, 72, 75, 76, 78, 79, 82, 83, 86] : List Nat).getD k 0
set_option maxRecDepth 20000 in
set_option maxHeartbeats 4000000 in
theorem xz_71 {l : Launch} {D : va_G} {en : XE} : x_Ok xT l D xcl en xrn (xG en) 71 xc_71 := by
  refine ⟨prog_5_method_16_code, (some .int), xBIG, xrp_71, by decide +kernel, rfl, rfl, ?_⟩
  intro p e R s m args below meth c s₁ A Q pc i f1 f2 B hml hA hg hi
  obtain ⟨hx, hb, hr, hown, hlocks, hin, htsB, S⟩ := xb_all (C := "ExpressHouse$Judge") B hml rfl rfl
  obtain ⟨hgN, hgZ, hgS, hgS2⟩ := xG_all hg
  refine xa_at (i := i) (pc := pc) ?_ hi
  refine xa_cons 0 ((And.intro (by decide) (Or.inl (Exists.intro (0) (And.intro rfl (And.intro (by decide +kernel) rfl)))))) ?_
  refine xa_cons 1 ((And.intro (xc_callV (index := 43) (n := 0) (ci := 7) S xg_48 rfl xw_41 xw_608 xw_333 xw_334 rfl rfl rfl ⟨by decide, by decide, by decide +kernel⟩ rfl (And.intro (by decide +kernel) rfl)) (by decide +kernel))) ?_
  refine xa_cons 2 (xc_iconst hx hb (z := 1) (b := 1) (And.intro (by decide +kernel) rfl) (by decide +kernel) ⟨rfl, rfl⟩) ?_
  refine xa_cons 3 ((And.intro (Or.inl rfl) (Or.inl (Exists.intro (2) (And.intro rfl (And.intro (by decide +kernel) rfl)))))) ?_
  refine xa_cons 4 (xc_iconst hx hb (z := 0) (b := 0) (And.intro (by decide +kernel) rfl) (by decide +kernel) ⟨rfl, rfl⟩) ?_
  refine xa_cons 5 ((And.intro (Or.inl rfl) (Or.inl (Exists.intro (3) (And.intro rfl (And.intro (by decide +kernel) rfl)))))) ?_
  refine xa_cons 6 ((And.intro (by decide) (Or.inl (Exists.intro (3) (And.intro rfl (And.intro (by decide +kernel) rfl)))))) ?_
  refine xa_cons 7 ((And.intro (by decide) (Or.inl (Exists.intro (0) (And.intro rfl (And.intro (by decide +kernel) rfl)))))) ?_
  refine xa_cons 8 (xc_getf (A := A) (own := "ExpressHouse$Judge") (index := 20) hx hb htsB xC_7 hown rfl (by decide) xw_285 (And.intro (by decide +kernel) rfl)) ?_
  refine xa_cons 9 (xc_getf (A := A) (own := "ExpressHouse$Judge") (index := 60) hx hb htsB xC_2 hown rfl (by decide) xw_620 (And.intro (by decide +kernel) rfl)) ?_
  refine xa_cons 10 (xc_getf (A := A) (own := "ExpressHouse$Judge") (index := 119) hx hb htsB xC_3 hown rfl (by decide) xw_621 (And.intro (by decide +kernel) rfl)) ?_
  refine xa_cons 11 (xc_bipush hx hb (z := 20) (b := 20) (And.intro (by decide +kernel) rfl) (by decide +kernel) ⟨rfl, rfl⟩) ?_
  refine xa_cons 12 ((And.intro (by decide) (Or.inl (Exists.intro (1) (And.intro rfl (And.intro (by decide +kernel) rfl)))))) ?_
  refine xa_cons 13 ((And.intro (by decide) (And.intro (by decide +kernel) rfl))) ?_
  refine xa_cons 14 ((And.intro (by decide) (And.intro (by decide +kernel) rfl))) ?_
  refine xa_cons 15 ((And.intro (by decide) (Exists.intro (51) (And.intro (by decide +kernel) (And.intro (by decide +kernel) rfl))))) ?_
  refine xa_cons 16 ((And.intro (by decide) (Or.inl (Exists.intro (0) (And.intro rfl (And.intro (by decide +kernel) rfl)))))) ?_
  refine xa_cons 17 (xc_getf (A := A) (own := "ExpressHouse$Judge") (index := 24) hx hb htsB xC_7 hown rfl (by decide) xw_286 (And.intro (by decide +kernel) rfl)) ?_
  refine xa_cons 18 ((And.intro (by decide) (Or.inl (Exists.intro (0) (And.intro rfl (And.intro (by decide +kernel) rfl)))))) ?_
  refine xa_cons 19 (xc_getf (A := A) (own := "ExpressHouse$Judge") (index := 20) hx hb htsB xC_7 hown rfl (by decide) xw_285 (And.intro (by decide +kernel) rfl)) ?_
  refine xa_cons 20 (xc_getf (A := A) (own := "ExpressHouse$Judge") (index := 60) hx hb htsB xC_2 hown rfl (by decide) xw_620 (And.intro (by decide +kernel) rfl)) ?_
  refine xa_cons 21 (xc_bipush hx hb (z := 20) (b := 20) (And.intro (by decide +kernel) rfl) (by decide +kernel) ⟨rfl, rfl⟩) ?_
  refine xa_cons 22 ((And.intro (by decide) (Or.inl (Exists.intro (1) (And.intro rfl (And.intro (by decide +kernel) rfl)))))) ?_
  refine xa_cons 23 ((And.intro (by decide) (And.intro (by decide +kernel) rfl))) ?_
  refine xa_cons 24 ((And.intro (by decide) (Or.inl (Exists.intro (3) (And.intro rfl (And.intro (by decide +kernel) rfl)))))) ?_
  refine xa_cons 25 ((And.intro (xc_callV (index := 122) (n := 2) (ci := 3) S xg_124 rfl xw_15 xw_624 xw_622 xw_623 rfl rfl rfl ⟨by decide, by decide, by decide +kernel⟩ rfl (And.intro (by decide +kernel) rfl)) (by decide +kernel))) ?_
  refine xa_cons 26 ((And.intro (by decide) (Or.inl (Exists.intro (0) (And.intro rfl (And.intro (by decide +kernel) rfl)))))) ?_
  refine xa_cons 27 (xc_getf (A := A) (own := "ExpressHouse$Judge") (index := 20) hx hb htsB xC_7 hown rfl (by decide) xw_285 (And.intro (by decide +kernel) rfl)) ?_
  refine xa_cons 28 (xc_getf (A := A) (own := "ExpressHouse$Judge") (index := 148) hx hb htsB xC_2 hown rfl (by decide) xw_639 (And.intro (by decide +kernel) rfl)) ?_
  refine xa_cons 29 ((And.intro (xc_callV (index := 128) (n := 2) (ci := 6) S xg_56 rfl xw_35 xw_626 xw_361 xw_362 rfl rfl rfl ⟨by decide, by decide, by decide +kernel⟩ rfl (And.intro (by decide +kernel) rfl)) (by decide +kernel))) ?_
  refine xa_cons 30 ((And.intro (Or.inr rfl) (Or.inr (And.intro (by decide +kernel) rfl)))) ?_
  refine xa_cons 31 ((And.intro (by decide) (Or.inl (Exists.intro (2) (And.intro rfl (And.intro (by decide +kernel) rfl)))))) ?_
  refine xa_cons 32 ((And.intro (by decide) (Or.inl (Exists.intro (0) (And.intro rfl (And.intro (by decide +kernel) rfl)))))) ?_
  refine xa_cons 33 ((And.intro (by decide) (Or.inr (And.intro (by decide +kernel) rfl)))) ?_
  refine xa_cons 34 ((And.intro (xc_callV (index := 134) (n := 1) (ci := 7) S xg_125 rfl xw_41 xw_629 xw_627 xw_628 rfl rfl rfl ⟨by decide, by decide, by decide +kernel⟩ rfl (And.intro (by decide +kernel) rfl)) (by decide +kernel))) ?_
  refine xa_cons 35 ((And.intro (xc_callS (index := 35) S xg_126 rfl xw_41 xw_630 xw_631 ⟨by decide, by decide, by decide +kernel⟩ rfl (And.intro (by decide +kernel) rfl)) (by decide +kernel))) ?_
  refine xa_cons 36 ((And.intro (Or.inl rfl) (Or.inl (Exists.intro (2) (And.intro rfl (And.intro (by decide +kernel) rfl)))))) ?_
  refine xa_cons 37 ((Exists.intro (1) (And.intro (And.intro (by decide +kernel) rfl) (by decide +kernel)))) ?_
  refine xa_cons 38 ((Exists.intro (-64) (And.intro (by decide +kernel) (by decide +kernel)))) ?_
  refine xa_cons 39 ((And.intro (by decide) (Or.inl (Exists.intro (0) (And.intro rfl (And.intro (by decide +kernel) rfl)))))) ?_
  refine xa_cons 40 (xc_bipush hx hb (z := -3) (b := 4294967293) (And.intro (by decide +kernel) rfl) (by decide +kernel) ⟨rfl, rfl⟩) ?_
  refine xa_cons 41 ((And.intro (by decide) (Or.inl (Exists.intro (2) (And.intro rfl (And.intro (by decide +kernel) rfl)))))) ?_
  refine xa_cons 42 ((And.intro (xc_callV (index := 56) (n := 2) (ci := 7) S xg_122 rfl xw_41 xw_616 xw_614 xw_615 rfl rfl rfl ⟨by decide, by decide, by decide +kernel⟩ rfl (And.intro (by decide +kernel) rfl)) (by decide +kernel))) ?_
  refine xa_cons 43 ((And.intro (by decide) (Or.inl (Exists.intro (0) (And.intro rfl (And.intro (by decide +kernel) rfl)))))) ?_
  refine xa_cons 44 (xc_getf (A := A) (own := "ExpressHouse$Judge") (index := 32) hx hb htsB xC_7 hown rfl (by decide) xw_532 (And.intro (by decide +kernel) rfl)) ?_
  refine xa_cons 45 ((And.intro hr (by decide +kernel))) ?_
  exact xa_nil
def xrp_72 : Nat → Nat := fun k => ([0, 1, 2, 5] : List Nat).getD k 0
set_option maxRecDepth 20000 in
set_option maxHeartbeats 4000000 in
theorem xz_72 {l : Launch} {D : va_G} {en : XE} : x_Ok xT l D xcl en xrn (xG en) 72 xc_72 := by
  refine ⟨prog_4_method_2_code, none, xBIG, xrp_72, by decide +kernel, rfl, rfl, ?_⟩
  intro p e R s m args below meth c s₁ A Q pc i f1 f2 B hml hA hg hi
  obtain ⟨hx, hb, hr, hown, hlocks, hin, htsB, S⟩ := xb_all (C := "ExpressHouse$FileWriter") B hml rfl rfl
  obtain ⟨hgN, hgZ, hgS, hgS2⟩ := xG_all hg
  refine xa_at (i := i) (pc := pc) ?_ hi
  refine xa_cons 0 ((And.intro (by decide) (Or.inl (Exists.intro (0) (And.intro rfl (And.intro (by decide +kernel) rfl)))))) ?_
  refine xa_cons 1 (xc_iconst hx hb (z := 0) (b := 0) (And.intro (by decide +kernel) rfl) (by decide +kernel) ⟨rfl, rfl⟩) ?_
  refine xa_cons 2 (xc_putf (own := "ExpressHouse$FileWriter") (index := 22) hx hb htsB xC_9 hown rfl (by decide) xw_640 rfl (rfl) (And.intro (by decide +kernel) rfl)) ?_
  refine xa_cons 3 ((And.intro hr (by decide +kernel))) ?_
  exact xa_nil
def xrp_73 : Nat → Nat := fun k => ([0, 1, 4, 5, 6, 9, 10, 13, 14, 17, 18, 19, 22, 23] : List Nat).getD k 0
set_option maxRecDepth 20000 in
set_option maxHeartbeats 4000000 in
theorem xz_73 {l : Launch} {D : va_G} {en : XE} : x_Ok xT l D xcl en xrn (xG en) 73 xc_73 := by
  refine ⟨prog_8_method_5_code, (some .int), xBIG, xrp_73, by decide +kernel, rfl, rfl, ?_⟩
  intro p e R s m args below meth c s₁ A Q pc i f1 f2 B hml hA hg hi
  obtain ⟨hx, hb, hr, hown, hlocks, hin, htsB, S⟩ := xb_all (C := "ExpressHouse$Population") B hml rfl rfl
  obtain ⟨hgN, hgZ, hgS, hgS2⟩ := xG_all hg
  refine xa_at (i := i) (pc := pc) ?_ hi
  refine xa_cons 0 ((And.intro (by decide) (Or.inl (Exists.intro (1) (And.intro rfl (And.intro (by decide +kernel) rfl)))))) ?_
  refine xa_cons 1 ((And.intro (by decide) (Exists.intro (21) (And.intro (by decide +kernel) (And.intro (by decide +kernel) rfl))))) ?_
  refine xa_cons 2 ((And.intro (by decide) (Or.inl (Exists.intro (1) (And.intro rfl (And.intro (by decide +kernel) rfl)))))) ?_
  refine xa_cons 3 ((And.intro (by decide) (Or.inl (Exists.intro (0) (And.intro rfl (And.intro (by decide +kernel) rfl)))))) ?_
  refine xa_cons 4 (xc_getf (A := A) (own := "ExpressHouse$Population") (index := 18) hx hb htsB xC_2 hown rfl (by decide) xw_240 (And.intro (by decide +kernel) rfl)) ?_
  refine xa_cons 5 ((And.intro (by decide +kernel) rfl)) ?_
  refine xa_cons 6 ((And.intro (by decide) (Exists.intro (12) (And.intro (by decide +kernel) (And.intro (by decide +kernel) rfl))))) ?_
  refine xa_cons 7 ((And.intro (by decide) (Or.inl (Exists.intro (0) (And.intro rfl (And.intro (by decide +kernel) rfl)))))) ?_
  refine xa_cons 8 (xc_getf (A := A) (own := "ExpressHouse$Population") (index := 18) hx hb htsB xC_2 hown rfl (by decide) xw_240 (And.intro (by decide +kernel) rfl)) ?_
  refine xa_cons 9 ((And.intro (by decide) (Or.inl (Exists.intro (1) (And.intro rfl (And.intro (by decide +kernel) rfl)))))) ?_
  refine xa_cons 10 ((And.intro (by decide) (And.intro (by decide +kernel) rfl))) ?_
  refine xa_cons 11 ((Exists.intro (4) (And.intro (by decide +kernel) (by decide +kernel)))) ?_
  refine xa_cons 12 (xc_iconst hx hb (z := 0) (b := 0) (And.intro (by decide +kernel) rfl) (by decide +kernel) ⟨rfl, rfl⟩) ?_
  refine xa_cons 13 ((And.intro hr (by decide +kernel))) ?_
  exact xa_nil
def xrp_74 : Nat → Nat := fun k => ([0, 1, 3, 6, 7, 8, 9, 12, 13, 15, 18, 20, 21, 22, 24, 26, 27, 30, 33, 36, 37, 38, 41, 42, 45, 48, 51, 53, 54, 55, 56, 57, 59, 60, 61, 62, 65, 67, 68, 71, 74, 75, 78, 79, 80, 81, 82, 85, 88, 89, 91, 94, 95, 97, 99, 100, 103, 106, 109, 110, 111, 114, 115, 117, 118, 119, 120, 121, 124, 125, 126, 128, 129, 131, 132, 135, 138, 141, 142, 144, 147, 148, 150, 153] : List Nat).getD k 0
set_option maxRecDepth 20000 in
set_option maxHeartbeats 4000000 in
theorem xz_74 {l : Launch} {D : va_G} {en : XE} : x_Ok xT l D xcl en xrn (xG en) 74 xc_74 := by
  refine ⟨prog_4_method_5_code, none, xBIG, xrp_74, by decide +kernel, rfl, rfl, ?_⟩
  intro p e R s m args below meth c s₁ A Q pc i f1 f2 B hml hA hg hi
  obtain ⟨hx, hb, hr, hown, hlocks, hin, htsB, S⟩ := xb_all (C := "ExpressHouse$FileWriter") B hml rfl rfl
  obtain ⟨hgN, hgZ, hgS, hgS2⟩ := xG_all hg
  refine xa_at (i := i) (pc := pc) ?_ hi
  refine xa_cons 0 ((And.intro (by decide) (Or.inl (Exists.intro (0) (And.intro rfl (And.intro (by decide +kernel) rfl)))))) ?_
  refine xa_cons 1 (xc_bipush hx hb (z := 35) (b := 35) (And.intro (by decide +kernel) rfl) (by decide +kernel) ⟨rfl, rfl⟩) ?_
  refine xa_cons 2 ((And.intro (xc_callV (index := 29) (n := 1) (ci := 9) S xg_128 rfl xw_53 xw_643 xw_641 xw_642 rfl rfl rfl ⟨by decide, by decide, by decide +kernel⟩ rfl (And.intro (by decide +kernel) rfl)) (by decide +kernel))) ?_
  refine xa_cons 3 ((And.intro (by decide) (Or.inl (Exists.intro (0) (And.intro rfl (And.intro (by decide +kernel) rfl)))))) ?_
  refine xa_cons 4 ((And.intro (by decide) (Or.inl (Exists.intro (1) (And.intro rfl (And.intro (by decide +kernel) rfl)))))) ?_
  refine xa_cons 5 ((And.intro (by decide +kernel) rfl)) ?_
  refine xa_cons 6 ((And.intro (xc_callV (index := 33) (n := 1) (ci := 9) S xg_129 rfl xw_53 xw_646 xw_644 xw_645 rfl rfl rfl ⟨by decide, by decide, by decide +kernel⟩ rfl (And.intro (by decide +kernel) rfl)) (by decide +kernel))) ?_
  refine xa_cons 7 ((And.intro (by decide) (Or.inl (Exists.intro (0) (And.intro rfl (And.intro (by decide +kernel) rfl)))))) ?_
  refine xa_cons 8 (xc_bipush hx hb (z := 61) (b := 61) (And.intro (by decide +kernel) rfl) (by decide +kernel) ⟨rfl, rfl⟩) ?_
  refine xa_cons 9 ((And.intro (xc_callV (index := 29) (n := 1) (ci := 9) S xg_128 rfl xw_53 xw_643 xw_641 xw_642 rfl rfl rfl ⟨by decide, by decide, by decide +kernel⟩ rfl (And.intro (by decide +kernel) rfl)) (by decide +kernel))) ?_
  refine xa_cons 10 (xc_bipush hx hb (z := -3) (b := 4294967293) (And.intro (by decide +kernel) rfl) (by decide +kernel) ⟨rfl, rfl⟩) ?_
  refine xa_cons 11 ((And.intro (Or.inl rfl) (Or.inl (Exists.intro (3) (And.intro rfl (And.intro (by decide +kernel) rfl)))))) ?_
  refine xa_cons 12 (xc_iconst hx hb (z := 0) (b := 0) (And.intro (by decide +kernel) rfl) (by decide +kernel) ⟨rfl, rfl⟩) ?_
  refine xa_cons 13 ((And.intro (Or.inl rfl) (Or.inr (And.intro (by decide +kernel) rfl)))) ?_
  refine xa_cons 14 ((And.intro (by decide) (Or.inr (And.intro (by decide +kernel) rfl)))) ?_
  refine xa_cons 15 ((And.intro (by decide) (Or.inl (Exists.intro (0) (And.intro rfl (And.intro (by decide +kernel) rfl)))))) ?_
  refine xa_cons 16 (xc_getf (A := A) (own := "ExpressHouse$FileWriter") (index := 18) hx hb htsB xC_9 hown rfl (by decide) xw_299 (And.intro (by decide +kernel) rfl)) ?_
  refine xa_cons 17 (xc_getf (A := A) (own := "ExpressHouse$FileWriter") (index := 37) hx hb htsB xC_2 hown rfl (by decide) xw_647 (And.intro (by decide +kernel) rfl)) ?_
  refine xa_cons 18 (xc_getf (A := A) (own := "ExpressHouse$FileWriter") (index := 43) hx hb htsB xC_3 hown rfl (by decide) xw_648 (And.intro (by decide +kernel) rfl)) ?_
  refine xa_cons 19 (xc_iconst hx hb (z := 2) (b := 2) (And.intro (by decide +kernel) rfl) (by decide +kernel) ⟨rfl, rfl⟩) ?_
  refine xa_cons 20 ((And.intro (by decide) (And.intro (by decide +kernel) rfl))) ?_
  refine xa_cons 21 ((And.intro (by decide) (Exists.intro (36) (And.intro (by decide +kernel) (And.intro (by decide +kernel) rfl))))) ?_
  refine xa_cons 22 ((And.intro (by decide) (Or.inl (Exists.intro (0) (And.intro rfl (And.intro (by decide +kernel) rfl)))))) ?_
  refine xa_cons 23 (xc_getf (A := A) (own := "ExpressHouse$FileWriter") (index := 18) hx hb htsB xC_9 hown rfl (by decide) xw_299 (And.intro (by decide +kernel) rfl)) ?_
  refine xa_cons 24 (xc_getf (A := A) (own := "ExpressHouse$FileWriter") (index := 37) hx hb htsB xC_2 hown rfl (by decide) xw_647 (And.intro (by decide +kernel) rfl)) ?_
  refine xa_cons 25 (xc_getf (A := A) (own := "ExpressHouse$FileWriter") (index := 49) hx hb htsB xC_3 hown rfl (by decide) xw_649 (And.intro (by decide +kernel) rfl)) ?_
  refine xa_cons 26 ((And.intro (by decide) (Or.inr (And.intro (by decide +kernel) rfl)))) ?_
  refine xa_cons 27 ((And.intro (by decide) (And.intro (by decide +kernel) rfl))) ?_
  refine xa_cons 28 (xc_iconst hx hb (z := 2) (b := 2) (And.intro (by decide +kernel) rfl) (by decide +kernel) ⟨rfl, rfl⟩) ?_
  refine xa_cons 29 ((And.intro (by decide) (And.intro (by decide +kernel) rfl))) ?_
  refine xa_cons 30 (xc_iconst hx hb (z := 1) (b := 1) (And.intro (by decide +kernel) rfl) (by decide +kernel) ⟨rfl, rfl⟩) ?_
  refine xa_cons 31 ((And.intro (by decide) (Or.inr (And.intro (by decide +kernel) rfl)))) ?_
  refine xa_cons 32 ((And.intro (by decide) (And.intro (by decide +kernel) rfl))) ?_
  refine xa_cons 33 ((And.intro (by decide) (And.intro (by decide +kernel) rfl))) ?_
  refine xa_cons 34 ((And.intro (by decide) (Or.inl (Exists.intro (2) (And.intro rfl (And.intro (by decide +kernel) rfl)))))) ?_
  refine xa_cons 35 ((And.intro (by decide) (Exists.intro (6) (And.intro (by decide +kernel) (And.intro (by decide +kernel) rfl))))) ?_
  refine xa_cons 36 ((And.intro (by decide) (Or.inr (And.intro (by decide +kernel) rfl)))) ?_
  refine xa_cons 37 ((And.intro (Or.inl rfl) (Or.inl (Exists.intro (3) (And.intro rfl (And.intro (by decide +kernel) rfl)))))) ?_
  refine xa_cons 38 ((Exists.intro (1) (And.intro (And.intro (by decide +kernel) rfl) (by decide +kernel)))) ?_
  refine xa_cons 39 ((Exists.intro (-47) (And.intro (by decide +kernel) (by decide +kernel)))) ?_
  refine xa_cons 40 ((And.intro (by decide) (Or.inl (Exists.intro (3) (And.intro rfl (And.intro (by decide +kernel) rfl)))))) ?_
  refine xa_cons 41 ((And.intro (by decide) (Exists.intro (13) (And.intro (by decide +kernel) (And.intro (by decide +kernel) rfl))))) ?_
  refine xa_cons 42 ((And.intro (by decide) (Or.inl (Exists.intro (0) (And.intro rfl (And.intro (by decide +kernel) rfl)))))) ?_
  refine xa_cons 43 ((And.intro (by decide) (Or.inl (Exists.intro (1) (And.intro rfl (And.intro (by decide +kernel) rfl)))))) ?_
  refine xa_cons 44 ((And.intro (by decide) (Or.inl (Exists.intro (3) (And.intro rfl (And.intro (by decide +kernel) rfl)))))) ?_
  refine xa_cons 45 ((And.intro (by decide) (Or.inl (Exists.intro (2) (And.intro rfl (And.intro (by decide +kernel) rfl)))))) ?_
  refine xa_cons 46 ((And.intro (xc_callV (index := 53) (n := 3) (ci := 9) S xg_130 rfl xw_53 xw_652 xw_650 xw_651 rfl rfl rfl ⟨by decide, by decide, by decide +kernel⟩ rfl (And.intro (by decide +kernel) rfl)) (by decide +kernel))) ?_
  refine xa_cons 47 ((Exists.intro (62) (And.intro (by decide +kernel) (by decide +kernel)))) ?_
  refine xa_cons 48 ((And.intro (by decide) (Or.inl (Exists.intro (0) (And.intro rfl (And.intro (by decide +kernel) rfl)))))) ?_
  refine xa_cons 49 (xc_bipush hx hb (z := 40) (b := 40) (And.intro (by decide +kernel) rfl) (by decide +kernel) ⟨rfl, rfl⟩) ?_
  refine xa_cons 50 ((And.intro (xc_callV (index := 29) (n := 1) (ci := 9) S xg_128 rfl xw_53 xw_643 xw_641 xw_642 rfl rfl rfl ⟨by decide, by decide, by decide +kernel⟩ rfl (And.intro (by decide +kernel) rfl)) (by decide +kernel))) ?_
  refine xa_cons 51 (xc_iconst hx hb (z := 0) (b := 0) (And.intro (by decide +kernel) rfl) (by decide +kernel) ⟨rfl, rfl⟩) ?_
  refine xa_cons 52 ((And.intro (Or.inl rfl) (Or.inr (And.intro (by decide +kernel) rfl)))) ?_
  refine xa_cons 53 ((And.intro (by decide) (Or.inr (And.intro (by decide +kernel) rfl)))) ?_
  refine xa_cons 54 ((And.intro (by decide) (Or.inl (Exists.intro (0) (And.intro rfl (And.intro (by decide +kernel) rfl)))))) ?_
  refine xa_cons 55 (xc_getf (A := A) (own := "ExpressHouse$FileWriter") (index := 18) hx hb htsB xC_9 hown rfl (by decide) xw_299 (And.intro (by decide +kernel) rfl)) ?_
  refine xa_cons 56 (xc_getf (A := A) (own := "ExpressHouse$FileWriter") (index := 37) hx hb htsB xC_2 hown rfl (by decide) xw_647 (And.intro (by decide +kernel) rfl)) ?_
  refine xa_cons 57 (xc_getf (A := A) (own := "ExpressHouse$FileWriter") (index := 43) hx hb htsB xC_3 hown rfl (by decide) xw_648 (And.intro (by decide +kernel) rfl)) ?_
  refine xa_cons 58 (xc_iconst hx hb (z := 2) (b := 2) (And.intro (by decide +kernel) rfl) (by decide +kernel) ⟨rfl, rfl⟩) ?_
  refine xa_cons 59 ((And.intro (by decide) (And.intro (by decide +kernel) rfl))) ?_
  refine xa_cons 60 ((And.intro (by decide) (Exists.intro (30) (And.intro (by decide +kernel) (And.intro (by decide +kernel) rfl))))) ?_
  refine xa_cons 61 ((And.intro (by decide) (Or.inl (Exists.intro (2) (And.intro rfl (And.intro (by decide +kernel) rfl)))))) ?_
  refine xa_cons 62 ((And.intro (by decide) (Or.inr (And.intro (by decide +kernel) rfl)))) ?_
  refine xa_cons 63 ((And.intro (by decide) (And.intro (by decide +kernel) rfl))) ?_
  refine xa_cons 64 (xc_iconst hx hb (z := 1) (b := 1) (And.intro (by decide +kernel) rfl) (by decide +kernel) ⟨rfl, rfl⟩) ?_
  refine xa_cons 65 ((And.intro (by decide) (And.intro (by decide +kernel) rfl))) ?_
  refine xa_cons 66 (xc_iconst hx hb (z := 1) (b := 1) (And.intro (by decide +kernel) rfl) (by decide +kernel) ⟨rfl, rfl⟩) ?_
  refine xa_cons 67 ((And.intro (by decide) (Exists.intro (14) (And.intro (by decide +kernel) (And.intro (by decide +kernel) rfl))))) ?_
  refine xa_cons 68 ((And.intro (by decide) (Or.inl (Exists.intro (0) (And.intro rfl (And.intro (by decide +kernel) rfl)))))) ?_
  refine xa_cons 69 ((And.intro (by decide) (Or.inl (Exists.intro (1) (And.intro rfl (And.intro (by decide +kernel) rfl)))))) ?_
  refine xa_cons 70 ((And.intro (by decide) (Or.inr (And.intro (by decide +kernel) rfl)))) ?_
  refine xa_cons 71 (xc_iconst hx hb (z := 1) (b := 1) (And.intro (by decide +kernel) rfl) (by decide +kernel) ⟨rfl, rfl⟩) ?_
  refine xa_cons 72 ((And.intro (by decide) (Or.inr (And.intro (by decide +kernel) rfl)))) ?_
  refine xa_cons 73 ((And.intro (by decide) (And.intro (by decide +kernel) rfl))) ?_
  refine xa_cons 74 ((And.intro (xc_callV (index := 53) (n := 3) (ci := 9) S xg_130 rfl xw_53 xw_652 xw_650 xw_651 rfl rfl rfl ⟨by decide, by decide, by decide +kernel⟩ rfl (And.intro (by decide +kernel) rfl)) (by decide +kernel))) ?_
  refine xa_cons 75 ((Exists.intro (1) (And.intro (And.intro (by decide +kernel) rfl) (by decide +kernel)))) ?_
  refine xa_cons 76 ((Exists.intro (-41) (And.intro (by decide +kernel) (by decide +kernel)))) ?_
  refine xa_cons 77 ((And.intro (by decide) (Or.inl (Exists.intro (0) (And.intro rfl (And.intro (by decide +kernel) rfl)))))) ?_
  refine xa_cons 78 (xc_bipush hx hb (z := 41) (b := 41) (And.intro (by decide +kernel) rfl) (by decide +kernel) ⟨rfl, rfl⟩) ?_
  refine xa_cons 79 ((And.intro (xc_callV (index := 29) (n := 1) (ci := 9) S xg_128 rfl xw_53 xw_643 xw_641 xw_642 rfl rfl rfl ⟨by decide, by decide, by decide +kernel⟩ rfl (And.intro (by decide +kernel) rfl)) (by decide +kernel))) ?_
  refine xa_cons 80 ((And.intro (by decide) (Or.inl (Exists.intro (0) (And.intro rfl (And.intro (by decide +kernel) rfl)))))) ?_
  refine xa_cons 81 (xc_bipush hx hb (z := 59) (b := 59) (And.intro (by decide +kernel) rfl) (by decide +kernel) ⟨rfl, rfl⟩) ?_
  refine xa_cons 82 ((And.intro (xc_callV (index := 29) (n := 1) (ci := 9) S xg_128 rfl xw_53 xw_643 xw_641 xw_642 rfl rfl rfl ⟨by decide, by decide, by decide +kernel⟩ rfl (And.intro (by decide +kernel) rfl)) (by decide +kernel))) ?_
  refine xa_cons 83 ((And.intro hr (by decide +kernel))) ?_
  exact xa_nil
def xrp_75 : Nat → Nat := fun k => ([0, 1, 4, 7, 10, 12, 13, 14, 17, 18, 19, 20, 23, 26, 27, 28, 31, 32, 33, 36, 39, 40, 43] : List Nat).getD k 0
set_option maxRecDepth 20000 in
set_option maxHeartbeats 4000000 in
theorem xz_75 {l : Launch} {D : va_G} {en : XE} : x_Ok xT l D xcl en xrn (xG en) 75 xc_75 := by
  refine ⟨prog_4_method_3_code, (some .int), xBIG, xrp_75, by decide +kernel, rfl, rfl, ?_⟩
  intro p e R s m args below meth c s₁ A Q pc i f1 f2 B hml hA hg hi
  obtain ⟨hx, hb, hr, hown, hlocks, hin, htsB, S⟩ := xb_all (C := "ExpressHouse$FileWriter") B hml rfl rfl
  obtain ⟨hgN, hgZ, hgS, hgS2⟩ := xG_all hg
  refine xa_at (i := i) (pc := pc) ?_ hi
  refine xa_cons 0 ((And.intro (by decide) (Or.inl (Exists.intro (0) (And.intro rfl (And.intro (by decide +kernel) rfl)))))) ?_
  refine xa_cons 1 (xc_getf (A := A) (own := "ExpressHouse$FileWriter") (index := 22) hx hb htsB xC_9 hown rfl (by decide) xw_640 (And.intro (by decide +kernel) rfl)) ?_
  refine xa_cons 2 (xc_sipush hx hb (z := 6000) (b := 6000) (And.intro (by decide +kernel) rfl) (by decide +kernel) ⟨rfl, rfl⟩) ?_
  refine xa_cons 3 ((And.intro (by decide) (Exists.intro (6) (And.intro (by decide +kernel) (And.intro (by decide +kernel) rfl))))) ?_
  refine xa_cons 4 (xc_bipush hx hb (z := -2) (b := 4294967294) (And.intro (by decide +kernel) rfl) (by decide +kernel) ⟨rfl, rfl⟩) ?_
  refine xa_cons 5 ((And.intro hr (by decide +kernel))) ?_
  refine xa_cons 6 ((And.intro (by decide) (Or.inl (Exists.intro (0) (And.intro rfl (And.intro (by decide +kernel) rfl)))))) ?_
  refine xa_cons 7 (xc_getf (A := A) (own := "ExpressHouse$FileWriter") (index := 11) hx hb htsB xC_9 hown rfl (by decide) xw_297 (And.intro (by decide +kernel) rfl)) ?_
  refine xa_cons 8 ((And.intro (Or.inr rfl) (Or.inl (Exists.intro (1) (And.intro rfl (And.intro (by decide +kernel) rfl)))))) ?_
  refine xa_cons 9 ((And.intro (by decide) (Or.inl (Exists.intro (0) (And.intro rfl (And.intro (by decide +kernel) rfl)))))) ?_
  refine xa_cons 10 ((And.intro (by decide) (Or.inl (Exists.intro (0) (And.intro rfl (And.intro (by decide +kernel) rfl)))))) ?_
  refine xa_cons 11 (xc_getf (A := A) (own := "ExpressHouse$FileWriter") (index := 15) hx hb htsB xC_9 hown rfl (by decide) xw_298 (And.intro (by decide +kernel) rfl)) ?_
  refine xa_cons 12 (xc_putf (own := "ExpressHouse$FileWriter") (index := 11) hx hb htsB xC_9 hown rfl (by decide) xw_297 rfl (Or.inr ⟨_, rfl⟩) (And.intro (by decide +kernel) rfl)) ?_
  refine xa_cons 13 ((And.intro (by decide) (Or.inl (Exists.intro (0) (And.intro rfl (And.intro (by decide +kernel) rfl)))))) ?_
  refine xa_cons 14 ((And.intro (by decide) (Or.inl (Exists.intro (1) (And.intro rfl (And.intro (by decide +kernel) rfl)))))) ?_
  refine xa_cons 15 (xc_putf (own := "ExpressHouse$FileWriter") (index := 15) hx hb htsB xC_9 hown rfl (by decide) xw_298 rfl (Or.inr ⟨_, rfl⟩) (And.intro (by decide +kernel) rfl)) ?_
  refine xa_cons 16 ((And.intro (by decide) (Or.inl (Exists.intro (0) (And.intro rfl (And.intro (by decide +kernel) rfl)))))) ?_
  refine xa_cons 17 ((And.intro (by decide) (Or.inl (Exists.intro (0) (And.intro rfl (And.intro (by decide +kernel) rfl)))))) ?_
  refine xa_cons 18 (xc_getf (A := A) (own := "ExpressHouse$FileWriter") (index := 22) hx hb htsB xC_9 hown rfl (by decide) xw_640 (And.intro (by decide +kernel) rfl)) ?_
  refine xa_cons 19 (xc_putf (own := "ExpressHouse$FileWriter") (index := 26) hx hb htsB xC_9 hown rfl (by decide) xw_653 rfl (rfl) (And.intro (by decide +kernel) rfl)) ?_
  refine xa_cons 20 ((And.intro (by decide) (Or.inl (Exists.intro (0) (And.intro rfl (And.intro (by decide +kernel) rfl)))))) ?_
  refine xa_cons 21 (xc_getf (A := A) (own := "ExpressHouse$FileWriter") (index := 26) hx hb htsB xC_9 hown rfl (by decide) xw_653 (And.intro (by decide +kernel) rfl)) ?_
  refine xa_cons 22 ((And.intro hr (by decide +kernel))) ?_
  exact xa_nil
def xrp_76 : Nat → Nat := fun k => ([0, 1, 2, 3, 4, 5, 6, 9, 12, 13, 14, 15, 18, 21, 22, 25, 26, 27, 28, 31, 34, 35] : List Nat).getD k 0
set_option maxRecDepth 20000 in
set_option maxHeartbeats 4000000 in
theorem xz_76 {l : Launch} {D : va_G} {en : XE} : x_Ok xT l D xcl en xrn (xG en) 76 xc_76 := by
  refine ⟨prog_8_method_4_code, (some .int), xBIG, xrp_76, by decide +kernel, rfl, rfl, ?_⟩
  intro p e R s m args below meth c s₁ A Q pc i f1 f2 B hml hA hg hi
  obtain ⟨hx, hb, hr, hown, hlocks, hin, htsB, S⟩ := xb_all (C := "ExpressHouse$Population") B hml rfl rfl
  obtain ⟨hgN, hgZ, hgS, hgS2⟩ := xG_all hg
  refine xa_at (i := i) (pc := pc) ?_ hi
  refine xa_cons 0 (xc_iconst hx hb (z := 0) (b := 0) (And.intro (by decide +kernel) rfl) (by decide +kernel) ⟨rfl, rfl⟩) ?_
  refine xa_cons 1 ((And.intro (Or.inl rfl) (Or.inl (Exists.intro (1) (And.intro rfl (And.intro (by decide +kernel) rfl)))))) ?_
  refine xa_cons 2 (xc_iconst hx hb (z := 0) (b := 0) (And.intro (by decide +kernel) rfl) (by decide +kernel) ⟨rfl, rfl⟩) ?_
  refine xa_cons 3 ((And.intro (Or.inl rfl) (Or.inl (Exists.intro (2) (And.intro rfl (And.intro (by decide +kernel) rfl)))))) ?_
  refine xa_cons 4 ((And.intro (by decide) (Or.inl (Exists.intro (2) (And.intro rfl (And.intro (by decide +kernel) rfl)))))) ?_
  refine xa_cons 5 ((And.intro (by decide) (Or.inl (Exists.intro (0) (And.intro rfl (And.intro (by decide +kernel) rfl)))))) ?_
  refine xa_cons 6 (xc_getf (A := A) (own := "ExpressHouse$Population") (index := 46) hx hb htsB xC_2 hown rfl (by decide) xw_529 (And.intro (by decide +kernel) rfl)) ?_
  refine xa_cons 7 ((And.intro (by decide) (Exists.intro (25) (And.intro (by decide +kernel) (And.intro (by decide +kernel) rfl))))) ?_
  refine xa_cons 8 ((And.intro (by decide) (Or.inl (Exists.intro (1) (And.intro rfl (And.intro (by decide +kernel) rfl)))))) ?_
  refine xa_cons 9 ((And.intro (by decide) (Or.inl (Exists.intro (0) (And.intro rfl (And.intro (by decide +kernel) rfl)))))) ?_
  refine xa_cons 10 ((And.intro (by decide) (Or.inl (Exists.intro (2) (And.intro rfl (And.intro (by decide +kernel) rfl)))))) ?_
  refine xa_cons 11 ((And.intro (xc_callV (index := 53) (n := 1) (ci := 2) S xg_60 rfl xw_12 xw_654 xw_375 xw_376 rfl rfl rfl ⟨by decide, by decide, by decide +kernel⟩ rfl (And.intro (by decide +kernel) rfl)) (by decide +kernel))) ?_
  refine xa_cons 12 ((And.intro (by decide) (Exists.intro (7) (And.intro (by decide +kernel) (And.intro (by decide +kernel) rfl))))) ?_
  refine xa_cons 13 (xc_iconst hx hb (z := 1) (b := 1) (And.intro (by decide +kernel) rfl) (by decide +kernel) ⟨rfl, rfl⟩) ?_
  refine xa_cons 14 ((Exists.intro (4) (And.intro (by decide +kernel) (by decide +kernel)))) ?_
  refine xa_cons 15 (xc_iconst hx hb (z := 0) (b := 0) (And.intro (by decide +kernel) rfl) (by decide +kernel) ⟨rfl, rfl⟩) ?_
  refine xa_cons 16 ((And.intro (by decide) (And.intro (by decide +kernel) rfl))) ?_
  refine xa_cons 17 ((And.intro (Or.inl rfl) (Or.inl (Exists.intro (1) (And.intro rfl (And.intro (by decide +kernel) rfl)))))) ?_
  refine xa_cons 18 ((Exists.intro (1) (And.intro (And.intro (by decide +kernel) rfl) (by decide +kernel)))) ?_
  refine xa_cons 19 ((Exists.intro (-27) (And.intro (by decide +kernel) (by decide +kernel)))) ?_
  refine xa_cons 20 ((And.intro (by decide) (Or.inl (Exists.intro (1) (And.intro rfl (And.intro (by decide +kernel) rfl)))))) ?_
  refine xa_cons 21 ((And.intro hr (by decide +kernel))) ?_
  exact xa_nil
def xrp_77 : Nat → Nat := fun k => ([0, 1, 4, 5, 6, 7, 10, 11] : List Nat).getD k 0
set_option maxRecDepth 20000 in
set_option maxHeartbeats 4000000 in
theorem xz_77 {l : Launch} {D : va_G} {en : XE} : x_Ok xT l D xcl en xrn (xG en) 77 xc_77 := by
  refine ⟨prog_8_method_32_code, (some .boolean), xBIG, xrp_77, by decide +kernel, rfl, rfl, ?_⟩
  intro p e R s m args below meth c s₁ A Q pc i f1 f2 B hml hA hg hi
  obtain ⟨hx, hb, hr, hown, hlocks, hin, htsB, S⟩ := xb_all (C := "ExpressHouse$Population") B hml rfl rfl
  obtain ⟨hgN, hgZ, hgS, hgS2⟩ := xG_all hg
  refine xa_at (i := i) (pc := pc) ?_ hi
  refine xa_cons 0 ((And.intro (by decide) (Or.inl (Exists.intro (0) (And.intro rfl (And.intro (by decide +kernel) rfl)))))) ?_
  refine xa_cons 1 (xc_getf (A := A) (own := "ExpressHouse$Population") (index := 50) hx hb htsB xC_2 hown rfl (by decide) xw_530 (And.intro (by decide +kernel) rfl)) ?_
  refine xa_cons 2 ((And.intro (Or.inl rfl) (Or.inl (Exists.intro (1) (And.intro rfl (And.intro (by decide +kernel) rfl)))))) ?_
  refine xa_cons 3 ((And.intro (by decide) (Or.inl (Exists.intro (0) (And.intro rfl (And.intro (by decide +kernel) rfl)))))) ?_
  refine xa_cons 4 (xc_iconst hx hb (z := 0) (b := 0) (And.intro (by decide +kernel) rfl) (by decide +kernel) ⟨rfl, rfl⟩) ?_
  refine xa_cons 5 (xc_putf (own := "ExpressHouse$Population") (index := 50) hx hb htsB xC_2 hown rfl (by decide) xw_530 rfl (rfl) (And.intro (by decide +kernel) rfl)) ?_
  refine xa_cons 6 ((And.intro (by decide) (Or.inl (Exists.intro (1) (And.intro rfl (And.intro (by decide +kernel) rfl)))))) ?_
  refine xa_cons 7 ((And.intro hr (by decide +kernel))) ?_
  exact xa_nil
def xrp_78 : Nat → Nat := fun k => ([0, 1, 4, 7, 8, 9, 10, 11, 14, 15, 16, 19, 22, 23, 26, 27, 28, 31, 32, 34, 37, 38, 41, 42, 43, 46, 47, 48, 51, 52, 55, 56, 57, 60, 61] : List Nat).getD k 0
set_option maxRecDepth 20000 in
set_option maxHeartbeats 4000000 in
theorem xz_78 {l : Launch} {D : va_G} {en : XE} : x_Ok xT l D xcl en xrn (xG en) 78 xc_78 := by
  refine ⟨prog_8_method_33_code, (some .boolean), xBIG, xrp_78, by decide +kernel, rfl, rfl, ?_⟩
  intro p e R s m args below meth c s₁ A Q pc i f1 f2 B hml hA hg hi
  obtain ⟨hx, hb, hr, hown, hlocks, hin, htsB, S⟩ := xb_all (C := "ExpressHouse$Population") B hml rfl rfl
  obtain ⟨hgN, hgZ, hgS, hgS2⟩ := xG_all hg
  refine xa_at (i := i) (pc := pc) ?_ hi
  refine xa_cons 0 ((And.intro (by decide) (Or.inl (Exists.intro (0) (And.intro rfl (And.intro (by decide +kernel) rfl)))))) ?_
  refine xa_cons 1 (xc_getf (A := A) (own := "ExpressHouse$Population") (index := 50) hx hb htsB xC_2 hown rfl (by decide) xw_530 (And.intro (by decide +kernel) rfl)) ?_
  refine xa_cons 2 ((And.intro (by decide) (Exists.intro (5) (And.intro (by decide +kernel) (And.intro (by decide +kernel) rfl))))) ?_
  refine xa_cons 3 (xc_iconst hx hb (z := 0) (b := 0) (And.intro (by decide +kernel) rfl) (by decide +kernel) ⟨rfl, rfl⟩) ?_
  refine xa_cons 4 ((And.intro hr (by decide +kernel))) ?_
  refine xa_cons 5 ((And.intro (by decide) (Or.inl (Exists.intro (0) (And.intro rfl (And.intro (by decide +kernel) rfl)))))) ?_
  refine xa_cons 6 (xc_iconst hx hb (z := 0) (b := 0) (And.intro (by decide +kernel) rfl) (by decide +kernel) ⟨rfl, rfl⟩) ?_
  refine xa_cons 7 (xc_putf (own := "ExpressHouse$Population") (index := 50) hx hb htsB xC_2 hown rfl (by decide) xw_530 rfl (rfl) (And.intro (by decide +kernel) rfl)) ?_
  refine xa_cons 8 ((And.intro (by decide) (Or.inl (Exists.intro (0) (And.intro rfl (And.intro (by decide +kernel) rfl)))))) ?_
  refine xa_cons 9 ((And.intro (by decide) (Or.inl (Exists.intro (0) (And.intro rfl (And.intro (by decide +kernel) rfl)))))) ?_
  refine xa_cons 10 (xc_getf (A := A) (own := "ExpressHouse$Population") (index := 180) hx hb htsB xC_2 hown rfl (by decide) xw_655 (And.intro (by decide +kernel) rfl)) ?_
  refine xa_cons 11 (xc_putf (own := "ExpressHouse$Population") (index := 46) hx hb htsB xC_2 hown rfl (by decide) xw_529 rfl (rfl) (And.intro (by decide +kernel) rfl)) ?_
  refine xa_cons 12 ((And.intro (by decide) (Or.inl (Exists.intro (0) (And.intro rfl (And.intro (by decide +kernel) rfl)))))) ?_
  refine xa_cons 13 (xc_getf (A := A) (own := "ExpressHouse$Population") (index := 26) hx hb htsB xC_2 hown rfl (by decide) xw_242 (And.intro (by decide +kernel) rfl)) ?_
  refine xa_cons 14 (xc_iconst hx hb (z := 0) (b := 0) (And.intro (by decide +kernel) rfl) (by decide +kernel) ⟨rfl, rfl⟩) ?_
  refine xa_cons 15 ((And.intro (by decide) (Or.inl (Exists.intro (0) (And.intro rfl (And.intro (by decide +kernel) rfl)))))) ?_
  refine xa_cons 16 (xc_getf (A := A) (own := "ExpressHouse$Population") (index := 18) hx hb htsB xC_2 hown rfl (by decide) xw_240 (And.intro (by decide +kernel) rfl)) ?_
  refine xa_cons 17 (xc_iconst hx hb (z := 0) (b := 0) (And.intro (by decide +kernel) rfl) (by decide +kernel) ⟨rfl, rfl⟩) ?_
  refine xa_cons 18 (xc_bipush hx hb (z := 40) (b := 40) (And.intro (by decide +kernel) rfl) (by decide +kernel) ⟨rfl, rfl⟩) ?_
  refine xa_cons 19 ((Exists.intro ("ExpressHouse$Population") (Exists.intro (183) (And.intro hown (And.intro (htsB _ xw_656) (And.intro (htsB _ xw_657) (And.intro (htsB _ xw_658) (And.intro (htsB _ xw_659) (And.intro (And.intro (by decide +kernel) rfl) (And.intro hml (And.intro (by omega) (by omega)))))))))))) ?_
  refine xa_cons 20 ((And.intro (by decide) (Or.inl (Exists.intro (0) (And.intro rfl (And.intro (by decide +kernel) rfl)))))) ?_
  refine xa_cons 21 (xc_getf (A := A) (own := "ExpressHouse$Population") (index := 29) hx hb htsB xC_2 hown rfl (by decide) xw_243 (And.intro (by decide +kernel) rfl)) ?_
  refine xa_cons 22 (xc_iconst hx hb (z := 0) (b := 0) (And.intro (by decide +kernel) rfl) (by decide +kernel) ⟨rfl, rfl⟩) ?_
  refine xa_cons 23 ((And.intro (by decide) (Or.inl (Exists.intro (0) (And.intro rfl (And.intro (by decide +kernel) rfl)))))) ?_
  refine xa_cons 24 (xc_getf (A := A) (own := "ExpressHouse$Population") (index := 22) hx hb htsB xC_2 hown rfl (by decide) xw_241 (And.intro (by decide +kernel) rfl)) ?_
  refine xa_cons 25 (xc_iconst hx hb (z := 0) (b := 0) (And.intro (by decide +kernel) rfl) (by decide +kernel) ⟨rfl, rfl⟩) ?_
  refine xa_cons 26 ((And.intro (by decide) (Or.inl (Exists.intro (0) (And.intro rfl (And.intro (by decide +kernel) rfl)))))) ?_
  refine xa_cons 27 (xc_getf (A := A) (own := "ExpressHouse$Population") (index := 22) hx hb htsB xC_2 hown rfl (by decide) xw_241 (And.intro (by decide +kernel) rfl)) ?_
  refine xa_cons 28 ((And.intro (by decide +kernel) rfl)) ?_
  refine xa_cons 29 ((Exists.intro ("ExpressHouse$Population") (Exists.intro (183) (And.intro hown (And.intro (htsB _ xw_656) (And.intro (htsB _ xw_657) (And.intro (htsB _ xw_658) (And.intro (htsB _ xw_659) (And.intro (And.intro (by decide +kernel) rfl) (And.intro hml (And.intro (by omega) (by omega)))))))))))) ?_
  refine xa_cons 30 ((And.intro (by decide) (Or.inl (Exists.intro (0) (And.intro rfl (And.intro (by decide +kernel) rfl)))))) ?_
  refine xa_cons 31 (xc_iconst hx hb (z := 1) (b := 1) (And.intro (by decide +kernel) rfl) (by decide +kernel) ⟨rfl, rfl⟩) ?_
  refine xa_cons 32 (xc_putf (own := "ExpressHouse$Population") (index := 38) hx hb htsB xC_2 hown rfl (by decide) xw_246 rfl (rfl) (And.intro (by decide +kernel) rfl)) ?_
  refine xa_cons 33 (xc_iconst hx hb (z := 1) (b := 1) (And.intro (by decide +kernel) rfl) (by decide +kernel) ⟨rfl, rfl⟩) ?_
  refine xa_cons 34 ((And.intro hr (by decide +kernel))) ?_
  exact xa_nil
def xrp_79 : Nat → Nat := fun k => ([0, 1, 4, 5, 7, 10, 11, 12, 15, 16, 17, 20, 21, 22, 25, 26, 27, 30, 31, 33, 36, 37, 39, 42] : List Nat).getD k 0
set_option maxRecDepth 20000 in
set_option maxHeartbeats 4000000 in
theorem xz_79 {l : Launch} {D : va_G} {en : XE} : x_Ok xT l D xcl en xrn (xG en) 79 xc_79 := by
  refine ⟨prog_13_method_2_code, none, xBIG, xrp_79, by decide +kernel, rfl, rfl, ?_⟩
  intro p e R s m args below meth c s₁ A Q pc i f1 f2 B hml hA hg hi
  obtain ⟨hx, hb, hr, hown, hlocks, hin, htsB, S⟩ := xb_all (C := "ExpressHouse$Value") B hml rfl rfl
  obtain ⟨hgN, hgZ, hgS, hgS2⟩ := xG_all hg
  refine xa_at (i := i) (pc := pc) ?_ hi
  refine xa_cons 0 ((And.intro (by decide) (Or.inl (Exists.intro (0) (And.intro rfl (And.intro (by decide +kernel) rfl)))))) ?_
  refine xa_cons 1 (xc_objinit (own := "ExpressHouse$Value") (index := 1) hx hb hml hown htsB xw_300 xw_1 xw_2 (by omega) (by omega) (And.intro (by decide +kernel) rfl)) ?_
  refine xa_cons 2 ((And.intro (by decide) (Or.inl (Exists.intro (0) (And.intro rfl (And.intro (by decide +kernel) rfl)))))) ?_
  refine xa_cons 3 (xc_bipush hx hb (z := 6) (b := 6) (And.intro (by decide +kernel) rfl) (by decide +kernel) ⟨rfl, rfl⟩) ?_
  refine xa_cons 4 (xc_putfF (index := 7) hx hb htsB xC_10 hown rfl (by decide) hin xw_301 rfl (rfl) (And.intro (by decide +kernel) rfl)) ?_
  refine xa_cons 5 ((And.intro (by decide) (Or.inl (Exists.intro (0) (And.intro rfl (And.intro (by decide +kernel) rfl)))))) ?_
  refine xa_cons 6 (xc_lconst hx hb (z := 0) (And.intro (by decide +kernel) rfl) ⟨rfl, rfl⟩) ?_
  refine xa_cons 7 (xc_putfF (index := 13) hx hb htsB xC_10 hown rfl (by decide) hin xw_302 rfl (rfl) (And.intro (by decide +kernel) rfl)) ?_
  refine xa_cons 8 ((And.intro (by decide) (Or.inl (Exists.intro (0) (And.intro rfl (And.intro (by decide +kernel) rfl)))))) ?_
  refine xa_cons 9 ((And.intro (by decide) (Or.inl (Exists.intro (1) (And.intro rfl (And.intro (by decide +kernel) rfl)))))) ?_
  refine xa_cons 10 (xc_putfF (index := 17) hx hb htsB xC_10 hown rfl (by decide) hin xw_303 rfl (rfl) (And.intro (by decide +kernel) rfl)) ?_
  refine xa_cons 11 ((And.intro (by decide) (Or.inl (Exists.intro (0) (And.intro rfl (And.intro (by decide +kernel) rfl)))))) ?_
  refine xa_cons 12 ((And.intro (by decide) (Or.inl (Exists.intro (2) (And.intro rfl (And.intro (by decide +kernel) rfl)))))) ?_
  refine xa_cons 13 (xc_putfF (index := 20) hx hb htsB xC_10 hown rfl (by decide) hin xw_304 rfl (rfl) (And.intro (by decide +kernel) rfl)) ?_
  refine xa_cons 14 ((And.intro (by decide) (Or.inl (Exists.intro (0) (And.intro rfl (And.intro (by decide +kernel) rfl)))))) ?_
  refine xa_cons 15 ((And.intro (by decide) (Or.inl (Exists.intro (3) (And.intro rfl (And.intro (by decide +kernel) rfl)))))) ?_
  refine xa_cons 16 (xc_putfF (index := 23) hx hb htsB xC_10 hown rfl (by decide) hin xw_305 rfl (rfl) (And.intro (by decide +kernel) rfl)) ?_
  refine xa_cons 17 ((And.intro (by decide) (Or.inl (Exists.intro (0) (And.intro rfl (And.intro (by decide +kernel) rfl)))))) ?_
  refine xa_cons 18 ((And.intro (by decide) (Or.inr (And.intro (by decide +kernel) rfl)))) ?_
  refine xa_cons 19 (xc_putfF (index := 26) hx hb htsB xC_10 hown rfl (by decide) hin xw_306 rfl (rfl) (And.intro (by decide +kernel) rfl)) ?_
  refine xa_cons 20 ((And.intro (by decide) (Or.inl (Exists.intro (0) (And.intro rfl (And.intro (by decide +kernel) rfl)))))) ?_
  refine xa_cons 21 ((And.intro (by decide) (Or.inr (And.intro (by decide +kernel) rfl)))) ?_
  refine xa_cons 22 (xc_putfF (index := 33) hx hb htsB xC_10 hown rfl (by decide) hin xw_308 rfl (Or.inr ⟨_, rfl⟩) (And.intro (by decide +kernel) rfl)) ?_
  refine xa_cons 23 ((And.intro hr (by decide +kernel))) ?_
  exact xa_nil
def xrp_80 : Nat → Nat := fun k => ([0, 1, 4, 7, 8, 11, 12, 13, 16, 17, 20, 21, 22, 25, 26, 29, 30, 33, 34, 37, 38, 39] : List Nat).getD k 0
set_option maxRecDepth 20000 in
set_option maxHeartbeats 4000000 in
theorem xz_80 {l : Launch} {D : va_G} {en : XE} : x_Ok xT l D xcl en xrn (xG en) 80 xc_80 := by
  refine ⟨prog_10_method_36_code, (some .int), xBIG, xrp_80, by decide +kernel, rfl, rfl, ?_⟩
  intro p e R s m args below meth c s₁ A Q pc i f1 f2 B hml hA hg hi
  obtain ⟨hx, hb, hr, hown, hlocks, hin, htsB, S⟩ := xb_all (C := "ExpressHouse$Schema") B hml rfl rfl
  obtain ⟨hgN, hgZ, hgS, hgS2⟩ := xG_all hg
  refine xa_at (i := i) (pc := pc) ?_ hi
  refine xa_cons 0 ((And.intro (by decide) (Or.inl (Exists.intro (0) (And.intro rfl (And.intro (by decide +kernel) rfl)))))) ?_
  refine xa_cons 1 (xc_getf (A := A) (own := "ExpressHouse$Schema") (index := 94) hx hb htsB xC_3 hown rfl (by decide) xw_660 (And.intro (by decide +kernel) rfl)) ?_
  refine xa_cons 2 ((And.intro (by decide) (Exists.intro (12) (And.intro (by decide +kernel) (And.intro (by decide +kernel) rfl))))) ?_
  refine xa_cons 3 ((And.intro (by decide) (Or.inl (Exists.intro (0) (And.intro rfl (And.intro (by decide +kernel) rfl)))))) ?_
  refine xa_cons 4 ((And.intro (xc_callV (index := 159) (n := 0) (ci := 3) S xg_131 rfl xw_15 xw_663 xw_661 xw_662 rfl rfl rfl ⟨by decide, by decide, by decide +kernel⟩ rfl (And.intro (by decide +kernel) rfl)) (by decide +kernel))) ?_
  refine xa_cons 5 ((And.intro (by decide) (Or.inl (Exists.intro (0) (And.intro rfl (And.intro (by decide +kernel) rfl)))))) ?_
  refine xa_cons 6 (xc_iconst hx hb (z := 1) (b := 1) (And.intro (by decide +kernel) rfl) (by decide +kernel) ⟨rfl, rfl⟩) ?_
  refine xa_cons 7 (xc_putf (own := "ExpressHouse$Schema") (index := 94) hx hb htsB xC_3 hown rfl (by decide) xw_660 rfl (rfl) (And.intro (by decide +kernel) rfl)) ?_
  refine xa_cons 8 ((And.intro (by decide) (Or.inl (Exists.intro (1) (And.intro rfl (And.intro (by decide +kernel) rfl)))))) ?_
  refine xa_cons 9 ((And.intro (by decide) (Exists.intro (12) (And.intro (by decide +kernel) (And.intro (by decide +kernel) rfl))))) ?_
  refine xa_cons 10 ((And.intro (by decide) (Or.inl (Exists.intro (1) (And.intro rfl (And.intro (by decide +kernel) rfl)))))) ?_
  refine xa_cons 11 ((And.intro (by decide) (Or.inl (Exists.intro (0) (And.intro rfl (And.intro (by decide +kernel) rfl)))))) ?_
  refine xa_cons 12 (xc_getf (A := A) (own := "ExpressHouse$Schema") (index := 64) hx hb htsB xC_3 hown rfl (by decide) xw_233 (And.intro (by decide +kernel) rfl)) ?_
  refine xa_cons 13 ((And.intro (by decide +kernel) rfl)) ?_
  refine xa_cons 14 ((And.intro (by decide) (Exists.intro (7) (And.intro (by decide +kernel) (And.intro (by decide +kernel) rfl))))) ?_
  refine xa_cons 15 (xc_iconst hx hb (z := 0) (b := 0) (And.intro (by decide +kernel) rfl) (by decide +kernel) ⟨rfl, rfl⟩) ?_
  refine xa_cons 16 ((Exists.intro (9) (And.intro (by decide +kernel) (by decide +kernel)))) ?_
  refine xa_cons 17 ((And.intro (by decide) (Or.inl (Exists.intro (0) (And.intro rfl (And.intro (by decide +kernel) rfl)))))) ?_
  refine xa_cons 18 (xc_getf (A := A) (own := "ExpressHouse$Schema") (index := 64) hx hb htsB xC_3 hown rfl (by decide) xw_233 (And.intro (by decide +kernel) rfl)) ?_
  refine xa_cons 19 ((And.intro (by decide) (Or.inl (Exists.intro (1) (And.intro rfl (And.intro (by decide +kernel) rfl)))))) ?_
  refine xa_cons 20 ((And.intro (by decide) (And.intro (by decide +kernel) rfl))) ?_
  refine xa_cons 21 ((And.intro hr (by decide +kernel))) ?_
  exact xa_nil
def xrp_81 : Nat → Nat := fun k => ([0, 1, 2, 5, 6, 7, 10, 11, 12, 15, 16, 17, 20] : List Nat).getD k 0
set_option maxRecDepth 20000 in
set_option maxHeartbeats 4000000 in
theorem xz_81 {l : Launch} {D : va_G} {en : XE} : x_Ok xT l D xcl en xrn (xG en) 81 xc_81 := by
  refine ⟨prog_3_method_4_code, none, xBIG, xrp_81, by decide +kernel, rfl, rfl, ?_⟩
  intro p e R s m args below meth c s₁ A Q pc i f1 f2 B hml hA hg hi
  obtain ⟨hx, hb, hr, hown, hlocks, hin, htsB, S⟩ := xb_all (C := "ExpressHouse$FileReader") B hml rfl rfl
  obtain ⟨hgN, hgZ, hgS, hgS2⟩ := xG_all hg
  refine xa_at (i := i) (pc := pc) ?_ hi
  refine xa_cons 0 ((And.intro (by decide) (Or.inl (Exists.intro (0) (And.intro rfl (And.intro (by decide +kernel) rfl)))))) ?_
  refine xa_cons 1 ((And.intro (by decide) (Or.inl (Exists.intro (1) (And.intro rfl (And.intro (by decide +kernel) rfl)))))) ?_
  refine xa_cons 2 (xc_putf (own := "ExpressHouse$FileReader") (index := 9) hx hb htsB xC_8 hown rfl (by decide) xw_288 rfl (Or.inr ⟨_, rfl⟩) (And.intro (by decide +kernel) rfl)) ?_
  refine xa_cons 3 ((And.intro (by decide) (Or.inl (Exists.intro (0) (And.intro rfl (And.intro (by decide +kernel) rfl)))))) ?_
  refine xa_cons 4 ((And.intro (by decide) (Or.inl (Exists.intro (2) (And.intro rfl (And.intro (by decide +kernel) rfl)))))) ?_
  refine xa_cons 5 (xc_putf (own := "ExpressHouse$FileReader") (index := 52) hx hb htsB xC_8 hown rfl (by decide) xw_664 rfl (rfl) (And.intro (by decide +kernel) rfl)) ?_
  refine xa_cons 6 ((And.intro (by decide) (Or.inl (Exists.intro (0) (And.intro rfl (And.intro (by decide +kernel) rfl)))))) ?_
  refine xa_cons 7 (xc_iconst hx hb (z := 0) (b := 0) (And.intro (by decide +kernel) rfl) (by decide +kernel) ⟨rfl, rfl⟩) ?_
  refine xa_cons 8 (xc_putf (own := "ExpressHouse$FileReader") (index := 55) hx hb htsB xC_8 hown rfl (by decide) xw_665 rfl (rfl) (And.intro (by decide +kernel) rfl)) ?_
  refine xa_cons 9 ((And.intro (by decide) (Or.inl (Exists.intro (0) (And.intro rfl (And.intro (by decide +kernel) rfl)))))) ?_
  refine xa_cons 10 (xc_iconst hx hb (z := 0) (b := 0) (And.intro (by decide +kernel) rfl) (by decide +kernel) ⟨rfl, rfl⟩) ?_
  refine xa_cons 11 (xc_putf (own := "ExpressHouse$FileReader") (index := 58) hx hb htsB xC_8 hown rfl (by decide) xw_666 rfl (rfl) (And.intro (by decide +kernel) rfl)) ?_
  refine xa_cons 12 ((And.intro hr (by decide +kernel))) ?_
  exact xa_nil
def xrp_82 : Nat → Nat := fun k => ([0, 1, 2, 5, 6, 7, 10, 11, 12, 15, 16, 17, 18, 19, 22, 25, 26, 29, 32, 33, 36, 37, 40, 43, 44, 45, 46, 49, 50, 51, 54, 57, 60, 61, 64] : List Nat).getD k 0
set_option maxRecDepth 20000 in
set_option maxHeartbeats 4000000 in
theorem xz_82 {l : Launch} {D : va_G} {en : XE} : x_Ok xT l D xcl en xrn (xG en) 82 xc_82 := by
  refine ⟨prog_3_method_5_code, none, xBIG, xrp_82, by decide +kernel, rfl, rfl, ?_⟩
  intro p e R s m args below meth c s₁ A Q pc i f1 f2 B hml hA hg hi
  obtain ⟨hx, hb, hr, hown, hlocks, hin, htsB, S⟩ := xb_all (C := "ExpressHouse$FileReader") B hml rfl rfl
  obtain ⟨hgN, hgZ, hgS, hgS2⟩ := xG_all hg
  refine xa_at (i := i) (pc := pc) ?_ hi
  refine xa_cons 0 ((And.intro (by decide) (Or.inl (Exists.intro (0) (And.intro rfl (And.intro (by decide +kernel) rfl)))))) ?_
  refine xa_cons 1 ((And.intro (by decide) (Or.inl (Exists.intro (1) (And.intro rfl (And.intro (by decide +kernel) rfl)))))) ?_
  refine xa_cons 2 (xc_putf (own := "ExpressHouse$FileReader") (index := 61) hx hb htsB xC_8 hown rfl (by decide) xw_667 rfl (rfl) (And.intro (by decide +kernel) rfl)) ?_
  refine xa_cons 3 ((And.intro (by decide) (Or.inl (Exists.intro (0) (And.intro rfl (And.intro (by decide +kernel) rfl)))))) ?_
  refine xa_cons 4 (xc_iconst hx hb (z := 0) (b := 0) (And.intro (by decide +kernel) rfl) (by decide +kernel) ⟨rfl, rfl⟩) ?_
  refine xa_cons 5 (xc_putf (own := "ExpressHouse$FileReader") (index := 65) hx hb htsB xC_8 hown rfl (by decide) xw_668 rfl (rfl) (And.intro (by decide +kernel) rfl)) ?_
  refine xa_cons 6 ((And.intro (by decide) (Or.inl (Exists.intro (0) (And.intro rfl (And.intro (by decide +kernel) rfl)))))) ?_
  refine xa_cons 7 (xc_iconst hx hb (z := 0) (b := 0) (And.intro (by decide +kernel) rfl) (by decide +kernel) ⟨rfl, rfl⟩) ?_
  refine xa_cons 8 (xc_putf (own := "ExpressHouse$FileReader") (index := 68) hx hb htsB xC_8 hown rfl (by decide) xw_669 rfl (rfl) (And.intro (by decide +kernel) rfl)) ?_
  refine xa_cons 9 (xc_iconst hx hb (z := 0) (b := 0) (And.intro (by decide +kernel) rfl) (by decide +kernel) ⟨rfl, rfl⟩) ?_
  refine xa_cons 10 ((And.intro (Or.inl rfl) (Or.inl (Exists.intro (2) (And.intro rfl (And.intro (by decide +kernel) rfl)))))) ?_
  refine xa_cons 11 ((And.intro (by decide) (Or.inl (Exists.intro (2) (And.intro rfl (And.intro (by decide +kernel) rfl)))))) ?_
  refine xa_cons 12 ((And.intro (by decide) (Or.inl (Exists.intro (0) (And.intro rfl (And.intro (by decide +kernel) rfl)))))) ?_
  refine xa_cons 13 (xc_getf (A := A) (own := "ExpressHouse$FileReader") (index := 58) hx hb htsB xC_8 hown rfl (by decide) xw_666 (And.intro (by decide +kernel) rfl)) ?_
  refine xa_cons 14 ((And.intro (by decide) (Exists.intro (38) (And.intro (by decide +kernel) (And.intro (by decide +kernel) rfl))))) ?_
  refine xa_cons 15 ((And.intro (by decide) (Or.inl (Exists.intro (0) (And.intro rfl (And.intro (by decide +kernel) rfl)))))) ?_
  refine xa_cons 16 (xc_getf (A := A) (own := "ExpressHouse$FileReader") (index := 61) hx hb htsB xC_8 hown rfl (by decide) xw_667 (And.intro (by decide +kernel) rfl)) ?_
  refine xa_cons 17 ((And.intro (by decide) (Exists.intro (31) (And.intro (by decide +kernel) (And.intro (by decide +kernel) rfl))))) ?_
  refine xa_cons 18 ((And.intro (by decide) (Or.inl (Exists.intro (0) (And.intro rfl (And.intro (by decide +kernel) rfl)))))) ?_
  refine xa_cons 19 (xc_getf (A := A) (own := "ExpressHouse$FileReader") (index := 37) hx hb htsB xC_8 hown rfl (by decide) xw_294 (And.intro (by decide +kernel) rfl)) ?_
  refine xa_cons 20 ((And.intro (by decide) (Or.inl (Exists.intro (0) (And.intro rfl (And.intro (by decide +kernel) rfl)))))) ?_
  refine xa_cons 21 (xc_getf (A := A) (own := "ExpressHouse$FileReader") (index := 37) hx hb htsB xC_8 hown rfl (by decide) xw_294 (And.intro (by decide +kernel) rfl)) ?_
  refine xa_cons 22 (xc_getf (A := A) (own := "ExpressHouse$FileReader") (index := 71) hx hb htsB xC_2 hown rfl (by decide) xw_670 (And.intro (by decide +kernel) rfl)) ?_
  refine xa_cons 23 ((And.intro (by decide) (Or.inl (Exists.intro (2) (And.intro rfl (And.intro (by decide +kernel) rfl)))))) ?_
  refine xa_cons 24 ((And.intro (by decide) (And.intro (by decide +kernel) rfl))) ?_
  refine xa_cons 25 ((And.intro (by decide) (Or.inl (Exists.intro (0) (And.intro rfl (And.intro (by decide +kernel) rfl)))))) ?_
  refine xa_cons 26 (xc_getf (A := A) (own := "ExpressHouse$FileReader") (index := 19) hx hb htsB xC_8 hown rfl (by decide) xw_290 (And.intro (by decide +kernel) rfl)) ?_
  refine xa_cons 27 ((And.intro (by decide) (Or.inl (Exists.intro (2) (And.intro rfl (And.intro (by decide +kernel) rfl)))))) ?_
  refine xa_cons 28 ((And.intro (by decide) (And.intro (by decide +kernel) rfl))) ?_
  refine xa_cons 29 ((And.intro (xc_callV (index := 74) (n := 2) (ci := 2) S xg_132 rfl xw_12 xw_673 xw_671 xw_672 rfl rfl rfl ⟨by decide, by decide, by decide +kernel⟩ rfl (And.intro (by decide +kernel) rfl)) (by decide +kernel))) ?_
  refine xa_cons 30 ((Exists.intro (1) (And.intro (And.intro (by decide +kernel) rfl) (by decide +kernel)))) ?_
  refine xa_cons 31 ((Exists.intro (-40) (And.intro (by decide +kernel) (by decide +kernel)))) ?_
  refine xa_cons 32 ((And.intro (by decide) (Or.inl (Exists.intro (0) (And.intro rfl (And.intro (by decide +kernel) rfl)))))) ?_
  refine xa_cons 33 ((And.intro (xc_callV (index := 78) (n := 0) (ci := 8) S xg_133 rfl xw_47 xw_676 xw_674 xw_675 rfl rfl rfl ⟨by decide, by decide, by decide +kernel⟩ rfl (And.intro (by decide +kernel) rfl)) (by decide +kernel))) ?_
  refine xa_cons 34 ((And.intro hr (by decide +kernel))) ?_
  exact xa_nil
def xrp_83 : Nat → Nat := fun k => ([0, 1, 4, 7, 8, 11, 12, 15, 18, 19, 22, 23] : List Nat).getD k 0
set_option maxRecDepth 20000 in
set_option maxHeartbeats 4000000 in
theorem xz_83 {l : Launch} {D : va_G} {en : XE} : x_Ok xT l D xcl en xrn (xG en) 83 xc_83 := by
  refine ⟨prog_3_method_6_code, (some .boolean), xBIG, xrp_83, by decide +kernel, rfl, rfl, ?_⟩
  intro p e R s m args below meth c s₁ A Q pc i f1 f2 B hml hA hg hi
  obtain ⟨hx, hb, hr, hown, hlocks, hin, htsB, S⟩ := xb_all (C := "ExpressHouse$FileReader") B hml rfl rfl
  obtain ⟨hgN, hgZ, hgS, hgS2⟩ := xG_all hg
  refine xa_at (i := i) (pc := pc) ?_ hi
  refine xa_cons 0 ((And.intro (by decide) (Or.inl (Exists.intro (0) (And.intro rfl (And.intro (by decide +kernel) rfl)))))) ?_
  refine xa_cons 1 (xc_getf (A := A) (own := "ExpressHouse$FileReader") (index := 55) hx hb htsB xC_8 hown rfl (by decide) xw_665 (And.intro (by decide +kernel) rfl)) ?_
  refine xa_cons 2 ((And.intro (by decide) (Exists.intro (18) (And.intro (by decide +kernel) (And.intro (by decide +kernel) rfl))))) ?_
  refine xa_cons 3 ((And.intro (by decide) (Or.inl (Exists.intro (0) (And.intro rfl (And.intro (by decide +kernel) rfl)))))) ?_
  refine xa_cons 4 (xc_getf (A := A) (own := "ExpressHouse$FileReader") (index := 65) hx hb htsB xC_8 hown rfl (by decide) xw_668 (And.intro (by decide +kernel) rfl)) ?_
  refine xa_cons 5 ((And.intro (by decide) (Or.inl (Exists.intro (0) (And.intro rfl (And.intro (by decide +kernel) rfl)))))) ?_
  refine xa_cons 6 (xc_getf (A := A) (own := "ExpressHouse$FileReader") (index := 52) hx hb htsB xC_8 hown rfl (by decide) xw_664 (And.intro (by decide +kernel) rfl)) ?_
  refine xa_cons 7 ((And.intro (by decide) (Exists.intro (7) (And.intro (by decide +kernel) (And.intro (by decide +kernel) rfl))))) ?_
  refine xa_cons 8 (xc_iconst hx hb (z := 1) (b := 1) (And.intro (by decide +kernel) rfl) (by decide +kernel) ⟨rfl, rfl⟩) ?_
  refine xa_cons 9 ((Exists.intro (4) (And.intro (by decide +kernel) (by decide +kernel)))) ?_
  refine xa_cons 10 (xc_iconst hx hb (z := 0) (b := 0) (And.intro (by decide +kernel) rfl) (by decide +kernel) ⟨rfl, rfl⟩) ?_
  refine xa_cons 11 ((And.intro hr (by decide +kernel))) ?_
  exact xa_nil
def xrp_84 : Nat → Nat := fun k => ([0, 1, 4, 5, 6, 9, 10, 11, 14, 17, 18, 19, 20, 23, 26, 27, 28, 31, 32, 33, 36, 37, 39, 42, 43, 46, 48, 51, 52, 54, 57, 58, 59, 62, 63, 64, 65, 66, 69, 72, 73, 76, 79, 80, 83, 85, 88, 89, 90, 93, 96, 99, 100, 102, 105, 108, 109, 110, 113, 114, 116, 119, 120, 121, 124, 125, 126, 129] : List Nat).getD k 0
set_option maxRecDepth 20000 in
set_option maxHeartbeats 4000000 in
theorem xz_84 {l : Launch} {D : va_G} {en : XE} : x_Ok xT l D xcl en xrn (xG en) 84 xc_84 := by
  refine ⟨prog_3_method_13_code, none, xBIG, xrp_84, by decide +kernel, rfl, rfl, ?_⟩
  intro p e R s m args below meth c s₁ A Q pc i f1 f2 B hml hA hg hi
  obtain ⟨hx, hb, hr, hown, hlocks, hin, htsB, S⟩ := xb_all (C := "ExpressHouse$FileReader") B hml rfl rfl
  obtain ⟨hgN, hgZ, hgS, hgS2⟩ := xG_all hg
  refine xa_at (i := i) (pc := pc) ?_ hi
  refine xa_cons 0 ((And.intro (by decide) (Or.inl (Exists.intro (0) (And.intro rfl (And.intro (by decide +kernel) rfl)))))) ?_
  refine xa_cons 1 (xc_getf (A := A) (own := "ExpressHouse$FileReader") (index := 65) hx hb htsB xC_8 hown rfl (by decide) xw_668 (And.intro (by decide +kernel) rfl)) ?_
  refine xa_cons 2 ((And.intro (Or.inl rfl) (Or.inl (Exists.intro (1) (And.intro rfl (And.intro (by decide +kernel) rfl)))))) ?_
  refine xa_cons 3 ((And.intro (by decide) (Or.inl (Exists.intro (0) (And.intro rfl (And.intro (by decide +kernel) rfl)))))) ?_
  refine xa_cons 4 ((And.intro (xc_callV (index := 113) (n := 0) (ci := 8) S xg_134 rfl xw_47 xw_679 xw_677 xw_678 rfl rfl rfl ⟨by decide, by decide, by decide +kernel⟩ rfl (And.intro (by decide +kernel) rfl)) (by decide +kernel))) ?_
  refine xa_cons 5 ((And.intro (Or.inl rfl) (Or.inl (Exists.intro (2) (And.intro rfl (And.intro (by decide +kernel) rfl)))))) ?_
  refine xa_cons 6 ((And.intro (by decide) (Or.inl (Exists.intro (0) (And.intro rfl (And.intro (by decide +kernel) rfl)))))) ?_
  refine xa_cons 7 (xc_getf (A := A) (own := "ExpressHouse$FileReader") (index := 61) hx hb htsB xC_8 hown rfl (by decide) xw_667 (And.intro (by decide +kernel) rfl)) ?_
  refine xa_cons 8 ((And.intro (by decide) (Exists.intro (12) (And.intro (by decide +kernel) (And.intro (by decide +kernel) rfl))))) ?_
  refine xa_cons 9 ((And.intro (by decide) (Or.inl (Exists.intro (0) (And.intro rfl (And.intro (by decide +kernel) rfl)))))) ?_
  refine xa_cons 10 ((And.intro (by decide) (Or.inl (Exists.intro (1) (And.intro rfl (And.intro (by decide +kernel) rfl)))))) ?_
  refine xa_cons 11 ((And.intro (by decide) (Or.inl (Exists.intro (2) (And.intro rfl (And.intro (by decide +kernel) rfl)))))) ?_
  refine xa_cons 12 ((And.intro (xc_callV (index := 116) (n := 2) (ci := 8) S xg_135 rfl xw_47 xw_682 xw_680 xw_681 rfl rfl rfl ⟨by decide, by decide, by decide +kernel⟩ rfl (And.intro (by decide +kernel) rfl)) (by decide +kernel))) ?_
  refine xa_cons 13 ((Exists.intro (8) (And.intro (by decide +kernel) (by decide +kernel)))) ?_
  refine xa_cons 14 ((And.intro (by decide) (Or.inl (Exists.intro (0) (And.intro rfl (And.intro (by decide +kernel) rfl)))))) ?_
  refine xa_cons 15 ((And.intro (by decide) (Or.inl (Exists.intro (2) (And.intro rfl (And.intro (by decide +kernel) rfl)))))) ?_
  refine xa_cons 16 ((And.intro (xc_callV (index := 119) (n := 1) (ci := 8) S xg_136 rfl xw_47 xw_685 xw_683 xw_684 rfl rfl rfl ⟨by decide, by decide, by decide +kernel⟩ rfl (And.intro (by decide +kernel) rfl)) (by decide +kernel))) ?_
  refine xa_cons 17 ((And.intro (by decide) (Or.inl (Exists.intro (0) (And.intro rfl (And.intro (by decide +kernel) rfl)))))) ?_
  refine xa_cons 18 (xc_iconst hx hb (z := 0) (b := 0) (And.intro (by decide +kernel) rfl) (by decide +kernel) ⟨rfl, rfl⟩) ?_
  refine xa_cons 19 (xc_putf (own := "ExpressHouse$FileReader") (index := 122) hx hb htsB xC_8 hown rfl (by decide) xw_686 rfl (rfl) (And.intro (by decide +kernel) rfl)) ?_
  refine xa_cons 20 ((And.intro (by decide) (Or.inl (Exists.intro (0) (And.intro rfl (And.intro (by decide +kernel) rfl)))))) ?_
  refine xa_cons 21 (xc_bipush hx hb (z := 61) (b := 61) (And.intro (by decide +kernel) rfl) (by decide +kernel) ⟨rfl, rfl⟩) ?_
  refine xa_cons 22 ((And.intro (xc_callV (index := 125) (n := 1) (ci := 8) S xg_137 rfl xw_47 xw_689 xw_687 xw_688 rfl rfl rfl ⟨by decide, by decide, by decide +kernel⟩ rfl (And.intro (by decide +kernel) rfl)) (by decide +kernel))) ?_
  refine xa_cons 23 ((And.intro (by decide) (Or.inl (Exists.intro (0) (And.intro rfl (And.intro (by decide +kernel) rfl)))))) ?_
  refine xa_cons 24 ((And.intro (xc_callV (index := 100) (n := 0) (ci := 8) S xg_138 rfl xw_47 xw_692 xw_690 xw_691 rfl rfl rfl ⟨by decide, by decide, by decide +kernel⟩ rfl (And.intro (by decide +kernel) rfl)) (by decide +kernel))) ?_
  refine xa_cons 25 (xc_bipush hx hb (z := 40) (b := 40) (And.intro (by decide +kernel) rfl) (by decide +kernel) ⟨rfl, rfl⟩) ?_
  refine xa_cons 26 ((And.intro (by decide) (Exists.intro (60) (And.intro (by decide +kernel) (And.intro (by decide +kernel) rfl))))) ?_
  refine xa_cons 27 ((And.intro (by decide) (Or.inl (Exists.intro (0) (And.intro rfl (And.intro (by decide +kernel) rfl)))))) ?_
  refine xa_cons 28 (xc_bipush hx hb (z := 40) (b := 40) (And.intro (by decide +kernel) rfl) (by decide +kernel) ⟨rfl, rfl⟩) ?_
  refine xa_cons 29 ((And.intro (xc_callV (index := 125) (n := 1) (ci := 8) S xg_137 rfl xw_47 xw_689 xw_687 xw_688 rfl rfl rfl ⟨by decide, by decide, by decide +kernel⟩ rfl (And.intro (by decide +kernel) rfl)) (by decide +kernel))) ?_
  refine xa_cons 30 ((And.intro (by decide) (Or.inl (Exists.intro (0) (And.intro rfl (And.intro (by decide +kernel) rfl)))))) ?_
  refine xa_cons 31 (xc_iconst hx hb (z := 0) (b := 0) (And.intro (by decide +kernel) rfl) (by decide +kernel) ⟨rfl, rfl⟩) ?_
  refine xa_cons 32 ((And.intro (xc_callV (index := 128) (n := 1) (ci := 8) S xg_139 rfl xw_47 xw_695 xw_693 xw_694 rfl rfl rfl ⟨by decide, by decide, by decide +kernel⟩ rfl (And.intro (by decide +kernel) rfl)) (by decide +kernel))) ?_
  refine xa_cons 33 (xc_iconst hx hb (z := 0) (b := 0) (And.intro (by decide +kernel) rfl) (by decide +kernel) ⟨rfl, rfl⟩) ?_
  refine xa_cons 34 ((And.intro (Or.inl rfl) (Or.inl (Exists.intro (3) (And.intro rfl (And.intro (by decide +kernel) rfl)))))) ?_
  refine xa_cons 35 ((And.intro (by decide) (Or.inl (Exists.intro (3) (And.intro rfl (And.intro (by decide +kernel) rfl)))))) ?_
  refine xa_cons 36 ((And.intro (by decide) (Or.inl (Exists.intro (0) (And.intro rfl (And.intro (by decide +kernel) rfl)))))) ?_
  refine xa_cons 37 (xc_getf (A := A) (own := "ExpressHouse$FileReader") (index := 52) hx hb htsB xC_8 hown rfl (by decide) xw_664 (And.intro (by decide +kernel) rfl)) ?_
  refine xa_cons 38 ((And.intro (by decide) (Exists.intro (30) (And.intro (by decide +kernel) (And.intro (by decide +kernel) rfl))))) ?_
  refine xa_cons 39 ((And.intro (by decide) (Or.inl (Exists.intro (0) (And.intro rfl (And.intro (by decide +kernel) rfl)))))) ?_
  refine xa_cons 40 (xc_getf (A := A) (own := "ExpressHouse$FileReader") (index := 55) hx hb htsB xC_8 hown rfl (by decide) xw_665 (And.intro (by decide +kernel) rfl)) ?_
  refine xa_cons 41 ((And.intro (by decide) (Exists.intro (23) (And.intro (by decide +kernel) (And.intro (by decide +kernel) rfl))))) ?_
  refine xa_cons 42 ((And.intro (by decide) (Or.inl (Exists.intro (0) (And.intro rfl (And.intro (by decide +kernel) rfl)))))) ?_
  refine xa_cons 43 ((And.intro (xc_callV (index := 100) (n := 0) (ci := 8) S xg_138 rfl xw_47 xw_692 xw_690 xw_691 rfl rfl rfl ⟨by decide, by decide, by decide +kernel⟩ rfl (And.intro (by decide +kernel) rfl)) (by decide +kernel))) ?_
  refine xa_cons 44 (xc_bipush hx hb (z := 41) (b := 41) (And.intro (by decide +kernel) rfl) (by decide +kernel) ⟨rfl, rfl⟩) ?_
  refine xa_cons 45 ((And.intro (by decide) (Exists.intro (14) (And.intro (by decide +kernel) (And.intro (by decide +kernel) rfl))))) ?_
  refine xa_cons 46 ((And.intro (by decide) (Or.inl (Exists.intro (0) (And.intro rfl (And.intro (by decide +kernel) rfl)))))) ?_
  refine xa_cons 47 (xc_iconst hx hb (z := 0) (b := 0) (And.intro (by decide +kernel) rfl) (by decide +kernel) ⟨rfl, rfl⟩) ?_
  refine xa_cons 48 ((And.intro (xc_callV (index := 128) (n := 1) (ci := 8) S xg_139 rfl xw_47 xw_695 xw_693 xw_694 rfl rfl rfl ⟨by decide, by decide, by decide +kernel⟩ rfl (And.intro (by decide +kernel) rfl)) (by decide +kernel))) ?_
  refine xa_cons 49 ((Exists.intro (1) (And.intro (And.intro (by decide +kernel) rfl) (by decide +kernel)))) ?_
  refine xa_cons 50 ((Exists.intro (-32) (And.intro (by decide +kernel) (by decide +kernel)))) ?_
  refine xa_cons 51 ((And.intro (by decide) (Or.inl (Exists.intro (0) (And.intro rfl (And.intro (by decide +kernel) rfl)))))) ?_
  refine xa_cons 52 (xc_bipush hx hb (z := 41) (b := 41) (And.intro (by decide +kernel) rfl) (by decide +kernel) ⟨rfl, rfl⟩) ?_
  refine xa_cons 53 ((And.intro (xc_callV (index := 125) (n := 1) (ci := 8) S xg_137 rfl xw_47 xw_689 xw_687 xw_688 rfl rfl rfl ⟨by decide, by decide, by decide +kernel⟩ rfl (And.intro (by decide +kernel) rfl)) (by decide +kernel))) ?_
  refine xa_cons 54 ((Exists.intro (8) (And.intro (by decide +kernel) (by decide +kernel)))) ?_
  refine xa_cons 55 ((And.intro (by decide) (Or.inl (Exists.intro (0) (And.intro rfl (And.intro (by decide +kernel) rfl)))))) ?_
  refine xa_cons 56 (xc_iconst hx hb (z := 1) (b := 1) (And.intro (by decide +kernel) rfl) (by decide +kernel) ⟨rfl, rfl⟩) ?_
  refine xa_cons 57 ((And.intro (xc_callV (index := 128) (n := 1) (ci := 8) S xg_139 rfl xw_47 xw_695 xw_693 xw_694 rfl rfl rfl ⟨by decide, by decide, by decide +kernel⟩ rfl (And.intro (by decide +kernel) rfl)) (by decide +kernel))) ?_
  refine xa_cons 58 ((And.intro (by decide) (Or.inl (Exists.intro (0) (And.intro rfl (And.intro (by decide +kernel) rfl)))))) ?_
  refine xa_cons 59 (xc_bipush hx hb (z := 59) (b := 59) (And.intro (by decide +kernel) rfl) (by decide +kernel) ⟨rfl, rfl⟩) ?_
  refine xa_cons 60 ((And.intro (xc_callV (index := 125) (n := 1) (ci := 8) S xg_137 rfl xw_47 xw_689 xw_687 xw_688 rfl rfl rfl ⟨by decide, by decide, by decide +kernel⟩ rfl (And.intro (by decide +kernel) rfl)) (by decide +kernel))) ?_
  refine xa_cons 61 ((And.intro (by decide) (Or.inl (Exists.intro (0) (And.intro rfl (And.intro (by decide +kernel) rfl)))))) ?_
  refine xa_cons 62 ((And.intro (by decide +kernel) rfl)) ?_
  refine xa_cons 63 (xc_getf (A := A) (own := "ExpressHouse$FileReader") (index := 68) hx hb htsB xC_8 hown rfl (by decide) xw_669 (And.intro (by decide +kernel) rfl)) ?_
  refine xa_cons 64 (xc_iconst hx hb (z := 1) (b := 1) (And.intro (by decide +kernel) rfl) (by decide +kernel) ⟨rfl, rfl⟩) ?_
  refine xa_cons 65 ((And.intro (by decide) (And.intro (by decide +kernel) rfl))) ?_
  refine xa_cons 66 (xc_putf (own := "ExpressHouse$FileReader") (index := 68) hx hb htsB xC_8 hown rfl (by decide) xw_669 rfl (rfl) (And.intro (by decide +kernel) rfl)) ?_
  refine xa_cons 67 ((And.intro hr (by decide +kernel))) ?_
  exact xa_nil
def xrp_85 : Nat → Nat := fun k => ([0, 1, 4, 7, 9, 10, 13, 14, 15, 16, 17, 20, 23, 26, 27, 28, 31, 34, 35, 38, 39, 40, 43, 44, 45, 48, 49, 52, 53, 56, 59, 60, 63, 64, 67, 70, 71, 74] : List Nat).getD k 0
set_option maxRecDepth 20000 in
set_option maxHeartbeats 4000000 in
theorem xz_85 {l : Launch} {D : va_G} {en : XE} : x_Ok xT l D xcl en xrn (xG en) 85 xc_85 := by
  refine ⟨prog_3_method_7_code, (some .int), xBIG, xrp_85, by decide +kernel, rfl, rfl, ?_⟩
  intro p e R s m args below meth c s₁ A Q pc i f1 f2 B hml hA hg hi
  obtain ⟨hx, hb, hr, hown, hlocks, hin, htsB, S⟩ := xb_all (C := "ExpressHouse$FileReader") B hml rfl rfl
  obtain ⟨hgN, hgZ, hgS, hgS2⟩ := xG_all hg
  refine xa_at (i := i) (pc := pc) ?_ hi
  refine xa_cons 0 ((And.intro (by decide) (Or.inl (Exists.intro (0) (And.intro rfl (And.intro (by decide +kernel) rfl)))))) ?_
  refine xa_cons 1 (xc_getf (A := A) (own := "ExpressHouse$FileReader") (index := 55) hx hb htsB xC_8 hown rfl (by decide) xw_665 (And.intro (by decide +kernel) rfl)) ?_
  refine xa_cons 2 ((And.intro (by decide) (Exists.intro (11) (And.intro (by decide +kernel) (And.intro (by decide +kernel) rfl))))) ?_
  refine xa_cons 3 (xc_bipush hx hb (z := -10) (b := 4294967286) (And.intro (by decide +kernel) rfl) (by decide +kernel) ⟨rfl, rfl⟩) ?_
  refine xa_cons 4 ((And.intro (by decide) (Or.inl (Exists.intro (0) (And.intro rfl (And.intro (by decide +kernel) rfl)))))) ?_
  refine xa_cons 5 (xc_getf (A := A) (own := "ExpressHouse$FileReader") (index := 81) hx hb htsB xC_8 hown rfl (by decide) xw_696 (And.intro (by decide +kernel) rfl)) ?_
  refine xa_cons 6 ((And.intro (by decide) (And.intro (by decide +kernel) rfl))) ?_
  refine xa_cons 7 ((And.intro hr (by decide +kernel))) ?_
  refine xa_cons 8 ((And.intro (by decide) (Or.inl (Exists.intro (0) (And.intro rfl (And.intro (by decide +kernel) rfl)))))) ?_
  refine xa_cons 9 ((And.intro (by decide) (Or.inl (Exists.intro (0) (And.intro rfl (And.intro (by decide +kernel) rfl)))))) ?_
  refine xa_cons 10 (xc_getf (A := A) (own := "ExpressHouse$FileReader") (index := 37) hx hb htsB xC_8 hown rfl (by decide) xw_294 (And.intro (by decide +kernel) rfl)) ?_
  refine xa_cons 11 (xc_getf (A := A) (own := "ExpressHouse$FileReader") (index := 71) hx hb htsB xC_2 hown rfl (by decide) xw_670 (And.intro (by decide +kernel) rfl)) ?_
  refine xa_cons 12 (xc_putf (own := "ExpressHouse$FileReader") (index := 49) hx hb htsB xC_8 hown rfl (by decide) xw_697 rfl (rfl) (And.intro (by decide +kernel) rfl)) ?_
  refine xa_cons 13 ((And.intro (by decide) (Or.inl (Exists.intro (0) (And.intro rfl (And.intro (by decide +kernel) rfl)))))) ?_
  refine xa_cons 14 ((And.intro (by decide) (Or.inl (Exists.intro (0) (And.intro rfl (And.intro (by decide +kernel) rfl)))))) ?_
  refine xa_cons 15 (xc_getf (A := A) (own := "ExpressHouse$FileReader") (index := 58) hx hb htsB xC_8 hown rfl (by decide) xw_666 (And.intro (by decide +kernel) rfl)) ?_
  refine xa_cons 16 (xc_putf (own := "ExpressHouse$FileReader") (index := 45) hx hb htsB xC_8 hown rfl (by decide) xw_533 rfl (rfl) (And.intro (by decide +kernel) rfl)) ?_
  refine xa_cons 17 ((And.intro (by decide) (Or.inl (Exists.intro (0) (And.intro rfl (And.intro (by decide +kernel) rfl)))))) ?_
  refine xa_cons 18 (xc_getf (A := A) (own := "ExpressHouse$FileReader") (index := 15) hx hb htsB xC_8 hown rfl (by decide) xw_289 (And.intro (by decide +kernel) rfl)) ?_
  refine xa_cons 19 (xc_iconst hx hb (z := 0) (b := 0) (And.intro (by decide +kernel) rfl) (by decide +kernel) ⟨rfl, rfl⟩) ?_
  refine xa_cons 20 ((And.intro (by decide) (Or.inl (Exists.intro (0) (And.intro rfl (And.intro (by decide +kernel) rfl)))))) ?_
  refine xa_cons 21 (xc_getf (A := A) (own := "ExpressHouse$FileReader") (index := 34) hx hb htsB xC_8 hown rfl (by decide) xw_293 (And.intro (by decide +kernel) rfl)) ?_
  refine xa_cons 22 (xc_iconst hx hb (z := 0) (b := 0) (And.intro (by decide +kernel) rfl) (by decide +kernel) ⟨rfl, rfl⟩) ?_
  refine xa_cons 23 ((And.intro (by decide) (Or.inl (Exists.intro (0) (And.intro rfl (And.intro (by decide +kernel) rfl)))))) ?_
  refine xa_cons 24 (xc_getf (A := A) (own := "ExpressHouse$FileReader") (index := 58) hx hb htsB xC_8 hown rfl (by decide) xw_666 (And.intro (by decide +kernel) rfl)) ?_
  refine xa_cons 25 ((And.intro (by decide) (Or.inl (Exists.intro (0) (And.intro rfl (And.intro (by decide +kernel) rfl)))))) ?_
  refine xa_cons 26 (xc_getf (A := A) (own := "ExpressHouse$FileReader") (index := 34) hx hb htsB xC_8 hown rfl (by decide) xw_293 (And.intro (by decide +kernel) rfl)) ?_
  refine xa_cons 27 ((And.intro (by decide +kernel) rfl)) ?_
  refine xa_cons 28 ((Exists.intro ("ExpressHouse$FileReader") (Exists.intro (84) (And.intro hown (And.intro (htsB _ xw_475) (And.intro hml (And.intro (by omega) (And.intro (by omega) (And.intro (And.intro (by decide +kernel) rfl) (Or.inl (And.intro rfl (And.intro (htsB _ xw_698) (And.intro (htsB _ xw_473) (htsB _ xw_474)))))))))))))) ?_
  refine xa_cons 29 ((Exists.intro ("ExpressHouse$FileReader") (Exists.intro (90) (And.intro hown (And.intro (htsB _ xw_699) (And.intro (htsB _ xw_657) (And.intro (htsB _ xw_658) (And.intro (htsB _ xw_659) (And.intro (And.intro (by decide +kernel) rfl) (And.intro hml (And.intro (by omega) (by omega)))))))))))) ?_
  refine xa_cons 30 ((And.intro (by decide) (Or.inl (Exists.intro (0) (And.intro rfl (And.intro (by decide +kernel) rfl)))))) ?_
  refine xa_cons 31 (xc_getf (A := A) (own := "ExpressHouse$FileReader") (index := 37) hx hb htsB xC_8 hown rfl (by decide) xw_294 (And.intro (by decide +kernel) rfl)) ?_
  refine xa_cons 32 ((And.intro (by decide) (Or.inl (Exists.intro (0) (And.intro rfl (And.intro (by decide +kernel) rfl)))))) ?_
  refine xa_cons 33 (xc_getf (A := A) (own := "ExpressHouse$FileReader") (index := 58) hx hb htsB xC_8 hown rfl (by decide) xw_666 (And.intro (by decide +kernel) rfl)) ?_
  refine xa_cons 34 ((And.intro (xc_callV (index := 96) (n := 1) (ci := 2) S xg_140 rfl xw_12 xw_702 xw_700 xw_701 rfl rfl rfl ⟨by decide, by decide, by decide +kernel⟩ rfl (And.intro (by decide +kernel) rfl)) (by decide +kernel))) ?_
  refine xa_cons 35 ((And.intro (by decide) (Or.inl (Exists.intro (0) (And.intro rfl (And.intro (by decide +kernel) rfl)))))) ?_
  refine xa_cons 36 (xc_getf (A := A) (own := "ExpressHouse$FileReader") (index := 58) hx hb htsB xC_8 hown rfl (by decide) xw_666 (And.intro (by decide +kernel) rfl)) ?_
  refine xa_cons 37 ((And.intro hr (by decide +kernel))) ?_
  exact xa_nil
end AMM4
