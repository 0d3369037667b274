section AMM22
def xrp_332 : Nat → Nat := fun k => ([0, 1, 2, 5, 7, 9, 12, 13, 14, 17, 20, 22, 24, 25, 28, 31, 33, 36, 37, 40, 41, 42, 45, 47, 48, 51, 52, 53, 56, 58, 59, 62, 63, 64, 67, 69, 71, 74, 75, 77, 79, 82, 85, 87, 90, 91, 92, 95, 97, 100, 103, 104, 106, 109, 110, 112, 114, 117, 120, 122, 125, 126, 128, 130, 133, 136, 138, 141, 142, 144, 146, 149, 152, 153, 156, 157, 158, 161] : List Nat).getD k 0
set_option maxRecDepth 20000 in
set_option maxHeartbeats 4000000 in
theorem xz_332 {l : Launch} {D : va_G} {en : XE} : x_Ok xT l D xcl en xrn (xG en) 332 xc_332 := by
  refine ⟨prog_2_method_28_code, none, xBIG, xrp_332, by decide +kernel, rfl, rfl, ?_⟩
  intro p e R s m args below meth c s₁ A Q pc i f1 f2 B hml hA hg hi
  obtain ⟨hx, hb, hr, hown, hlocks, hin, htsB, S⟩ := xb_all (C := "ExpressHouse$Expressions") B hml rfl rfl
  obtain ⟨hgN, hgZ, hgS, hgS2⟩ := xG_all hg
  refine xa_at (i := i) (pc := pc) ?_ hi
  refine xa_cons 0 ((And.intro (by decide) (Or.inl (Exists.intro (0) (And.intro rfl (And.intro (by decide +kernel) rfl)))))) ?_
  refine xa_cons 1 ((And.intro (by decide) (Or.inl (Exists.intro (1) (And.intro rfl (And.intro (by decide +kernel) rfl)))))) ?_
  refine xa_cons 2 ((And.intro (xc_callV (index := 181) (n := 1) (ci := 4) S xg_312 rfl xw_22 xw_1440 xw_1351 xw_1352 rfl rfl rfl ⟨by decide, by decide, by decide +kernel⟩ rfl (And.intro (by decide +kernel) rfl)) (by decide +kernel))) ?_
  refine xa_cons 3 ((And.intro (Or.inl rfl) (Or.inr (And.intro (by decide +kernel) rfl)))) ?_
  refine xa_cons 4 ((And.intro (by decide) (Or.inr (And.intro (by decide +kernel) rfl)))) ?_
  refine xa_cons 5 ((And.intro (by decide) (Exists.intro (11) (And.intro (by decide +kernel) (And.intro (by decide +kernel) rfl))))) ?_
  refine xa_cons 6 ((And.intro (by decide) (Or.inl (Exists.intro (0) (And.intro rfl (And.intro (by decide +kernel) rfl)))))) ?_
  refine xa_cons 7 ((And.intro (by decide) (Or.inl (Exists.intro (1) (And.intro rfl (And.intro (by decide +kernel) rfl)))))) ?_
  refine xa_cons 8 ((And.intro (xc_callV (index := 185) (n := 1) (ci := 4) S xg_235 rfl xw_22 xw_1441 xw_1048 xw_1049 rfl rfl rfl ⟨by decide, by decide, by decide +kernel⟩ rfl (And.intro (by decide +kernel) rfl)) (by decide +kernel))) ?_
  refine xa_cons 9 ((Exists.intro (5) (And.intro (by decide +kernel) (by decide +kernel)))) ?_
  refine xa_cons 10 ((And.intro (by decide) (Or.inr (And.intro (by decide +kernel) rfl)))) ?_
  refine xa_cons 11 ((And.intro (Or.inl rfl) (Or.inr (And.intro (by decide +kernel) rfl)))) ?_
  refine xa_cons 12 ((And.intro (by decide) (Or.inl (Exists.intro (0) (And.intro rfl (And.intro (by decide +kernel) rfl)))))) ?_
  refine xa_cons 13 (xc_getf (A := A) (own := "ExpressHouse$Expressions") (index := 44) hx hb htsB xC_4 hown rfl (by decide) xw_998 (And.intro (by decide +kernel) rfl)) ?_
  refine xa_cons 14 ((And.intro (by decide) (Exists.intro (8) (And.intro (by decide +kernel) (And.intro (by decide +kernel) rfl))))) ?_
  refine xa_cons 15 (xc_bipush hx hb (z := -3) (b := 4294967293) (And.intro (by decide +kernel) rfl) (by decide +kernel) ⟨rfl, rfl⟩) ?_
  refine xa_cons 16 ((Exists.intro (12) (And.intro (by decide +kernel) (by decide +kernel)))) ?_
  refine xa_cons 17 ((And.intro (by decide) (Or.inl (Exists.intro (0) (And.intro rfl (And.intro (by decide +kernel) rfl)))))) ?_
  refine xa_cons 18 (xc_getf (A := A) (own := "ExpressHouse$Expressions") (index := 28) hx hb htsB xC_4 hown rfl (by decide) xw_253 (And.intro (by decide +kernel) rfl)) ?_
  refine xa_cons 19 (xc_iconst hx hb (z := 3) (b := 3) (And.intro (by decide +kernel) rfl) (by decide +kernel) ⟨rfl, rfl⟩) ?_
  refine xa_cons 20 ((And.intro (by decide) (Or.inl (Exists.intro (1) (And.intro rfl (And.intro (by decide +kernel) rfl)))))) ?_
  refine xa_cons 21 ((And.intro (xc_callV (index := 143) (n := 2) (ci := 3) S xg_217 rfl xw_15 xw_1424 xw_981 xw_982 rfl rfl rfl ⟨by decide, by decide, by decide +kernel⟩ rfl (And.intro (by decide +kernel) rfl)) (by decide +kernel))) ?_
  refine xa_cons 22 ((And.intro (Or.inl rfl) (Or.inr (And.intro (by decide +kernel) rfl)))) ?_
  refine xa_cons 23 ((And.intro (by decide) (Or.inl (Exists.intro (0) (And.intro rfl (And.intro (by decide +kernel) rfl)))))) ?_
  refine xa_cons 24 (xc_getf (A := A) (own := "ExpressHouse$Expressions") (index := 28) hx hb htsB xC_4 hown rfl (by decide) xw_253 (And.intro (by decide +kernel) rfl)) ?_
  refine xa_cons 25 (xc_iconst hx hb (z := 1) (b := 1) (And.intro (by decide +kernel) rfl) (by decide +kernel) ⟨rfl, rfl⟩) ?_
  refine xa_cons 26 ((And.intro (by decide) (Or.inl (Exists.intro (1) (And.intro rfl (And.intro (by decide +kernel) rfl)))))) ?_
  refine xa_cons 27 ((And.intro (xc_callV (index := 143) (n := 2) (ci := 3) S xg_217 rfl xw_15 xw_1424 xw_981 xw_982 rfl rfl rfl ⟨by decide, by decide, by decide +kernel⟩ rfl (And.intro (by decide +kernel) rfl)) (by decide +kernel))) ?_
  refine xa_cons 28 ((And.intro (Or.inl rfl) (Or.inr (And.intro (by decide +kernel) rfl)))) ?_
  refine xa_cons 29 ((And.intro (by decide) (Or.inl (Exists.intro (0) (And.intro rfl (And.intro (by decide +kernel) rfl)))))) ?_
  refine xa_cons 30 (xc_getf (A := A) (own := "ExpressHouse$Expressions") (index := 28) hx hb htsB xC_4 hown rfl (by decide) xw_253 (And.intro (by decide +kernel) rfl)) ?_
  refine xa_cons 31 (xc_iconst hx hb (z := 2) (b := 2) (And.intro (by decide +kernel) rfl) (by decide +kernel) ⟨rfl, rfl⟩) ?_
  refine xa_cons 32 ((And.intro (by decide) (Or.inl (Exists.intro (1) (And.intro rfl (And.intro (by decide +kernel) rfl)))))) ?_
  refine xa_cons 33 ((And.intro (xc_callV (index := 143) (n := 2) (ci := 3) S xg_217 rfl xw_15 xw_1424 xw_981 xw_982 rfl rfl rfl ⟨by decide, by decide, by decide +kernel⟩ rfl (And.intro (by decide +kernel) rfl)) (by decide +kernel))) ?_
  refine xa_cons 34 ((And.intro (Or.inl rfl) (Or.inr (And.intro (by decide +kernel) rfl)))) ?_
  refine xa_cons 35 ((And.intro (by decide) (Or.inr (And.intro (by decide +kernel) rfl)))) ?_
  refine xa_cons 36 ((And.intro (by decide) (Exists.intro (14) (And.intro (by decide +kernel) (And.intro (by decide +kernel) rfl))))) ?_
  refine xa_cons 37 ((And.intro (by decide) (Or.inl (Exists.intro (0) (And.intro rfl (And.intro (by decide +kernel) rfl)))))) ?_
  refine xa_cons 38 (xc_bipush hx hb (z := 10) (b := 10) (And.intro (by decide +kernel) rfl) (by decide +kernel) ⟨rfl, rfl⟩) ?_
  refine xa_cons 39 ((And.intro (by decide) (Or.inr (And.intro (by decide +kernel) rfl)))) ?_
  refine xa_cons 40 ((And.intro (xc_callV (index := 101) (n := 2) (ci := 4) S xg_161 rfl xw_22 xw_1086 xw_772 xw_773 rfl rfl rfl ⟨by decide, by decide, by decide +kernel⟩ rfl (And.intro (by decide +kernel) rfl)) (by decide +kernel))) ?_
  refine xa_cons 41 ((Exists.intro (79) (And.intro (by decide +kernel) (by decide +kernel)))) ?_
  refine xa_cons 42 ((And.intro (by decide) (Or.inr (And.intro (by decide +kernel) rfl)))) ?_
  refine xa_cons 43 ((And.intro (by decide) (Exists.intro (33) (And.intro (by decide +kernel) (And.intro (by decide +kernel) rfl))))) ?_
  refine xa_cons 44 ((And.intro (by decide) (Or.inl (Exists.intro (0) (And.intro rfl (And.intro (by decide +kernel) rfl)))))) ?_
  refine xa_cons 45 ((And.intro (by decide) (Or.inl (Exists.intro (0) (And.intro rfl (And.intro (by decide +kernel) rfl)))))) ?_
  refine xa_cons 46 (xc_getf (A := A) (own := "ExpressHouse$Expressions") (index := 44) hx hb htsB xC_4 hown rfl (by decide) xw_998 (And.intro (by decide +kernel) rfl)) ?_
  refine xa_cons 47 ((And.intro (by decide) (Or.inr (And.intro (by decide +kernel) rfl)))) ?_
  refine xa_cons 48 ((And.intro (xc_callV (index := 188) (n := 2) (ci := 4) S xg_311 rfl xw_22 xw_1442 xw_1348 xw_1349 rfl rfl rfl ⟨by decide, by decide, by decide +kernel⟩ rfl (And.intro (by decide +kernel) rfl)) (by decide +kernel))) ?_
  refine xa_cons 49 ((And.intro (by decide) (Exists.intro (20) (And.intro (by decide +kernel) (And.intro (by decide +kernel) rfl))))) ?_
  refine xa_cons 50 ((And.intro (by decide) (Or.inl (Exists.intro (0) (And.intro rfl (And.intro (by decide +kernel) rfl)))))) ?_
  refine xa_cons 51 (xc_bipush hx hb (z := 9) (b := 9) (And.intro (by decide +kernel) rfl) (by decide +kernel) ⟨rfl, rfl⟩) ?_
  refine xa_cons 52 ((And.intro (xc_callV (index := 73) (n := 1) (ci := 4) S xg_167 rfl xw_22 xw_829 xw_795 xw_796 rfl rfl rfl ⟨by decide, by decide, by decide +kernel⟩ rfl (And.intro (by decide +kernel) rfl)) (by decide +kernel))) ?_
  refine xa_cons 53 ((And.intro (by decide) (Or.inl (Exists.intro (0) (And.intro rfl (And.intro (by decide +kernel) rfl)))))) ?_
  refine xa_cons 54 (xc_bipush hx hb (z := 11) (b := 11) (And.intro (by decide +kernel) rfl) (by decide +kernel) ⟨rfl, rfl⟩) ?_
  refine xa_cons 55 ((And.intro (by decide) (Or.inr (And.intro (by decide +kernel) rfl)))) ?_
  refine xa_cons 56 ((And.intro (xc_callV (index := 101) (n := 2) (ci := 4) S xg_161 rfl xw_22 xw_1086 xw_772 xw_773 rfl rfl rfl ⟨by decide, by decide, by decide +kernel⟩ rfl (And.intro (by decide +kernel) rfl)) (by decide +kernel))) ?_
  refine xa_cons 57 ((Exists.intro (44) (And.intro (by decide +kernel) (by decide +kernel)))) ?_
  refine xa_cons 58 ((And.intro (by decide) (Or.inr (And.intro (by decide +kernel) rfl)))) ?_
  refine xa_cons 59 ((And.intro (by decide) (Exists.intro (14) (And.intro (by decide +kernel) (And.intro (by decide +kernel) rfl))))) ?_
  refine xa_cons 60 ((And.intro (by decide) (Or.inl (Exists.intro (0) (And.intro rfl (And.intro (by decide +kernel) rfl)))))) ?_
  refine xa_cons 61 (xc_bipush hx hb (z := 6) (b := 6) (And.intro (by decide +kernel) rfl) (by decide +kernel) ⟨rfl, rfl⟩) ?_
  refine xa_cons 62 ((And.intro (by decide) (Or.inr (And.intro (by decide +kernel) rfl)))) ?_
  refine xa_cons 63 ((And.intro (xc_callV (index := 101) (n := 2) (ci := 4) S xg_161 rfl xw_22 xw_1086 xw_772 xw_773 rfl rfl rfl ⟨by decide, by decide, by decide +kernel⟩ rfl (And.intro (by decide +kernel) rfl)) (by decide +kernel))) ?_
  refine xa_cons 64 ((Exists.intro (28) (And.intro (by decide +kernel) (by decide +kernel)))) ?_
  refine xa_cons 65 ((And.intro (by decide) (Or.inr (And.intro (by decide +kernel) rfl)))) ?_
  refine xa_cons 66 ((And.intro (by decide) (Exists.intro (14) (And.intro (by decide +kernel) (And.intro (by decide +kernel) rfl))))) ?_
  refine xa_cons 67 ((And.intro (by decide) (Or.inl (Exists.intro (0) (And.intro rfl (And.intro (by decide +kernel) rfl)))))) ?_
  refine xa_cons 68 (xc_bipush hx hb (z := 8) (b := 8) (And.intro (by decide +kernel) rfl) (by decide +kernel) ⟨rfl, rfl⟩) ?_
  refine xa_cons 69 ((And.intro (by decide) (Or.inr (And.intro (by decide +kernel) rfl)))) ?_
  refine xa_cons 70 ((And.intro (xc_callV (index := 101) (n := 2) (ci := 4) S xg_161 rfl xw_22 xw_1086 xw_772 xw_773 rfl rfl rfl ⟨by decide, by decide, by decide +kernel⟩ rfl (And.intro (by decide +kernel) rfl)) (by decide +kernel))) ?_
  refine xa_cons 71 ((Exists.intro (12) (And.intro (by decide +kernel) (by decide +kernel)))) ?_
  refine xa_cons 72 ((And.intro (by decide) (Or.inl (Exists.intro (0) (And.intro rfl (And.intro (by decide +kernel) rfl)))))) ?_
  refine xa_cons 73 (xc_getf (A := A) (own := "ExpressHouse$Expressions") (index := 24) hx hb htsB xC_4 hown rfl (by decide) xw_252 (And.intro (by decide +kernel) rfl)) ?_
  refine xa_cons 74 (xc_iconst hx hb (z := 4) (b := 4) (And.intro (by decide +kernel) rfl) (by decide +kernel) ⟨rfl, rfl⟩) ?_
  refine xa_cons 75 ((And.intro (by decide) (Or.inl (Exists.intro (3) (And.intro rfl (And.intro (by decide +kernel) rfl)))))) ?_
  refine xa_cons 76 ((And.intro (xc_callV (index := 150) (n := 2) (ci := 1) S xg_153 rfl xw_7 xw_1425 xw_745 xw_746 rfl rfl rfl ⟨by decide, by decide, by decide +kernel⟩ rfl (And.intro (by decide +kernel) rfl)) (by decide +kernel))) ?_
  refine xa_cons 77 ((And.intro hr (by decide +kernel))) ?_
  exact xa_nil
def xrp_333 : Nat → Nat := fun k => ([0, 1, 4, 7, 8, 11, 14, 15, 18, 21, 22, 25, 28, 29] : List Nat).getD k 0
set_option maxRecDepth 20000 in
set_option maxHeartbeats 4000000 in
theorem xz_333 {l : Launch} {D : va_G} {en : XE} : x_Ok xT l D xcl en xrn (xG en) 333 xc_333 := by
  refine ⟨prog_1_method_12_code, (some .int), xBIG, xrp_333, by decide +kernel, rfl, rfl, ?_⟩
  intro p e R s m args below meth c s₁ A Q pc i f1 f2 B hml hA hg hi
  obtain ⟨hx, hb, hr, hown, hlocks, hin, htsB, S⟩ := xb_all (C := "ExpressHouse") B hml rfl rfl
  obtain ⟨hgN, hgZ, hgS, hgS2⟩ := xG_all hg
  refine xa_at (i := i) (pc := pc) ?_ hi
  refine xa_cons 0 ((And.intro (by decide) (Or.inl (Exists.intro (0) (And.intro rfl (And.intro (by decide +kernel) rfl)))))) ?_
  refine xa_cons 1 (xc_getf (A := A) (own := "ExpressHouse") (index := 28) hx hb htsB xC_0 hown rfl (by decide) xw_19 (And.intro (by decide +kernel) rfl)) ?_
  refine xa_cons 2 (xc_getf (A := A) (own := "ExpressHouse") (index := 34) hx hb htsB xC_2 hown rfl (by decide) xw_23 (And.intro (by decide +kernel) rfl)) ?_
  refine xa_cons 3 ((And.intro (by decide) (Or.inl (Exists.intro (1) (And.intro rfl (And.intro (by decide +kernel) rfl)))))) ?_
  refine xa_cons 4 ((And.intro (xc_callV (index := 192) (n := 1) (ci := 3) S xg_50 rfl xw_15 xw_342 xw_340 xw_341 rfl rfl rfl ⟨by decide, by decide, by decide +kernel⟩ rfl (And.intro (by decide +kernel) rfl)) (by decide +kernel))) ?_
  refine xa_cons 5 ((And.intro (by decide) (Exists.intro (17) (And.intro (by decide +kernel) (And.intro (by decide +kernel) rfl))))) ?_
  refine xa_cons 6 ((And.intro (by decide) (Or.inl (Exists.intro (0) (And.intro rfl (And.intro (by decide +kernel) rfl)))))) ?_
  refine xa_cons 7 (xc_getf (A := A) (own := "ExpressHouse") (index := 28) hx hb htsB xC_0 hown rfl (by decide) xw_19 (And.intro (by decide +kernel) rfl)) ?_
  refine xa_cons 8 (xc_getf (A := A) (own := "ExpressHouse") (index := 34) hx hb htsB xC_2 hown rfl (by decide) xw_23 (And.intro (by decide +kernel) rfl)) ?_
  refine xa_cons 9 ((And.intro (by decide) (Or.inl (Exists.intro (1) (And.intro rfl (And.intro (by decide +kernel) rfl)))))) ?_
  refine xa_cons 10 ((And.intro (xc_callV (index := 196) (n := 1) (ci := 3) S xg_51 rfl xw_15 xw_345 xw_343 xw_344 rfl rfl rfl ⟨by decide, by decide, by decide +kernel⟩ rfl (And.intro (by decide +kernel) rfl)) (by decide +kernel))) ?_
  refine xa_cons 11 ((Exists.intro (4) (And.intro (by decide +kernel) (by decide +kernel)))) ?_
  refine xa_cons 12 (xc_iconst hx hb (z := -1) (b := 4294967295) (And.intro (by decide +kernel) rfl) (by decide +kernel) ⟨rfl, rfl⟩) ?_
  refine xa_cons 13 ((And.intro hr (by decide +kernel))) ?_
  exact xa_nil
def xrp_334 : Nat → Nat := fun k => ([0, 1, 4, 5, 6, 9, 10, 11, 12, 15, 16, 19, 22, 23, 24, 27, 30, 32, 35, 37, 38, 39, 64, 65, 68, 71, 72, 73, 76, 79, 80, 81, 84, 87, 88, 89, 90, 93, 96] : List Nat).getD k 0
set_option maxRecDepth 20000 in
set_option maxHeartbeats 4000000 in
theorem xz_334 {l : Launch} {D : va_G} {en : XE} : x_Ok xT l D xcl en xrn (xG en) 334 xc_334 := by
  refine ⟨prog_1_method_22_code, (some .int), xBIG, xrp_334, by decide +kernel, rfl, rfl, ?_⟩
  intro p e R s m args below meth c s₁ A Q pc i f1 f2 B hml hA hg hi
  obtain ⟨hx, hb, hr, hown, hlocks, hin, htsB, S⟩ := xb_all (C := "ExpressHouse") B hml rfl rfl
  obtain ⟨hgN, hgZ, hgS, hgS2⟩ := xG_all hg
  refine xa_at (i := i) (pc := pc) ?_ hi
  refine xa_cons 0 ((And.intro (by decide) (Or.inl (Exists.intro (1) (And.intro rfl (And.intro (by decide +kernel) rfl)))))) ?_
  refine xa_cons 1 ((And.intro (by decide) (Exists.intro (8) (And.intro (by decide +kernel) (And.intro (by decide +kernel) rfl))))) ?_
  refine xa_cons 2 ((And.intro (by decide) (Or.inl (Exists.intro (1) (And.intro rfl (And.intro (by decide +kernel) rfl)))))) ?_
  refine xa_cons 3 (xc_iconst hx hb (z := 4) (b := 4) (And.intro (by decide +kernel) rfl) (by decide +kernel) ⟨rfl, rfl⟩) ?_
  refine xa_cons 4 ((And.intro (by decide) (Exists.intro (5) (And.intro (by decide +kernel) (And.intro (by decide +kernel) rfl))))) ?_
  refine xa_cons 5 (xc_iconst hx hb (z := -1) (b := 4294967295) (And.intro (by decide +kernel) rfl) (by decide +kernel) ⟨rfl, rfl⟩) ?_
  refine xa_cons 6 ((And.intro hr (by decide +kernel))) ?_
  refine xa_cons 7 ((And.intro (by decide) (Or.inl (Exists.intro (1) (And.intro rfl (And.intro (by decide +kernel) rfl)))))) ?_
  refine xa_cons 8 ((And.intro (by decide) (Exists.intro (11) (And.intro (by decide +kernel) (And.intro (by decide +kernel) rfl))))) ?_
  refine xa_cons 9 ((And.intro (by decide) (Or.inl (Exists.intro (0) (And.intro rfl (And.intro (by decide +kernel) rfl)))))) ?_
  refine xa_cons 10 (xc_getf (A := A) (own := "ExpressHouse") (index := 93) hx hb htsB xC_0 hown rfl (by decide) xw_61 (And.intro (by decide +kernel) rfl)) ?_
  refine xa_cons 11 (xc_getf (A := A) (own := "ExpressHouse") (index := 248) hx hb htsB xC_10 hown rfl (by decide) xw_374 (And.intro (by decide +kernel) rfl)) ?_
  refine xa_cons 12 ((And.intro hr (by decide +kernel))) ?_
  refine xa_cons 13 ((And.intro (by decide) (Or.inl (Exists.intro (0) (And.intro rfl (And.intro (by decide +kernel) rfl)))))) ?_
  refine xa_cons 14 (xc_getf (A := A) (own := "ExpressHouse") (index := 93) hx hb htsB xC_0 hown rfl (by decide) xw_61 (And.intro (by decide +kernel) rfl)) ?_
  refine xa_cons 15 (xc_getf (A := A) (own := "ExpressHouse") (index := 248) hx hb htsB xC_10 hown rfl (by decide) xw_374 (And.intro (by decide +kernel) rfl)) ?_
  refine xa_cons 16 (xc_bipush hx hb (z := 6) (b := 6) (And.intro (by decide +kernel) rfl) (by decide +kernel) ⟨rfl, rfl⟩) ?_
  refine xa_cons 17 ((And.intro (by decide) (Exists.intro (6) (And.intro (by decide +kernel) (And.intro (by decide +kernel) rfl))))) ?_
  refine xa_cons 18 (xc_bipush hx hb (z := -3) (b := 4294967293) (And.intro (by decide +kernel) rfl) (by decide +kernel) ⟨rfl, rfl⟩) ?_
  refine xa_cons 19 ((And.intro hr (by decide +kernel))) ?_
  refine xa_cons 20 ((And.intro (by decide) (Or.inl (Exists.intro (1) (And.intro rfl (And.intro (by decide +kernel) rfl)))))) ?_
  refine xa_cons 21 (xc_table hx hb (by decide +kernel : decode prog_1_method_22_code 39 = .ok (.tableswitch 50 1 3 #[25, 33, 41], 25)) (by decide +kernel) (by decide) (by decide +kernel) (by decide) (by decide +kernel)) ?_
  refine xa_cons 22 ((And.intro (by decide) (Or.inl (Exists.intro (0) (And.intro rfl (And.intro (by decide +kernel) rfl)))))) ?_
  refine xa_cons 23 (xc_getf (A := A) (own := "ExpressHouse") (index := 93) hx hb htsB xC_0 hown rfl (by decide) xw_61 (And.intro (by decide +kernel) rfl)) ?_
  refine xa_cons 24 (xc_getf (A := A) (own := "ExpressHouse") (index := 262) hx hb htsB xC_10 hown rfl (by decide) xw_1443 (And.intro (by decide +kernel) rfl)) ?_
  refine xa_cons 25 ((And.intro hr (by decide +kernel))) ?_
  refine xa_cons 26 ((And.intro (by decide) (Or.inl (Exists.intro (0) (And.intro rfl (And.intro (by decide +kernel) rfl)))))) ?_
  refine xa_cons 27 (xc_getf (A := A) (own := "ExpressHouse") (index := 93) hx hb htsB xC_0 hown rfl (by decide) xw_61 (And.intro (by decide +kernel) rfl)) ?_
  refine xa_cons 28 (xc_getf (A := A) (own := "ExpressHouse") (index := 265) hx hb htsB xC_10 hown rfl (by decide) xw_1444 (And.intro (by decide +kernel) rfl)) ?_
  refine xa_cons 29 ((And.intro hr (by decide +kernel))) ?_
  refine xa_cons 30 ((And.intro (by decide) (Or.inl (Exists.intro (0) (And.intro rfl (And.intro (by decide +kernel) rfl)))))) ?_
  refine xa_cons 31 (xc_getf (A := A) (own := "ExpressHouse") (index := 93) hx hb htsB xC_0 hown rfl (by decide) xw_61 (And.intro (by decide +kernel) rfl)) ?_
  refine xa_cons 32 (xc_getf (A := A) (own := "ExpressHouse") (index := 268) hx hb htsB xC_10 hown rfl (by decide) xw_438 (And.intro (by decide +kernel) rfl)) ?_
  refine xa_cons 33 ((And.intro (by decide +kernel) rfl)) ?_
  refine xa_cons 34 ((And.intro hr (by decide +kernel))) ?_
  refine xa_cons 35 ((And.intro (by decide) (Or.inl (Exists.intro (0) (And.intro rfl (And.intro (by decide +kernel) rfl)))))) ?_
  refine xa_cons 36 (xc_getf (A := A) (own := "ExpressHouse") (index := 93) hx hb htsB xC_0 hown rfl (by decide) xw_61 (And.intro (by decide +kernel) rfl)) ?_
  refine xa_cons 37 (xc_getf (A := A) (own := "ExpressHouse") (index := 272) hx hb htsB xC_10 hown rfl (by decide) xw_436 (And.intro (by decide +kernel) rfl)) ?_
  refine xa_cons 38 ((And.intro hr (by decide +kernel))) ?_
  exact xa_nil
def xrp_335 : Nat → Nat := fun k => ([0, 1, 3, 6, 7, 10, 13, 14, 15, 18, 19, 22] : List Nat).getD k 0
set_option maxRecDepth 20000 in
set_option maxHeartbeats 4000000 in
theorem xz_335 {l : Launch} {D : va_G} {en : XE} : x_Ok xT l D xcl en xrn (xG en) 335 xc_335 := by
  refine ⟨prog_1_method_23_code, (some .long), xBIG, xrp_335, by decide +kernel, rfl, rfl, ?_⟩
  intro p e R s m args below meth c s₁ A Q pc i f1 f2 B hml hA hg hi
  obtain ⟨hx, hb, hr, hown, hlocks, hin, htsB, S⟩ := xb_all (C := "ExpressHouse") B hml rfl rfl
  obtain ⟨hgN, hgZ, hgS, hgS2⟩ := xG_all hg
  refine xa_at (i := i) (pc := pc) ?_ hi
  refine xa_cons 0 ((And.intro (by decide) (Or.inl (Exists.intro (1) (And.intro rfl (And.intro (by decide +kernel) rfl)))))) ?_
  refine xa_cons 1 (xc_bipush hx hb (z := -3) (b := 4294967293) (And.intro (by decide +kernel) rfl) (by decide +kernel) ⟨rfl, rfl⟩) ?_
  refine xa_cons 2 ((And.intro (by decide) (Exists.intro (11) (And.intro (by decide +kernel) (And.intro (by decide +kernel) rfl))))) ?_
  refine xa_cons 3 ((And.intro (by decide) (Or.inl (Exists.intro (0) (And.intro rfl (And.intro (by decide +kernel) rfl)))))) ?_
  refine xa_cons 4 (xc_getf (A := A) (own := "ExpressHouse") (index := 93) hx hb htsB xC_0 hown rfl (by decide) xw_61 (And.intro (by decide +kernel) rfl)) ?_
  refine xa_cons 5 (xc_getf (A := A) (own := "ExpressHouse") (index := 275) hx hb htsB xC_10 hown rfl (by decide) xw_1445 (And.intro (by decide +kernel) rfl)) ?_
  refine xa_cons 6 ((And.intro hr (by decide +kernel))) ?_
  refine xa_cons 7 ((And.intro (by decide) (Or.inl (Exists.intro (0) (And.intro rfl (And.intro (by decide +kernel) rfl)))))) ?_
  refine xa_cons 8 (xc_getf (A := A) (own := "ExpressHouse") (index := 93) hx hb htsB xC_0 hown rfl (by decide) xw_61 (And.intro (by decide +kernel) rfl)) ?_
  refine xa_cons 9 ((And.intro (by decide) (Or.inl (Exists.intro (1) (And.intro rfl (And.intro (by decide +kernel) rfl)))))) ?_
  refine xa_cons 10 ((And.intro (xc_callV (index := 279) (n := 1) (ci := 10) S xg_262 rfl xw_59 xw_1446 xw_1145 xw_1146 rfl rfl rfl ⟨by decide, by decide, by decide +kernel⟩ rfl (And.intro (by decide +kernel) rfl)) (by decide +kernel))) ?_
  refine xa_cons 11 ((And.intro hr (by decide +kernel))) ?_
  exact xa_nil
def xrp_336 : Nat → Nat := fun k => ([0, 1, 4, 5, 6, 9, 10, 11, 12, 15, 18, 19, 22, 23, 26, 27, 30, 31, 32, 35, 38, 39, 42, 43] : List Nat).getD k 0
set_option maxRecDepth 20000 in
set_option maxHeartbeats 4000000 in
theorem xz_336 {l : Launch} {D : va_G} {en : XE} : x_Ok xT l D xcl en xrn (xG en) 336 xc_336 := by
  refine ⟨prog_1_method_26_code, (some .int), xBIG, xrp_336, by decide +kernel, rfl, rfl, ?_⟩
  intro p e R s m args below meth c s₁ A Q pc i f1 f2 B hml hA hg hi
  obtain ⟨hx, hb, hr, hown, hlocks, hin, htsB, S⟩ := xb_all (C := "ExpressHouse") B hml rfl rfl
  obtain ⟨hgN, hgZ, hgS, hgS2⟩ := xG_all hg
  refine xa_at (i := i) (pc := pc) ?_ hi
  refine xa_cons 0 ((And.intro (by decide) (Or.inl (Exists.intro (1) (And.intro rfl (And.intro (by decide +kernel) rfl)))))) ?_
  refine xa_cons 1 ((And.intro (by decide) (Exists.intro (8) (And.intro (by decide +kernel) (And.intro (by decide +kernel) rfl))))) ?_
  refine xa_cons 2 ((And.intro (by decide) (Or.inl (Exists.intro (1) (And.intro rfl (And.intro (by decide +kernel) rfl)))))) ?_
  refine xa_cons 3 (xc_iconst hx hb (z := 4) (b := 4) (And.intro (by decide +kernel) rfl) (by decide +kernel) ⟨rfl, rfl⟩) ?_
  refine xa_cons 4 ((And.intro (by decide) (Exists.intro (5) (And.intro (by decide +kernel) (And.intro (by decide +kernel) rfl))))) ?_
  refine xa_cons 5 (xc_iconst hx hb (z := -1) (b := 4294967295) (And.intro (by decide +kernel) rfl) (by decide +kernel) ⟨rfl, rfl⟩) ?_
  refine xa_cons 6 ((And.intro hr (by decide +kernel))) ?_
  refine xa_cons 7 ((And.intro (by decide) (Or.inl (Exists.intro (0) (And.intro rfl (And.intro (by decide +kernel) rfl)))))) ?_
  refine xa_cons 8 (xc_getf (A := A) (own := "ExpressHouse") (index := 28) hx hb htsB xC_0 hown rfl (by decide) xw_19 (And.intro (by decide +kernel) rfl)) ?_
  refine xa_cons 9 ((And.intro (xc_callV (index := 222) (n := 0) (ci := 2) S xg_55 rfl xw_12 xw_359 xw_357 xw_358 rfl rfl rfl ⟨by decide, by decide, by decide +kernel⟩ rfl (And.intro (by decide +kernel) rfl)) (by decide +kernel))) ?_
  refine xa_cons 10 ((And.intro (by decide) (Or.inl (Exists.intro (0) (And.intro rfl (And.intro (by decide +kernel) rfl)))))) ?_
  refine xa_cons 11 (xc_getf (A := A) (own := "ExpressHouse") (index := 28) hx hb htsB xC_0 hown rfl (by decide) xw_19 (And.intro (by decide +kernel) rfl)) ?_
  refine xa_cons 12 ((And.intro (by decide) (Or.inl (Exists.intro (0) (And.intro rfl (And.intro (by decide +kernel) rfl)))))) ?_
  refine xa_cons 13 (xc_getf (A := A) (own := "ExpressHouse") (index := 93) hx hb htsB xC_0 hown rfl (by decide) xw_61 (And.intro (by decide +kernel) rfl)) ?_
  refine xa_cons 14 ((And.intro (by decide) (Or.inl (Exists.intro (0) (And.intro rfl (And.intro (by decide +kernel) rfl)))))) ?_
  refine xa_cons 15 (xc_getf (A := A) (own := "ExpressHouse") (index := 97) hx hb htsB xC_0 hown rfl (by decide) xw_62 (And.intro (by decide +kernel) rfl)) ?_
  refine xa_cons 16 ((And.intro (by decide) (Or.inl (Exists.intro (1) (And.intro rfl (And.intro (by decide +kernel) rfl)))))) ?_
  refine xa_cons 17 ((And.intro (by decide) (And.intro (by decide +kernel) rfl))) ?_
  refine xa_cons 18 ((And.intro (xc_callV (index := 286) (n := 2) (ci := 2) S xg_247 rfl xw_12 xw_1447 xw_1088 xw_1089 rfl rfl rfl ⟨by decide, by decide, by decide +kernel⟩ rfl (And.intro (by decide +kernel) rfl)) (by decide +kernel))) ?_
  refine xa_cons 19 ((And.intro (by decide) (Exists.intro (7) (And.intro (by decide +kernel) (And.intro (by decide +kernel) rfl))))) ?_
  refine xa_cons 20 (xc_iconst hx hb (z := 1) (b := 1) (And.intro (by decide +kernel) rfl) (by decide +kernel) ⟨rfl, rfl⟩) ?_
  refine xa_cons 21 ((Exists.intro (4) (And.intro (by decide +kernel) (by decide +kernel)))) ?_
  refine xa_cons 22 (xc_iconst hx hb (z := 0) (b := 0) (And.intro (by decide +kernel) rfl) (by decide +kernel) ⟨rfl, rfl⟩) ?_
  refine xa_cons 23 ((And.intro hr (by decide +kernel))) ?_
  exact xa_nil
def xrp_337 : Nat → Nat := fun k => ([0, 1, 4, 5, 6, 9, 12, 15, 16, 19, 20, 21, 24, 25, 26, 27, 30, 31, 34, 37, 38, 39, 42, 43, 46, 49, 50, 51] : List Nat).getD k 0
set_option maxRecDepth 20000 in
set_option maxHeartbeats 4000000 in
theorem xz_337 {l : Launch} {D : va_G} {en : XE} : x_Ok xT l D xcl en xrn (xG en) 337 xc_337 := by
  refine ⟨prog_1_method_38_code, (some .int), xBIG, xrp_337, by decide +kernel, rfl, rfl, ?_⟩
  intro p e R s m args below meth c s₁ A Q pc i f1 f2 B hml hA hg hi
  obtain ⟨hx, hb, hr, hown, hlocks, hin, htsB, S⟩ := xb_all (C := "ExpressHouse") B hml rfl rfl
  obtain ⟨hgN, hgZ, hgS, hgS2⟩ := xG_all hg
  refine xa_at (i := i) (pc := pc) ?_ hi
  refine xa_cons 0 ((And.intro (by decide) (Or.inl (Exists.intro (1) (And.intro rfl (And.intro (by decide +kernel) rfl)))))) ?_
  refine xa_cons 1 ((And.intro (by decide) (Exists.intro (23) (And.intro (by decide +kernel) (And.intro (by decide +kernel) rfl))))) ?_
  refine xa_cons 2 ((And.intro (by decide) (Or.inl (Exists.intro (1) (And.intro rfl (And.intro (by decide +kernel) rfl)))))) ?_
  refine xa_cons 3 ((And.intro (by decide) (Or.inl (Exists.intro (0) (And.intro rfl (And.intro (by decide +kernel) rfl)))))) ?_
  refine xa_cons 4 (xc_getf (A := A) (own := "ExpressHouse") (index := 68) hx hb htsB xC_0 hown rfl (by decide) xw_44 (And.intro (by decide +kernel) rfl)) ?_
  refine xa_cons 5 (xc_getf (A := A) (own := "ExpressHouse") (index := 353) hx hb htsB xC_7 hown rfl (by decide) xw_1448 (And.intro (by decide +kernel) rfl)) ?_
  refine xa_cons 6 ((And.intro (by decide) (Exists.intro (12) (And.intro (by decide +kernel) (And.intro (by decide +kernel) rfl))))) ?_
  refine xa_cons 7 ((And.intro (by decide) (Or.inl (Exists.intro (2) (And.intro rfl (And.intro (by decide +kernel) rfl)))))) ?_
  refine xa_cons 8 ((And.intro (by decide) (Exists.intro (8) (And.intro (by decide +kernel) (And.intro (by decide +kernel) rfl))))) ?_
  refine xa_cons 9 ((And.intro (by decide) (Or.inl (Exists.intro (2) (And.intro rfl (And.intro (by decide +kernel) rfl)))))) ?_
  refine xa_cons 10 (xc_iconst hx hb (z := 1) (b := 1) (And.intro (by decide +kernel) rfl) (by decide +kernel) ⟨rfl, rfl⟩) ?_
  refine xa_cons 11 ((And.intro (by decide) (Exists.intro (5) (And.intro (by decide +kernel) (And.intro (by decide +kernel) rfl))))) ?_
  refine xa_cons 12 (xc_iconst hx hb (z := -1) (b := 4294967295) (And.intro (by decide +kernel) rfl) (by decide +kernel) ⟨rfl, rfl⟩) ?_
  refine xa_cons 13 ((And.intro hr (by decide +kernel))) ?_
  refine xa_cons 14 ((And.intro (by decide) (Or.inl (Exists.intro (2) (And.intro rfl (And.intro (by decide +kernel) rfl)))))) ?_
  refine xa_cons 15 ((And.intro (by decide) (Exists.intro (15) (And.intro (by decide +kernel) (And.intro (by decide +kernel) rfl))))) ?_
  refine xa_cons 16 ((And.intro (by decide) (Or.inl (Exists.intro (0) (And.intro rfl (And.intro (by decide +kernel) rfl)))))) ?_
  refine xa_cons 17 (xc_getf (A := A) (own := "ExpressHouse") (index := 68) hx hb htsB xC_0 hown rfl (by decide) xw_44 (And.intro (by decide +kernel) rfl)) ?_
  refine xa_cons 18 (xc_getf (A := A) (own := "ExpressHouse") (index := 356) hx hb htsB xC_7 hown rfl (by decide) xw_1449 (And.intro (by decide +kernel) rfl)) ?_
  refine xa_cons 19 ((And.intro (by decide) (Or.inl (Exists.intro (1) (And.intro rfl (And.intro (by decide +kernel) rfl)))))) ?_
  refine xa_cons 20 ((And.intro (by decide) (And.intro (by decide +kernel) rfl))) ?_
  refine xa_cons 21 ((Exists.intro (12) (And.intro (by decide +kernel) (by decide +kernel)))) ?_
  refine xa_cons 22 ((And.intro (by decide) (Or.inl (Exists.intro (0) (And.intro rfl (And.intro (by decide +kernel) rfl)))))) ?_
  refine xa_cons 23 (xc_getf (A := A) (own := "ExpressHouse") (index := 68) hx hb htsB xC_0 hown rfl (by decide) xw_44 (And.intro (by decide +kernel) rfl)) ?_
  refine xa_cons 24 (xc_getf (A := A) (own := "ExpressHouse") (index := 359) hx hb htsB xC_7 hown rfl (by decide) xw_1450 (And.intro (by decide +kernel) rfl)) ?_
  refine xa_cons 25 ((And.intro (by decide) (Or.inl (Exists.intro (1) (And.intro rfl (And.intro (by decide +kernel) rfl)))))) ?_
  refine xa_cons 26 ((And.intro (by decide) (And.intro (by decide +kernel) rfl))) ?_
  refine xa_cons 27 ((And.intro hr (by decide +kernel))) ?_
  exact xa_nil
def xrp_338 : Nat → Nat := fun k => ([0, 1, 4, 5, 6, 9, 12, 15, 16, 19, 20, 23, 26, 27, 28, 31, 32] : List Nat).getD k 0
set_option maxRecDepth 20000 in
set_option maxHeartbeats 4000000 in
theorem xz_338 {l : Launch} {D : va_G} {en : XE} : x_Ok xT l D xcl en xrn (xG en) 338 xc_338 := by
  refine ⟨prog_1_method_40_code, (some .int), xBIG, xrp_338, by decide +kernel, rfl, rfl, ?_⟩
  intro p e R s m args below meth c s₁ A Q pc i f1 f2 B hml hA hg hi
  obtain ⟨hx, hb, hr, hown, hlocks, hin, htsB, S⟩ := xb_all (C := "ExpressHouse") B hml rfl rfl
  obtain ⟨hgN, hgZ, hgS, hgS2⟩ := xG_all hg
  refine xa_at (i := i) (pc := pc) ?_ hi
  refine xa_cons 0 ((And.intro (by decide) (Or.inl (Exists.intro (1) (And.intro rfl (And.intro (by decide +kernel) rfl)))))) ?_
  refine xa_cons 1 ((And.intro (by decide) (Exists.intro (14) (And.intro (by decide +kernel) (And.intro (by decide +kernel) rfl))))) ?_
  refine xa_cons 2 ((And.intro (by decide) (Or.inl (Exists.intro (1) (And.intro rfl (And.intro (by decide +kernel) rfl)))))) ?_
  refine xa_cons 3 ((And.intro (by decide) (Or.inl (Exists.intro (0) (And.intro rfl (And.intro (by decide +kernel) rfl)))))) ?_
  refine xa_cons 4 (xc_getf (A := A) (own := "ExpressHouse") (index := 84) hx hb htsB xC_0 hown rfl (by decide) xw_56 (And.intro (by decide +kernel) rfl)) ?_
  refine xa_cons 5 (xc_getf (A := A) (own := "ExpressHouse") (index := 162) hx hb htsB xC_9 hown rfl (by decide) xw_427 (And.intro (by decide +kernel) rfl)) ?_
  refine xa_cons 6 ((And.intro (by decide) (Exists.intro (7) (And.intro (by decide +kernel) (And.intro (by decide +kernel) rfl))))) ?_
  refine xa_cons 7 (xc_iconst hx hb (z := -1) (b := 4294967295) (And.intro (by decide +kernel) rfl) (by decide +kernel) ⟨rfl, rfl⟩) ?_
  refine xa_cons 8 ((Exists.intro (16) (And.intro (by decide +kernel) (by decide +kernel)))) ?_
  refine xa_cons 9 ((And.intro (by decide) (Or.inl (Exists.intro (0) (And.intro rfl (And.intro (by decide +kernel) rfl)))))) ?_
  refine xa_cons 10 (xc_getf (A := A) (own := "ExpressHouse") (index := 84) hx hb htsB xC_0 hown rfl (by decide) xw_56 (And.intro (by decide +kernel) rfl)) ?_
  refine xa_cons 11 (xc_getf (A := A) (own := "ExpressHouse") (index := 370) hx hb htsB xC_9 hown rfl (by decide) xw_1451 (And.intro (by decide +kernel) rfl)) ?_
  refine xa_cons 12 ((And.intro (by decide) (Or.inl (Exists.intro (1) (And.intro rfl (And.intro (by decide +kernel) rfl)))))) ?_
  refine xa_cons 13 ((And.intro (by decide) (And.intro (by decide +kernel) rfl))) ?_
  refine xa_cons 14 (xc_sipush hx hb (z := 255) (b := 255) (And.intro (by decide +kernel) rfl) (by decide +kernel) ⟨rfl, rfl⟩) ?_
  refine xa_cons 15 ((And.intro (by decide) (And.intro (by decide +kernel) rfl))) ?_
  refine xa_cons 16 ((And.intro hr (by decide +kernel))) ?_
  exact xa_nil
def xrp_339 : Nat → Nat := fun k => ([0, 1, 4, 7, 10, 11, 14, 16] : List Nat).getD k 0
set_option maxRecDepth 20000 in
set_option maxHeartbeats 4000000 in
theorem xz_339 {l : Launch} {D : va_G} {en : XE} : x_Ok xT l D xcl en xrn (xG en) 339 xc_339 := by
  refine ⟨prog_1_method_43_code, (some .int), xBIG, xrp_339, by decide +kernel, rfl, rfl, ?_⟩
  intro p e R s m args below meth c s₁ A Q pc i f1 f2 B hml hA hg hi
  obtain ⟨hx, hb, hr, hown, hlocks, hin, htsB, S⟩ := xb_all (C := "ExpressHouse") B hml rfl rfl
  obtain ⟨hgN, hgZ, hgS, hgS2⟩ := xG_all hg
  refine xa_at (i := i) (pc := pc) ?_ hi
  refine xa_cons 0 ((And.intro (by decide) (Or.inl (Exists.intro (0) (And.intro rfl (And.intro (by decide +kernel) rfl)))))) ?_
  refine xa_cons 1 (xc_getf (A := A) (own := "ExpressHouse") (index := 28) hx hb htsB xC_0 hown rfl (by decide) xw_19 (And.intro (by decide +kernel) rfl)) ?_
  refine xa_cons 2 ((And.intro (xc_callV (index := 391) (n := 0) (ci := 2) S xg_340 rfl xw_12 xw_1454 xw_1452 xw_1453 rfl rfl rfl ⟨by decide, by decide, by decide +kernel⟩ rfl (And.intro (by decide +kernel) rfl)) (by decide +kernel))) ?_
  refine xa_cons 3 ((And.intro (by decide) (Exists.intro (7) (And.intro (by decide +kernel) (And.intro (by decide +kernel) rfl))))) ?_
  refine xa_cons 4 (xc_iconst hx hb (z := 1) (b := 1) (And.intro (by decide +kernel) rfl) (by decide +kernel) ⟨rfl, rfl⟩) ?_
  refine xa_cons 5 ((Exists.intro (5) (And.intro (by decide +kernel) (by decide +kernel)))) ?_
  refine xa_cons 6 (xc_bipush hx hb (z := -3) (b := 4294967293) (And.intro (by decide +kernel) rfl) (by decide +kernel) ⟨rfl, rfl⟩) ?_
  refine xa_cons 7 ((And.intro hr (by decide +kernel))) ?_
  exact xa_nil
def xrp_340 : Nat → Nat := fun k => ([0, 1, 4, 7, 8, 9, 10, 11, 14, 15, 16, 19, 22, 23, 26, 27, 28, 31, 32, 34, 37, 38, 41, 42, 43, 46, 47, 48, 51, 52, 55, 56] : List Nat).getD k 0
set_option maxRecDepth 20000 in
set_option maxHeartbeats 4000000 in
theorem xz_340 {l : Launch} {D : va_G} {en : XE} : x_Ok xT l D xcl en xrn (xG en) 340 xc_340 := by
  refine ⟨prog_8_method_31_code, (some .boolean), xBIG, xrp_340, by decide +kernel, rfl, rfl, ?_⟩
  intro p e R s m args below meth c s₁ A Q pc i f1 f2 B hml hA hg hi
  obtain ⟨hx, hb, hr, hown, hlocks, hin, htsB, S⟩ := xb_all (C := "ExpressHouse$Population") B hml rfl rfl
  obtain ⟨hgN, hgZ, hgS, hgS2⟩ := xG_all hg
  refine xa_at (i := i) (pc := pc) ?_ hi
  refine xa_cons 0 ((And.intro (by decide) (Or.inl (Exists.intro (0) (And.intro rfl (And.intro (by decide +kernel) rfl)))))) ?_
  refine xa_cons 1 (xc_getf (A := A) (own := "ExpressHouse$Population") (index := 50) hx hb htsB xC_2 hown rfl (by decide) xw_530 (And.intro (by decide +kernel) rfl)) ?_
  refine xa_cons 2 ((And.intro (by decide) (Exists.intro (5) (And.intro (by decide +kernel) (And.intro (by decide +kernel) rfl))))) ?_
  refine xa_cons 3 (xc_iconst hx hb (z := 0) (b := 0) (And.intro (by decide +kernel) rfl) (by decide +kernel) ⟨rfl, rfl⟩) ?_
  refine xa_cons 4 ((And.intro hr (by decide +kernel))) ?_
  refine xa_cons 5 ((And.intro (by decide) (Or.inl (Exists.intro (0) (And.intro rfl (And.intro (by decide +kernel) rfl)))))) ?_
  refine xa_cons 6 (xc_iconst hx hb (z := 1) (b := 1) (And.intro (by decide +kernel) rfl) (by decide +kernel) ⟨rfl, rfl⟩) ?_
  refine xa_cons 7 (xc_putf (own := "ExpressHouse$Population") (index := 50) hx hb htsB xC_2 hown rfl (by decide) xw_530 rfl (rfl) (And.intro (by decide +kernel) rfl)) ?_
  refine xa_cons 8 ((And.intro (by decide) (Or.inl (Exists.intro (0) (And.intro rfl (And.intro (by decide +kernel) rfl)))))) ?_
  refine xa_cons 9 ((And.intro (by decide) (Or.inl (Exists.intro (0) (And.intro rfl (And.intro (by decide +kernel) rfl)))))) ?_
  refine xa_cons 10 (xc_getf (A := A) (own := "ExpressHouse$Population") (index := 46) hx hb htsB xC_2 hown rfl (by decide) xw_529 (And.intro (by decide +kernel) rfl)) ?_
  refine xa_cons 11 (xc_putf (own := "ExpressHouse$Population") (index := 180) hx hb htsB xC_2 hown rfl (by decide) xw_655 rfl (rfl) (And.intro (by decide +kernel) rfl)) ?_
  refine xa_cons 12 ((And.intro (by decide) (Or.inl (Exists.intro (0) (And.intro rfl (And.intro (by decide +kernel) rfl)))))) ?_
  refine xa_cons 13 (xc_getf (A := A) (own := "ExpressHouse$Population") (index := 18) hx hb htsB xC_2 hown rfl (by decide) xw_240 (And.intro (by decide +kernel) rfl)) ?_
  refine xa_cons 14 (xc_iconst hx hb (z := 0) (b := 0) (And.intro (by decide +kernel) rfl) (by decide +kernel) ⟨rfl, rfl⟩) ?_
  refine xa_cons 15 ((And.intro (by decide) (Or.inl (Exists.intro (0) (And.intro rfl (And.intro (by decide +kernel) rfl)))))) ?_
  refine xa_cons 16 (xc_getf (A := A) (own := "ExpressHouse$Population") (index := 26) hx hb htsB xC_2 hown rfl (by decide) xw_242 (And.intro (by decide +kernel) rfl)) ?_
  refine xa_cons 17 (xc_iconst hx hb (z := 0) (b := 0) (And.intro (by decide +kernel) rfl) (by decide +kernel) ⟨rfl, rfl⟩) ?_
  refine xa_cons 18 (xc_bipush hx hb (z := 40) (b := 40) (And.intro (by decide +kernel) rfl) (by decide +kernel) ⟨rfl, rfl⟩) ?_
  refine xa_cons 19 ((Exists.intro ("ExpressHouse$Population") (Exists.intro (183) (And.intro hown (And.intro (htsB _ xw_656) (And.intro (htsB _ xw_657) (And.intro (htsB _ xw_658) (And.intro (htsB _ xw_659) (And.intro (And.intro (by decide +kernel) rfl) (And.intro hml (And.intro (by omega) (by omega)))))))))))) ?_
  refine xa_cons 20 ((And.intro (by decide) (Or.inl (Exists.intro (0) (And.intro rfl (And.intro (by decide +kernel) rfl)))))) ?_
  refine xa_cons 21 (xc_getf (A := A) (own := "ExpressHouse$Population") (index := 22) hx hb htsB xC_2 hown rfl (by decide) xw_241 (And.intro (by decide +kernel) rfl)) ?_
  refine xa_cons 22 (xc_iconst hx hb (z := 0) (b := 0) (And.intro (by decide +kernel) rfl) (by decide +kernel) ⟨rfl, rfl⟩) ?_
  refine xa_cons 23 ((And.intro (by decide) (Or.inl (Exists.intro (0) (And.intro rfl (And.intro (by decide +kernel) rfl)))))) ?_
  refine xa_cons 24 (xc_getf (A := A) (own := "ExpressHouse$Population") (index := 29) hx hb htsB xC_2 hown rfl (by decide) xw_243 (And.intro (by decide +kernel) rfl)) ?_
  refine xa_cons 25 (xc_iconst hx hb (z := 0) (b := 0) (And.intro (by decide +kernel) rfl) (by decide +kernel) ⟨rfl, rfl⟩) ?_
  refine xa_cons 26 ((And.intro (by decide) (Or.inl (Exists.intro (0) (And.intro rfl (And.intro (by decide +kernel) rfl)))))) ?_
  refine xa_cons 27 (xc_getf (A := A) (own := "ExpressHouse$Population") (index := 22) hx hb htsB xC_2 hown rfl (by decide) xw_241 (And.intro (by decide +kernel) rfl)) ?_
  refine xa_cons 28 ((And.intro (by decide +kernel) rfl)) ?_
  refine xa_cons 29 ((Exists.intro ("ExpressHouse$Population") (Exists.intro (183) (And.intro hown (And.intro (htsB _ xw_656) (And.intro (htsB _ xw_657) (And.intro (htsB _ xw_658) (And.intro (htsB _ xw_659) (And.intro (And.intro (by decide +kernel) rfl) (And.intro hml (And.intro (by omega) (by omega)))))))))))) ?_
  refine xa_cons 30 (xc_iconst hx hb (z := 1) (b := 1) (And.intro (by decide +kernel) rfl) (by decide +kernel) ⟨rfl, rfl⟩) ?_
  refine xa_cons 31 ((And.intro hr (by decide +kernel))) ?_
  exact xa_nil
end AMM22
