section AMM2
def xrp_27 : Nat → Nat := fun k => ([0, 1, 4, 7, 8, 9, 12, 13, 14, 17, 20, 21, 22, 23, 26, 29, 30, 31, 34, 35, 36, 37, 40, 72, 73, 76, 77, 80, 81, 82, 85, 86, 89, 90, 91, 94, 95, 98, 99, 100, 103, 104, 107, 108, 109, 112, 113, 116] : List Nat).getD k 0
set_option maxRecDepth 20000 in
set_option maxHeartbeats 4000000 in
theorem xz_27 {l : Launch} {D : va_G} {en : XE} : x_Ok xT l D xcl en xrn (xG en) 27 xc_27 := by
  refine ⟨prog_1_method_37_code, (some .int), xBIG, xrp_27, by decide +kernel, rfl, rfl, ?_⟩
  intro p e R s m args below meth c s₁ A Q pc i f1 f2 B hml hA hg hi
  obtain ⟨hx, hb, hr, hown, hlocks, hin, htsB, S⟩ := xb_all (C := "ExpressHouse") B hml rfl rfl
  obtain ⟨hgN, hgZ, hgS, hgS2⟩ := xG_all hg
  refine xa_at (i := i) (pc := pc) ?_ hi
  refine xa_cons 0 ((And.intro (by decide) (Or.inl (Exists.intro (0) (And.intro rfl (And.intro (by decide +kernel) rfl)))))) ?_
  refine xa_cons 1 (xc_getf (A := A) (own := "ExpressHouse") (index := 28) hx hb htsB xC_0 hown rfl (by decide) xw_19 (And.intro (by decide +kernel) rfl)) ?_
  refine xa_cons 2 (xc_getf (A := A) (own := "ExpressHouse") (index := 34) hx hb htsB xC_2 hown rfl (by decide) xw_23 (And.intro (by decide +kernel) rfl)) ?_
  refine xa_cons 3 ((And.intro (Or.inr rfl) (Or.inl (Exists.intro (2) (And.intro rfl (And.intro (by decide +kernel) rfl)))))) ?_
  refine xa_cons 4 ((And.intro (by decide) (Or.inl (Exists.intro (1) (And.intro rfl (And.intro (by decide +kernel) rfl)))))) ?_
  refine xa_cons 5 ((And.intro (by decide) (Exists.intro (11) (And.intro (by decide +kernel) (And.intro (by decide +kernel) rfl))))) ?_
  refine xa_cons 6 ((And.intro (by decide) (Or.inl (Exists.intro (1) (And.intro rfl (And.intro (by decide +kernel) rfl)))))) ?_
  refine xa_cons 7 ((And.intro (by decide) (Or.inl (Exists.intro (2) (And.intro rfl (And.intro (by decide +kernel) rfl)))))) ?_
  refine xa_cons 8 ((And.intro (xc_callV (index := 150) (n := 0) (ci := 3) S xg_64 rfl xw_15 xw_389 xw_387 xw_388 rfl rfl rfl ⟨by decide, by decide, by decide +kernel⟩ rfl (And.intro (by decide +kernel) rfl)) (by decide +kernel))) ?_
  refine xa_cons 9 ((And.intro (by decide) (Exists.intro (5) (And.intro (by decide +kernel) (And.intro (by decide +kernel) rfl))))) ?_
  refine xa_cons 10 (xc_iconst hx hb (z := -1) (b := 4294967295) (And.intro (by decide +kernel) rfl) (by decide +kernel) ⟨rfl, rfl⟩) ?_
  refine xa_cons 11 ((And.intro hr (by decide +kernel))) ?_
  refine xa_cons 12 ((And.intro (by decide) (Or.inl (Exists.intro (0) (And.intro rfl (And.intro (by decide +kernel) rfl)))))) ?_
  refine xa_cons 13 (xc_getf (A := A) (own := "ExpressHouse") (index := 28) hx hb htsB xC_0 hown rfl (by decide) xw_19 (And.intro (by decide +kernel) rfl)) ?_
  refine xa_cons 14 ((And.intro (xc_callV (index := 222) (n := 0) (ci := 2) S xg_55 rfl xw_12 xw_359 xw_357 xw_358 rfl rfl rfl ⟨by decide, by decide, by decide +kernel⟩ rfl (And.intro (by decide +kernel) rfl)) (by decide +kernel))) ?_
  refine xa_cons 15 ((And.intro (by decide) (Or.inl (Exists.intro (2) (And.intro rfl (And.intro (by decide +kernel) rfl)))))) ?_
  refine xa_cons 16 ((And.intro (by decide) (Or.inl (Exists.intro (1) (And.intro rfl (And.intro (by decide +kernel) rfl)))))) ?_
  refine xa_cons 17 ((And.intro (xc_callV (index := 335) (n := 1) (ci := 3) S xg_65 rfl xw_15 xw_392 xw_390 xw_391 rfl rfl rfl ⟨by decide, by decide, by decide +kernel⟩ rfl (And.intro (by decide +kernel) rfl)) (by decide +kernel))) ?_
  refine xa_cons 18 ((And.intro (Or.inl rfl) (Or.inl (Exists.intro (3) (And.intro rfl (And.intro (by decide +kernel) rfl)))))) ?_
  refine xa_cons 19 ((And.intro (by decide) (Or.inl (Exists.intro (2) (And.intro rfl (And.intro (by decide +kernel) rfl)))))) ?_
  refine xa_cons 20 ((And.intro (by decide) (Or.inl (Exists.intro (1) (And.intro rfl (And.intro (by decide +kernel) rfl)))))) ?_
  refine xa_cons 21 ((And.intro (xc_callV (index := 332) (n := 1) (ci := 3) S xg_66 rfl xw_15 xw_395 xw_393 xw_394 rfl rfl rfl ⟨by decide, by decide, by decide +kernel⟩ rfl (And.intro (by decide +kernel) rfl)) (by decide +kernel))) ?_
  refine xa_cons 22 (xc_table hx hb (by decide +kernel : decode prog_1_method_37_code 40 = .ok (.tableswitch 68 0 3 #[32, 41, 50, 59], 32)) (by decide +kernel) (by decide) (by decide +kernel) (by decide) (by decide +kernel)) ?_
  refine xa_cons 23 ((And.intro (by decide) (Or.inl (Exists.intro (0) (And.intro rfl (And.intro (by decide +kernel) rfl)))))) ?_
  refine xa_cons 24 (xc_getf (A := A) (own := "ExpressHouse") (index := 68) hx hb htsB xC_0 hown rfl (by decide) xw_44 (And.intro (by decide +kernel) rfl)) ?_
  refine xa_cons 25 ((And.intro (by decide) (Or.inl (Exists.intro (3) (And.intro rfl (And.intro (by decide +kernel) rfl)))))) ?_
  refine xa_cons 26 ((And.intro (xc_callV (index := 338) (n := 1) (ci := 7) S xg_67 rfl xw_41 xw_398 xw_396 xw_397 rfl rfl rfl ⟨by decide, by decide, by decide +kernel⟩ rfl (And.intro (by decide +kernel) rfl)) (by decide +kernel))) ?_
  refine xa_cons 27 ((And.intro hr (by decide +kernel))) ?_
  refine xa_cons 28 ((And.intro (by decide) (Or.inl (Exists.intro (0) (And.intro rfl (And.intro (by decide +kernel) rfl)))))) ?_
  refine xa_cons 29 (xc_getf (A := A) (own := "ExpressHouse") (index := 68) hx hb htsB xC_0 hown rfl (by decide) xw_44 (And.intro (by decide +kernel) rfl)) ?_
  refine xa_cons 30 ((And.intro (by decide) (Or.inl (Exists.intro (3) (And.intro rfl (And.intro (by decide +kernel) rfl)))))) ?_
  refine xa_cons 31 ((And.intro (xc_callV (index := 341) (n := 1) (ci := 7) S xg_68 rfl xw_41 xw_401 xw_399 xw_400 rfl rfl rfl ⟨by decide, by decide, by decide +kernel⟩ rfl (And.intro (by decide +kernel) rfl)) (by decide +kernel))) ?_
  refine xa_cons 32 ((And.intro hr (by decide +kernel))) ?_
  refine xa_cons 33 ((And.intro (by decide) (Or.inl (Exists.intro (0) (And.intro rfl (And.intro (by decide +kernel) rfl)))))) ?_
  refine xa_cons 34 (xc_getf (A := A) (own := "ExpressHouse") (index := 68) hx hb htsB xC_0 hown rfl (by decide) xw_44 (And.intro (by decide +kernel) rfl)) ?_
  refine xa_cons 35 ((And.intro (by decide) (Or.inl (Exists.intro (3) (And.intro rfl (And.intro (by decide +kernel) rfl)))))) ?_
  refine xa_cons 36 ((And.intro (xc_callV (index := 344) (n := 1) (ci := 7) S xg_69 rfl xw_41 xw_404 xw_402 xw_403 rfl rfl rfl ⟨by decide, by decide, by decide +kernel⟩ rfl (And.intro (by decide +kernel) rfl)) (by decide +kernel))) ?_
  refine xa_cons 37 ((And.intro hr (by decide +kernel))) ?_
  refine xa_cons 38 ((And.intro (by decide) (Or.inl (Exists.intro (0) (And.intro rfl (And.intro (by decide +kernel) rfl)))))) ?_
  refine xa_cons 39 (xc_getf (A := A) (own := "ExpressHouse") (index := 68) hx hb htsB xC_0 hown rfl (by decide) xw_44 (And.intro (by decide +kernel) rfl)) ?_
  refine xa_cons 40 ((And.intro (by decide) (Or.inl (Exists.intro (3) (And.intro rfl (And.intro (by decide +kernel) rfl)))))) ?_
  refine xa_cons 41 ((And.intro (xc_callV (index := 347) (n := 1) (ci := 7) S xg_70 rfl xw_41 xw_407 xw_405 xw_406 rfl rfl rfl ⟨by decide, by decide, by decide +kernel⟩ rfl (And.intro (by decide +kernel) rfl)) (by decide +kernel))) ?_
  refine xa_cons 42 ((And.intro hr (by decide +kernel))) ?_
  refine xa_cons 43 ((And.intro (by decide) (Or.inl (Exists.intro (0) (And.intro rfl (And.intro (by decide +kernel) rfl)))))) ?_
  refine xa_cons 44 (xc_getf (A := A) (own := "ExpressHouse") (index := 68) hx hb htsB xC_0 hown rfl (by decide) xw_44 (And.intro (by decide +kernel) rfl)) ?_
  refine xa_cons 45 ((And.intro (by decide) (Or.inl (Exists.intro (3) (And.intro rfl (And.intro (by decide +kernel) rfl)))))) ?_
  refine xa_cons 46 ((And.intro (xc_callV (index := 350) (n := 1) (ci := 7) S xg_71 rfl xw_41 xw_410 xw_408 xw_409 rfl rfl rfl ⟨by decide, by decide, by decide +kernel⟩ rfl (And.intro (by decide +kernel) rfl)) (by decide +kernel))) ?_
  refine xa_cons 47 ((And.intro hr (by decide +kernel))) ?_
  exact xa_nil
def xrp_28 : Nat → Nat := fun k => ([0, 1, 4, 5, 6, 9, 10, 11, 12, 15, 18, 19, 20, 21, 24, 27, 30] : List Nat).getD k 0
set_option maxRecDepth 20000 in
set_option maxHeartbeats 4000000 in
theorem xz_28 {l : Launch} {D : va_G} {en : XE} : x_Ok xT l D xcl en xrn (xG en) 28 xc_28 := by
  refine ⟨prog_1_method_21_code, (some .int), xBIG, xrp_28, by decide +kernel, rfl, rfl, ?_⟩
  intro p e R s m args below meth c s₁ A Q pc i f1 f2 B hml hA hg hi
  obtain ⟨hx, hb, hr, hown, hlocks, hin, htsB, S⟩ := xb_all (C := "ExpressHouse") B hml rfl rfl
  obtain ⟨hgN, hgZ, hgS, hgS2⟩ := xG_all hg
  refine xa_at (i := i) (pc := pc) ?_ hi
  refine xa_cons 0 ((And.intro (by decide) (Or.inl (Exists.intro (0) (And.intro rfl (And.intro (by decide +kernel) rfl)))))) ?_
  refine xa_cons 1 ((And.intro (xc_callV (index := 219) (n := 0) (ci := 0) S xg_54 rfl xw_64 xw_356 xw_354 xw_355 rfl rfl rfl ⟨by decide, by decide, by decide +kernel⟩ rfl (And.intro (by decide +kernel) rfl)) (by decide +kernel))) ?_
  refine xa_cons 2 ((And.intro (Or.inl rfl) (Or.inl (Exists.intro (1) (And.intro rfl (And.intro (by decide +kernel) rfl)))))) ?_
  refine xa_cons 3 ((And.intro (by decide) (Or.inl (Exists.intro (1) (And.intro rfl (And.intro (by decide +kernel) rfl)))))) ?_
  refine xa_cons 4 ((And.intro (by decide) (Exists.intro (5) (And.intro (by decide +kernel) (And.intro (by decide +kernel) rfl))))) ?_
  refine xa_cons 5 ((And.intro (by decide) (Or.inl (Exists.intro (1) (And.intro rfl (And.intro (by decide +kernel) rfl)))))) ?_
  refine xa_cons 6 ((And.intro hr (by decide +kernel))) ?_
  refine xa_cons 7 ((And.intro (by decide) (Or.inl (Exists.intro (0) (And.intro rfl (And.intro (by decide +kernel) rfl)))))) ?_
  refine xa_cons 8 (xc_getf (A := A) (own := "ExpressHouse") (index := 28) hx hb htsB xC_0 hown rfl (by decide) xw_19 (And.intro (by decide +kernel) rfl)) ?_
  refine xa_cons 9 ((And.intro (xc_callV (index := 222) (n := 0) (ci := 2) S xg_55 rfl xw_12 xw_359 xw_357 xw_358 rfl rfl rfl ⟨by decide, by decide, by decide +kernel⟩ rfl (And.intro (by decide +kernel) rfl)) (by decide +kernel))) ?_
  refine xa_cons 10 ((And.intro (by decide) (Or.inl (Exists.intro (0) (And.intro rfl (And.intro (by decide +kernel) rfl)))))) ?_
  refine xa_cons 11 ((And.intro (by decide) (Or.inl (Exists.intro (1) (And.intro rfl (And.intro (by decide +kernel) rfl)))))) ?_
  refine xa_cons 12 ((And.intro (by decide) (Or.inl (Exists.intro (0) (And.intro rfl (And.intro (by decide +kernel) rfl)))))) ?_
  refine xa_cons 13 (xc_getf (A := A) (own := "ExpressHouse") (index := 28) hx hb htsB xC_0 hown rfl (by decide) xw_19 (And.intro (by decide +kernel) rfl)) ?_
  refine xa_cons 14 (xc_getf (A := A) (own := "ExpressHouse") (index := 225) hx hb htsB xC_2 hown rfl (by decide) xw_360 (And.intro (by decide +kernel) rfl)) ?_
  refine xa_cons 15 ((And.intro (xc_callV (index := 258) (n := 2) (ci := 0) S xg_63 rfl xw_64 xw_386 xw_384 xw_385 rfl rfl rfl ⟨by decide, by decide, by decide +kernel⟩ rfl (And.intro (by decide +kernel) rfl)) (by decide +kernel))) ?_
  refine xa_cons 16 ((And.intro hr (by decide +kernel))) ?_
  exact xa_nil
def xrp_29 : Nat → Nat := fun k => ([0, 1, 4, 7, 8, 9, 10, 11, 14, 17, 20, 21, 24, 25, 28, 31, 32, 35, 36, 37, 40, 41, 44, 47, 50, 53, 54, 57, 60] : List Nat).getD k 0
set_option maxRecDepth 20000 in
set_option maxHeartbeats 4000000 in
theorem xz_29 {l : Launch} {D : va_G} {en : XE} : x_Ok xT l D xcl en xrn (xG en) 29 xc_29 := by
  refine ⟨prog_1_method_39_code, (some .int), xBIG, xrp_29, by decide +kernel, rfl, rfl, ?_⟩
  intro p e R s m args below meth c s₁ A Q pc i f1 f2 B hml hA hg hi
  obtain ⟨hx, hb, hr, hown, hlocks, hin, htsB, S⟩ := xb_all (C := "ExpressHouse") B hml rfl rfl
  obtain ⟨hgN, hgZ, hgS, hgS2⟩ := xG_all hg
  refine xa_at (i := i) (pc := pc) ?_ hi
  refine xa_cons 0 ((And.intro (by decide) (Or.inl (Exists.intro (0) (And.intro rfl (And.intro (by decide +kernel) rfl)))))) ?_
  refine xa_cons 1 (xc_getf (A := A) (own := "ExpressHouse") (index := 84) hx hb htsB xC_0 hown rfl (by decide) xw_56 (And.intro (by decide +kernel) rfl)) ?_
  refine xa_cons 2 ((And.intro (xc_callV (index := 362) (n := 0) (ci := 9) S xg_72 rfl xw_53 xw_413 xw_411 xw_412 rfl rfl rfl ⟨by decide, by decide, by decide +kernel⟩ rfl (And.intro (by decide +kernel) rfl)) (by decide +kernel))) ?_
  refine xa_cons 3 (xc_iconst hx hb (z := 0) (b := 0) (And.intro (by decide +kernel) rfl) (by decide +kernel) ⟨rfl, rfl⟩) ?_
  refine xa_cons 4 ((And.intro (Or.inl rfl) (Or.inl (Exists.intro (1) (And.intro rfl (And.intro (by decide +kernel) rfl)))))) ?_
  refine xa_cons 5 ((And.intro (by decide) (Or.inl (Exists.intro (1) (And.intro rfl (And.intro (by decide +kernel) rfl)))))) ?_
  refine xa_cons 6 ((And.intro (by decide) (Or.inl (Exists.intro (0) (And.intro rfl (And.intro (by decide +kernel) rfl)))))) ?_
  refine xa_cons 7 (xc_getf (A := A) (own := "ExpressHouse") (index := 28) hx hb htsB xC_0 hown rfl (by decide) xw_19 (And.intro (by decide +kernel) rfl)) ?_
  refine xa_cons 8 (xc_getf (A := A) (own := "ExpressHouse") (index := 156) hx hb htsB xC_2 hown rfl (by decide) xw_346 (And.intro (by decide +kernel) rfl)) ?_
  refine xa_cons 9 ((And.intro (by decide) (Exists.intro (36) (And.intro (by decide +kernel) (And.intro (by decide +kernel) rfl))))) ?_
  refine xa_cons 10 ((And.intro (by decide) (Or.inl (Exists.intro (0) (And.intro rfl (And.intro (by decide +kernel) rfl)))))) ?_
  refine xa_cons 11 (xc_getf (A := A) (own := "ExpressHouse") (index := 28) hx hb htsB xC_0 hown rfl (by decide) xw_19 (And.intro (by decide +kernel) rfl)) ?_
  refine xa_cons 12 ((And.intro (by decide) (Or.inl (Exists.intro (1) (And.intro rfl (And.intro (by decide +kernel) rfl)))))) ?_
  refine xa_cons 13 ((And.intro (xc_callV (index := 206) (n := 1) (ci := 2) S xg_60 rfl xw_12 xw_377 xw_375 xw_376 rfl rfl rfl ⟨by decide, by decide, by decide +kernel⟩ rfl (And.intro (by decide +kernel) rfl)) (by decide +kernel))) ?_
  refine xa_cons 14 ((And.intro (by decide) (Exists.intro (19) (And.intro (by decide +kernel) (And.intro (by decide +kernel) rfl))))) ?_
  refine xa_cons 15 ((And.intro (by decide) (Or.inl (Exists.intro (0) (And.intro rfl (And.intro (by decide +kernel) rfl)))))) ?_
  refine xa_cons 16 (xc_getf (A := A) (own := "ExpressHouse") (index := 84) hx hb htsB xC_0 hown rfl (by decide) xw_56 (And.intro (by decide +kernel) rfl)) ?_
  refine xa_cons 17 ((And.intro (by decide) (Or.inl (Exists.intro (1) (And.intro rfl (And.intro (by decide +kernel) rfl)))))) ?_
  refine xa_cons 18 ((And.intro (by decide) (Or.inl (Exists.intro (0) (And.intro rfl (And.intro (by decide +kernel) rfl)))))) ?_
  refine xa_cons 19 (xc_getf (A := A) (own := "ExpressHouse") (index := 28) hx hb htsB xC_0 hown rfl (by decide) xw_19 (And.intro (by decide +kernel) rfl)) ?_
  refine xa_cons 20 ((And.intro (by decide) (Or.inl (Exists.intro (1) (And.intro rfl (And.intro (by decide +kernel) rfl)))))) ?_
  refine xa_cons 21 ((And.intro (xc_callV (index := 212) (n := 1) (ci := 2) S xg_73 rfl xw_12 xw_416 xw_414 xw_415 rfl rfl rfl ⟨by decide, by decide, by decide +kernel⟩ rfl (And.intro (by decide +kernel) rfl)) (by decide +kernel))) ?_
  refine xa_cons 22 ((And.intro (xc_callV (index := 363) (n := 2) (ci := 9) S xg_74 rfl xw_53 xw_419 xw_417 xw_418 rfl rfl rfl ⟨by decide, by decide, by decide +kernel⟩ rfl (And.intro (by decide +kernel) rfl)) (by decide +kernel))) ?_
  refine xa_cons 23 ((Exists.intro (1) (And.intro (And.intro (by decide +kernel) rfl) (by decide +kernel)))) ?_
  refine xa_cons 24 ((Exists.intro (-41) (And.intro (by decide +kernel) (by decide +kernel)))) ?_
  refine xa_cons 25 ((And.intro (by decide) (Or.inl (Exists.intro (0) (And.intro rfl (And.intro (by decide +kernel) rfl)))))) ?_
  refine xa_cons 26 (xc_getf (A := A) (own := "ExpressHouse") (index := 84) hx hb htsB xC_0 hown rfl (by decide) xw_56 (And.intro (by decide +kernel) rfl)) ?_
  refine xa_cons 27 ((And.intro (xc_callV (index := 367) (n := 0) (ci := 9) S xg_75 rfl xw_53 xw_422 xw_420 xw_421 rfl rfl rfl ⟨by decide, by decide, by decide +kernel⟩ rfl (And.intro (by decide +kernel) rfl)) (by decide +kernel))) ?_
  refine xa_cons 28 ((And.intro hr (by decide +kernel))) ?_
  exact xa_nil
def xrp_30 : Nat → Nat := fun k => ([0, 1, 4, 7, 8, 9, 76, 77, 80, 81, 82, 83, 84, 87, 88, 89, 90, 91, 94, 95, 96, 97, 98, 101, 102, 103, 104, 105, 108, 109, 110, 111, 112, 115, 116, 117, 120, 121, 122, 125, 128, 129, 130, 133, 136, 137, 138, 141, 142, 143, 146, 149, 150, 151, 154, 157, 158, 159, 162, 165, 166, 167] : List Nat).getD k 0
set_option maxRecDepth 20000 in
set_option maxHeartbeats 4000000 in
theorem xz_30 {l : Launch} {D : va_G} {en : XE} : x_Ok xT l D xcl en xrn (xG en) 30 xc_30 := by
  refine ⟨prog_1_method_8_code, (some .int), xBIG, xrp_30, by decide +kernel, rfl, rfl, ?_⟩
  intro p e R s m args below meth c s₁ A Q pc i f1 f2 B hml hA hg hi
  obtain ⟨hx, hb, hr, hown, hlocks, hin, htsB, S⟩ := xb_all (C := "ExpressHouse") B hml rfl rfl
  obtain ⟨hgN, hgZ, hgS, hgS2⟩ := xG_all hg
  refine xa_at (i := i) (pc := pc) ?_ hi
  refine xa_cons 0 ((And.intro (by decide) (Or.inl (Exists.intro (0) (And.intro rfl (And.intro (by decide +kernel) rfl)))))) ?_
  refine xa_cons 1 (xc_getf (A := A) (own := "ExpressHouse") (index := 28) hx hb htsB xC_0 hown rfl (by decide) xw_19 (And.intro (by decide +kernel) rfl)) ?_
  refine xa_cons 2 (xc_getf (A := A) (own := "ExpressHouse") (index := 34) hx hb htsB xC_2 hown rfl (by decide) xw_23 (And.intro (by decide +kernel) rfl)) ?_
  refine xa_cons 3 ((And.intro (Or.inr rfl) (Or.inl (Exists.intro (2) (And.intro rfl (And.intro (by decide +kernel) rfl)))))) ?_
  refine xa_cons 4 ((And.intro (by decide) (Or.inl (Exists.intro (1) (And.intro rfl (And.intro (by decide +kernel) rfl)))))) ?_
  refine xa_cons 5 (xc_table hx hb (by decide +kernel : decode prog_1_method_8_code 9 = .ok (.tableswitch 157 0 12 #[67, 74, 81, 88, 95, 102, 107, 112, 120, 128, 133, 141, 149], 67)) (by decide +kernel) (by decide) (by decide +kernel) (by decide) (by decide +kernel)) ?_
  refine xa_cons 6 ((And.intro (by decide) (Or.inl (Exists.intro (2) (And.intro rfl (And.intro (by decide +kernel) rfl)))))) ?_
  refine xa_cons 7 (xc_getf (A := A) (own := "ExpressHouse") (index := 146) hx hb htsB xC_3 hown rfl (by decide) xw_339 (And.intro (by decide +kernel) rfl)) ?_
  refine xa_cons 8 (xc_iconst hx hb (z := 0) (b := 0) (And.intro (by decide +kernel) rfl) (by decide +kernel) ⟨rfl, rfl⟩) ?_
  refine xa_cons 9 ((And.intro (by decide) (And.intro (by decide +kernel) rfl))) ?_
  refine xa_cons 10 ((And.intro hr (by decide +kernel))) ?_
  refine xa_cons 11 ((And.intro (by decide) (Or.inl (Exists.intro (2) (And.intro rfl (And.intro (by decide +kernel) rfl)))))) ?_
  refine xa_cons 12 (xc_getf (A := A) (own := "ExpressHouse") (index := 146) hx hb htsB xC_3 hown rfl (by decide) xw_339 (And.intro (by decide +kernel) rfl)) ?_
  refine xa_cons 13 (xc_iconst hx hb (z := 1) (b := 1) (And.intro (by decide +kernel) rfl) (by decide +kernel) ⟨rfl, rfl⟩) ?_
  refine xa_cons 14 ((And.intro (by decide) (And.intro (by decide +kernel) rfl))) ?_
  refine xa_cons 15 ((And.intro hr (by decide +kernel))) ?_
  refine xa_cons 16 ((And.intro (by decide) (Or.inl (Exists.intro (2) (And.intro rfl (And.intro (by decide +kernel) rfl)))))) ?_
  refine xa_cons 17 (xc_getf (A := A) (own := "ExpressHouse") (index := 146) hx hb htsB xC_3 hown rfl (by decide) xw_339 (And.intro (by decide +kernel) rfl)) ?_
  refine xa_cons 18 (xc_iconst hx hb (z := 2) (b := 2) (And.intro (by decide +kernel) rfl) (by decide +kernel) ⟨rfl, rfl⟩) ?_
  refine xa_cons 19 ((And.intro (by decide) (And.intro (by decide +kernel) rfl))) ?_
  refine xa_cons 20 ((And.intro hr (by decide +kernel))) ?_
  refine xa_cons 21 ((And.intro (by decide) (Or.inl (Exists.intro (2) (And.intro rfl (And.intro (by decide +kernel) rfl)))))) ?_
  refine xa_cons 22 (xc_getf (A := A) (own := "ExpressHouse") (index := 146) hx hb htsB xC_3 hown rfl (by decide) xw_339 (And.intro (by decide +kernel) rfl)) ?_
  refine xa_cons 23 (xc_iconst hx hb (z := 3) (b := 3) (And.intro (by decide +kernel) rfl) (by decide +kernel) ⟨rfl, rfl⟩) ?_
  refine xa_cons 24 ((And.intro (by decide) (And.intro (by decide +kernel) rfl))) ?_
  refine xa_cons 25 ((And.intro hr (by decide +kernel))) ?_
  refine xa_cons 26 ((And.intro (by decide) (Or.inl (Exists.intro (2) (And.intro rfl (And.intro (by decide +kernel) rfl)))))) ?_
  refine xa_cons 27 (xc_getf (A := A) (own := "ExpressHouse") (index := 146) hx hb htsB xC_3 hown rfl (by decide) xw_339 (And.intro (by decide +kernel) rfl)) ?_
  refine xa_cons 28 (xc_iconst hx hb (z := 4) (b := 4) (And.intro (by decide +kernel) rfl) (by decide +kernel) ⟨rfl, rfl⟩) ?_
  refine xa_cons 29 ((And.intro (by decide) (And.intro (by decide +kernel) rfl))) ?_
  refine xa_cons 30 ((And.intro hr (by decide +kernel))) ?_
  refine xa_cons 31 ((And.intro (by decide) (Or.inl (Exists.intro (2) (And.intro rfl (And.intro (by decide +kernel) rfl)))))) ?_
  refine xa_cons 32 ((And.intro (xc_callV (index := 150) (n := 0) (ci := 3) S xg_64 rfl xw_15 xw_389 xw_387 xw_388 rfl rfl rfl ⟨by decide, by decide, by decide +kernel⟩ rfl (And.intro (by decide +kernel) rfl)) (by decide +kernel))) ?_
  refine xa_cons 33 ((And.intro hr (by decide +kernel))) ?_
  refine xa_cons 34 ((And.intro (by decide) (Or.inl (Exists.intro (2) (And.intro rfl (And.intro (by decide +kernel) rfl)))))) ?_
  refine xa_cons 35 (xc_getf (A := A) (own := "ExpressHouse") (index := 153) hx hb htsB xC_3 hown rfl (by decide) xw_423 (And.intro (by decide +kernel) rfl)) ?_
  refine xa_cons 36 ((And.intro hr (by decide +kernel))) ?_
  refine xa_cons 37 ((And.intro (by decide) (Or.inl (Exists.intro (0) (And.intro rfl (And.intro (by decide +kernel) rfl)))))) ?_
  refine xa_cons 38 (xc_getf (A := A) (own := "ExpressHouse") (index := 28) hx hb htsB xC_0 hown rfl (by decide) xw_19 (And.intro (by decide +kernel) rfl)) ?_
  refine xa_cons 39 (xc_getf (A := A) (own := "ExpressHouse") (index := 156) hx hb htsB xC_2 hown rfl (by decide) xw_346 (And.intro (by decide +kernel) rfl)) ?_
  refine xa_cons 40 ((And.intro hr (by decide +kernel))) ?_
  refine xa_cons 41 ((And.intro (by decide) (Or.inl (Exists.intro (0) (And.intro rfl (And.intro (by decide +kernel) rfl)))))) ?_
  refine xa_cons 42 (xc_getf (A := A) (own := "ExpressHouse") (index := 28) hx hb htsB xC_0 hown rfl (by decide) xw_19 (And.intro (by decide +kernel) rfl)) ?_
  refine xa_cons 43 ((And.intro (xc_callV (index := 159) (n := 0) (ci := 2) S xg_76 rfl xw_12 xw_426 xw_424 xw_425 rfl rfl rfl ⟨by decide, by decide, by decide +kernel⟩ rfl (And.intro (by decide +kernel) rfl)) (by decide +kernel))) ?_
  refine xa_cons 44 ((And.intro hr (by decide +kernel))) ?_
  refine xa_cons 45 ((And.intro (by decide) (Or.inl (Exists.intro (0) (And.intro rfl (And.intro (by decide +kernel) rfl)))))) ?_
  refine xa_cons 46 (xc_getf (A := A) (own := "ExpressHouse") (index := 107) hx hb htsB xC_0 hown rfl (by decide) xw_309 (And.intro (by decide +kernel) rfl)) ?_
  refine xa_cons 47 ((And.intro hr (by decide +kernel))) ?_
  refine xa_cons 48 ((And.intro (by decide) (Or.inl (Exists.intro (0) (And.intro rfl (And.intro (by decide +kernel) rfl)))))) ?_
  refine xa_cons 49 (xc_getf (A := A) (own := "ExpressHouse") (index := 84) hx hb htsB xC_0 hown rfl (by decide) xw_56 (And.intro (by decide +kernel) rfl)) ?_
  refine xa_cons 50 (xc_getf (A := A) (own := "ExpressHouse") (index := 162) hx hb htsB xC_9 hown rfl (by decide) xw_427 (And.intro (by decide +kernel) rfl)) ?_
  refine xa_cons 51 ((And.intro hr (by decide +kernel))) ?_
  refine xa_cons 52 ((And.intro (by decide) (Or.inl (Exists.intro (0) (And.intro rfl (And.intro (by decide +kernel) rfl)))))) ?_
  refine xa_cons 53 (xc_getf (A := A) (own := "ExpressHouse") (index := 59) hx hb htsB xC_0 hown rfl (by decide) xw_38 (And.intro (by decide +kernel) rfl)) ?_
  refine xa_cons 54 (xc_getf (A := A) (own := "ExpressHouse") (index := 165) hx hb htsB xC_6 hown rfl (by decide) xw_428 (And.intro (by decide +kernel) rfl)) ?_
  refine xa_cons 55 ((And.intro hr (by decide +kernel))) ?_
  refine xa_cons 56 ((And.intro (by decide) (Or.inl (Exists.intro (0) (And.intro rfl (And.intro (by decide +kernel) rfl)))))) ?_
  refine xa_cons 57 (xc_getf (A := A) (own := "ExpressHouse") (index := 59) hx hb htsB xC_0 hown rfl (by decide) xw_38 (And.intro (by decide +kernel) rfl)) ?_
  refine xa_cons 58 (xc_getf (A := A) (own := "ExpressHouse") (index := 166) hx hb htsB xC_6 hown rfl (by decide) xw_429 (And.intro (by decide +kernel) rfl)) ?_
  refine xa_cons 59 ((And.intro hr (by decide +kernel))) ?_
  refine xa_cons 60 (xc_iconst hx hb (z := -1) (b := 4294967295) (And.intro (by decide +kernel) rfl) (by decide +kernel) ⟨rfl, rfl⟩) ?_
  refine xa_cons 61 ((And.intro hr (by decide +kernel))) ?_
  exact xa_nil
def xrp_31 : Nat → Nat := fun k => ([0, 1, 4, 5, 6, 9, 12, 15, 16, 19, 20, 23, 24, 27] : List Nat).getD k 0
set_option maxRecDepth 20000 in
set_option maxHeartbeats 4000000 in
theorem xz_31 {l : Launch} {D : va_G} {en : XE} : x_Ok xT l D xcl en xrn (xG en) 31 xc_31 := by
  refine ⟨prog_1_method_16_code, (some .int), xBIG, xrp_31, by decide +kernel, rfl, rfl, ?_⟩
  intro p e R s m args below meth c s₁ A Q pc i f1 f2 B hml hA hg hi
  obtain ⟨hx, hb, hr, hown, hlocks, hin, htsB, S⟩ := xb_all (C := "ExpressHouse") B hml rfl rfl
  obtain ⟨hgN, hgZ, hgS, hgS2⟩ := xG_all hg
  refine xa_at (i := i) (pc := pc) ?_ hi
  refine xa_cons 0 ((And.intro (by decide) (Or.inl (Exists.intro (1) (And.intro rfl (And.intro (by decide +kernel) rfl)))))) ?_
  refine xa_cons 1 ((And.intro (by decide) (Exists.intro (14) (And.intro (by decide +kernel) (And.intro (by decide +kernel) rfl))))) ?_
  refine xa_cons 2 ((And.intro (by decide) (Or.inl (Exists.intro (1) (And.intro rfl (And.intro (by decide +kernel) rfl)))))) ?_
  refine xa_cons 3 ((And.intro (by decide) (Or.inl (Exists.intro (0) (And.intro rfl (And.intro (by decide +kernel) rfl)))))) ?_
  refine xa_cons 4 (xc_getf (A := A) (own := "ExpressHouse") (index := 28) hx hb htsB xC_0 hown rfl (by decide) xw_19 (And.intro (by decide +kernel) rfl)) ?_
  refine xa_cons 5 (xc_getf (A := A) (own := "ExpressHouse") (index := 156) hx hb htsB xC_2 hown rfl (by decide) xw_346 (And.intro (by decide +kernel) rfl)) ?_
  refine xa_cons 6 ((And.intro (by decide) (Exists.intro (7) (And.intro (by decide +kernel) (And.intro (by decide +kernel) rfl))))) ?_
  refine xa_cons 7 (xc_iconst hx hb (z := -1) (b := 4294967295) (And.intro (by decide +kernel) rfl) (by decide +kernel) ⟨rfl, rfl⟩) ?_
  refine xa_cons 8 ((Exists.intro (11) (And.intro (by decide +kernel) (by decide +kernel)))) ?_
  refine xa_cons 9 ((And.intro (by decide) (Or.inl (Exists.intro (0) (And.intro rfl (And.intro (by decide +kernel) rfl)))))) ?_
  refine xa_cons 10 (xc_getf (A := A) (own := "ExpressHouse") (index := 28) hx hb htsB xC_0 hown rfl (by decide) xw_19 (And.intro (by decide +kernel) rfl)) ?_
  refine xa_cons 11 ((And.intro (by decide) (Or.inl (Exists.intro (1) (And.intro rfl (And.intro (by decide +kernel) rfl)))))) ?_
  refine xa_cons 12 ((And.intro (xc_callV (index := 212) (n := 1) (ci := 2) S xg_73 rfl xw_12 xw_416 xw_414 xw_415 rfl rfl rfl ⟨by decide, by decide, by decide +kernel⟩ rfl (And.intro (by decide +kernel) rfl)) (by decide +kernel))) ?_
  refine xa_cons 13 ((And.intro hr (by decide +kernel))) ?_
  exact xa_nil
def xrp_32 : Nat → Nat := fun k => ([0, 1, 4, 5, 6, 9, 10, 11, 12, 15, 16, 17, 20, 21, 22, 25, 28] : List Nat).getD k 0
set_option maxRecDepth 20000 in
set_option maxHeartbeats 4000000 in
theorem xz_32 {l : Launch} {D : va_G} {en : XE} : x_Ok xT l D xcl en xrn (xG en) 32 xc_32 := by
  refine ⟨prog_1_method_25_code, (some .int), xBIG, xrp_32, by decide +kernel, rfl, rfl, ?_⟩
  intro p e R s m args below meth c s₁ A Q pc i f1 f2 B hml hA hg hi
  obtain ⟨hx, hb, hr, hown, hlocks, hin, htsB, S⟩ := xb_all (C := "ExpressHouse") B hml rfl rfl
  obtain ⟨hgN, hgZ, hgS, hgS2⟩ := xG_all hg
  refine xa_at (i := i) (pc := pc) ?_ hi
  refine xa_cons 0 ((And.intro (by decide) (Or.inl (Exists.intro (1) (And.intro rfl (And.intro (by decide +kernel) rfl)))))) ?_
  refine xa_cons 1 ((And.intro (by decide) (Exists.intro (8) (And.intro (by decide +kernel) (And.intro (by decide +kernel) rfl))))) ?_
  refine xa_cons 2 ((And.intro (by decide) (Or.inl (Exists.intro (1) (And.intro rfl (And.intro (by decide +kernel) rfl)))))) ?_
  refine xa_cons 3 (xc_iconst hx hb (z := 4) (b := 4) (And.intro (by decide +kernel) rfl) (by decide +kernel) ⟨rfl, rfl⟩) ?_
  refine xa_cons 4 ((And.intro (by decide) (Exists.intro (5) (And.intro (by decide +kernel) (And.intro (by decide +kernel) rfl))))) ?_
  refine xa_cons 5 (xc_iconst hx hb (z := -1) (b := 4294967295) (And.intro (by decide +kernel) rfl) (by decide +kernel) ⟨rfl, rfl⟩) ?_
  refine xa_cons 6 ((And.intro hr (by decide +kernel))) ?_
  refine xa_cons 7 ((And.intro (by decide) (Or.inl (Exists.intro (0) (And.intro rfl (And.intro (by decide +kernel) rfl)))))) ?_
  refine xa_cons 8 (xc_getf (A := A) (own := "ExpressHouse") (index := 97) hx hb htsB xC_0 hown rfl (by decide) xw_62 (And.intro (by decide +kernel) rfl)) ?_
  refine xa_cons 9 ((And.intro (by decide) (Or.inl (Exists.intro (1) (And.intro rfl (And.intro (by decide +kernel) rfl)))))) ?_
  refine xa_cons 10 ((And.intro (by decide) (Or.inl (Exists.intro (0) (And.intro rfl (And.intro (by decide +kernel) rfl)))))) ?_
  refine xa_cons 11 (xc_getf (A := A) (own := "ExpressHouse") (index := 93) hx hb htsB xC_0 hown rfl (by decide) xw_61 (And.intro (by decide +kernel) rfl)) ?_
  refine xa_cons 12 ((And.intro (by decide) (And.intro (by decide +kernel) rfl))) ?_
  refine xa_cons 13 ((And.intro (by decide) (Or.inl (Exists.intro (0) (And.intro rfl (And.intro (by decide +kernel) rfl)))))) ?_
  refine xa_cons 14 (xc_getf (A := A) (own := "ExpressHouse") (index := 93) hx hb htsB xC_0 hown rfl (by decide) xw_61 (And.intro (by decide +kernel) rfl)) ?_
  refine xa_cons 15 (xc_getf (A := A) (own := "ExpressHouse") (index := 248) hx hb htsB xC_10 hown rfl (by decide) xw_374 (And.intro (by decide +kernel) rfl)) ?_
  refine xa_cons 16 ((And.intro hr (by decide +kernel))) ?_
  exact xa_nil
def xrp_33 : Nat → Nat := fun k => ([0, 1, 4, 7, 10, 11, 14, 16] : List Nat).getD k 0
set_option maxRecDepth 20000 in
set_option maxHeartbeats 4000000 in
theorem xz_33 {l : Launch} {D : va_G} {en : XE} : x_Ok xT l D xcl en xrn (xG en) 33 xc_33 := by
  refine ⟨prog_1_method_44_code, (some .int), xBIG, xrp_33, by decide +kernel, rfl, rfl, ?_⟩
  intro p e R s m args below meth c s₁ A Q pc i f1 f2 B hml hA hg hi
  obtain ⟨hx, hb, hr, hown, hlocks, hin, htsB, S⟩ := xb_all (C := "ExpressHouse") B hml rfl rfl
  obtain ⟨hgN, hgZ, hgS, hgS2⟩ := xG_all hg
  refine xa_at (i := i) (pc := pc) ?_ hi
  refine xa_cons 0 ((And.intro (by decide) (Or.inl (Exists.intro (0) (And.intro rfl (And.intro (by decide +kernel) rfl)))))) ?_
  refine xa_cons 1 (xc_getf (A := A) (own := "ExpressHouse") (index := 28) hx hb htsB xC_0 hown rfl (by decide) xw_19 (And.intro (by decide +kernel) rfl)) ?_
  refine xa_cons 2 ((And.intro (xc_callV (index := 394) (n := 0) (ci := 2) S xg_77 rfl xw_12 xw_432 xw_430 xw_431 rfl rfl rfl ⟨by decide, by decide, by decide +kernel⟩ rfl (And.intro (by decide +kernel) rfl)) (by decide +kernel))) ?_
  refine xa_cons 3 ((And.intro (by decide) (Exists.intro (7) (And.intro (by decide +kernel) (And.intro (by decide +kernel) rfl))))) ?_
  refine xa_cons 4 (xc_iconst hx hb (z := 1) (b := 1) (And.intro (by decide +kernel) rfl) (by decide +kernel) ⟨rfl, rfl⟩) ?_
  refine xa_cons 5 ((Exists.intro (5) (And.intro (by decide +kernel) (by decide +kernel)))) ?_
  refine xa_cons 6 (xc_bipush hx hb (z := -3) (b := 4294967293) (And.intro (by decide +kernel) rfl) (by decide +kernel) ⟨rfl, rfl⟩) ?_
  refine xa_cons 7 ((And.intro hr (by decide +kernel))) ?_
  exact xa_nil
def xrp_34 : Nat → Nat := fun k => ([0, 1, 4, 7, 10, 12, 13, 14, 17, 18, 19, 20, 23, 26, 27, 28, 29, 30, 33, 34, 37, 38, 39, 42, 43, 44, 47, 48, 49, 52, 53, 56, 57, 60, 61, 62, 65, 66, 69, 72, 73] : List Nat).getD k 0
set_option maxRecDepth 20000 in
set_option maxHeartbeats 4000000 in
theorem xz_34 {l : Launch} {D : va_G} {en : XE} : x_Ok xT l D xcl en xrn (xG en) 34 xc_34 := by
  refine ⟨prog_1_method_45_code, (some .int), xBIG, xrp_34, by decide +kernel, rfl, rfl, ?_⟩
  intro p e R s m args below meth c s₁ A Q pc i f1 f2 B hml hA hg hi
  obtain ⟨hx, hb, hr, hown, hlocks, hin, htsB, S⟩ := xb_all (C := "ExpressHouse") B hml rfl rfl
  obtain ⟨hgN, hgZ, hgS, hgS2⟩ := xG_all hg
  refine xa_at (i := i) (pc := pc) ?_ hi
  refine xa_cons 0 ((And.intro (by decide) (Or.inl (Exists.intro (0) (And.intro rfl (And.intro (by decide +kernel) rfl)))))) ?_
  refine xa_cons 1 (xc_getf (A := A) (own := "ExpressHouse") (index := 28) hx hb htsB xC_0 hown rfl (by decide) xw_19 (And.intro (by decide +kernel) rfl)) ?_
  refine xa_cons 2 ((And.intro (xc_callV (index := 397) (n := 0) (ci := 2) S xg_78 rfl xw_12 xw_435 xw_433 xw_434 rfl rfl rfl ⟨by decide, by decide, by decide +kernel⟩ rfl (And.intro (by decide +kernel) rfl)) (by decide +kernel))) ?_
  refine xa_cons 3 ((And.intro (by decide) (Exists.intro (6) (And.intro (by decide +kernel) (And.intro (by decide +kernel) rfl))))) ?_
  refine xa_cons 4 (xc_bipush hx hb (z := -3) (b := 4294967293) (And.intro (by decide +kernel) rfl) (by decide +kernel) ⟨rfl, rfl⟩) ?_
  refine xa_cons 5 ((And.intro hr (by decide +kernel))) ?_
  refine xa_cons 6 ((And.intro (by decide) (Or.inl (Exists.intro (0) (And.intro rfl (And.intro (by decide +kernel) rfl)))))) ?_
  refine xa_cons 7 (xc_new (own := "ExpressHouse") (index := 88) hx hb htsB xC_10 hown hA rfl rfl xw_57 xw_58 xw_59 (by decide) (by decide +kernel) (And.intro (by decide +kernel) rfl)) ?_
  refine xa_cons 8 ((And.intro (by decide +kernel) rfl)) ?_
  refine xa_cons 9 (xc_iconst hx hb (z := 0) (b := 0) (And.intro (by decide +kernel) rfl) (by decide +kernel) ⟨rfl, rfl⟩) ?_
  refine xa_cons 10 (xc_lconst hx hb (z := 0) (And.intro (by decide +kernel) rfl) ⟨rfl, rfl⟩) ?_
  refine xa_cons 11 ((And.intro (xc_callIN (index := 90) (n := 2) (ci := 10) S xg_18 rfl xw_59 (hgN.1 _ (List.mem_of_getElem? (i := 2) rfl)) xw_60 rfl rfl rfl ⟨by decide, by decide, by decide +kernel⟩ rfl (And.intro (by decide +kernel) rfl)) (by decide +kernel))) ?_
  refine xa_cons 12 (xc_putf (own := "ExpressHouse") (index := 93) hx hb htsB xC_0 hown rfl (by decide) xw_61 rfl (Or.inl ⟨_, rfl⟩) (And.intro (by decide +kernel) rfl)) ?_
  refine xa_cons 13 (xc_iconst hx hb (z := 0) (b := 0) (And.intro (by decide +kernel) rfl) (by decide +kernel) ⟨rfl, rfl⟩) ?_
  refine xa_cons 14 ((And.intro (Or.inl rfl) (Or.inl (Exists.intro (1) (And.intro rfl (And.intro (by decide +kernel) rfl)))))) ?_
  refine xa_cons 15 ((And.intro (by decide) (Or.inl (Exists.intro (1) (And.intro rfl (And.intro (by decide +kernel) rfl)))))) ?_
  refine xa_cons 16 (xc_iconst hx hb (z := 4) (b := 4) (And.intro (by decide +kernel) rfl) (by decide +kernel) ⟨rfl, rfl⟩) ?_
  refine xa_cons 17 ((And.intro (by decide) (Exists.intro (42) (And.intro (by decide +kernel) (And.intro (by decide +kernel) rfl))))) ?_
  refine xa_cons 18 ((And.intro (by decide) (Or.inl (Exists.intro (0) (And.intro rfl (And.intro (by decide +kernel) rfl)))))) ?_
  refine xa_cons 19 (xc_getf (A := A) (own := "ExpressHouse") (index := 97) hx hb htsB xC_0 hown rfl (by decide) xw_62 (And.intro (by decide +kernel) rfl)) ?_
  refine xa_cons 20 ((And.intro (by decide) (Or.inl (Exists.intro (1) (And.intro rfl (And.intro (by decide +kernel) rfl)))))) ?_
  refine xa_cons 21 ((And.intro (by decide) (Or.inl (Exists.intro (0) (And.intro rfl (And.intro (by decide +kernel) rfl)))))) ?_
  refine xa_cons 22 (xc_getf (A := A) (own := "ExpressHouse") (index := 93) hx hb htsB xC_0 hown rfl (by decide) xw_61 (And.intro (by decide +kernel) rfl)) ?_
  refine xa_cons 23 ((And.intro (by decide) (And.intro (by decide +kernel) rfl))) ?_
  refine xa_cons 24 ((And.intro (by decide) (Or.inl (Exists.intro (0) (And.intro rfl (And.intro (by decide +kernel) rfl)))))) ?_
  refine xa_cons 25 (xc_getf (A := A) (own := "ExpressHouse") (index := 101) hx hb htsB xC_0 hown rfl (by decide) xw_63 (And.intro (by decide +kernel) rfl)) ?_
  refine xa_cons 26 ((And.intro (by decide) (Or.inl (Exists.intro (1) (And.intro rfl (And.intro (by decide +kernel) rfl)))))) ?_
  refine xa_cons 27 ((And.intro (by decide) (And.intro (by decide +kernel) rfl))) ?_
  refine xa_cons 28 (xc_getf (A := A) (own := "ExpressHouse") (index := 272) hx hb htsB xC_10 hown rfl (by decide) xw_436 (And.intro (by decide +kernel) rfl)) ?_
  refine xa_cons 29 (xc_iconst hx hb (z := 5) (b := 5) (And.intro (by decide +kernel) rfl) (by decide +kernel) ⟨rfl, rfl⟩) ?_
  refine xa_cons 30 ((And.intro (by decide) (Exists.intro (13) (And.intro (by decide +kernel) (And.intro (by decide +kernel) rfl))))) ?_
  refine xa_cons 31 ((And.intro (by decide) (Or.inl (Exists.intro (0) (And.intro rfl (And.intro (by decide +kernel) rfl)))))) ?_
  refine xa_cons 32 (xc_getf (A := A) (own := "ExpressHouse") (index := 101) hx hb htsB xC_0 hown rfl (by decide) xw_63 (And.intro (by decide +kernel) rfl)) ?_
  refine xa_cons 33 ((And.intro (by decide) (Or.inl (Exists.intro (1) (And.intro rfl (And.intro (by decide +kernel) rfl)))))) ?_
  refine xa_cons 34 ((And.intro (by decide) (Or.inl (Exists.intro (0) (And.intro rfl (And.intro (by decide +kernel) rfl)))))) ?_
  refine xa_cons 35 (xc_getf (A := A) (own := "ExpressHouse") (index := 93) hx hb htsB xC_0 hown rfl (by decide) xw_61 (And.intro (by decide +kernel) rfl)) ?_
  refine xa_cons 36 ((And.intro (by decide) (And.intro (by decide +kernel) rfl))) ?_
  refine xa_cons 37 ((Exists.intro (1) (And.intro (And.intro (by decide +kernel) rfl) (by decide +kernel)))) ?_
  refine xa_cons 38 ((Exists.intro (-41) (And.intro (by decide +kernel) (by decide +kernel)))) ?_
  refine xa_cons 39 (xc_iconst hx hb (z := 1) (b := 1) (And.intro (by decide +kernel) rfl) (by decide +kernel) ⟨rfl, rfl⟩) ?_
  refine xa_cons 40 ((And.intro hr (by decide +kernel))) ?_
  exact xa_nil
def xrp_35 : Nat → Nat := fun k => ([0, 1, 4, 5, 6, 9, 10, 11, 12, 15, 18, 21, 23, 24, 25, 28, 31, 33, 36, 37, 40, 43, 46, 48, 49, 50, 53, 56, 59, 61, 62, 63, 66, 67, 70, 71, 72, 73, 74, 77, 80, 81, 82, 85, 88, 91, 92, 93, 96, 99, 100] : List Nat).getD k 0
set_option maxRecDepth 20000 in
set_option maxHeartbeats 4000000 in
theorem xz_35 {l : Launch} {D : va_G} {en : XE} : x_Ok xT l D xcl en xrn (xG en) 35 xc_35 := by
  refine ⟨prog_1_method_27_code, (some .int), xBIG, xrp_35, by decide +kernel, rfl, rfl, ?_⟩
  intro p e R s m args below meth c s₁ A Q pc i f1 f2 B hml hA hg hi
  obtain ⟨hx, hb, hr, hown, hlocks, hin, htsB, S⟩ := xb_all (C := "ExpressHouse") B hml rfl rfl
  obtain ⟨hgN, hgZ, hgS, hgS2⟩ := xG_all hg
  refine xa_at (i := i) (pc := pc) ?_ hi
  refine xa_cons 0 ((And.intro (by decide) (Or.inl (Exists.intro (1) (And.intro rfl (And.intro (by decide +kernel) rfl)))))) ?_
  refine xa_cons 1 ((And.intro (by decide) (Exists.intro (8) (And.intro (by decide +kernel) (And.intro (by decide +kernel) rfl))))) ?_
  refine xa_cons 2 ((And.intro (by decide) (Or.inl (Exists.intro (1) (And.intro rfl (And.intro (by decide +kernel) rfl)))))) ?_
  refine xa_cons 3 (xc_iconst hx hb (z := 4) (b := 4) (And.intro (by decide +kernel) rfl) (by decide +kernel) ⟨rfl, rfl⟩) ?_
  refine xa_cons 4 ((And.intro (by decide) (Exists.intro (5) (And.intro (by decide +kernel) (And.intro (by decide +kernel) rfl))))) ?_
  refine xa_cons 5 (xc_iconst hx hb (z := -1) (b := 4294967295) (And.intro (by decide +kernel) rfl) (by decide +kernel) ⟨rfl, rfl⟩) ?_
  refine xa_cons 6 ((And.intro hr (by decide +kernel))) ?_
  refine xa_cons 7 ((And.intro (by decide) (Or.inl (Exists.intro (0) (And.intro rfl (And.intro (by decide +kernel) rfl)))))) ?_
  refine xa_cons 8 (xc_getf (A := A) (own := "ExpressHouse") (index := 93) hx hb htsB xC_0 hown rfl (by decide) xw_61 (And.intro (by decide +kernel) rfl)) ?_
  refine xa_cons 9 (xc_getf (A := A) (own := "ExpressHouse") (index := 248) hx hb htsB xC_10 hown rfl (by decide) xw_374 (And.intro (by decide +kernel) rfl)) ?_
  refine xa_cons 10 ((And.intro (by decide) (Exists.intro (6) (And.intro (by decide +kernel) (And.intro (by decide +kernel) rfl))))) ?_
  refine xa_cons 11 (xc_bipush hx hb (z := -21) (b := 4294967275) (And.intro (by decide +kernel) rfl) (by decide +kernel) ⟨rfl, rfl⟩) ?_
  refine xa_cons 12 ((And.intro hr (by decide +kernel))) ?_
  refine xa_cons 13 ((And.intro (by decide) (Or.inl (Exists.intro (0) (And.intro rfl (And.intro (by decide +kernel) rfl)))))) ?_
  refine xa_cons 14 (xc_getf (A := A) (own := "ExpressHouse") (index := 93) hx hb htsB xC_0 hown rfl (by decide) xw_61 (And.intro (by decide +kernel) rfl)) ?_
  refine xa_cons 15 (xc_getf (A := A) (own := "ExpressHouse") (index := 248) hx hb htsB xC_10 hown rfl (by decide) xw_374 (And.intro (by decide +kernel) rfl)) ?_
  refine xa_cons 16 (xc_bipush hx hb (z := 6) (b := 6) (And.intro (by decide +kernel) rfl) (by decide +kernel) ⟨rfl, rfl⟩) ?_
  refine xa_cons 17 ((And.intro (by decide) (Exists.intro (13) (And.intro (by decide +kernel) (And.intro (by decide +kernel) rfl))))) ?_
  refine xa_cons 18 ((And.intro (by decide) (Or.inl (Exists.intro (0) (And.intro rfl (And.intro (by decide +kernel) rfl)))))) ?_
  refine xa_cons 19 (xc_getf (A := A) (own := "ExpressHouse") (index := 93) hx hb htsB xC_0 hown rfl (by decide) xw_61 (And.intro (by decide +kernel) rfl)) ?_
  refine xa_cons 20 (xc_getf (A := A) (own := "ExpressHouse") (index := 272) hx hb htsB xC_10 hown rfl (by decide) xw_436 (And.intro (by decide +kernel) rfl)) ?_
  refine xa_cons 21 ((And.intro (by decide) (Exists.intro (6) (And.intro (by decide +kernel) (And.intro (by decide +kernel) rfl))))) ?_
  refine xa_cons 22 (xc_bipush hx hb (z := -23) (b := 4294967273) (And.intro (by decide +kernel) rfl) (by decide +kernel) ⟨rfl, rfl⟩) ?_
  refine xa_cons 23 ((And.intro hr (by decide +kernel))) ?_
  refine xa_cons 24 ((And.intro (by decide) (Or.inl (Exists.intro (0) (And.intro rfl (And.intro (by decide +kernel) rfl)))))) ?_
  refine xa_cons 25 (xc_getf (A := A) (own := "ExpressHouse") (index := 93) hx hb htsB xC_0 hown rfl (by decide) xw_61 (And.intro (by decide +kernel) rfl)) ?_
  refine xa_cons 26 (xc_getf (A := A) (own := "ExpressHouse") (index := 290) hx hb htsB xC_10 hown rfl (by decide) xw_437 (And.intro (by decide +kernel) rfl)) ?_
  refine xa_cons 27 ((And.intro (by decide) (Exists.intro (6) (And.intro (by decide +kernel) (And.intro (by decide +kernel) rfl))))) ?_
  refine xa_cons 28 (xc_bipush hx hb (z := -21) (b := 4294967275) (And.intro (by decide +kernel) rfl) (by decide +kernel) ⟨rfl, rfl⟩) ?_
  refine xa_cons 29 ((And.intro hr (by decide +kernel))) ?_
  refine xa_cons 30 ((And.intro (by decide) (Or.inl (Exists.intro (0) (And.intro rfl (And.intro (by decide +kernel) rfl)))))) ?_
  refine xa_cons 31 (xc_getf (A := A) (own := "ExpressHouse") (index := 101) hx hb htsB xC_0 hown rfl (by decide) xw_63 (And.intro (by decide +kernel) rfl)) ?_
  refine xa_cons 32 ((And.intro (by decide) (Or.inl (Exists.intro (1) (And.intro rfl (And.intro (by decide +kernel) rfl)))))) ?_
  refine xa_cons 33 (xc_new (own := "ExpressHouse") (index := 88) hx hb htsB xC_10 hown hA rfl rfl xw_57 xw_58 xw_59 (by decide) (by decide +kernel) (And.intro (by decide +kernel) rfl)) ?_
  refine xa_cons 34 ((And.intro (by decide +kernel) rfl)) ?_
  refine xa_cons 35 (xc_iconst hx hb (z := 1) (b := 1) (And.intro (by decide +kernel) rfl) (by decide +kernel) ⟨rfl, rfl⟩) ?_
  refine xa_cons 36 (xc_iconst hx hb (z := 1) (b := 1) (And.intro (by decide +kernel) rfl) (by decide +kernel) ⟨rfl, rfl⟩) ?_
  refine xa_cons 37 ((And.intro (by decide) (Or.inl (Exists.intro (0) (And.intro rfl (And.intro (by decide +kernel) rfl)))))) ?_
  refine xa_cons 38 (xc_getf (A := A) (own := "ExpressHouse") (index := 93) hx hb htsB xC_0 hown rfl (by decide) xw_61 (And.intro (by decide +kernel) rfl)) ?_
  refine xa_cons 39 (xc_getf (A := A) (own := "ExpressHouse") (index := 272) hx hb htsB xC_10 hown rfl (by decide) xw_436 (And.intro (by decide +kernel) rfl)) ?_
  refine xa_cons 40 (xc_iconst hx hb (z := 0) (b := 0) (And.intro (by decide +kernel) rfl) (by decide +kernel) ⟨rfl, rfl⟩) ?_
  refine xa_cons 41 ((And.intro (by decide) (Or.inl (Exists.intro (0) (And.intro rfl (And.intro (by decide +kernel) rfl)))))) ?_
  refine xa_cons 42 (xc_getf (A := A) (own := "ExpressHouse") (index := 93) hx hb htsB xC_0 hown rfl (by decide) xw_61 (And.intro (by decide +kernel) rfl)) ?_
  refine xa_cons 43 (xc_getf (A := A) (own := "ExpressHouse") (index := 268) hx hb htsB xC_10 hown rfl (by decide) xw_438 (And.intro (by decide +kernel) rfl)) ?_
  refine xa_cons 44 ((And.intro (xc_callIN (index := 293) (n := 5) (ci := 10) S xg_79 rfl xw_59 (hgN.1 _ (List.mem_of_getElem? (i := 5) rfl)) xw_439 rfl rfl rfl ⟨by decide, by decide, by decide +kernel⟩ rfl (And.intro (by decide +kernel) rfl)) (by decide +kernel))) ?_
  refine xa_cons 45 ((And.intro (by decide) (And.intro (by decide +kernel) rfl))) ?_
  refine xa_cons 46 ((And.intro (by decide) (Or.inl (Exists.intro (0) (And.intro rfl (And.intro (by decide +kernel) rfl)))))) ?_
  refine xa_cons 47 (xc_getf (A := A) (own := "ExpressHouse") (index := 93) hx hb htsB xC_0 hown rfl (by decide) xw_61 (And.intro (by decide +kernel) rfl)) ?_
  refine xa_cons 48 (xc_getf (A := A) (own := "ExpressHouse") (index := 268) hx hb htsB xC_10 hown rfl (by decide) xw_438 (And.intro (by decide +kernel) rfl)) ?_
  refine xa_cons 49 ((And.intro (by decide +kernel) rfl)) ?_
  refine xa_cons 50 ((And.intro hr (by decide +kernel))) ?_
  exact xa_nil
def xrp_36 : Nat → Nat := fun k => ([0, 1, 4, 5, 6, 9, 12, 15, 16, 17, 20, 21, 22, 23, 26, 29, 30, 33] : List Nat).getD k 0
set_option maxRecDepth 20000 in
set_option maxHeartbeats 4000000 in
theorem xz_36 {l : Launch} {D : va_G} {en : XE} : x_Ok xT l D xcl en xrn (xG en) 36 xc_36 := by
  refine ⟨prog_1_method_13_code, (some .int), xBIG, xrp_36, by decide +kernel, rfl, rfl, ?_⟩
  intro p e R s m args below meth c s₁ A Q pc i f1 f2 B hml hA hg hi
  obtain ⟨hx, hb, hr, hown, hlocks, hin, htsB, S⟩ := xb_all (C := "ExpressHouse") B hml rfl rfl
  obtain ⟨hgN, hgZ, hgS, hgS2⟩ := xG_all hg
  refine xa_at (i := i) (pc := pc) ?_ hi
  refine xa_cons 0 ((And.intro (by decide) (Or.inl (Exists.intro (1) (And.intro rfl (And.intro (by decide +kernel) rfl)))))) ?_
  refine xa_cons 1 ((And.intro (by decide) (Exists.intro (19) (And.intro (by decide +kernel) (And.intro (by decide +kernel) rfl))))) ?_
  refine xa_cons 2 ((And.intro (by decide) (Or.inl (Exists.intro (1) (And.intro rfl (And.intro (by decide +kernel) rfl)))))) ?_
  refine xa_cons 3 ((And.intro (by decide) (Or.inl (Exists.intro (0) (And.intro rfl (And.intro (by decide +kernel) rfl)))))) ?_
  refine xa_cons 4 (xc_getf (A := A) (own := "ExpressHouse") (index := 28) hx hb htsB xC_0 hown rfl (by decide) xw_19 (And.intro (by decide +kernel) rfl)) ?_
  refine xa_cons 5 (xc_getf (A := A) (own := "ExpressHouse") (index := 34) hx hb htsB xC_2 hown rfl (by decide) xw_23 (And.intro (by decide +kernel) rfl)) ?_
  refine xa_cons 6 (xc_getf (A := A) (own := "ExpressHouse") (index := 146) hx hb htsB xC_3 hown rfl (by decide) xw_339 (And.intro (by decide +kernel) rfl)) ?_
  refine xa_cons 7 (xc_iconst hx hb (z := 2) (b := 2) (And.intro (by decide +kernel) rfl) (by decide +kernel) ⟨rfl, rfl⟩) ?_
  refine xa_cons 8 ((And.intro (by decide) (And.intro (by decide +kernel) rfl))) ?_
  refine xa_cons 9 ((And.intro (by decide) (Exists.intro (5) (And.intro (by decide +kernel) (And.intro (by decide +kernel) rfl))))) ?_
  refine xa_cons 10 (xc_iconst hx hb (z := -1) (b := 4294967295) (And.intro (by decide +kernel) rfl) (by decide +kernel) ⟨rfl, rfl⟩) ?_
  refine xa_cons 11 ((And.intro hr (by decide +kernel))) ?_
  refine xa_cons 12 ((And.intro (by decide) (Or.inl (Exists.intro (0) (And.intro rfl (And.intro (by decide +kernel) rfl)))))) ?_
  refine xa_cons 13 (xc_getf (A := A) (own := "ExpressHouse") (index := 28) hx hb htsB xC_0 hown rfl (by decide) xw_19 (And.intro (by decide +kernel) rfl)) ?_
  refine xa_cons 14 (xc_getf (A := A) (own := "ExpressHouse") (index := 34) hx hb htsB xC_2 hown rfl (by decide) xw_23 (And.intro (by decide +kernel) rfl)) ?_
  refine xa_cons 15 ((And.intro (by decide) (Or.inl (Exists.intro (1) (And.intro rfl (And.intro (by decide +kernel) rfl)))))) ?_
  refine xa_cons 16 ((And.intro (xc_callV (index := 200) (n := 1) (ci := 3) S xg_80 rfl xw_15 xw_442 xw_440 xw_441 rfl rfl rfl ⟨by decide, by decide, by decide +kernel⟩ rfl (And.intro (by decide +kernel) rfl)) (by decide +kernel))) ?_
  refine xa_cons 17 ((And.intro hr (by decide +kernel))) ?_
  exact xa_nil
def xrp_37 : Nat → Nat := fun k => ([0, 1, 4] : List Nat).getD k 0
set_option maxRecDepth 20000 in
set_option maxHeartbeats 4000000 in
theorem xz_37 {l : Launch} {D : va_G} {en : XE} : x_Ok xT l D xcl en xrn (xG en) 37 xc_37 := by
  refine ⟨prog_1_method_7_code, (some .int), xBIG, xrp_37, by decide +kernel, rfl, rfl, ?_⟩
  intro p e R s m args below meth c s₁ A Q pc i f1 f2 B hml hA hg hi
  obtain ⟨hx, hb, hr, hown, hlocks, hin, htsB, S⟩ := xb_all (C := "ExpressHouse") B hml rfl rfl
  obtain ⟨hgN, hgZ, hgS, hgS2⟩ := xG_all hg
  refine xa_at (i := i) (pc := pc) ?_ hi
  refine xa_cons 0 ((And.intro (by decide) (Or.inl (Exists.intro (0) (And.intro rfl (And.intro (by decide +kernel) rfl)))))) ?_
  refine xa_cons 1 (xc_getf (A := A) (own := "ExpressHouse") (index := 132) hx hb htsB xC_0 hown rfl (by decide) xw_326 (And.intro (by decide +kernel) rfl)) ?_
  refine xa_cons 2 ((And.intro hr (by decide +kernel))) ?_
  exact xa_nil
def xrp_38 : Nat → Nat := fun k => ([0, 1, 4, 5, 8, 9, 12, 15, 16, 17, 18, 19, 22, 23, 26, 29, 32, 33, 36, 37, 38, 41, 42, 45, 46, 49, 50, 51, 52, 53, 56, 59, 60, 63, 66, 69, 70, 73, 76, 79, 82, 85, 88, 89, 90, 93, 94, 95, 98, 101, 104, 105, 108, 111] : List Nat).getD k 0
set_option maxRecDepth 20000 in
set_option maxHeartbeats 4000000 in
theorem xz_38 {l : Launch} {D : va_G} {en : XE} : x_Ok xT l D xcl en xrn (xG en) 38 xc_38 := by
  refine ⟨prog_1_method_41_code, (some .int), xBIG, xrp_38, by decide +kernel, rfl, rfl, ?_⟩
  intro p e R s m args below meth c s₁ A Q pc i f1 f2 B hml hA hg hi
  obtain ⟨hx, hb, hr, hown, hlocks, hin, htsB, S⟩ := xb_all (C := "ExpressHouse") B hml rfl rfl
  obtain ⟨hgN, hgZ, hgS, hgS2⟩ := xG_all hg
  refine xa_at (i := i) (pc := pc) ?_ hi
  refine xa_cons 0 ((And.intro (by decide) (Or.inl (Exists.intro (0) (And.intro rfl (And.intro (by decide +kernel) rfl)))))) ?_
  refine xa_cons 1 (xc_getf (A := A) (own := "ExpressHouse") (index := 77) hx hb htsB xC_0 hown rfl (by decide) xw_50 (And.intro (by decide +kernel) rfl)) ?_
  refine xa_cons 2 ((And.intro (by decide) (Or.inl (Exists.intro (0) (And.intro rfl (And.intro (by decide +kernel) rfl)))))) ?_
  refine xa_cons 3 (xc_getf (A := A) (own := "ExpressHouse") (index := 9) hx hb htsB xC_0 hown rfl (by decide) xw_4 (And.intro (by decide +kernel) rfl)) ?_
  refine xa_cons 4 ((And.intro (by decide) (Or.inl (Exists.intro (0) (And.intro rfl (And.intro (by decide +kernel) rfl)))))) ?_
  refine xa_cons 5 (xc_getf (A := A) (own := "ExpressHouse") (index := 107) hx hb htsB xC_0 hown rfl (by decide) xw_309 (And.intro (by decide +kernel) rfl)) ?_
  refine xa_cons 6 ((And.intro (xc_callV (index := 373) (n := 2) (ci := 8) S xg_81 rfl xw_47 xw_445 xw_443 xw_444 rfl rfl rfl ⟨by decide, by decide, by decide +kernel⟩ rfl (And.intro (by decide +kernel) rfl)) (by decide +kernel))) ?_
  refine xa_cons 7 (xc_iconst hx hb (z := 1) (b := 1) (And.intro (by decide +kernel) rfl) (by decide +kernel) ⟨rfl, rfl⟩) ?_
  refine xa_cons 8 ((And.intro (Or.inl rfl) (Or.inl (Exists.intro (1) (And.intro rfl (And.intro (by decide +kernel) rfl)))))) ?_
  refine xa_cons 9 ((And.intro (by decide) (Or.inl (Exists.intro (1) (And.intro rfl (And.intro (by decide +kernel) rfl)))))) ?_
  refine xa_cons 10 (xc_iconst hx hb (z := 2) (b := 2) (And.intro (by decide +kernel) rfl) (by decide +kernel) ⟨rfl, rfl⟩) ?_
  refine xa_cons 11 ((And.intro (by decide) (Exists.intro (69) (And.intro (by decide +kernel) (And.intro (by decide +kernel) rfl))))) ?_
  refine xa_cons 12 ((And.intro (by decide) (Or.inl (Exists.intro (0) (And.intro rfl (And.intro (by decide +kernel) rfl)))))) ?_
  refine xa_cons 13 (xc_getf (A := A) (own := "ExpressHouse") (index := 77) hx hb htsB xC_0 hown rfl (by decide) xw_50 (And.intro (by decide +kernel) rfl)) ?_
  refine xa_cons 14 (xc_getf (A := A) (own := "ExpressHouse") (index := 375) hx hb htsB xC_8 hown rfl (by decide) xw_446 (And.intro (by decide +kernel) rfl)) ?_
  refine xa_cons 15 ((And.intro (by decide) (Exists.intro (59) (And.intro (by decide +kernel) (And.intro (by decide +kernel) rfl))))) ?_
  refine xa_cons 16 ((And.intro (by decide) (Or.inl (Exists.intro (0) (And.intro rfl (And.intro (by decide +kernel) rfl)))))) ?_
  refine xa_cons 17 (xc_getf (A := A) (own := "ExpressHouse") (index := 77) hx hb htsB xC_0 hown rfl (by decide) xw_50 (And.intro (by decide +kernel) rfl)) ?_
  refine xa_cons 18 ((And.intro (by decide) (Or.inl (Exists.intro (1) (And.intro rfl (And.intro (by decide +kernel) rfl)))))) ?_
  refine xa_cons 19 (xc_iconst hx hb (z := 2) (b := 2) (And.intro (by decide +kernel) rfl) (by decide +kernel) ⟨rfl, rfl⟩) ?_
  refine xa_cons 20 ((And.intro (by decide) (Exists.intro (7) (And.intro (by decide +kernel) (And.intro (by decide +kernel) rfl))))) ?_
  refine xa_cons 21 (xc_iconst hx hb (z := 1) (b := 1) (And.intro (by decide +kernel) rfl) (by decide +kernel) ⟨rfl, rfl⟩) ?_
  refine xa_cons 22 ((Exists.intro (4) (And.intro (by decide +kernel) (by decide +kernel)))) ?_
  refine xa_cons 23 (xc_iconst hx hb (z := 0) (b := 0) (And.intro (by decide +kernel) rfl) (by decide +kernel) ⟨rfl, rfl⟩) ?_
  refine xa_cons 24 ((And.intro (xc_callV (index := 376) (n := 1) (ci := 8) S xg_82 rfl xw_47 xw_449 xw_447 xw_448 rfl rfl rfl ⟨by decide, by decide, by decide +kernel⟩ rfl (And.intro (by decide +kernel) rfl)) (by decide +kernel))) ?_
  refine xa_cons 25 (xc_iconst hx hb (z := 0) (b := 0) (And.intro (by decide +kernel) rfl) (by decide +kernel) ⟨rfl, rfl⟩) ?_
  refine xa_cons 26 ((And.intro (Or.inl rfl) (Or.inl (Exists.intro (2) (And.intro rfl (And.intro (by decide +kernel) rfl)))))) ?_
  refine xa_cons 27 ((And.intro (by decide) (Or.inl (Exists.intro (2) (And.intro rfl (And.intro (by decide +kernel) rfl)))))) ?_
  refine xa_cons 28 ((And.intro (by decide) (Or.inl (Exists.intro (0) (And.intro rfl (And.intro (by decide +kernel) rfl)))))) ?_
  refine xa_cons 29 (xc_getf (A := A) (own := "ExpressHouse") (index := 107) hx hb htsB xC_0 hown rfl (by decide) xw_309 (And.intro (by decide +kernel) rfl)) ?_
  refine xa_cons 30 ((And.intro (by decide) (Exists.intro (26) (And.intro (by decide +kernel) (And.intro (by decide +kernel) rfl))))) ?_
  refine xa_cons 31 ((And.intro (by decide) (Or.inl (Exists.intro (0) (And.intro rfl (And.intro (by decide +kernel) rfl)))))) ?_
  refine xa_cons 32 (xc_getf (A := A) (own := "ExpressHouse") (index := 77) hx hb htsB xC_0 hown rfl (by decide) xw_50 (And.intro (by decide +kernel) rfl)) ?_
  refine xa_cons 33 ((And.intro (xc_callV (index := 380) (n := 0) (ci := 8) S xg_83 rfl xw_47 xw_452 xw_450 xw_451 rfl rfl rfl ⟨by decide, by decide, by decide +kernel⟩ rfl (And.intro (by decide +kernel) rfl)) (by decide +kernel))) ?_
  refine xa_cons 34 ((And.intro (by decide) (Exists.intro (16) (And.intro (by decide +kernel) (And.intro (by decide +kernel) rfl))))) ?_
  refine xa_cons 35 ((And.intro (by decide) (Or.inl (Exists.intro (0) (And.intro rfl (And.intro (by decide +kernel) rfl)))))) ?_
  refine xa_cons 36 (xc_getf (A := A) (own := "ExpressHouse") (index := 77) hx hb htsB xC_0 hown rfl (by decide) xw_50 (And.intro (by decide +kernel) rfl)) ?_
  refine xa_cons 37 ((And.intro (xc_callV (index := 384) (n := 0) (ci := 8) S xg_84 rfl xw_47 xw_455 xw_453 xw_454 rfl rfl rfl ⟨by decide, by decide, by decide +kernel⟩ rfl (And.intro (by decide +kernel) rfl)) (by decide +kernel))) ?_
  refine xa_cons 38 ((Exists.intro (1) (And.intro (And.intro (by decide +kernel) rfl) (by decide +kernel)))) ?_
  refine xa_cons 39 ((Exists.intro (-28) (And.intro (by decide +kernel) (by decide +kernel)))) ?_
  refine xa_cons 40 ((Exists.intro (1) (And.intro (And.intro (by decide +kernel) rfl) (by decide +kernel)))) ?_
  refine xa_cons 41 ((Exists.intro (-68) (And.intro (by decide +kernel) (by decide +kernel)))) ?_
  refine xa_cons 42 ((And.intro (by decide) (Or.inl (Exists.intro (0) (And.intro rfl (And.intro (by decide +kernel) rfl)))))) ?_
  refine xa_cons 43 (xc_iconst hx hb (z := 0) (b := 0) (And.intro (by decide +kernel) rfl) (by decide +kernel) ⟨rfl, rfl⟩) ?_
  refine xa_cons 44 (xc_putf (own := "ExpressHouse") (index := 107) hx hb htsB xC_0 hown rfl (by decide) xw_309 rfl (rfl) (And.intro (by decide +kernel) rfl)) ?_
  refine xa_cons 45 ((And.intro (by decide) (Or.inl (Exists.intro (0) (And.intro rfl (And.intro (by decide +kernel) rfl)))))) ?_
  refine xa_cons 46 ((And.intro (by decide) (Or.inl (Exists.intro (0) (And.intro rfl (And.intro (by decide +kernel) rfl)))))) ?_
  refine xa_cons 47 (xc_getf (A := A) (own := "ExpressHouse") (index := 77) hx hb htsB xC_0 hown rfl (by decide) xw_50 (And.intro (by decide +kernel) rfl)) ?_
  refine xa_cons 48 (xc_getf (A := A) (own := "ExpressHouse") (index := 375) hx hb htsB xC_8 hown rfl (by decide) xw_446 (And.intro (by decide +kernel) rfl)) ?_
  refine xa_cons 49 (xc_putf (own := "ExpressHouse") (index := 132) hx hb htsB xC_0 hown rfl (by decide) xw_326 rfl (rfl) (And.intro (by decide +kernel) rfl)) ?_
  refine xa_cons 50 ((And.intro (by decide) (Or.inl (Exists.intro (0) (And.intro rfl (And.intro (by decide +kernel) rfl)))))) ?_
  refine xa_cons 51 (xc_getf (A := A) (own := "ExpressHouse") (index := 77) hx hb htsB xC_0 hown rfl (by decide) xw_50 (And.intro (by decide +kernel) rfl)) ?_
  refine xa_cons 52 ((And.intro (xc_callV (index := 387) (n := 0) (ci := 8) S xg_85 rfl xw_47 xw_458 xw_456 xw_457 rfl rfl rfl ⟨by decide, by decide, by decide +kernel⟩ rfl (And.intro (by decide +kernel) rfl)) (by decide +kernel))) ?_
  refine xa_cons 53 ((And.intro hr (by decide +kernel))) ?_
  exact xa_nil
def xrp_39 : Nat → Nat := fun k => ([0, 1, 2, 3, 4, 5, 6, 9, 12, 13, 14, 15, 18, 20, 23, 24, 27, 28, 29, 30, 33, 36, 37, 39, 40, 41, 42, 43, 45, 47, 48, 51, 54, 55, 57, 60, 62, 65, 68, 71, 72, 73, 76, 77, 78, 79, 80, 81, 84, 85, 86, 88, 91, 94, 95, 96, 97, 100, 103, 104] : List Nat).getD k 0
set_option maxRecDepth 20000 in
set_option maxHeartbeats 4000000 in
theorem xz_39 {l : Launch} {D : va_G} {en : XE} : x_Ok xT l D xcl en xrn (xG en) 39 xc_39 := by
  refine ⟨prog_12_method_2_code, (some (.array (.long))), xBIG, xrp_39, by decide +kernel, rfl, rfl, ?_⟩
  intro p e R s m args below meth c s₁ A Q pc i f1 f2 B hml hA hg hi
  obtain ⟨hx, hb, hr, hown, hlocks, hin, htsB, S⟩ := xb_all (C := "ExpressHouse$Tokens") B hml rfl rfl
  obtain ⟨hgN, hgZ, hgS, hgS2⟩ := xG_all hg
  refine xa_at (i := i) (pc := pc) ?_ hi
  refine xa_cons 0 (xc_iconst hx hb (z := 1) (b := 1) (And.intro (by decide +kernel) rfl) (by decide +kernel) ⟨rfl, rfl⟩) ?_
  refine xa_cons 1 ((And.intro (Or.inl rfl) (Or.inl (Exists.intro (1) (And.intro rfl (And.intro (by decide +kernel) rfl)))))) ?_
  refine xa_cons 2 (xc_iconst hx hb (z := 0) (b := 0) (And.intro (by decide +kernel) rfl) (by decide +kernel) ⟨rfl, rfl⟩) ?_
  refine xa_cons 3 ((And.intro (Or.inl rfl) (Or.inl (Exists.intro (2) (And.intro rfl (And.intro (by decide +kernel) rfl)))))) ?_
  refine xa_cons 4 ((And.intro (by decide) (Or.inl (Exists.intro (2) (And.intro rfl (And.intro (by decide +kernel) rfl)))))) ?_
  refine xa_cons 5 ((And.intro (by decide) (Or.inl (Exists.intro (0) (And.intro rfl (And.intro (by decide +kernel) rfl)))))) ?_
  refine xa_cons 6 (xc_slen (own := "ExpressHouse$Tokens") (index := 31) S f1 f2 hgS2 xw_459 (And.intro (by decide +kernel) rfl)) ?_
  refine xa_cons 7 ((And.intro (by decide) (Exists.intro (27) (And.intro (by decide +kernel) (And.intro (by decide +kernel) rfl))))) ?_
  refine xa_cons 8 ((And.intro (by decide) (Or.inl (Exists.intro (1) (And.intro rfl (And.intro (by decide +kernel) rfl)))))) ?_
  refine xa_cons 9 ((And.intro (by decide) (Or.inl (Exists.intro (0) (And.intro rfl (And.intro (by decide +kernel) rfl)))))) ?_
  refine xa_cons 10 ((And.intro (by decide) (Or.inl (Exists.intro (2) (And.intro rfl (And.intro (by decide +kernel) rfl)))))) ?_
  refine xa_cons 11 (xc_sat (own := "ExpressHouse$Tokens") (index := 37) S f1 f2 hgS2 xw_460 (And.intro (by decide +kernel) rfl)) ?_
  refine xa_cons 12 (xc_bipush hx hb (z := 32) (b := 32) (And.intro (by decide +kernel) rfl) (by decide +kernel) ⟨rfl, rfl⟩) ?_
  refine xa_cons 13 ((And.intro (by decide) (Exists.intro (7) (And.intro (by decide +kernel) (And.intro (by decide +kernel) rfl))))) ?_
  refine xa_cons 14 (xc_iconst hx hb (z := 1) (b := 1) (And.intro (by decide +kernel) rfl) (by decide +kernel) ⟨rfl, rfl⟩) ?_
  refine xa_cons 15 ((Exists.intro (4) (And.intro (by decide +kernel) (by decide +kernel)))) ?_
  refine xa_cons 16 (xc_iconst hx hb (z := 0) (b := 0) (And.intro (by decide +kernel) rfl) (by decide +kernel) ⟨rfl, rfl⟩) ?_
  refine xa_cons 17 ((And.intro (by decide) (And.intro (by decide +kernel) rfl))) ?_
  refine xa_cons 18 ((And.intro (Or.inl rfl) (Or.inl (Exists.intro (1) (And.intro rfl (And.intro (by decide +kernel) rfl)))))) ?_
  refine xa_cons 19 ((Exists.intro (1) (And.intro (And.intro (by decide +kernel) rfl) (by decide +kernel)))) ?_
  refine xa_cons 20 ((Exists.intro (-29) (And.intro (by decide +kernel) (by decide +kernel)))) ?_
  refine xa_cons 21 ((And.intro (by decide) (Or.inl (Exists.intro (1) (And.intro rfl (And.intro (by decide +kernel) rfl)))))) ?_
  refine xa_cons 22 (xc_newa hx hb hA (htsB _ xw_214) (Or.inr ⟨rfl, rfl⟩) (And.intro (by decide +kernel) rfl)) ?_
  refine xa_cons 23 ((And.intro (Or.inr rfl) (Or.inl (Exists.intro (2) (And.intro rfl (And.intro (by decide +kernel) rfl)))))) ?_
  refine xa_cons 24 (xc_iconst hx hb (z := 0) (b := 0) (And.intro (by decide +kernel) rfl) (by decide +kernel) ⟨rfl, rfl⟩) ?_
  refine xa_cons 25 ((And.intro (Or.inl rfl) (Or.inl (Exists.intro (3) (And.intro rfl (And.intro (by decide +kernel) rfl)))))) ?_
  refine xa_cons 26 (xc_iconst hx hb (z := 0) (b := 0) (And.intro (by decide +kernel) rfl) (by decide +kernel) ⟨rfl, rfl⟩) ?_
  refine xa_cons 27 ((And.intro (Or.inl rfl) (Or.inr (And.intro (by decide +kernel) rfl)))) ?_
  refine xa_cons 28 ((And.intro (by decide) (Or.inr (And.intro (by decide +kernel) rfl)))) ?_
  refine xa_cons 29 ((And.intro (by decide) (Or.inl (Exists.intro (0) (And.intro rfl (And.intro (by decide +kernel) rfl)))))) ?_
  refine xa_cons 30 (xc_slen (own := "ExpressHouse$Tokens") (index := 31) S f1 f2 hgS2 xw_459 (And.intro (by decide +kernel) rfl)) ?_
  refine xa_cons 31 ((And.intro (by decide) (Exists.intro (52) (And.intro (by decide +kernel) (And.intro (by decide +kernel) rfl))))) ?_
  refine xa_cons 32 ((And.intro (by decide) (Or.inl (Exists.intro (0) (And.intro rfl (And.intro (by decide +kernel) rfl)))))) ?_
  refine xa_cons 33 ((And.intro (by decide) (Or.inr (And.intro (by decide +kernel) rfl)))) ?_
  refine xa_cons 34 (xc_sat (own := "ExpressHouse$Tokens") (index := 37) S f1 f2 hgS2 xw_460 (And.intro (by decide +kernel) rfl)) ?_
  refine xa_cons 35 (xc_bipush hx hb (z := 32) (b := 32) (And.intro (by decide +kernel) rfl) (by decide +kernel) ⟨rfl, rfl⟩) ?_
  refine xa_cons 36 ((And.intro (by decide) (Exists.intro (9) (And.intro (by decide +kernel) (And.intro (by decide +kernel) rfl))))) ?_
  refine xa_cons 37 ((Exists.intro (1) (And.intro (And.intro (by decide +kernel) rfl) (by decide +kernel)))) ?_
  refine xa_cons 38 ((Exists.intro (29) (And.intro (by decide +kernel) (by decide +kernel)))) ?_
  refine xa_cons 39 ((And.intro (by decide) (Or.inl (Exists.intro (3) (And.intro rfl (And.intro (by decide +kernel) rfl)))))) ?_
  refine xa_cons 40 ((And.intro (by decide) (Or.inl (Exists.intro (1) (And.intro rfl (And.intro (by decide +kernel) rfl)))))) ?_
  refine xa_cons 41 ((And.intro (by decide) (Exists.intro (24) (And.intro (by decide +kernel) (And.intro (by decide +kernel) rfl))))) ?_
  refine xa_cons 42 ((And.intro (by decide) (Or.inl (Exists.intro (2) (And.intro rfl (And.intro (by decide +kernel) rfl)))))) ?_
  refine xa_cons 43 ((And.intro (by decide) (Or.inl (Exists.intro (3) (And.intro rfl (And.intro (by decide +kernel) rfl)))))) ?_
  refine xa_cons 44 ((And.intro (by decide) (Or.inl (Exists.intro (2) (And.intro rfl (And.intro (by decide +kernel) rfl)))))) ?_
  refine xa_cons 45 ((And.intro (by decide) (Or.inl (Exists.intro (3) (And.intro rfl (And.intro (by decide +kernel) rfl)))))) ?_
  refine xa_cons 46 ((And.intro (by decide) (And.intro (by decide +kernel) rfl))) ?_
  refine xa_cons 47 (xc_ldc2 (own := "ExpressHouse$Tokens") (index := 41) (b := 38) hx hb hown (htsB _ xw_461) (And.intro (by decide +kernel) rfl) ⟨rfl, rfl⟩) ?_
  refine xa_cons 48 ((And.intro (by decide) (And.intro (by decide +kernel) rfl))) ?_
  refine xa_cons 49 ((And.intro (by decide) (Or.inl (Exists.intro (0) (And.intro rfl (And.intro (by decide +kernel) rfl)))))) ?_
  refine xa_cons 50 ((And.intro (by decide) (Or.inr (And.intro (by decide +kernel) rfl)))) ?_
  refine xa_cons 51 (xc_sat (own := "ExpressHouse$Tokens") (index := 37) S f1 f2 hgS2 xw_460 (And.intro (by decide +kernel) rfl)) ?_
  refine xa_cons 52 ((And.intro (xc_callS (index := 43) S xg_86 rfl xw_7 xw_462 xw_463 ⟨by decide, by decide, by decide +kernel⟩ rfl (And.intro (by decide +kernel) rfl)) (by decide +kernel))) ?_
  refine xa_cons 53 ((And.intro (by decide +kernel) rfl)) ?_
  refine xa_cons 54 ((And.intro (by decide) (And.intro (by decide +kernel) rfl))) ?_
  refine xa_cons 55 ((And.intro (by decide) (And.intro (by decide +kernel) rfl))) ?_
  refine xa_cons 56 ((Exists.intro (1) (And.intro (And.intro (by decide +kernel) rfl) (by decide +kernel)))) ?_
  refine xa_cons 57 ((Exists.intro (-55) (And.intro (by decide +kernel) (by decide +kernel)))) ?_
  refine xa_cons 58 ((And.intro (by decide) (Or.inl (Exists.intro (2) (And.intro rfl (And.intro (by decide +kernel) rfl)))))) ?_
  refine xa_cons 59 ((And.intro (Exists.intro (_) (And.intro hr (Or.inr ⟨_, rfl⟩))) (by decide +kernel))) ?_
  exact xa_nil
def xrp_40 : Nat → Nat := fun k => ([0, 1, 4, 5, 7, 9, 12, 13, 14, 17, 18, 19, 22, 25] : List Nat).getD k 0
set_option maxRecDepth 20000 in
set_option maxHeartbeats 4000000 in
theorem xz_40 {l : Launch} {D : va_G} {en : XE} : x_Ok xT l D xcl en xrn (xG en) 40 xc_40 := by
  refine ⟨prog_7_method_1_code, none, xBIG, xrp_40, by decide +kernel, rfl, rfl, ?_⟩
  intro p e R s m args below meth c s₁ A Q pc i f1 f2 B hml hA hg hi
  obtain ⟨hx, hb, hr, hown, hlocks, hin, htsB, S⟩ := xb_all (C := "ExpressHouse$Operators") B hml rfl rfl
  obtain ⟨hgN, hgZ, hgS, hgS2⟩ := xG_all hg
  refine xa_at (i := i) (pc := pc) ?_ hi
  refine xa_cons 0 ((And.intro (by decide) (Or.inl (Exists.intro (0) (And.intro rfl (And.intro (by decide +kernel) rfl)))))) ?_
  refine xa_cons 1 (xc_objinit (own := "ExpressHouse$Operators") (index := 1) hx hb hml hown htsB xw_464 xw_1 xw_2 (by omega) (by omega) (And.intro (by decide +kernel) rfl)) ?_
  refine xa_cons 2 ((And.intro (by decide) (Or.inl (Exists.intro (0) (And.intro rfl (And.intro (by decide +kernel) rfl)))))) ?_
  refine xa_cons 3 (xc_bipush hx hb (z := 48) (b := 48) (And.intro (by decide +kernel) rfl) (by decide +kernel) ⟨rfl, rfl⟩) ?_
  refine xa_cons 4 (xc_newa hx hb hA (htsB _ xw_214) (Or.inr ⟨rfl, rfl⟩) (And.intro (by decide +kernel) rfl)) ?_
  refine xa_cons 5 (xc_putfF (index := 9) hx hb htsB xC_11 hown rfl (by decide) hin xw_465 rfl (Or.inr ⟨_, rfl⟩) (And.intro (by decide +kernel) rfl)) ?_
  refine xa_cons 6 ((And.intro (by decide) (Or.inl (Exists.intro (0) (And.intro rfl (And.intro (by decide +kernel) rfl)))))) ?_
  refine xa_cons 7 ((And.intro (by decide) (Or.inl (Exists.intro (1) (And.intro rfl (And.intro (by decide +kernel) rfl)))))) ?_
  refine xa_cons 8 (xc_putfF (index := 15) hx hb htsB xC_11 hown rfl (by decide) hin xw_466 rfl (Or.inl ⟨_, rfl⟩) (And.intro (by decide +kernel) rfl)) ?_
  refine xa_cons 9 ((And.intro (by decide) (Or.inl (Exists.intro (0) (And.intro rfl (And.intro (by decide +kernel) rfl)))))) ?_
  refine xa_cons 10 ((And.intro (by decide) (Or.inl (Exists.intro (1) (And.intro rfl (And.intro (by decide +kernel) rfl)))))) ?_
  refine xa_cons 11 (xc_getf (A := A) (own := "ExpressHouse$Operators") (index := 19) hx hb htsB xC_2 hown rfl (by decide) xw_467 (And.intro (by decide +kernel) rfl)) ?_
  refine xa_cons 12 (xc_putfF (index := 25) hx hb htsB xC_11 hown rfl (by decide) hin xw_468 rfl (Or.inl ⟨_, rfl⟩) (And.intro (by decide +kernel) rfl)) ?_
  refine xa_cons 13 ((And.intro hr (by decide +kernel))) ?_
  exact xa_nil
def xrp_41 : Nat → Nat := fun k => ([0, 2, 3, 4, 7, 8, 11, 12, 15, 16, 19, 20, 23, 24, 27, 28, 29, 30, 31, 32, 33, 34, 37, 38, 39, 42, 45, 48] : List Nat).getD k 0
set_option maxRecDepth 20000 in
set_option maxHeartbeats 4000000 in
theorem xz_41 {l : Launch} {D : va_G} {en : XE} : x_Ok xT l D xcl en xrn (xG en) 41 xc_41 := by
  refine ⟨prog_1_method_3_code, none, xBIG, xrp_41, by decide +kernel, rfl, rfl, ?_⟩
  intro p e R s m args below meth c s₁ A Q pc i f1 f2 B hml hA hg hi
  obtain ⟨hx, hb, hr, hown, hlocks, hin, htsB, S⟩ := xb_all (C := "ExpressHouse") B hml rfl rfl
  obtain ⟨hgN, hgZ, hgS, hgS2⟩ := xG_all hg
  refine xa_at (i := i) (pc := pc) ?_ hi
  refine xa_cons 0 (xc_bipush hx hb (z := 24) (b := 24) (And.intro (by decide +kernel) rfl) (by decide +kernel) ⟨rfl, rfl⟩) ?_
  refine xa_cons 1 ((And.intro (Or.inl rfl) (Or.inl (Exists.intro (2) (And.intro rfl (And.intro (by decide +kernel) rfl)))))) ?_
  refine xa_cons 2 ((And.intro (by decide) (Or.inl (Exists.intro (2) (And.intro rfl (And.intro (by decide +kernel) rfl)))))) ?_
  refine xa_cons 3 ((And.intro (by decide) (Exists.intro (44) (And.intro (by decide +kernel) (And.intro (by decide +kernel) rfl))))) ?_
  refine xa_cons 4 ((And.intro (by decide) (Or.inl (Exists.intro (0) (And.intro rfl (And.intro (by decide +kernel) rfl)))))) ?_
  refine xa_cons 5 (xc_getf (A := A) (own := "ExpressHouse") (index := 107) hx hb htsB xC_0 hown rfl (by decide) xw_309 (And.intro (by decide +kernel) rfl)) ?_
  refine xa_cons 6 ((And.intro (by decide) (Or.inl (Exists.intro (0) (And.intro rfl (And.intro (by decide +kernel) rfl)))))) ?_
  refine xa_cons 7 (xc_getf (A := A) (own := "ExpressHouse") (index := 9) hx hb htsB xC_0 hown rfl (by decide) xw_4 (And.intro (by decide +kernel) rfl)) ?_
  refine xa_cons 8 ((And.intro (by decide +kernel) rfl)) ?_
  refine xa_cons 9 ((And.intro (by decide) (Exists.intro (32) (And.intro (by decide +kernel) (And.intro (by decide +kernel) rfl))))) ?_
  refine xa_cons 10 ((And.intro (by decide) (Or.inl (Exists.intro (0) (And.intro rfl (And.intro (by decide +kernel) rfl)))))) ?_
  refine xa_cons 11 (xc_getf (A := A) (own := "ExpressHouse") (index := 9) hx hb htsB xC_0 hown rfl (by decide) xw_4 (And.intro (by decide +kernel) rfl)) ?_
  refine xa_cons 12 ((And.intro (by decide) (Or.inl (Exists.intro (0) (And.intro rfl (And.intro (by decide +kernel) rfl)))))) ?_
  refine xa_cons 13 (xc_getf (A := A) (own := "ExpressHouse") (index := 107) hx hb htsB xC_0 hown rfl (by decide) xw_309 (And.intro (by decide +kernel) rfl)) ?_
  refine xa_cons 14 ((And.intro (by decide) (Or.inl (Exists.intro (1) (And.intro rfl (And.intro (by decide +kernel) rfl)))))) ?_
  refine xa_cons 15 ((And.intro (by decide) (Or.inl (Exists.intro (2) (And.intro rfl (And.intro (by decide +kernel) rfl)))))) ?_
  refine xa_cons 16 ((And.intro (by decide) (And.intro (by decide +kernel) rfl))) ?_
  refine xa_cons 17 ((Or.inl (And.intro rfl (And.intro (by decide +kernel) rfl)))) ?_
  refine xa_cons 18 ((And.intro (by decide) (And.intro (by decide +kernel) rfl))) ?_
  refine xa_cons 19 ((And.intro (by decide) (Or.inl (Exists.intro (0) (And.intro rfl (And.intro (by decide +kernel) rfl)))))) ?_
  refine xa_cons 20 ((And.intro (by decide +kernel) rfl)) ?_
  refine xa_cons 21 (xc_getf (A := A) (own := "ExpressHouse") (index := 107) hx hb htsB xC_0 hown rfl (by decide) xw_309 (And.intro (by decide +kernel) rfl)) ?_
  refine xa_cons 22 (xc_iconst hx hb (z := 1) (b := 1) (And.intro (by decide +kernel) rfl) (by decide +kernel) ⟨rfl, rfl⟩) ?_
  refine xa_cons 23 ((And.intro (by decide) (And.intro (by decide +kernel) rfl))) ?_
  refine xa_cons 24 (xc_putf (own := "ExpressHouse") (index := 107) hx hb htsB xC_0 hown rfl (by decide) xw_309 rfl (rfl) (And.intro (by decide +kernel) rfl)) ?_
  refine xa_cons 25 ((Exists.intro (-8) (And.intro (And.intro (by decide +kernel) rfl) (by decide +kernel)))) ?_
  refine xa_cons 26 ((Exists.intro (-42) (And.intro (by decide +kernel) (by decide +kernel)))) ?_
  refine xa_cons 27 ((And.intro hr (by decide +kernel))) ?_
  exact xa_nil
def xrp_42 : Nat → Nat := fun k => ([0, 1, 2, 5, 6, 7, 10, 11, 12, 15, 16, 17, 18, 21, 22, 23, 25, 26, 28, 29, 31, 33, 34, 37, 39, 40, 43, 45, 48, 49, 51, 52, 55, 58, 61, 64, 65, 66, 67, 69, 72, 74, 76, 79, 80, 83, 84, 86, 88, 90, 91, 93, 96, 99, 100, 102, 105, 106, 109, 110, 112, 113, 116, 117, 120] : List Nat).getD k 0
set_option maxRecDepth 20000 in
set_option maxHeartbeats 4000000 in
theorem xz_42 {l : Launch} {D : va_G} {en : XE} : x_Ok xT l D xcl en xrn (xG en) 42 xc_42 := by
  refine ⟨prog_12_method_9_code, none, xBIG, xrp_42, by decide +kernel, rfl, rfl, ?_⟩
  intro p e R s m args below meth c s₁ A Q pc i f1 f2 B hml hA hg hi
  obtain ⟨hx, hb, hr, hown, hlocks, hin, htsB, S⟩ := xb_all (C := "ExpressHouse$Tokens") B hml rfl rfl
  obtain ⟨hgN, hgZ, hgS, hgS2⟩ := xG_all hg
  refine xa_at (i := i) (pc := pc) ?_ hi
  refine xa_cons 0 ((And.intro (by decide) (Or.inl (Exists.intro (0) (And.intro rfl (And.intro (by decide +kernel) rfl)))))) ?_
  refine xa_cons 1 (xc_iconst hx hb (z := 0) (b := 0) (And.intro (by decide +kernel) rfl) (by decide +kernel) ⟨rfl, rfl⟩) ?_
  refine xa_cons 2 (xc_putf (own := "ExpressHouse$Tokens") (index := 51) hx hb htsB xC_1 hown rfl (by decide) xw_469 rfl (rfl) (And.intro (by decide +kernel) rfl)) ?_
  refine xa_cons 3 ((And.intro (by decide) (Or.inl (Exists.intro (0) (And.intro rfl (And.intro (by decide +kernel) rfl)))))) ?_
  refine xa_cons 4 (xc_iconst hx hb (z := 0) (b := 0) (And.intro (by decide +kernel) rfl) (by decide +kernel) ⟨rfl, rfl⟩) ?_
  refine xa_cons 5 (xc_putf (own := "ExpressHouse$Tokens") (index := 55) hx hb htsB xC_1 hown rfl (by decide) xw_470 rfl (rfl) (And.intro (by decide +kernel) rfl)) ?_
  refine xa_cons 6 ((And.intro (by decide) (Or.inl (Exists.intro (0) (And.intro rfl (And.intro (by decide +kernel) rfl)))))) ?_
  refine xa_cons 7 (xc_iconst hx hb (z := 0) (b := 0) (And.intro (by decide +kernel) rfl) (by decide +kernel) ⟨rfl, rfl⟩) ?_
  refine xa_cons 8 (xc_putf (own := "ExpressHouse$Tokens") (index := 58) hx hb htsB xC_1 hown rfl (by decide) xw_471 rfl (rfl) (And.intro (by decide +kernel) rfl)) ?_
  refine xa_cons 9 ((And.intro (by decide) (Or.inl (Exists.intro (2) (And.intro rfl (And.intro (by decide +kernel) rfl)))))) ?_
  refine xa_cons 10 ((And.intro (by decide) (Or.inl (Exists.intro (1) (And.intro rfl (And.intro (by decide +kernel) rfl)))))) ?_
  refine xa_cons 11 ((And.intro (by decide +kernel) rfl)) ?_
  refine xa_cons 12 ((Exists.intro ("ExpressHouse$Tokens") (Exists.intro (61) (And.intro hown (And.intro (htsB _ xw_475) (And.intro hml (And.intro (by omega) (And.intro (by omega) (And.intro (And.intro (by decide +kernel) rfl) (Or.inl (And.intro rfl (And.intro (htsB _ xw_472) (And.intro (htsB _ xw_473) (htsB _ xw_474)))))))))))))) ?_
  refine xa_cons 13 ((And.intro (Or.inl rfl) (Or.inl (Exists.intro (3) (And.intro rfl (And.intro (by decide +kernel) rfl)))))) ?_
  refine xa_cons 14 (xc_iconst hx hb (z := 0) (b := 0) (And.intro (by decide +kernel) rfl) (by decide +kernel) ⟨rfl, rfl⟩) ?_
  refine xa_cons 15 ((And.intro (Or.inl rfl) (Or.inr (And.intro (by decide +kernel) rfl)))) ?_
  refine xa_cons 16 (xc_iconst hx hb (z := 1) (b := 1) (And.intro (by decide +kernel) rfl) (by decide +kernel) ⟨rfl, rfl⟩) ?_
  refine xa_cons 17 ((And.intro (Or.inl rfl) (Or.inr (And.intro (by decide +kernel) rfl)))) ?_
  refine xa_cons 18 (xc_iconst hx hb (z := 0) (b := 0) (And.intro (by decide +kernel) rfl) (by decide +kernel) ⟨rfl, rfl⟩) ?_
  refine xa_cons 19 ((And.intro (Or.inl rfl) (Or.inr (And.intro (by decide +kernel) rfl)))) ?_
  refine xa_cons 20 ((And.intro (by decide) (Or.inr (And.intro (by decide +kernel) rfl)))) ?_
  refine xa_cons 21 ((And.intro (by decide) (Or.inl (Exists.intro (3) (And.intro rfl (And.intro (by decide +kernel) rfl)))))) ?_
  refine xa_cons 22 ((And.intro (by decide) (Exists.intro (65) (And.intro (by decide +kernel) (And.intro (by decide +kernel) rfl))))) ?_
  refine xa_cons 23 ((And.intro (by decide) (Or.inr (And.intro (by decide +kernel) rfl)))) ?_
  refine xa_cons 24 ((And.intro (by decide) (Or.inl (Exists.intro (3) (And.intro rfl (And.intro (by decide +kernel) rfl)))))) ?_
  refine xa_cons 25 ((And.intro (by decide) (Exists.intro (59) (And.intro (by decide +kernel) (And.intro (by decide +kernel) rfl))))) ?_
  refine xa_cons 26 ((And.intro (by decide) (Or.inr (And.intro (by decide +kernel) rfl)))) ?_
  refine xa_cons 27 ((And.intro (by decide) (Exists.intro (54) (And.intro (by decide +kernel) (And.intro (by decide +kernel) rfl))))) ?_
  refine xa_cons 28 ((And.intro (by decide) (Or.inl (Exists.intro (1) (And.intro rfl (And.intro (by decide +kernel) rfl)))))) ?_
  refine xa_cons 29 ((And.intro (by decide) (Or.inr (And.intro (by decide +kernel) rfl)))) ?_
  refine xa_cons 30 ((And.intro (by decide) (And.intro (by decide +kernel) rfl))) ?_
  refine xa_cons 31 ((And.intro (xc_callS (index := 67) S xg_87 rfl xw_7 xw_476 xw_477 ⟨by decide, by decide, by decide +kernel⟩ rfl (And.intro (by decide +kernel) rfl)) (by decide +kernel))) ?_
  refine xa_cons 32 ((And.intro (by decide) (Exists.intro (9) (And.intro (by decide +kernel) (And.intro (by decide +kernel) rfl))))) ?_
  refine xa_cons 33 ((Exists.intro (1) (And.intro (And.intro (by decide +kernel) rfl) (by decide +kernel)))) ?_
  refine xa_cons 34 ((Exists.intro (32) (And.intro (by decide +kernel) (by decide +kernel)))) ?_
  refine xa_cons 35 ((And.intro (by decide) (Or.inl (Exists.intro (0) (And.intro rfl (And.intro (by decide +kernel) rfl)))))) ?_
  refine xa_cons 36 ((And.intro (by decide) (Or.inl (Exists.intro (1) (And.intro rfl (And.intro (by decide +kernel) rfl)))))) ?_
  refine xa_cons 37 ((And.intro (by decide) (Or.inl (Exists.intro (3) (And.intro rfl (And.intro (by decide +kernel) rfl)))))) ?_
  refine xa_cons 38 ((And.intro (by decide) (Or.inr (And.intro (by decide +kernel) rfl)))) ?_
  refine xa_cons 39 ((And.intro (xc_callV (index := 71) (n := 3) (ci := 1) S xg_88 rfl xw_7 xw_480 xw_478 xw_479 rfl rfl rfl ⟨by decide, by decide, by decide +kernel⟩ rfl (And.intro (by decide +kernel) rfl)) (by decide +kernel))) ?_
  refine xa_cons 40 ((And.intro (Or.inl rfl) (Or.inr (And.intro (by decide +kernel) rfl)))) ?_
  refine xa_cons 41 ((And.intro (by decide) (Or.inr (And.intro (by decide +kernel) rfl)))) ?_
  refine xa_cons 42 ((And.intro (by decide) (Exists.intro (7) (And.intro (by decide +kernel) (And.intro (by decide +kernel) rfl))))) ?_
  refine xa_cons 43 (xc_iconst hx hb (z := 1) (b := 1) (And.intro (by decide +kernel) rfl) (by decide +kernel) ⟨rfl, rfl⟩) ?_
  refine xa_cons 44 ((Exists.intro (4) (And.intro (by decide +kernel) (by decide +kernel)))) ?_
  refine xa_cons 45 (xc_iconst hx hb (z := 0) (b := 0) (And.intro (by decide +kernel) rfl) (by decide +kernel) ⟨rfl, rfl⟩) ?_
  refine xa_cons 46 ((And.intro (Or.inl rfl) (Or.inr (And.intro (by decide +kernel) rfl)))) ?_
  refine xa_cons 47 ((And.intro (by decide) (Or.inr (And.intro (by decide +kernel) rfl)))) ?_
  refine xa_cons 48 ((And.intro (by decide) (Or.inr (And.intro (by decide +kernel) rfl)))) ?_
  refine xa_cons 49 ((And.intro (by decide) (And.intro (by decide +kernel) rfl))) ?_
  refine xa_cons 50 ((And.intro (Or.inl rfl) (Or.inr (And.intro (by decide +kernel) rfl)))) ?_
  refine xa_cons 51 ((Exists.intro (1) (And.intro (And.intro (by decide +kernel) rfl) (by decide +kernel)))) ?_
  refine xa_cons 52 ((Exists.intro (-65) (And.intro (by decide +kernel) (by decide +kernel)))) ?_
  refine xa_cons 53 ((And.intro (by decide) (Or.inl (Exists.intro (0) (And.intro rfl (And.intro (by decide +kernel) rfl)))))) ?_
  refine xa_cons 54 ((And.intro (by decide) (Or.inr (And.intro (by decide +kernel) rfl)))) ?_
  refine xa_cons 55 ((And.intro (by decide) (Exists.intro (7) (And.intro (by decide +kernel) (And.intro (by decide +kernel) rfl))))) ?_
  refine xa_cons 56 (xc_iconst hx hb (z := 0) (b := 0) (And.intro (by decide +kernel) rfl) (by decide +kernel) ⟨rfl, rfl⟩) ?_
  refine xa_cons 57 ((Exists.intro (4) (And.intro (by decide +kernel) (by decide +kernel)))) ?_
  refine xa_cons 58 (xc_iconst hx hb (z := 4) (b := 4) (And.intro (by decide +kernel) rfl) (by decide +kernel) ⟨rfl, rfl⟩) ?_
  refine xa_cons 59 ((And.intro (by decide) (Or.inr (And.intro (by decide +kernel) rfl)))) ?_
  refine xa_cons 60 (xc_lconst hx hb (z := 0) (And.intro (by decide +kernel) rfl) ⟨rfl, rfl⟩) ?_
  refine xa_cons 61 ((And.intro (xc_callV (index := 75) (n := 3) (ci := 1) S xg_89 rfl xw_7 xw_483 xw_481 xw_482 rfl rfl rfl ⟨by decide, by decide, by decide +kernel⟩ rfl (And.intro (by decide +kernel) rfl)) (by decide +kernel))) ?_
  refine xa_cons 62 ((And.intro (by decide) (Or.inl (Exists.intro (0) (And.intro rfl (And.intro (by decide +kernel) rfl)))))) ?_
  refine xa_cons 63 ((And.intro (xc_callV (index := 79) (n := 0) (ci := 1) S xg_90 rfl xw_7 xw_486 xw_484 xw_485 rfl rfl rfl ⟨by decide, by decide, by decide +kernel⟩ rfl (And.intro (by decide +kernel) rfl)) (by decide +kernel))) ?_
  refine xa_cons 64 ((And.intro hr (by decide +kernel))) ?_
  exact xa_nil
def xrp_43 : Nat → Nat := fun k => ([0, 1, 4, 7] : List Nat).getD k 0
set_option maxRecDepth 20000 in
set_option maxHeartbeats 4000000 in
theorem xz_43 {l : Launch} {D : va_G} {en : XE} : x_Ok xT l D xcl en xrn (xG en) 43 xc_43 := by
  refine ⟨prog_11_method_3_code, none, xBIG, xrp_43, by decide +kernel, rfl, rfl, ?_⟩
  intro p e R s m args below meth c s₁ A Q pc i f1 f2 B hml hA hg hi
  obtain ⟨hx, hb, hr, hown, hlocks, hin, htsB, S⟩ := xb_all (C := "ExpressHouse$SchemaReader") B hml rfl rfl
  obtain ⟨hgN, hgZ, hgS, hgS2⟩ := xG_all hg
  refine xa_at (i := i) (pc := pc) ?_ hi
  refine xa_cons 0 ((And.intro (by decide) (Or.inl (Exists.intro (0) (And.intro rfl (And.intro (by decide +kernel) rfl)))))) ?_
  refine xa_cons 1 (xc_getf (A := A) (own := "ExpressHouse$SchemaReader") (index := 12) hx hb htsB xC_5 hown rfl (by decide) xw_256 (And.intro (by decide +kernel) rfl)) ?_
  refine xa_cons 2 ((And.intro (xc_callV (index := 30) (n := 0) (ci := 3) S xg_91 rfl xw_15 xw_489 xw_487 xw_488 rfl rfl rfl ⟨by decide, by decide, by decide +kernel⟩ rfl (And.intro (by decide +kernel) rfl)) (by decide +kernel))) ?_
  refine xa_cons 3 ((And.intro hr (by decide +kernel))) ?_
  exact xa_nil
def xrp_44 : Nat → Nat := fun k => ([0, 1, 2, 5, 6, 9, 12, 13, 16, 17, 20, 21, 24, 25, 28, 29, 32, 33, 36, 37, 40, 41, 44, 45, 46, 49, 50, 51, 54, 55, 58, 60, 63, 64, 67, 68, 71, 72, 75, 77, 80, 81, 82, 83, 84, 85, 87, 90, 91, 94, 95, 98, 101, 144, 145, 148, 151, 152, 155, 158, 159, 162, 165, 166, 169, 172, 173, 174, 177, 180, 181, 184, 185, 188, 189, 192, 193, 196, 197, 200, 203, 206, 207, 210, 211, 214, 217, 220, 221, 224, 225, 228, 229, 232, 235] : List Nat).getD k 0
set_option maxRecDepth 20000 in
set_option maxHeartbeats 4000000 in
theorem xz_44 {l : Launch} {D : va_G} {en : XE} : x_Ok xT l D xcl en xrn (xG en) 44 xc_44 := by
  refine ⟨prog_11_method_4_code, none, xBIG, xrp_44, by decide +kernel, rfl, rfl, ?_⟩
  intro p e R s m args below meth c s₁ A Q pc i f1 f2 B hml hA hg hi
  obtain ⟨hx, hb, hr, hown, hlocks, hin, htsB, S⟩ := xb_all (C := "ExpressHouse$SchemaReader") B hml rfl rfl
  obtain ⟨hgN, hgZ, hgS, hgS2⟩ := xG_all hg
  refine xa_at (i := i) (pc := pc) ?_ hi
  refine xa_cons 0 ((And.intro (by decide) (Or.inl (Exists.intro (0) (And.intro rfl (And.intro (by decide +kernel) rfl)))))) ?_
  refine xa_cons 1 ((And.intro (by decide) (Or.inl (Exists.intro (1) (And.intro rfl (And.intro (by decide +kernel) rfl)))))) ?_
  refine xa_cons 2 (xc_putf (own := "ExpressHouse$SchemaReader") (index := 33) hx hb htsB xC_5 hown rfl (by decide) xw_490 rfl (rfl) (And.intro (by decide +kernel) rfl)) ?_
  refine xa_cons 3 ((And.intro (by decide) (Or.inl (Exists.intro (0) (And.intro rfl (And.intro (by decide +kernel) rfl)))))) ?_
  refine xa_cons 4 (xc_getf (A := A) (own := "ExpressHouse$SchemaReader") (index := 22) hx hb htsB xC_5 hown rfl (by decide) xw_258 (And.intro (by decide +kernel) rfl)) ?_
  refine xa_cons 5 ((And.intro (xc_callV (index := 37) (n := 0) (ci := 1) S xg_90 rfl xw_7 xw_491 xw_484 xw_485 rfl rfl rfl ⟨by decide, by decide, by decide +kernel⟩ rfl (And.intro (by decide +kernel) rfl)) (by decide +kernel))) ?_
  refine xa_cons 6 ((And.intro (by decide) (Or.inl (Exists.intro (0) (And.intro rfl (And.intro (by decide +kernel) rfl)))))) ?_
  refine xa_cons 7 (xc_getf (A := A) (own := "ExpressHouse$SchemaReader") (index := 26) hx hb htsB xC_5 hown rfl (by decide) xw_259 (And.intro (by decide +kernel) rfl)) ?_
  refine xa_cons 8 ((And.intro (by decide) (Or.inl (Exists.intro (0) (And.intro rfl (And.intro (by decide +kernel) rfl)))))) ?_
  refine xa_cons 9 (xc_getf (A := A) (own := "ExpressHouse$SchemaReader") (index := 12) hx hb htsB xC_5 hown rfl (by decide) xw_256 (And.intro (by decide +kernel) rfl)) ?_
  refine xa_cons 10 ((And.intro (by decide) (Or.inl (Exists.intro (0) (And.intro rfl (And.intro (by decide +kernel) rfl)))))) ?_
  refine xa_cons 11 (xc_getf (A := A) (own := "ExpressHouse$SchemaReader") (index := 33) hx hb htsB xC_5 hown rfl (by decide) xw_490 (And.intro (by decide +kernel) rfl)) ?_
  refine xa_cons 12 (xc_iconst hx hb (z := 3) (b := 3) (And.intro (by decide +kernel) rfl) (by decide +kernel) ⟨rfl, rfl⟩) ?_
  refine xa_cons 13 ((And.intro (by decide) (Exists.intro (7) (And.intro (by decide +kernel) (And.intro (by decide +kernel) rfl))))) ?_
  refine xa_cons 14 (xc_iconst hx hb (z := 1) (b := 1) (And.intro (by decide +kernel) rfl) (by decide +kernel) ⟨rfl, rfl⟩) ?_
  refine xa_cons 15 ((Exists.intro (4) (And.intro (by decide +kernel) (by decide +kernel)))) ?_
  refine xa_cons 16 (xc_iconst hx hb (z := 0) (b := 0) (And.intro (by decide +kernel) rfl) (by decide +kernel) ⟨rfl, rfl⟩) ?_
  refine xa_cons 17 ((And.intro (xc_callV (index := 42) (n := 2) (ci := 4) S xg_92 rfl xw_22 xw_494 xw_492 xw_493 rfl rfl rfl ⟨by decide, by decide, by decide +kernel⟩ rfl (And.intro (by decide +kernel) rfl)) (by decide +kernel))) ?_
  refine xa_cons 18 ((And.intro (by decide) (Or.inl (Exists.intro (0) (And.intro rfl (And.intro (by decide +kernel) rfl)))))) ?_
  refine xa_cons 19 (xc_getf (A := A) (own := "ExpressHouse$SchemaReader") (index := 18) hx hb htsB xC_5 hown rfl (by decide) xw_257 (And.intro (by decide +kernel) rfl)) ?_
  refine xa_cons 20 (xc_iconst hx hb (z := 0) (b := 0) (And.intro (by decide +kernel) rfl) (by decide +kernel) ⟨rfl, rfl⟩) ?_
  refine xa_cons 21 ((And.intro (xc_callS (index := 48) S xg_93 rfl xw_495 xw_496 xw_497 ⟨by decide, by decide, by decide +kernel⟩ rfl (And.intro (by decide +kernel) rfl)) (by decide +kernel))) ?_
  refine xa_cons 22 ((And.intro (by decide) (Or.inl (Exists.intro (0) (And.intro rfl (And.intro (by decide +kernel) rfl)))))) ?_
  refine xa_cons 23 (xc_iconst hx hb (z := 0) (b := 0) (And.intro (by decide +kernel) rfl) (by decide +kernel) ⟨rfl, rfl⟩) ?_
  refine xa_cons 24 (xc_putf (own := "ExpressHouse$SchemaReader") (index := 54) hx hb htsB xC_5 hown rfl (by decide) xw_498 rfl (rfl) (And.intro (by decide +kernel) rfl)) ?_
  refine xa_cons 25 ((And.intro (by decide) (Or.inl (Exists.intro (0) (And.intro rfl (And.intro (by decide +kernel) rfl)))))) ?_
  refine xa_cons 26 (xc_iconst hx hb (z := 0) (b := 0) (And.intro (by decide +kernel) rfl) (by decide +kernel) ⟨rfl, rfl⟩) ?_
  refine xa_cons 27 (xc_putf (own := "ExpressHouse$SchemaReader") (index := 57) hx hb htsB xC_5 hown rfl (by decide) xw_499 rfl (rfl) (And.intro (by decide +kernel) rfl)) ?_
  refine xa_cons 28 ((And.intro (by decide) (Or.inl (Exists.intro (0) (And.intro rfl (And.intro (by decide +kernel) rfl)))))) ?_
  refine xa_cons 29 (xc_getf (A := A) (own := "ExpressHouse$SchemaReader") (index := 22) hx hb htsB xC_5 hown rfl (by decide) xw_258 (And.intro (by decide +kernel) rfl)) ?_
  refine xa_cons 30 (xc_bipush hx hb (z := 10) (b := 10) (And.intro (by decide +kernel) rfl) (by decide +kernel) ⟨rfl, rfl⟩) ?_
  refine xa_cons 31 ((And.intro (xc_callV (index := 60) (n := 1) (ci := 1) S xg_94 rfl xw_7 xw_502 xw_500 xw_501 rfl rfl rfl ⟨by decide, by decide, by decide +kernel⟩ rfl (And.intro (by decide +kernel) rfl)) (by decide +kernel))) ?_
  refine xa_cons 32 ((And.intro (by decide) (Or.inl (Exists.intro (0) (And.intro rfl (And.intro (by decide +kernel) rfl)))))) ?_
  refine xa_cons 33 (xc_getf (A := A) (own := "ExpressHouse$SchemaReader") (index := 22) hx hb htsB xC_5 hown rfl (by decide) xw_258 (And.intro (by decide +kernel) rfl)) ?_
  refine xa_cons 34 (xc_iconst hx hb (z := 1) (b := 1) (And.intro (by decide +kernel) rfl) (by decide +kernel) ⟨rfl, rfl⟩) ?_
  refine xa_cons 35 ((And.intro (xc_callV (index := 60) (n := 1) (ci := 1) S xg_94 rfl xw_7 xw_502 xw_500 xw_501 rfl rfl rfl ⟨by decide, by decide, by decide +kernel⟩ rfl (And.intro (by decide +kernel) rfl)) (by decide +kernel))) ?_
  refine xa_cons 36 ((And.intro (by decide) (Or.inl (Exists.intro (0) (And.intro rfl (And.intro (by decide +kernel) rfl)))))) ?_
  refine xa_cons 37 (xc_getf (A := A) (own := "ExpressHouse$SchemaReader") (index := 22) hx hb htsB xC_5 hown rfl (by decide) xw_258 (And.intro (by decide +kernel) rfl)) ?_
  refine xa_cons 38 (xc_bipush hx hb (z := 78) (b := 78) (And.intro (by decide +kernel) rfl) (by decide +kernel) ⟨rfl, rfl⟩) ?_
  refine xa_cons 39 ((And.intro (xc_callV (index := 60) (n := 1) (ci := 1) S xg_94 rfl xw_7 xw_502 xw_500 xw_501 rfl rfl rfl ⟨by decide, by decide, by decide +kernel⟩ rfl (And.intro (by decide +kernel) rfl)) (by decide +kernel))) ?_
  refine xa_cons 40 (xc_iconst hx hb (z := 1) (b := 1) (And.intro (by decide +kernel) rfl) (by decide +kernel) ⟨rfl, rfl⟩) ?_
  refine xa_cons 41 ((And.intro (Or.inl rfl) (Or.inl (Exists.intro (2) (And.intro rfl (And.intro (by decide +kernel) rfl)))))) ?_
  refine xa_cons 42 (xc_iconst hx hb (z := 0) (b := 0) (And.intro (by decide +kernel) rfl) (by decide +kernel) ⟨rfl, rfl⟩) ?_
  refine xa_cons 43 ((And.intro (Or.inl rfl) (Or.inl (Exists.intro (3) (And.intro rfl (And.intro (by decide +kernel) rfl)))))) ?_
  refine xa_cons 44 ((And.intro (by decide) (Or.inl (Exists.intro (3) (And.intro rfl (And.intro (by decide +kernel) rfl)))))) ?_
  refine xa_cons 45 (xc_ldc (own := "ExpressHouse$SchemaReader") (index := 64) (b := 1000000) hx hb hown (htsB _ xw_503) (And.intro (by decide +kernel) rfl) ⟨rfl, rfl⟩) ?_
  refine xa_cons 46 ((And.intro (by decide) (Exists.intro (93) (And.intro (by decide +kernel) (And.intro (by decide +kernel) rfl))))) ?_
  refine xa_cons 47 ((And.intro (by decide) (Or.inl (Exists.intro (2) (And.intro rfl (And.intro (by decide +kernel) rfl)))))) ?_
  refine xa_cons 48 ((And.intro (by decide) (Exists.intro (89) (And.intro (by decide +kernel) (And.intro (by decide +kernel) rfl))))) ?_
  refine xa_cons 49 ((And.intro (by decide) (Or.inl (Exists.intro (0) (And.intro rfl (And.intro (by decide +kernel) rfl)))))) ?_
  refine xa_cons 50 (xc_getf (A := A) (own := "ExpressHouse$SchemaReader") (index := 22) hx hb htsB xC_5 hown rfl (by decide) xw_258 (And.intro (by decide +kernel) rfl)) ?_
  refine xa_cons 51 (xc_getf (A := A) (own := "ExpressHouse$SchemaReader") (index := 65) hx hb htsB xC_1 hown rfl (by decide) xw_504 (And.intro (by decide +kernel) rfl)) ?_
  refine xa_cons 52 (xc_lookup hx hb (by decide +kernel : decode prog_11_method_4_code 101 = .ok (.lookupswitch 71 #[(11, 43), (14, 50), (26, 57), (38, 64)], 43)) (by decide +kernel) (by decide +kernel) (by decide +kernel)) ?_
  refine xa_cons 53 ((And.intro (by decide) (Or.inl (Exists.intro (0) (And.intro rfl (And.intro (by decide +kernel) rfl)))))) ?_
  refine xa_cons 54 ((And.intro (xc_callV (index := 68) (n := 0) (ci := 5) S xg_95 rfl xw_29 xw_507 xw_505 xw_506 rfl rfl rfl ⟨by decide, by decide, by decide +kernel⟩ rfl (And.intro (by decide +kernel) rfl)) (by decide +kernel))) ?_
  refine xa_cons 55 ((Exists.intro (26) (And.intro (by decide +kernel) (by decide +kernel)))) ?_
  refine xa_cons 56 ((And.intro (by decide) (Or.inl (Exists.intro (0) (And.intro rfl (And.intro (by decide +kernel) rfl)))))) ?_
  refine xa_cons 57 ((And.intro (xc_callV (index := 71) (n := 0) (ci := 5) S xg_96 rfl xw_29 xw_510 xw_508 xw_509 rfl rfl rfl ⟨by decide, by decide, by decide +kernel⟩ rfl (And.intro (by decide +kernel) rfl)) (by decide +kernel))) ?_
  refine xa_cons 58 ((Exists.intro (19) (And.intro (by decide +kernel) (by decide +kernel)))) ?_
  refine xa_cons 59 ((And.intro (by decide) (Or.inl (Exists.intro (0) (And.intro rfl (And.intro (by decide +kernel) rfl)))))) ?_
  refine xa_cons 60 ((And.intro (xc_callV (index := 74) (n := 0) (ci := 5) S xg_97 rfl xw_29 xw_513 xw_511 xw_512 rfl rfl rfl ⟨by decide, by decide, by decide +kernel⟩ rfl (And.intro (by decide +kernel) rfl)) (by decide +kernel))) ?_
  refine xa_cons 61 ((Exists.intro (12) (And.intro (by decide +kernel) (by decide +kernel)))) ?_
  refine xa_cons 62 ((And.intro (by decide) (Or.inl (Exists.intro (0) (And.intro rfl (And.intro (by decide +kernel) rfl)))))) ?_
  refine xa_cons 63 ((And.intro (xc_callV (index := 77) (n := 0) (ci := 5) S xg_98 rfl xw_29 xw_516 xw_514 xw_515 rfl rfl rfl ⟨by decide, by decide, by decide +kernel⟩ rfl (And.intro (by decide +kernel) rfl)) (by decide +kernel))) ?_
  refine xa_cons 64 ((Exists.intro (5) (And.intro (by decide +kernel) (by decide +kernel)))) ?_
  refine xa_cons 65 (xc_iconst hx hb (z := 0) (b := 0) (And.intro (by decide +kernel) rfl) (by decide +kernel) ⟨rfl, rfl⟩) ?_
  refine xa_cons 66 ((And.intro (Or.inl rfl) (Or.inl (Exists.intro (2) (And.intro rfl (And.intro (by decide +kernel) rfl)))))) ?_
  refine xa_cons 67 ((Exists.intro (1) (And.intro (And.intro (by decide +kernel) rfl) (by decide +kernel)))) ?_
  refine xa_cons 68 ((Exists.intro (-93) (And.intro (by decide +kernel) (by decide +kernel)))) ?_
  refine xa_cons 69 ((And.intro (by decide) (Or.inl (Exists.intro (0) (And.intro rfl (And.intro (by decide +kernel) rfl)))))) ?_
  refine xa_cons 70 ((And.intro (xc_callV (index := 80) (n := 0) (ci := 5) S xg_99 rfl xw_29 xw_519 xw_517 xw_518 rfl rfl rfl ⟨by decide, by decide, by decide +kernel⟩ rfl (And.intro (by decide +kernel) rfl)) (by decide +kernel))) ?_
  refine xa_cons 71 ((And.intro (by decide) (Or.inl (Exists.intro (0) (And.intro rfl (And.intro (by decide +kernel) rfl)))))) ?_
  refine xa_cons 72 (xc_getf (A := A) (own := "ExpressHouse$SchemaReader") (index := 22) hx hb htsB xC_5 hown rfl (by decide) xw_258 (And.intro (by decide +kernel) rfl)) ?_
  refine xa_cons 73 (xc_iconst hx hb (z := 0) (b := 0) (And.intro (by decide +kernel) rfl) (by decide +kernel) ⟨rfl, rfl⟩) ?_
  refine xa_cons 74 ((And.intro (xc_callV (index := 60) (n := 1) (ci := 1) S xg_94 rfl xw_7 xw_502 xw_500 xw_501 rfl rfl rfl ⟨by decide, by decide, by decide +kernel⟩ rfl (And.intro (by decide +kernel) rfl)) (by decide +kernel))) ?_
  refine xa_cons 75 ((And.intro (by decide) (Or.inl (Exists.intro (0) (And.intro rfl (And.intro (by decide +kernel) rfl)))))) ?_
  refine xa_cons 76 (xc_getf (A := A) (own := "ExpressHouse$SchemaReader") (index := 12) hx hb htsB xC_5 hown rfl (by decide) xw_256 (And.intro (by decide +kernel) rfl)) ?_
  refine xa_cons 77 ((And.intro (by decide) (Or.inl (Exists.intro (0) (And.intro rfl (And.intro (by decide +kernel) rfl)))))) ?_
  refine xa_cons 78 (xc_getf (A := A) (own := "ExpressHouse$SchemaReader") (index := 26) hx hb htsB xC_5 hown rfl (by decide) xw_259 (And.intro (by decide +kernel) rfl)) ?_
  refine xa_cons 79 (xc_getf (A := A) (own := "ExpressHouse$SchemaReader") (index := 83) hx hb htsB xC_4 hown rfl (by decide) xw_520 (And.intro (by decide +kernel) rfl)) ?_
  refine xa_cons 80 (xc_putf (own := "ExpressHouse$SchemaReader") (index := 86) hx hb htsB xC_3 hown rfl (by decide) xw_521 rfl (rfl) (And.intro (by decide +kernel) rfl)) ?_
  refine xa_cons 81 ((And.intro (by decide) (Or.inl (Exists.intro (0) (And.intro rfl (And.intro (by decide +kernel) rfl)))))) ?_
  refine xa_cons 82 (xc_getf (A := A) (own := "ExpressHouse$SchemaReader") (index := 12) hx hb htsB xC_5 hown rfl (by decide) xw_256 (And.intro (by decide +kernel) rfl)) ?_
  refine xa_cons 83 ((And.intro (by decide) (Or.inl (Exists.intro (0) (And.intro rfl (And.intro (by decide +kernel) rfl)))))) ?_
  refine xa_cons 84 (xc_getf (A := A) (own := "ExpressHouse$SchemaReader") (index := 22) hx hb htsB xC_5 hown rfl (by decide) xw_258 (And.intro (by decide +kernel) rfl)) ?_
  refine xa_cons 85 (xc_getf (A := A) (own := "ExpressHouse$SchemaReader") (index := 89) hx hb htsB xC_1 hown rfl (by decide) xw_522 (And.intro (by decide +kernel) rfl)) ?_
  refine xa_cons 86 (xc_putf (own := "ExpressHouse$SchemaReader") (index := 92) hx hb htsB xC_3 hown rfl (by decide) xw_523 rfl (rfl) (And.intro (by decide +kernel) rfl)) ?_
  refine xa_cons 87 ((And.intro (by decide) (Or.inl (Exists.intro (0) (And.intro rfl (And.intro (by decide +kernel) rfl)))))) ?_
  refine xa_cons 88 (xc_getf (A := A) (own := "ExpressHouse$SchemaReader") (index := 33) hx hb htsB xC_5 hown rfl (by decide) xw_490 (And.intro (by decide +kernel) rfl)) ?_
  refine xa_cons 89 (xc_iconst hx hb (z := 2) (b := 2) (And.intro (by decide +kernel) rfl) (by decide +kernel) ⟨rfl, rfl⟩) ?_
  refine xa_cons 90 ((And.intro (by decide) (Exists.intro (10) (And.intro (by decide +kernel) (And.intro (by decide +kernel) rfl))))) ?_
  refine xa_cons 91 ((And.intro (by decide) (Or.inl (Exists.intro (0) (And.intro rfl (And.intro (by decide +kernel) rfl)))))) ?_
  refine xa_cons 92 (xc_getf (A := A) (own := "ExpressHouse$SchemaReader") (index := 12) hx hb htsB xC_5 hown rfl (by decide) xw_256 (And.intro (by decide +kernel) rfl)) ?_
  refine xa_cons 93 ((And.intro (xc_callV (index := 93) (n := 0) (ci := 3) S xg_100 rfl xw_15 xw_526 xw_524 xw_525 rfl rfl rfl ⟨by decide, by decide, by decide +kernel⟩ rfl (And.intro (by decide +kernel) rfl)) (by decide +kernel))) ?_
  refine xa_cons 94 ((And.intro hr (by decide +kernel))) ?_
  exact xa_nil
def xrp_45 : Nat → Nat := fun k => ([0, 1, 4, 7, 8, 11, 14, 15, 16, 19, 22, 23, 24, 27, 30, 31, 34, 37, 38, 41, 43, 44, 47, 48] : List Nat).getD k 0
set_option maxRecDepth 20000 in
set_option maxHeartbeats 4000000 in
theorem xz_45 {l : Launch} {D : va_G} {en : XE} : x_Ok xT l D xcl en xrn (xG en) 45 xc_45 := by
  refine ⟨prog_12_method_24_code, (some .int), xBIG, xrp_45, by decide +kernel, rfl, rfl, ?_⟩
  intro p e R s m args below meth c s₁ A Q pc i f1 f2 B hml hA hg hi
  obtain ⟨hx, hb, hr, hown, hlocks, hin, htsB, S⟩ := xb_all (C := "ExpressHouse$Tokens") B hml rfl rfl
  obtain ⟨hgN, hgZ, hgS, hgS2⟩ := xG_all hg
  refine xa_at (i := i) (pc := pc) ?_ hi
  refine xa_cons 0 ((And.intro (by decide) (Or.inl (Exists.intro (0) (And.intro rfl (And.intro (by decide +kernel) rfl)))))) ?_
  refine xa_cons 1 (xc_getf (A := A) (own := "ExpressHouse$Tokens") (index := 55) hx hb htsB xC_1 hown rfl (by decide) xw_470 (And.intro (by decide +kernel) rfl)) ?_
  refine xa_cons 2 ((And.intro (by decide) (Exists.intro (26) (And.intro (by decide +kernel) (And.intro (by decide +kernel) rfl))))) ?_
  refine xa_cons 3 ((And.intro (by decide) (Or.inl (Exists.intro (0) (And.intro rfl (And.intro (by decide +kernel) rfl)))))) ?_
  refine xa_cons 4 (xc_getf (A := A) (own := "ExpressHouse$Tokens") (index := 58) hx hb htsB xC_1 hown rfl (by decide) xw_471 (And.intro (by decide +kernel) rfl)) ?_
  refine xa_cons 5 ((And.intro (by decide) (Exists.intro (19) (And.intro (by decide +kernel) (And.intro (by decide +kernel) rfl))))) ?_
  refine xa_cons 6 ((And.intro (by decide) (Or.inl (Exists.intro (0) (And.intro rfl (And.intro (by decide +kernel) rfl)))))) ?_
  refine xa_cons 7 ((And.intro (by decide) (Or.inl (Exists.intro (0) (And.intro rfl (And.intro (by decide +kernel) rfl)))))) ?_
  refine xa_cons 8 (xc_getf (A := A) (own := "ExpressHouse$Tokens") (index := 58) hx hb htsB xC_1 hown rfl (by decide) xw_471 (And.intro (by decide +kernel) rfl)) ?_
  refine xa_cons 9 (xc_putf (own := "ExpressHouse$Tokens") (index := 55) hx hb htsB xC_1 hown rfl (by decide) xw_470 rfl (rfl) (And.intro (by decide +kernel) rfl)) ?_
  refine xa_cons 10 ((And.intro (by decide) (Or.inl (Exists.intro (0) (And.intro rfl (And.intro (by decide +kernel) rfl)))))) ?_
  refine xa_cons 11 ((And.intro (by decide) (Or.inl (Exists.intro (0) (And.intro rfl (And.intro (by decide +kernel) rfl)))))) ?_
  refine xa_cons 12 (xc_getf (A := A) (own := "ExpressHouse$Tokens") (index := 143) hx hb htsB xC_1 hown rfl (by decide) xw_527 (And.intro (by decide +kernel) rfl)) ?_
  refine xa_cons 13 (xc_putf (own := "ExpressHouse$Tokens") (index := 136) hx hb htsB xC_1 hown rfl (by decide) xw_528 rfl (rfl) (And.intro (by decide +kernel) rfl)) ?_
  refine xa_cons 14 ((And.intro (by decide) (Or.inl (Exists.intro (0) (And.intro rfl (And.intro (by decide +kernel) rfl)))))) ?_
  refine xa_cons 15 (xc_getf (A := A) (own := "ExpressHouse$Tokens") (index := 55) hx hb htsB xC_1 hown rfl (by decide) xw_470 (And.intro (by decide +kernel) rfl)) ?_
  refine xa_cons 16 ((And.intro (by decide) (Exists.intro (7) (And.intro (by decide +kernel) (And.intro (by decide +kernel) rfl))))) ?_
  refine xa_cons 17 (xc_iconst hx hb (z := 0) (b := 0) (And.intro (by decide +kernel) rfl) (by decide +kernel) ⟨rfl, rfl⟩) ?_
  refine xa_cons 18 ((Exists.intro (10) (And.intro (by decide +kernel) (by decide +kernel)))) ?_
  refine xa_cons 19 (xc_bipush hx hb (z := -10) (b := 4294967286) (And.intro (by decide +kernel) rfl) (by decide +kernel) ⟨rfl, rfl⟩) ?_
  refine xa_cons 20 ((And.intro (by decide) (Or.inl (Exists.intro (0) (And.intro rfl (And.intro (by decide +kernel) rfl)))))) ?_
  refine xa_cons 21 (xc_getf (A := A) (own := "ExpressHouse$Tokens") (index := 136) hx hb htsB xC_1 hown rfl (by decide) xw_528 (And.intro (by decide +kernel) rfl)) ?_
  refine xa_cons 22 ((And.intro (by decide) (And.intro (by decide +kernel) rfl))) ?_
  refine xa_cons 23 ((And.intro hr (by decide +kernel))) ?_
  exact xa_nil
def xrp_46 : Nat → Nat := fun k => ([0, 1, 4, 5, 6, 7, 10, 11] : List Nat).getD k 0
set_option maxRecDepth 20000 in
set_option maxHeartbeats 4000000 in
theorem xz_46 {l : Launch} {D : va_G} {en : XE} : x_Ok xT l D xcl en xrn (xG en) 46 xc_46 := by
  refine ⟨prog_11_method_2_code, (some (.object "ExpressHouse$Schema")), xBIG, xrp_46, by decide +kernel, rfl, rfl, ?_⟩
  intro p e R s m args below meth c s₁ A Q pc i f1 f2 B hml hA hg hi
  obtain ⟨hx, hb, hr, hown, hlocks, hin, htsB, S⟩ := xb_all (C := "ExpressHouse$SchemaReader") B hml rfl rfl
  obtain ⟨hgN, hgZ, hgS, hgS2⟩ := xG_all hg
  refine xa_at (i := i) (pc := pc) ?_ hi
  refine xa_cons 0 ((And.intro (by decide) (Or.inl (Exists.intro (0) (And.intro rfl (And.intro (by decide +kernel) rfl)))))) ?_
  refine xa_cons 1 (xc_getf (A := A) (own := "ExpressHouse$SchemaReader") (index := 12) hx hb htsB xC_5 hown rfl (by decide) xw_256 (And.intro (by decide +kernel) rfl)) ?_
  refine xa_cons 2 ((And.intro (Or.inr rfl) (Or.inl (Exists.intro (2) (And.intro rfl (And.intro (by decide +kernel) rfl)))))) ?_
  refine xa_cons 3 ((And.intro (by decide) (Or.inl (Exists.intro (0) (And.intro rfl (And.intro (by decide +kernel) rfl)))))) ?_
  refine xa_cons 4 ((And.intro (by decide) (Or.inl (Exists.intro (1) (And.intro rfl (And.intro (by decide +kernel) rfl)))))) ?_
  refine xa_cons 5 (xc_putf (own := "ExpressHouse$SchemaReader") (index := 12) hx hb htsB xC_5 hown rfl (by decide) xw_256 rfl (Or.inl ⟨_, rfl⟩) (And.intro (by decide +kernel) rfl)) ?_
  refine xa_cons 6 ((And.intro (by decide) (Or.inl (Exists.intro (2) (And.intro rfl (And.intro (by decide +kernel) rfl)))))) ?_
  refine xa_cons 7 ((And.intro (Exists.intro (_) (And.intro hr (Or.inl ⟨_, rfl⟩))) (by decide +kernel))) ?_
  exact xa_nil
def xrp_47 : Nat → Nat := fun k => ([0, 1, 2, 5, 6, 7, 10, 11, 12, 15] : List Nat).getD k 0
set_option maxRecDepth 20000 in
set_option maxHeartbeats 4000000 in
theorem xz_47 {l : Launch} {D : va_G} {en : XE} : x_Ok xT l D xcl en xrn (xG en) 47 xc_47 := by
  refine ⟨prog_8_method_2_code, none, xBIG, xrp_47, by decide +kernel, rfl, rfl, ?_⟩
  intro p e R s m args below meth c s₁ A Q pc i f1 f2 B hml hA hg hi
  obtain ⟨hx, hb, hr, hown, hlocks, hin, htsB, S⟩ := xb_all (C := "ExpressHouse$Population") B hml rfl rfl
  obtain ⟨hgN, hgZ, hgS, hgS2⟩ := xG_all hg
  refine xa_at (i := i) (pc := pc) ?_ hi
  refine xa_cons 0 ((And.intro (by decide) (Or.inl (Exists.intro (0) (And.intro rfl (And.intro (by decide +kernel) rfl)))))) ?_
  refine xa_cons 1 (xc_iconst hx hb (z := 0) (b := 0) (And.intro (by decide +kernel) rfl) (by decide +kernel) ⟨rfl, rfl⟩) ?_
  refine xa_cons 2 (xc_putf (own := "ExpressHouse$Population") (index := 46) hx hb htsB xC_2 hown rfl (by decide) xw_529 rfl (rfl) (And.intro (by decide +kernel) rfl)) ?_
  refine xa_cons 3 ((And.intro (by decide) (Or.inl (Exists.intro (0) (And.intro rfl (And.intro (by decide +kernel) rfl)))))) ?_
  refine xa_cons 4 (xc_iconst hx hb (z := 0) (b := 0) (And.intro (by decide +kernel) rfl) (by decide +kernel) ⟨rfl, rfl⟩) ?_
  refine xa_cons 5 (xc_putf (own := "ExpressHouse$Population") (index := 50) hx hb htsB xC_2 hown rfl (by decide) xw_530 rfl (rfl) (And.intro (by decide +kernel) rfl)) ?_
  refine xa_cons 6 ((And.intro (by decide) (Or.inl (Exists.intro (0) (And.intro rfl (And.intro (by decide +kernel) rfl)))))) ?_
  refine xa_cons 7 (xc_iconst hx hb (z := 1) (b := 1) (And.intro (by decide +kernel) rfl) (by decide +kernel) ⟨rfl, rfl⟩) ?_
  refine xa_cons 8 (xc_putf (own := "ExpressHouse$Population") (index := 38) hx hb htsB xC_2 hown rfl (by decide) xw_246 rfl (rfl) (And.intro (by decide +kernel) rfl)) ?_
  refine xa_cons 9 ((And.intro hr (by decide +kernel))) ?_
  exact xa_nil
def xrp_48 : Nat → Nat := fun k => ([0, 1, 2, 5, 6, 7, 10] : List Nat).getD k 0
set_option maxRecDepth 20000 in
set_option maxHeartbeats 4000000 in
theorem xz_48 {l : Launch} {D : va_G} {en : XE} : x_Ok xT l D xcl en xrn (xG en) 48 xc_48 := by
  refine ⟨prog_5_method_2_code, none, xBIG, xrp_48, by decide +kernel, rfl, rfl, ?_⟩
  intro p e R s m args below meth c s₁ A Q pc i f1 f2 B hml hA hg hi
  obtain ⟨hx, hb, hr, hown, hlocks, hin, htsB, S⟩ := xb_all (C := "ExpressHouse$Judge") B hml rfl rfl
  obtain ⟨hgN, hgZ, hgS, hgS2⟩ := xG_all hg
  refine xa_at (i := i) (pc := pc) ?_ hi
  refine xa_cons 0 ((And.intro (by decide) (Or.inl (Exists.intro (0) (And.intro rfl (And.intro (by decide +kernel) rfl)))))) ?_
  refine xa_cons 1 (xc_iconst hx hb (z := 0) (b := 0) (And.intro (by decide +kernel) rfl) (by decide +kernel) ⟨rfl, rfl⟩) ?_
  refine xa_cons 2 (xc_putf (own := "ExpressHouse$Judge") (index := 28) hx hb htsB xC_7 hown rfl (by decide) xw_531 rfl (rfl) (And.intro (by decide +kernel) rfl)) ?_
  refine xa_cons 3 ((And.intro (by decide) (Or.inl (Exists.intro (0) (And.intro rfl (And.intro (by decide +kernel) rfl)))))) ?_
  refine xa_cons 4 (xc_iconst hx hb (z := 1) (b := 1) (And.intro (by decide +kernel) rfl) (by decide +kernel) ⟨rfl, rfl⟩) ?_
  refine xa_cons 5 (xc_putf (own := "ExpressHouse$Judge") (index := 32) hx hb htsB xC_7 hown rfl (by decide) xw_532 rfl (rfl) (And.intro (by decide +kernel) rfl)) ?_
  refine xa_cons 6 ((And.intro hr (by decide +kernel))) ?_
  exact xa_nil
def xrp_49 : Nat → Nat := fun k => ([0, 1, 2, 5] : List Nat).getD k 0
set_option maxRecDepth 20000 in
set_option maxHeartbeats 4000000 in
theorem xz_49 {l : Launch} {D : va_G} {en : XE} : x_Ok xT l D xcl en xrn (xG en) 49 xc_49 := by
  refine ⟨prog_3_method_2_code, none, xBIG, xrp_49, by decide +kernel, rfl, rfl, ?_⟩
  intro p e R s m args below meth c s₁ A Q pc i f1 f2 B hml hA hg hi
  obtain ⟨hx, hb, hr, hown, hlocks, hin, htsB, S⟩ := xb_all (C := "ExpressHouse$FileReader") B hml rfl rfl
  obtain ⟨hgN, hgZ, hgS, hgS2⟩ := xG_all hg
  refine xa_at (i := i) (pc := pc) ?_ hi
  refine xa_cons 0 ((And.intro (by decide) (Or.inl (Exists.intro (0) (And.intro rfl (And.intro (by decide +kernel) rfl)))))) ?_
  refine xa_cons 1 (xc_iconst hx hb (z := 0) (b := 0) (And.intro (by decide +kernel) rfl) (by decide +kernel) ⟨rfl, rfl⟩) ?_
  refine xa_cons 2 (xc_putf (own := "ExpressHouse$FileReader") (index := 45) hx hb htsB xC_8 hown rfl (by decide) xw_533 rfl (rfl) (And.intro (by decide +kernel) rfl)) ?_
  refine xa_cons 3 ((And.intro hr (by decide +kernel))) ?_
  exact xa_nil
def xrp_50 : Nat → Nat := fun k => ([0, 1, 2, 3, 6, 7, 8, 9, 10, 11, 12, 13, 14, 17, 18, 21, 22] : List Nat).getD k 0
set_option maxRecDepth 20000 in
set_option maxHeartbeats 4000000 in
theorem xz_50 {l : Launch} {D : va_G} {en : XE} : x_Ok xT l D xcl en xrn (xG en) 50 xc_50 := by
  refine ⟨prog_10_method_29_code, (some .boolean), xBIG, xrp_50, by decide +kernel, rfl, rfl, ?_⟩
  intro p e R s m args below meth c s₁ A Q pc i f1 f2 B hml hA hg hi
  obtain ⟨hx, hb, hr, hown, hlocks, hin, htsB, S⟩ := xb_all (C := "ExpressHouse$Schema") B hml rfl rfl
  obtain ⟨hgN, hgZ, hgS, hgS2⟩ := xG_all hg
  refine xa_at (i := i) (pc := pc) ?_ hi
  refine xa_cons 0 ((And.intro (by decide) (Or.inl (Exists.intro (1) (And.intro rfl (And.intro (by decide +kernel) rfl)))))) ?_
  refine xa_cons 1 (xc_iconst hx hb (z := 1) (b := 1) (And.intro (by decide +kernel) rfl) (by decide +kernel) ⟨rfl, rfl⟩) ?_
  refine xa_cons 2 ((And.intro (by decide) (Or.inl (Exists.intro (0) (And.intro rfl (And.intro (by decide +kernel) rfl)))))) ?_
  refine xa_cons 3 (xc_getf (A := A) (own := "ExpressHouse$Schema") (index := 28) hx hb htsB xC_3 hown rfl (by decide) xw_221 (And.intro (by decide +kernel) rfl)) ?_
  refine xa_cons 4 (xc_iconst hx hb (z := 2) (b := 2) (And.intro (by decide +kernel) rfl) (by decide +kernel) ⟨rfl, rfl⟩) ?_
  refine xa_cons 5 ((And.intro (by decide) (And.intro (by decide +kernel) rfl))) ?_
  refine xa_cons 6 ((And.intro (by decide) (And.intro (by decide +kernel) rfl))) ?_
  refine xa_cons 7 (xc_iconst hx hb (z := 1) (b := 1) (And.intro (by decide +kernel) rfl) (by decide +kernel) ⟨rfl, rfl⟩) ?_
  refine xa_cons 8 ((And.intro (by decide) (And.intro (by decide +kernel) rfl))) ?_
  refine xa_cons 9 (xc_iconst hx hb (z := -1) (b := 4294967295) (And.intro (by decide +kernel) rfl) (by decide +kernel) ⟨rfl, rfl⟩) ?_
  refine xa_cons 10 ((And.intro (by decide) (And.intro (by decide +kernel) rfl))) ?_
  refine xa_cons 11 ((And.intro (by decide) (And.intro (by decide +kernel) rfl))) ?_
  refine xa_cons 12 ((And.intro (by decide) (Exists.intro (7) (And.intro (by decide +kernel) (And.intro (by decide +kernel) rfl))))) ?_
  refine xa_cons 13 (xc_iconst hx hb (z := 1) (b := 1) (And.intro (by decide +kernel) rfl) (by decide +kernel) ⟨rfl, rfl⟩) ?_
  refine xa_cons 14 ((Exists.intro (4) (And.intro (by decide +kernel) (by decide +kernel)))) ?_
  refine xa_cons 15 (xc_iconst hx hb (z := 0) (b := 0) (And.intro (by decide +kernel) rfl) (by decide +kernel) ⟨rfl, rfl⟩) ?_
  refine xa_cons 16 ((And.intro hr (by decide +kernel))) ?_
  exact xa_nil
end AMM2
