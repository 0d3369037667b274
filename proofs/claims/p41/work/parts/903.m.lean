section AMM3
def xrp_51 : Nat → Nat := fun k => ([0, 1, 4, 5, 6, 7, 8, 9, 10, 13, 14, 15, 18, 19, 20, 21, 22, 23, 24, 27, 28, 31, 32, 33, 34, 35, 36, 37, 38, 39, 42, 43, 44, 47, 50, 51, 52, 55, 58, 59, 60, 61, 62, 65] : List Nat).getD k 0
set_option maxRecDepth 20000 in
set_option maxHeartbeats 4000000 in
theorem xz_51 {l : Launch} {D : va_G} {en : XE} : x_Ok xT l D xcl en xrn (xG en) 51 xc_51 := by
  refine ⟨prog_10_method_30_code, (some .int), xBIG, xrp_51, by decide +kernel, rfl, rfl, ?_⟩
  intro p e R s m args below meth c s₁ A Q pc i f1 f2 B hml hA hg hi
  obtain ⟨hx, hb, hr, hown, hlocks, hin, htsB, S⟩ := xb_all (C := "ExpressHouse$Schema") B hml rfl rfl
  obtain ⟨hgN, hgZ, hgS, hgS2⟩ := xG_all hg
  refine xa_at (i := i) (pc := pc) ?_ hi
  refine xa_cons 0 ((And.intro (by decide) (Or.inl (Exists.intro (1) (And.intro rfl (And.intro (by decide +kernel) rfl)))))) ?_
  refine xa_cons 1 ((And.intro (by decide) (Exists.intro (5) (And.intro (by decide +kernel) (And.intro (by decide +kernel) rfl))))) ?_
  refine xa_cons 2 (xc_iconst hx hb (z := 1) (b := 1) (And.intro (by decide +kernel) rfl) (by decide +kernel) ⟨rfl, rfl⟩) ?_
  refine xa_cons 3 ((And.intro hr (by decide +kernel))) ?_
  refine xa_cons 4 (xc_iconst hx hb (z := 0) (b := 0) (And.intro (by decide +kernel) rfl) (by decide +kernel) ⟨rfl, rfl⟩) ?_
  refine xa_cons 5 ((And.intro (Or.inl rfl) (Or.inl (Exists.intro (2) (And.intro rfl (And.intro (by decide +kernel) rfl)))))) ?_
  refine xa_cons 6 ((And.intro (by decide) (Or.inl (Exists.intro (2) (And.intro rfl (And.intro (by decide +kernel) rfl)))))) ?_
  refine xa_cons 7 ((And.intro (by decide) (Or.inl (Exists.intro (0) (And.intro rfl (And.intro (by decide +kernel) rfl)))))) ?_
  refine xa_cons 8 (xc_getf (A := A) (own := "ExpressHouse$Schema") (index := 28) hx hb htsB xC_3 hown rfl (by decide) xw_221 (And.intro (by decide +kernel) rfl)) ?_
  refine xa_cons 9 (xc_iconst hx hb (z := 2) (b := 2) (And.intro (by decide +kernel) rfl) (by decide +kernel) ⟨rfl, rfl⟩) ?_
  refine xa_cons 10 ((And.intro (by decide) (And.intro (by decide +kernel) rfl))) ?_
  refine xa_cons 11 ((And.intro (by decide) (Exists.intro (35) (And.intro (by decide +kernel) (And.intro (by decide +kernel) rfl))))) ?_
  refine xa_cons 12 ((And.intro (by decide) (Or.inl (Exists.intro (1) (And.intro rfl (And.intro (by decide +kernel) rfl)))))) ?_
  refine xa_cons 13 ((And.intro (by decide) (Or.inl (Exists.intro (2) (And.intro rfl (And.intro (by decide +kernel) rfl)))))) ?_
  refine xa_cons 14 ((And.intro (by decide) (And.intro (by decide +kernel) rfl))) ?_
  refine xa_cons 15 (xc_iconst hx hb (z := 1) (b := 1) (And.intro (by decide +kernel) rfl) (by decide +kernel) ⟨rfl, rfl⟩) ?_
  refine xa_cons 16 ((And.intro (by decide) (And.intro (by decide +kernel) rfl))) ?_
  refine xa_cons 17 (xc_iconst hx hb (z := 1) (b := 1) (And.intro (by decide +kernel) rfl) (by decide +kernel) ⟨rfl, rfl⟩) ?_
  refine xa_cons 18 ((And.intro (by decide) (Exists.intro (20) (And.intro (by decide +kernel) (And.intro (by decide +kernel) rfl))))) ?_
  refine xa_cons 19 ((And.intro (by decide) (Or.inl (Exists.intro (0) (And.intro rfl (And.intro (by decide +kernel) rfl)))))) ?_
  refine xa_cons 20 (xc_getf (A := A) (own := "ExpressHouse$Schema") (index := 40) hx hb htsB xC_3 hown rfl (by decide) xw_225 (And.intro (by decide +kernel) rfl)) ?_
  refine xa_cons 21 ((And.intro (by decide) (Or.inl (Exists.intro (2) (And.intro rfl (And.intro (by decide +kernel) rfl)))))) ?_
  refine xa_cons 22 ((And.intro (by decide) (And.intro (by decide +kernel) rfl))) ?_
  refine xa_cons 23 (xc_iconst hx hb (z := 1) (b := 1) (And.intro (by decide +kernel) rfl) (by decide +kernel) ⟨rfl, rfl⟩) ?_
  refine xa_cons 24 ((And.intro (by decide) (And.intro (by decide +kernel) rfl))) ?_
  refine xa_cons 25 ((And.intro (by decide) (Or.inl (Exists.intro (1) (And.intro rfl (And.intro (by decide +kernel) rfl)))))) ?_
  refine xa_cons 26 (xc_iconst hx hb (z := -1) (b := 4294967295) (And.intro (by decide +kernel) rfl) (by decide +kernel) ⟨rfl, rfl⟩) ?_
  refine xa_cons 27 ((And.intro (by decide) (And.intro (by decide +kernel) rfl))) ?_
  refine xa_cons 28 ((And.intro (by decide) (And.intro (by decide +kernel) rfl))) ?_
  refine xa_cons 29 ((And.intro (by decide) (Exists.intro (5) (And.intro (by decide +kernel) (And.intro (by decide +kernel) rfl))))) ?_
  refine xa_cons 30 (xc_iconst hx hb (z := 2) (b := 2) (And.intro (by decide +kernel) rfl) (by decide +kernel) ⟨rfl, rfl⟩) ?_
  refine xa_cons 31 ((And.intro hr (by decide +kernel))) ?_
  refine xa_cons 32 ((Exists.intro (1) (And.intro (And.intro (by decide +kernel) rfl) (by decide +kernel)))) ?_
  refine xa_cons 33 ((Exists.intro (-39) (And.intro (by decide +kernel) (by decide +kernel)))) ?_
  refine xa_cons 34 ((And.intro (by decide) (Or.inl (Exists.intro (0) (And.intro rfl (And.intro (by decide +kernel) rfl)))))) ?_
  refine xa_cons 35 ((And.intro (by decide) (Or.inl (Exists.intro (1) (And.intro rfl (And.intro (by decide +kernel) rfl)))))) ?_
  refine xa_cons 36 ((And.intro (xc_callV (index := 142) (n := 1) (ci := 3) S xg_101 rfl xw_15 xw_536 xw_534 xw_535 rfl rfl rfl ⟨by decide, by decide, by decide +kernel⟩ rfl (And.intro (by decide +kernel) rfl)) (by decide +kernel))) ?_
  refine xa_cons 37 ((And.intro (by decide) (Exists.intro (5) (And.intro (by decide +kernel) (And.intro (by decide +kernel) rfl))))) ?_
  refine xa_cons 38 (xc_iconst hx hb (z := 3) (b := 3) (And.intro (by decide +kernel) rfl) (by decide +kernel) ⟨rfl, rfl⟩) ?_
  refine xa_cons 39 ((And.intro hr (by decide +kernel))) ?_
  refine xa_cons 40 ((And.intro (by decide) (Or.inl (Exists.intro (0) (And.intro rfl (And.intro (by decide +kernel) rfl)))))) ?_
  refine xa_cons 41 ((And.intro (by decide) (Or.inl (Exists.intro (1) (And.intro rfl (And.intro (by decide +kernel) rfl)))))) ?_
  refine xa_cons 42 ((And.intro (xc_callV (index := 145) (n := 1) (ci := 3) S xg_102 rfl xw_15 xw_539 xw_537 xw_538 rfl rfl rfl ⟨by decide, by decide, by decide +kernel⟩ rfl (And.intro (by decide +kernel) rfl)) (by decide +kernel))) ?_
  refine xa_cons 43 ((And.intro hr (by decide +kernel))) ?_
  exact xa_nil
def xrp_52 : Nat → Nat := fun k => ([0, 1, 4, 5, 6, 7, 10, 11, 14, 15, 16, 17, 18, 19, 22, 23, 24, 27, 28, 29, 32, 33] : List Nat).getD k 0
set_option maxRecDepth 20000 in
set_option maxHeartbeats 4000000 in
theorem xz_52 {l : Launch} {D : va_G} {en : XE} : x_Ok xT l D xcl en xrn (xG en) 52 xc_52 := by
  refine ⟨prog_8_method_10_code, (some .int), xBIG, xrp_52, by decide +kernel, rfl, rfl, ?_⟩
  intro p e R s m args below meth c s₁ A Q pc i f1 f2 B hml hA hg hi
  obtain ⟨hx, hb, hr, hown, hlocks, hin, htsB, S⟩ := xb_all (C := "ExpressHouse$Population") B hml rfl rfl
  obtain ⟨hgN, hgZ, hgS, hgS2⟩ := xG_all hg
  refine xa_at (i := i) (pc := pc) ?_ hi
  refine xa_cons 0 ((And.intro (by decide) (Or.inl (Exists.intro (0) (And.intro rfl (And.intro (by decide +kernel) rfl)))))) ?_
  refine xa_cons 1 (xc_getf (A := A) (own := "ExpressHouse$Population") (index := 46) hx hb htsB xC_2 hown rfl (by decide) xw_529 (And.intro (by decide +kernel) rfl)) ?_
  refine xa_cons 2 ((And.intro (Or.inl rfl) (Or.inl (Exists.intro (2) (And.intro rfl (And.intro (by decide +kernel) rfl)))))) ?_
  refine xa_cons 3 ((And.intro (by decide) (Or.inl (Exists.intro (0) (And.intro rfl (And.intro (by decide +kernel) rfl)))))) ?_
  refine xa_cons 4 ((And.intro (by decide) (Or.inl (Exists.intro (2) (And.intro rfl (And.intro (by decide +kernel) rfl)))))) ?_
  refine xa_cons 5 ((And.intro (xc_callV (index := 70) (n := 1) (ci := 2) S xg_103 rfl xw_12 xw_542 xw_540 xw_541 rfl rfl rfl ⟨by decide, by decide, by decide +kernel⟩ rfl (And.intro (by decide +kernel) rfl)) (by decide +kernel))) ?_
  refine xa_cons 6 ((And.intro (by decide) (Or.inl (Exists.intro (0) (And.intro rfl (And.intro (by decide +kernel) rfl)))))) ?_
  refine xa_cons 7 (xc_getf (A := A) (own := "ExpressHouse$Population") (index := 18) hx hb htsB xC_2 hown rfl (by decide) xw_240 (And.intro (by decide +kernel) rfl)) ?_
  refine xa_cons 8 ((And.intro (by decide) (Or.inl (Exists.intro (2) (And.intro rfl (And.intro (by decide +kernel) rfl)))))) ?_
  refine xa_cons 9 ((And.intro (by decide) (Or.inl (Exists.intro (1) (And.intro rfl (And.intro (by decide +kernel) rfl)))))) ?_
  refine xa_cons 10 ((And.intro (by decide) (And.intro (by decide +kernel) rfl))) ?_
  refine xa_cons 11 ((And.intro (by decide) (Or.inl (Exists.intro (0) (And.intro rfl (And.intro (by decide +kernel) rfl)))))) ?_
  refine xa_cons 12 ((And.intro (by decide +kernel) rfl)) ?_
  refine xa_cons 13 (xc_getf (A := A) (own := "ExpressHouse$Population") (index := 46) hx hb htsB xC_2 hown rfl (by decide) xw_529 (And.intro (by decide +kernel) rfl)) ?_
  refine xa_cons 14 (xc_iconst hx hb (z := 1) (b := 1) (And.intro (by decide +kernel) rfl) (by decide +kernel) ⟨rfl, rfl⟩) ?_
  refine xa_cons 15 ((And.intro (by decide) (And.intro (by decide +kernel) rfl))) ?_
  refine xa_cons 16 (xc_putf (own := "ExpressHouse$Population") (index := 46) hx hb htsB xC_2 hown rfl (by decide) xw_529 rfl (rfl) (And.intro (by decide +kernel) rfl)) ?_
  refine xa_cons 17 ((And.intro (by decide) (Or.inl (Exists.intro (0) (And.intro rfl (And.intro (by decide +kernel) rfl)))))) ?_
  refine xa_cons 18 (xc_iconst hx hb (z := 1) (b := 1) (And.intro (by decide +kernel) rfl) (by decide +kernel) ⟨rfl, rfl⟩) ?_
  refine xa_cons 19 (xc_putf (own := "ExpressHouse$Population") (index := 38) hx hb htsB xC_2 hown rfl (by decide) xw_246 rfl (rfl) (And.intro (by decide +kernel) rfl)) ?_
  refine xa_cons 20 ((And.intro (by decide) (Or.inl (Exists.intro (2) (And.intro rfl (And.intro (by decide +kernel) rfl)))))) ?_
  refine xa_cons 21 ((And.intro hr (by decide +kernel))) ?_
  exact xa_nil
def xrp_53 : Nat → Nat := fun k => ([0, 1, 4, 5, 6, 9, 12, 13, 14, 17, 18, 19, 20, 23, 26, 27, 28, 29, 30, 33, 36, 37, 40, 41] : List Nat).getD k 0
set_option maxRecDepth 20000 in
set_option maxHeartbeats 4000000 in
theorem xz_53 {l : Launch} {D : va_G} {en : XE} : x_Ok xT l D xcl en xrn (xG en) 53 xc_53 := by
  refine ⟨prog_8_method_7_code, (some .boolean), xBIG, xrp_53, by decide +kernel, rfl, rfl, ?_⟩
  intro p e R s m args below meth c s₁ A Q pc i f1 f2 B hml hA hg hi
  obtain ⟨hx, hb, hr, hown, hlocks, hin, htsB, S⟩ := xb_all (C := "ExpressHouse$Population") B hml rfl rfl
  obtain ⟨hgN, hgZ, hgS, hgS2⟩ := xG_all hg
  refine xa_at (i := i) (pc := pc) ?_ hi
  refine xa_cons 0 ((And.intro (by decide) (Or.inl (Exists.intro (2) (And.intro rfl (And.intro (by decide +kernel) rfl)))))) ?_
  refine xa_cons 1 ((And.intro (by decide) (Exists.intro (39) (And.intro (by decide +kernel) (And.intro (by decide +kernel) rfl))))) ?_
  refine xa_cons 2 ((And.intro (by decide) (Or.inl (Exists.intro (2) (And.intro rfl (And.intro (by decide +kernel) rfl)))))) ?_
  refine xa_cons 3 ((And.intro (by decide) (Or.inl (Exists.intro (0) (And.intro rfl (And.intro (by decide +kernel) rfl)))))) ?_
  refine xa_cons 4 (xc_getf (A := A) (own := "ExpressHouse$Population") (index := 42) hx hb htsB xC_2 hown rfl (by decide) xw_247 (And.intro (by decide +kernel) rfl)) ?_
  refine xa_cons 5 (xc_getf (A := A) (own := "ExpressHouse$Population") (index := 57) hx hb htsB xC_3 hown rfl (by decide) xw_543 (And.intro (by decide +kernel) rfl)) ?_
  refine xa_cons 6 (xc_iconst hx hb (z := 3) (b := 3) (And.intro (by decide +kernel) rfl) (by decide +kernel) ⟨rfl, rfl⟩) ?_
  refine xa_cons 7 ((And.intro (by decide) (And.intro (by decide +kernel) rfl))) ?_
  refine xa_cons 8 ((And.intro (by decide) (Exists.intro (26) (And.intro (by decide +kernel) (And.intro (by decide +kernel) rfl))))) ?_
  refine xa_cons 9 ((And.intro (by decide) (Or.inl (Exists.intro (0) (And.intro rfl (And.intro (by decide +kernel) rfl)))))) ?_
  refine xa_cons 10 ((And.intro (by decide) (Or.inl (Exists.intro (1) (And.intro rfl (And.intro (by decide +kernel) rfl)))))) ?_
  refine xa_cons 11 ((And.intro (by decide) (Or.inl (Exists.intro (0) (And.intro rfl (And.intro (by decide +kernel) rfl)))))) ?_
  refine xa_cons 12 (xc_getf (A := A) (own := "ExpressHouse$Population") (index := 42) hx hb htsB xC_2 hown rfl (by decide) xw_247 (And.intro (by decide +kernel) rfl)) ?_
  refine xa_cons 13 (xc_getf (A := A) (own := "ExpressHouse$Population") (index := 62) hx hb htsB xC_3 hown rfl (by decide) xw_544 (And.intro (by decide +kernel) rfl)) ?_
  refine xa_cons 14 ((And.intro (by decide) (Or.inl (Exists.intro (2) (And.intro rfl (And.intro (by decide +kernel) rfl)))))) ?_
  refine xa_cons 15 ((And.intro (by decide) (And.intro (by decide +kernel) rfl))) ?_
  refine xa_cons 16 (xc_iconst hx hb (z := 0) (b := 0) (And.intro (by decide +kernel) rfl) (by decide +kernel) ⟨rfl, rfl⟩) ?_
  refine xa_cons 17 ((And.intro (by decide) (And.intro (by decide +kernel) rfl))) ?_
  refine xa_cons 18 ((And.intro (xc_callV (index := 66) (n := 2) (ci := 2) S xg_104 rfl xw_12 xw_547 xw_545 xw_546 rfl rfl rfl ⟨by decide, by decide, by decide +kernel⟩ rfl (And.intro (by decide +kernel) rfl)) (by decide +kernel))) ?_
  refine xa_cons 19 ((And.intro (by decide) (Exists.intro (7) (And.intro (by decide +kernel) (And.intro (by decide +kernel) rfl))))) ?_
  refine xa_cons 20 (xc_iconst hx hb (z := 1) (b := 1) (And.intro (by decide +kernel) rfl) (by decide +kernel) ⟨rfl, rfl⟩) ?_
  refine xa_cons 21 ((Exists.intro (4) (And.intro (by decide +kernel) (by decide +kernel)))) ?_
  refine xa_cons 22 (xc_iconst hx hb (z := 0) (b := 0) (And.intro (by decide +kernel) rfl) (by decide +kernel) ⟨rfl, rfl⟩) ?_
  refine xa_cons 23 ((And.intro hr (by decide +kernel))) ?_
  exact xa_nil
def xrp_54 : Nat → Nat := fun k => ([0, 1, 4, 5, 8, 9, 12, 15, 16, 17, 20, 21, 24, 25, 28, 31, 34, 35, 36, 39, 42, 43, 44, 45, 48, 51, 54, 55, 58, 59, 62, 63] : List Nat).getD k 0
set_option maxRecDepth 20000 in
set_option maxHeartbeats 4000000 in
theorem xz_54 {l : Launch} {D : va_G} {en : XE} : x_Ok xT l D xcl en xrn (xG en) 54 xc_54 := by
  refine ⟨prog_1_method_18_code, (some .int), xBIG, xrp_54, by decide +kernel, rfl, rfl, ?_⟩
  intro p e R s m args below meth c s₁ A Q pc i f1 f2 B hml hA hg hi
  obtain ⟨hx, hb, hr, hown, hlocks, hin, htsB, S⟩ := xb_all (C := "ExpressHouse") B hml rfl rfl
  obtain ⟨hgN, hgZ, hgS, hgS2⟩ := xG_all hg
  refine xa_at (i := i) (pc := pc) ?_ hi
  refine xa_cons 0 ((And.intro (by decide) (Or.inl (Exists.intro (0) (And.intro rfl (And.intro (by decide +kernel) rfl)))))) ?_
  refine xa_cons 1 (xc_getf (A := A) (own := "ExpressHouse") (index := 16) hx hb htsB xC_0 hown rfl (by decide) xw_9 (And.intro (by decide +kernel) rfl)) ?_
  refine xa_cons 2 ((And.intro (by decide) (Or.inl (Exists.intro (0) (And.intro rfl (And.intro (by decide +kernel) rfl)))))) ?_
  refine xa_cons 3 (xc_getf (A := A) (own := "ExpressHouse") (index := 9) hx hb htsB xC_0 hown rfl (by decide) xw_4 (And.intro (by decide +kernel) rfl)) ?_
  refine xa_cons 4 ((And.intro (by decide) (Or.inl (Exists.intro (0) (And.intro rfl (And.intro (by decide +kernel) rfl)))))) ?_
  refine xa_cons 5 (xc_getf (A := A) (own := "ExpressHouse") (index := 107) hx hb htsB xC_0 hown rfl (by decide) xw_309 (And.intro (by decide +kernel) rfl)) ?_
  refine xa_cons 6 ((And.intro (xc_callV (index := 115) (n := 2) (ci := 1) S xg_42 rfl xw_7 xw_315 xw_313 xw_314 rfl rfl rfl ⟨by decide, by decide, by decide +kernel⟩ rfl (And.intro (by decide +kernel) rfl)) (by decide +kernel))) ?_
  refine xa_cons 7 ((And.intro (by decide) (Or.inl (Exists.intro (0) (And.intro rfl (And.intro (by decide +kernel) rfl)))))) ?_
  refine xa_cons 8 (xc_iconst hx hb (z := 0) (b := 0) (And.intro (by decide +kernel) rfl) (by decide +kernel) ⟨rfl, rfl⟩) ?_
  refine xa_cons 9 (xc_putf (own := "ExpressHouse") (index := 107) hx hb htsB xC_0 hown rfl (by decide) xw_309 rfl (rfl) (And.intro (by decide +kernel) rfl)) ?_
  refine xa_cons 10 ((And.intro (by decide) (Or.inl (Exists.intro (0) (And.intro rfl (And.intro (by decide +kernel) rfl)))))) ?_
  refine xa_cons 11 (xc_getf (A := A) (own := "ExpressHouse") (index := 41) hx hb htsB xC_0 hown rfl (by decide) xw_26 (And.intro (by decide +kernel) rfl)) ?_
  refine xa_cons 12 ((And.intro (by decide) (Or.inl (Exists.intro (0) (And.intro rfl (And.intro (by decide +kernel) rfl)))))) ?_
  refine xa_cons 13 (xc_getf (A := A) (own := "ExpressHouse") (index := 28) hx hb htsB xC_0 hown rfl (by decide) xw_19 (And.intro (by decide +kernel) rfl)) ?_
  refine xa_cons 14 (xc_getf (A := A) (own := "ExpressHouse") (index := 34) hx hb htsB xC_2 hown rfl (by decide) xw_23 (And.intro (by decide +kernel) rfl)) ?_
  refine xa_cons 15 ((And.intro (xc_callV (index := 251) (n := 1) (ci := 4) S xg_105 rfl xw_22 xw_550 xw_548 xw_549 rfl rfl rfl ⟨by decide, by decide, by decide +kernel⟩ rfl (And.intro (by decide +kernel) rfl)) (by decide +kernel))) ?_
  refine xa_cons 16 ((And.intro (Or.inl rfl) (Or.inl (Exists.intro (1) (And.intro rfl (And.intro (by decide +kernel) rfl)))))) ?_
  refine xa_cons 17 ((And.intro (by decide) (Or.inl (Exists.intro (0) (And.intro rfl (And.intro (by decide +kernel) rfl)))))) ?_
  refine xa_cons 18 (xc_getf (A := A) (own := "ExpressHouse") (index := 16) hx hb htsB xC_0 hown rfl (by decide) xw_9 (And.intro (by decide +kernel) rfl)) ?_
  refine xa_cons 19 ((And.intro (xc_callV (index := 125) (n := 0) (ci := 1) S xg_45 rfl xw_7 xw_324 xw_322 xw_323 rfl rfl rfl ⟨by decide, by decide, by decide +kernel⟩ rfl (And.intro (by decide +kernel) rfl)) (by decide +kernel))) ?_
  refine xa_cons 20 ((And.intro (Or.inl rfl) (Or.inl (Exists.intro (2) (And.intro rfl (And.intro (by decide +kernel) rfl)))))) ?_
  refine xa_cons 21 ((And.intro (by decide) (Or.inl (Exists.intro (0) (And.intro rfl (And.intro (by decide +kernel) rfl)))))) ?_
  refine xa_cons 22 ((And.intro (by decide) (Or.inl (Exists.intro (0) (And.intro rfl (And.intro (by decide +kernel) rfl)))))) ?_
  refine xa_cons 23 (xc_getf (A := A) (own := "ExpressHouse") (index := 16) hx hb htsB xC_0 hown rfl (by decide) xw_9 (And.intro (by decide +kernel) rfl)) ?_
  refine xa_cons 24 (xc_getf (A := A) (own := "ExpressHouse") (index := 129) hx hb htsB xC_1 hown rfl (by decide) xw_325 (And.intro (by decide +kernel) rfl)) ?_
  refine xa_cons 25 (xc_putf (own := "ExpressHouse") (index := 132) hx hb htsB xC_0 hown rfl (by decide) xw_326 rfl (rfl) (And.intro (by decide +kernel) rfl)) ?_
  refine xa_cons 26 ((And.intro (by decide) (Or.inl (Exists.intro (2) (And.intro rfl (And.intro (by decide +kernel) rfl)))))) ?_
  refine xa_cons 27 ((And.intro (by decide) (Exists.intro (7) (And.intro (by decide +kernel) (And.intro (by decide +kernel) rfl))))) ?_
  refine xa_cons 28 ((And.intro (by decide) (Or.inl (Exists.intro (2) (And.intro rfl (And.intro (by decide +kernel) rfl)))))) ?_
  refine xa_cons 29 ((Exists.intro (4) (And.intro (by decide +kernel) (by decide +kernel)))) ?_
  refine xa_cons 30 ((And.intro (by decide) (Or.inl (Exists.intro (1) (And.intro rfl (And.intro (by decide +kernel) rfl)))))) ?_
  refine xa_cons 31 ((And.intro hr (by decide +kernel))) ?_
  exact xa_nil
def xrp_55 : Nat → Nat := fun k => ([0, 1, 4, 7, 8, 9, 10, 13, 14, 15, 16, 17, 20, 23, 24, 26, 29, 30, 33, 34, 35, 36, 37, 38, 39, 40, 41, 44, 45, 48, 49, 50, 53, 54, 57, 58, 59, 60, 63, 64, 65, 68, 69, 72, 73, 74, 75, 78, 81, 84, 87, 88, 89, 90, 91, 92, 94, 97, 98, 101, 102, 105, 106, 109, 112] : List Nat).getD k 0
set_option maxRecDepth 20000 in
set_option maxHeartbeats 4000000 in
theorem xz_55 {l : Launch} {D : va_G} {en : XE} : x_Ok xT l D xcl en xrn (xG en) 55 xc_55 := by
  refine ⟨prog_8_method_22_code, none, xBIG, xrp_55, by decide +kernel, rfl, rfl, ?_⟩
  intro p e R s m args below meth c s₁ A Q pc i f1 f2 B hml hA hg hi
  obtain ⟨hx, hb, hr, hown, hlocks, hin, htsB, S⟩ := xb_all (C := "ExpressHouse$Population") B hml rfl rfl
  obtain ⟨hgN, hgZ, hgS, hgS2⟩ := xG_all hg
  refine xa_at (i := i) (pc := pc) ?_ hi
  refine xa_cons 0 ((And.intro (by decide) (Or.inl (Exists.intro (0) (And.intro rfl (And.intro (by decide +kernel) rfl)))))) ?_
  refine xa_cons 1 (xc_getf (A := A) (own := "ExpressHouse$Population") (index := 38) hx hb htsB xC_2 hown rfl (by decide) xw_246 (And.intro (by decide +kernel) rfl)) ?_
  refine xa_cons 2 ((And.intro (by decide) (Exists.intro (4) (And.intro (by decide +kernel) (And.intro (by decide +kernel) rfl))))) ?_
  refine xa_cons 3 ((And.intro hr (by decide +kernel))) ?_
  refine xa_cons 4 ((And.intro (by decide) (Or.inl (Exists.intro (0) (And.intro rfl (And.intro (by decide +kernel) rfl)))))) ?_
  refine xa_cons 5 (xc_iconst hx hb (z := 0) (b := 0) (And.intro (by decide +kernel) rfl) (by decide +kernel) ⟨rfl, rfl⟩) ?_
  refine xa_cons 6 (xc_putf (own := "ExpressHouse$Population") (index := 38) hx hb htsB xC_2 hown rfl (by decide) xw_246 rfl (rfl) (And.intro (by decide +kernel) rfl)) ?_
  refine xa_cons 7 (xc_iconst hx hb (z := 0) (b := 0) (And.intro (by decide +kernel) rfl) (by decide +kernel) ⟨rfl, rfl⟩) ?_
  refine xa_cons 8 ((And.intro (Or.inl rfl) (Or.inl (Exists.intro (1) (And.intro rfl (And.intro (by decide +kernel) rfl)))))) ?_
  refine xa_cons 9 ((And.intro (by decide) (Or.inl (Exists.intro (1) (And.intro rfl (And.intro (by decide +kernel) rfl)))))) ?_
  refine xa_cons 10 ((And.intro (by decide) (Or.inl (Exists.intro (0) (And.intro rfl (And.intro (by decide +kernel) rfl)))))) ?_
  refine xa_cons 11 (xc_getf (A := A) (own := "ExpressHouse$Population") (index := 46) hx hb htsB xC_2 hown rfl (by decide) xw_529 (And.intro (by decide +kernel) rfl)) ?_
  refine xa_cons 12 ((And.intro (by decide) (Exists.intro (67) (And.intro (by decide +kernel) (And.intro (by decide +kernel) rfl))))) ?_
  refine xa_cons 13 ((And.intro (by decide) (Or.inl (Exists.intro (1) (And.intro rfl (And.intro (by decide +kernel) rfl)))))) ?_
  refine xa_cons 14 (xc_bipush hx hb (z := 40) (b := 40) (And.intro (by decide +kernel) rfl) (by decide +kernel) ⟨rfl, rfl⟩) ?_
  refine xa_cons 15 ((And.intro (by decide) (Exists.intro (61) (And.intro (by decide +kernel) (And.intro (by decide +kernel) rfl))))) ?_
  refine xa_cons 16 ((And.intro (by decide) (Or.inl (Exists.intro (0) (And.intro rfl (And.intro (by decide +kernel) rfl)))))) ?_
  refine xa_cons 17 (xc_getf (A := A) (own := "ExpressHouse$Population") (index := 32) hx hb htsB xC_2 hown rfl (by decide) xw_244 (And.intro (by decide +kernel) rfl)) ?_
  refine xa_cons 18 ((And.intro (by decide) (Or.inl (Exists.intro (1) (And.intro rfl (And.intro (by decide +kernel) rfl)))))) ?_
  refine xa_cons 19 ((And.intro (by decide) (Or.inl (Exists.intro (1) (And.intro rfl (And.intro (by decide +kernel) rfl)))))) ?_
  refine xa_cons 20 ((And.intro (by decide) (And.intro (by decide +kernel) rfl))) ?_
  refine xa_cons 21 ((And.intro (by decide) (Or.inl (Exists.intro (1) (And.intro rfl (And.intro (by decide +kernel) rfl)))))) ?_
  refine xa_cons 22 (xc_iconst hx hb (z := 1) (b := 1) (And.intro (by decide +kernel) rfl) (by decide +kernel) ⟨rfl, rfl⟩) ?_
  refine xa_cons 23 ((And.intro (by decide) (And.intro (by decide +kernel) rfl))) ?_
  refine xa_cons 24 ((And.intro (Or.inl rfl) (Or.inl (Exists.intro (2) (And.intro rfl (And.intro (by decide +kernel) rfl)))))) ?_
  refine xa_cons 25 ((And.intro (by decide) (Or.inl (Exists.intro (2) (And.intro rfl (And.intro (by decide +kernel) rfl)))))) ?_
  refine xa_cons 26 ((And.intro (by decide) (Exists.intro (40) (And.intro (by decide +kernel) (And.intro (by decide +kernel) rfl))))) ?_
  refine xa_cons 27 ((And.intro (by decide) (Or.inl (Exists.intro (0) (And.intro rfl (And.intro (by decide +kernel) rfl)))))) ?_
  refine xa_cons 28 (xc_getf (A := A) (own := "ExpressHouse$Population") (index := 18) hx hb htsB xC_2 hown rfl (by decide) xw_240 (And.intro (by decide +kernel) rfl)) ?_
  refine xa_cons 29 ((And.intro (by decide) (Or.inl (Exists.intro (1) (And.intro rfl (And.intro (by decide +kernel) rfl)))))) ?_
  refine xa_cons 30 ((And.intro (by decide) (And.intro (by decide +kernel) rfl))) ?_
  refine xa_cons 31 ((And.intro (by decide) (Exists.intro (25) (And.intro (by decide +kernel) (And.intro (by decide +kernel) rfl))))) ?_
  refine xa_cons 32 ((And.intro (by decide) (Or.inl (Exists.intro (0) (And.intro rfl (And.intro (by decide +kernel) rfl)))))) ?_
  refine xa_cons 33 (xc_getf (A := A) (own := "ExpressHouse$Population") (index := 18) hx hb htsB xC_2 hown rfl (by decide) xw_240 (And.intro (by decide +kernel) rfl)) ?_
  refine xa_cons 34 ((And.intro (by decide) (Or.inl (Exists.intro (2) (And.intro rfl (And.intro (by decide +kernel) rfl)))))) ?_
  refine xa_cons 35 ((And.intro (by decide) (And.intro (by decide +kernel) rfl))) ?_
  refine xa_cons 36 ((And.intro (by decide) (Or.inl (Exists.intro (0) (And.intro rfl (And.intro (by decide +kernel) rfl)))))) ?_
  refine xa_cons 37 (xc_getf (A := A) (own := "ExpressHouse$Population") (index := 18) hx hb htsB xC_2 hown rfl (by decide) xw_240 (And.intro (by decide +kernel) rfl)) ?_
  refine xa_cons 38 ((And.intro (by decide) (Or.inl (Exists.intro (1) (And.intro rfl (And.intro (by decide +kernel) rfl)))))) ?_
  refine xa_cons 39 ((And.intro (by decide) (And.intro (by decide +kernel) rfl))) ?_
  refine xa_cons 40 ((And.intro (by decide) (Exists.intro (10) (And.intro (by decide +kernel) (And.intro (by decide +kernel) rfl))))) ?_
  refine xa_cons 41 ((And.intro (by decide) (Or.inl (Exists.intro (0) (And.intro rfl (And.intro (by decide +kernel) rfl)))))) ?_
  refine xa_cons 42 (xc_getf (A := A) (own := "ExpressHouse$Population") (index := 32) hx hb htsB xC_2 hown rfl (by decide) xw_244 (And.intro (by decide +kernel) rfl)) ?_
  refine xa_cons 43 ((And.intro (by decide) (Or.inl (Exists.intro (1) (And.intro rfl (And.intro (by decide +kernel) rfl)))))) ?_
  refine xa_cons 44 ((And.intro (by decide) (Or.inl (Exists.intro (2) (And.intro rfl (And.intro (by decide +kernel) rfl)))))) ?_
  refine xa_cons 45 ((And.intro (by decide) (And.intro (by decide +kernel) rfl))) ?_
  refine xa_cons 46 ((Exists.intro (-1) (And.intro (And.intro (by decide +kernel) rfl) (by decide +kernel)))) ?_
  refine xa_cons 47 ((Exists.intro (-38) (And.intro (by decide +kernel) (by decide +kernel)))) ?_
  refine xa_cons 48 ((Exists.intro (1) (And.intro (And.intro (by decide +kernel) rfl) (by decide +kernel)))) ?_
  refine xa_cons 49 ((Exists.intro (-69) (And.intro (by decide +kernel) (by decide +kernel)))) ?_
  refine xa_cons 50 (xc_iconst hx hb (z := 1) (b := 1) (And.intro (by decide +kernel) rfl) (by decide +kernel) ⟨rfl, rfl⟩) ?_
  refine xa_cons 51 ((And.intro (Or.inl rfl) (Or.inl (Exists.intro (1) (And.intro rfl (And.intro (by decide +kernel) rfl)))))) ?_
  refine xa_cons 52 (xc_iconst hx hb (z := 0) (b := 0) (And.intro (by decide +kernel) rfl) (by decide +kernel) ⟨rfl, rfl⟩) ?_
  refine xa_cons 53 ((And.intro (Or.inl rfl) (Or.inl (Exists.intro (2) (And.intro rfl (And.intro (by decide +kernel) rfl)))))) ?_
  refine xa_cons 54 ((And.intro (by decide) (Or.inl (Exists.intro (2) (And.intro rfl (And.intro (by decide +kernel) rfl)))))) ?_
  refine xa_cons 55 (xc_bipush hx hb (z := 40) (b := 40) (And.intro (by decide +kernel) rfl) (by decide +kernel) ⟨rfl, rfl⟩) ?_
  refine xa_cons 56 ((And.intro (by decide) (Exists.intro (18) (And.intro (by decide +kernel) (And.intro (by decide +kernel) rfl))))) ?_
  refine xa_cons 57 ((And.intro (by decide) (Or.inl (Exists.intro (1) (And.intro rfl (And.intro (by decide +kernel) rfl)))))) ?_
  refine xa_cons 58 ((And.intro (by decide) (Exists.intro (14) (And.intro (by decide +kernel) (And.intro (by decide +kernel) rfl))))) ?_
  refine xa_cons 59 ((And.intro (by decide) (Or.inl (Exists.intro (0) (And.intro rfl (And.intro (by decide +kernel) rfl)))))) ?_
  refine xa_cons 60 ((And.intro (xc_callV (index := 129) (n := 0) (ci := 2) S xg_106 rfl xw_12 xw_553 xw_551 xw_552 rfl rfl rfl ⟨by decide, by decide, by decide +kernel⟩ rfl (And.intro (by decide +kernel) rfl)) (by decide +kernel))) ?_
  refine xa_cons 61 ((And.intro (Or.inl rfl) (Or.inl (Exists.intro (1) (And.intro rfl (And.intro (by decide +kernel) rfl)))))) ?_
  refine xa_cons 62 ((Exists.intro (1) (And.intro (And.intro (by decide +kernel) rfl) (by decide +kernel)))) ?_
  refine xa_cons 63 ((Exists.intro (-18) (And.intro (by decide +kernel) (by decide +kernel)))) ?_
  refine xa_cons 64 ((And.intro hr (by decide +kernel))) ?_
  exact xa_nil
def xrp_56 : Nat → Nat := fun k => ([0, 1, 2, 5, 6, 7, 10, 11, 12, 15, 16, 17, 20, 21, 22, 24, 25, 28, 29, 30, 31, 33, 36, 37, 40, 43, 44, 47, 50, 51, 54, 56, 58, 60, 63, 64, 66, 69, 72, 74, 76, 79, 80, 82, 85, 88, 89, 91, 94, 97, 100, 101, 104, 107, 108, 111, 114, 115, 118] : List Nat).getD k 0
set_option maxRecDepth 20000 in
set_option maxHeartbeats 4000000 in
theorem xz_56 {l : Launch} {D : va_G} {en : XE} : x_Ok xT l D xcl en xrn (xG en) 56 xc_56 := by
  refine ⟨prog_6_method_2_code, (some (.object "ExpressHouse$Value")), xBIG, xrp_56, by decide +kernel, rfl, rfl, ?_⟩
  intro p e R s m args below meth c s₁ A Q pc i f1 f2 B hml hA hg hi
  obtain ⟨hx, hb, hr, hown, hlocks, hin, htsB, S⟩ := xb_all (C := "ExpressHouse$Machine") B hml rfl rfl
  obtain ⟨hgN, hgZ, hgS, hgS2⟩ := xG_all hg
  refine xa_at (i := i) (pc := pc) ?_ hi
  refine xa_cons 0 ((And.intro (by decide) (Or.inl (Exists.intro (0) (And.intro rfl (And.intro (by decide +kernel) rfl)))))) ?_
  refine xa_cons 1 (xc_iconst hx hb (z := 0) (b := 0) (And.intro (by decide +kernel) rfl) (by decide +kernel) ⟨rfl, rfl⟩) ?_
  refine xa_cons 2 (xc_putf (own := "ExpressHouse$Machine") (index := 69) hx hb htsB xC_6 hown rfl (by decide) xw_554 rfl (rfl) (And.intro (by decide +kernel) rfl)) ?_
  refine xa_cons 3 ((And.intro (by decide) (Or.inl (Exists.intro (0) (And.intro rfl (And.intro (by decide +kernel) rfl)))))) ?_
  refine xa_cons 4 (xc_iconst hx hb (z := 0) (b := 0) (And.intro (by decide +kernel) rfl) (by decide +kernel) ⟨rfl, rfl⟩) ?_
  refine xa_cons 5 (xc_putf (own := "ExpressHouse$Machine") (index := 72) hx hb htsB xC_6 hown rfl (by decide) xw_555 rfl (rfl) (And.intro (by decide +kernel) rfl)) ?_
  refine xa_cons 6 ((And.intro (by decide) (Or.inl (Exists.intro (0) (And.intro rfl (And.intro (by decide +kernel) rfl)))))) ?_
  refine xa_cons 7 (xc_iconst hx hb (z := 0) (b := 0) (And.intro (by decide +kernel) rfl) (by decide +kernel) ⟨rfl, rfl⟩) ?_
  refine xa_cons 8 (xc_putf (own := "ExpressHouse$Machine") (index := 76) hx hb htsB xC_6 hown rfl (by decide) xw_556 rfl (rfl) (And.intro (by decide +kernel) rfl)) ?_
  refine xa_cons 9 ((And.intro (by decide) (Or.inl (Exists.intro (0) (And.intro rfl (And.intro (by decide +kernel) rfl)))))) ?_
  refine xa_cons 10 (xc_iconst hx hb (z := 0) (b := 0) (And.intro (by decide +kernel) rfl) (by decide +kernel) ⟨rfl, rfl⟩) ?_
  refine xa_cons 11 (xc_putf (own := "ExpressHouse$Machine") (index := 79) hx hb htsB xC_6 hown rfl (by decide) xw_557 rfl (rfl) (And.intro (by decide +kernel) rfl)) ?_
  refine xa_cons 12 ((And.intro (by decide) (Or.inl (Exists.intro (0) (And.intro rfl (And.intro (by decide +kernel) rfl)))))) ?_
  refine xa_cons 13 ((And.intro (by decide) (Or.inl (Exists.intro (1) (And.intro rfl (And.intro (by decide +kernel) rfl)))))) ?_
  refine xa_cons 14 (xc_bipush hx hb (z := -3) (b := 4294967293) (And.intro (by decide +kernel) rfl) (by decide +kernel) ⟨rfl, rfl⟩) ?_
  refine xa_cons 15 ((And.intro (by decide) (Or.inl (Exists.intro (2) (And.intro rfl (And.intro (by decide +kernel) rfl)))))) ?_
  refine xa_cons 16 ((And.intro (xc_callV (index := 82) (n := 3) (ci := 6) S xg_107 rfl xw_35 xw_560 xw_558 xw_559 rfl rfl rfl ⟨by decide, by decide, by decide +kernel⟩ rfl (And.intro (by decide +kernel) rfl)) (by decide +kernel))) ?_
  refine xa_cons 17 (xc_iconst hx hb (z := 0) (b := 0) (And.intro (by decide +kernel) rfl) (by decide +kernel) ⟨rfl, rfl⟩) ?_
  refine xa_cons 18 ((And.intro (Or.inl rfl) (Or.inl (Exists.intro (3) (And.intro rfl (And.intro (by decide +kernel) rfl)))))) ?_
  refine xa_cons 19 ((And.intro (by decide) (Or.inl (Exists.intro (3) (And.intro rfl (And.intro (by decide +kernel) rfl)))))) ?_
  refine xa_cons 20 (xc_ldc (own := "ExpressHouse$Machine") (index := 86) (b := 1000000) hx hb hown (htsB _ xw_561) (And.intro (by decide +kernel) rfl) ⟨rfl, rfl⟩) ?_
  refine xa_cons 21 ((And.intro (by decide) (Exists.intro (67) (And.intro (by decide +kernel) (And.intro (by decide +kernel) rfl))))) ?_
  refine xa_cons 22 ((And.intro (by decide) (Or.inl (Exists.intro (0) (And.intro rfl (And.intro (by decide +kernel) rfl)))))) ?_
  refine xa_cons 23 (xc_getf (A := A) (own := "ExpressHouse$Machine") (index := 79) hx hb htsB xC_6 hown rfl (by decide) xw_557 (And.intro (by decide +kernel) rfl)) ?_
  refine xa_cons 24 ((And.intro (by decide) (Exists.intro (60) (And.intro (by decide +kernel) (And.intro (by decide +kernel) rfl))))) ?_
  refine xa_cons 25 ((And.intro (by decide) (Or.inl (Exists.intro (0) (And.intro rfl (And.intro (by decide +kernel) rfl)))))) ?_
  refine xa_cons 26 (xc_getf (A := A) (own := "ExpressHouse$Machine") (index := 72) hx hb htsB xC_6 hown rfl (by decide) xw_555 (And.intro (by decide +kernel) rfl)) ?_
  refine xa_cons 27 ((And.intro (by decide) (Exists.intro (53) (And.intro (by decide +kernel) (And.intro (by decide +kernel) rfl))))) ?_
  refine xa_cons 28 ((And.intro (by decide) (Or.inl (Exists.intro (0) (And.intro rfl (And.intro (by decide +kernel) rfl)))))) ?_
  refine xa_cons 29 ((And.intro (xc_callV (index := 87) (n := 0) (ci := 6) S xg_108 rfl xw_35 xw_564 xw_562 xw_563 rfl rfl rfl ⟨by decide, by decide, by decide +kernel⟩ rfl (And.intro (by decide +kernel) rfl)) (by decide +kernel))) ?_
  refine xa_cons 30 ((And.intro (Or.inl rfl) (Or.inr (And.intro (by decide +kernel) rfl)))) ?_
  refine xa_cons 31 ((And.intro (by decide) (Or.inr (And.intro (by decide +kernel) rfl)))) ?_
  refine xa_cons 32 (xc_bipush hx hb (z := 10) (b := 10) (And.intro (by decide +kernel) rfl) (by decide +kernel) ⟨rfl, rfl⟩) ?_
  refine xa_cons 33 ((And.intro (by decide) (Exists.intro (12) (And.intro (by decide +kernel) (And.intro (by decide +kernel) rfl))))) ?_
  refine xa_cons 34 ((And.intro (by decide) (Or.inl (Exists.intro (0) (And.intro rfl (And.intro (by decide +kernel) rfl)))))) ?_
  refine xa_cons 35 ((And.intro (by decide) (Or.inr (And.intro (by decide +kernel) rfl)))) ?_
  refine xa_cons 36 ((And.intro (xc_callV (index := 91) (n := 1) (ci := 6) S xg_109 rfl xw_35 xw_567 xw_565 xw_566 rfl rfl rfl ⟨by decide, by decide, by decide +kernel⟩ rfl (And.intro (by decide +kernel) rfl)) (by decide +kernel))) ?_
  refine xa_cons 37 ((Exists.intro (25) (And.intro (by decide +kernel) (by decide +kernel)))) ?_
  refine xa_cons 38 ((And.intro (by decide) (Or.inr (And.intro (by decide +kernel) rfl)))) ?_
  refine xa_cons 39 (xc_bipush hx hb (z := 19) (b := 19) (And.intro (by decide +kernel) rfl) (by decide +kernel) ⟨rfl, rfl⟩) ?_
  refine xa_cons 40 ((And.intro (by decide) (Exists.intro (12) (And.intro (by decide +kernel) (And.intro (by decide +kernel) rfl))))) ?_
  refine xa_cons 41 ((And.intro (by decide) (Or.inl (Exists.intro (0) (And.intro rfl (And.intro (by decide +kernel) rfl)))))) ?_
  refine xa_cons 42 ((And.intro (by decide) (Or.inr (And.intro (by decide +kernel) rfl)))) ?_
  refine xa_cons 43 ((And.intro (xc_callV (index := 95) (n := 1) (ci := 6) S xg_110 rfl xw_35 xw_570 xw_568 xw_569 rfl rfl rfl ⟨by decide, by decide, by decide +kernel⟩ rfl (And.intro (by decide +kernel) rfl)) (by decide +kernel))) ?_
  refine xa_cons 44 ((Exists.intro (9) (And.intro (by decide +kernel) (by decide +kernel)))) ?_
  refine xa_cons 45 ((And.intro (by decide) (Or.inl (Exists.intro (0) (And.intro rfl (And.intro (by decide +kernel) rfl)))))) ?_
  refine xa_cons 46 ((And.intro (by decide) (Or.inr (And.intro (by decide +kernel) rfl)))) ?_
  refine xa_cons 47 ((And.intro (xc_callV (index := 98) (n := 1) (ci := 6) S xg_111 rfl xw_35 xw_573 xw_571 xw_572 rfl rfl rfl ⟨by decide, by decide, by decide +kernel⟩ rfl (And.intro (by decide +kernel) rfl)) (by decide +kernel))) ?_
  refine xa_cons 48 ((Exists.intro (1) (And.intro (And.intro (by decide +kernel) rfl) (by decide +kernel)))) ?_
  refine xa_cons 49 ((Exists.intro (-67) (And.intro (by decide +kernel) (by decide +kernel)))) ?_
  refine xa_cons 50 ((And.intro (by decide) (Or.inl (Exists.intro (0) (And.intro rfl (And.intro (by decide +kernel) rfl)))))) ?_
  refine xa_cons 51 (xc_getf (A := A) (own := "ExpressHouse$Machine") (index := 72) hx hb htsB xC_6 hown rfl (by decide) xw_555 (And.intro (by decide +kernel) rfl)) ?_
  refine xa_cons 52 ((And.intro (by decide) (Exists.intro (10) (And.intro (by decide +kernel) (And.intro (by decide +kernel) rfl))))) ?_
  refine xa_cons 53 ((And.intro (by decide) (Or.inl (Exists.intro (0) (And.intro rfl (And.intro (by decide +kernel) rfl)))))) ?_
  refine xa_cons 54 (xc_getf (A := A) (own := "ExpressHouse$Machine") (index := 68) hx hb htsB xC_6 hown rfl (by decide) xw_281 (And.intro (by decide +kernel) rfl)) ?_
  refine xa_cons 55 ((Exists.intro (7) (And.intro (by decide +kernel) (by decide +kernel)))) ?_
  refine xa_cons 56 ((And.intro (by decide) (Or.inl (Exists.intro (0) (And.intro rfl (And.intro (by decide +kernel) rfl)))))) ?_
  refine xa_cons 57 ((And.intro (xc_callV (index := 101) (n := 0) (ci := 6) S xg_112 rfl xw_35 xw_576 xw_574 xw_575 rfl rfl rfl ⟨by decide, by decide, by decide +kernel⟩ rfl (And.intro (by decide +kernel) rfl)) (by decide +kernel))) ?_
  refine xa_cons 58 ((And.intro (Exists.intro (_) (And.intro hr (Or.inl ⟨_, rfl⟩))) (by decide +kernel))) ?_
  exact xa_nil
def xrp_57 : Nat → Nat := fun k => ([0, 1, 4, 5, 6, 9, 12, 13, 16, 17, 18, 19, 22, 25, 26, 27, 28, 29, 30, 31, 34, 35, 36, 37, 40, 41, 42, 45, 47, 50, 51, 54, 55, 58, 59, 60, 63, 64, 65, 66, 67, 70, 71, 74, 75, 78, 81, 82, 83, 84, 85, 88, 89, 91, 94, 95, 96, 98, 99, 102, 103, 104, 107, 110, 111, 112, 115, 116, 118, 120, 121, 123, 124, 126, 128, 130, 131, 134, 135, 137, 138, 140, 142, 144, 147, 149, 152, 153, 154, 157, 158, 161, 163, 164, 165, 168, 170, 172, 173, 176, 178, 181, 184, 186, 189, 191, 193, 194, 197, 199, 200, 201, 204, 207, 210, 213, 214, 215, 216, 217, 220, 221, 223, 225, 228, 231] : List Nat).getD k 0
set_option maxRecDepth 20000 in
set_option maxHeartbeats 4000000 in
theorem xz_57 {l : Launch} {D : va_G} {en : XE} : x_Ok xT l D xcl en xrn (xG en) 57 xc_57 := by
  refine ⟨prog_8_method_27_code, (some (.object "ExpressHouse$Value")), xBIG, xrp_57, by decide +kernel, rfl, rfl, ?_⟩
  intro p e R s m args below meth c s₁ A Q pc i f1 f2 B hml hA hg hi
  obtain ⟨hx, hb, hr, hown, hlocks, hin, htsB, S⟩ := xb_all (C := "ExpressHouse$Population") B hml rfl rfl
  obtain ⟨hgN, hgZ, hgS, hgS2⟩ := xG_all hg
  refine xa_at (i := i) (pc := pc) ?_ hi
  refine xa_cons 0 ((And.intro (by decide) (Or.inl (Exists.intro (2) (And.intro rfl (And.intro (by decide +kernel) rfl)))))) ?_
  refine xa_cons 1 ((And.intro (by decide) (Exists.intro (15) (And.intro (by decide +kernel) (And.intro (by decide +kernel) rfl))))) ?_
  refine xa_cons 2 ((And.intro (by decide) (Or.inl (Exists.intro (2) (And.intro rfl (And.intro (by decide +kernel) rfl)))))) ?_
  refine xa_cons 3 ((And.intro (by decide) (Or.inl (Exists.intro (0) (And.intro rfl (And.intro (by decide +kernel) rfl)))))) ?_
  refine xa_cons 4 (xc_getf (A := A) (own := "ExpressHouse$Population") (index := 42) hx hb htsB xC_2 hown rfl (by decide) xw_247 (And.intro (by decide +kernel) rfl)) ?_
  refine xa_cons 5 (xc_getf (A := A) (own := "ExpressHouse$Population") (index := 159) hx hb htsB xC_3 hown rfl (by decide) xw_577 (And.intro (by decide +kernel) rfl)) ?_
  refine xa_cons 6 ((And.intro (by decide +kernel) rfl)) ?_
  refine xa_cons 7 ((And.intro (by decide) (Exists.intro (5) (And.intro (by decide +kernel) (And.intro (by decide +kernel) rfl))))) ?_
  refine xa_cons 8 ((And.intro (by decide) (Or.inl (Exists.intro (1) (And.intro rfl (And.intro (by decide +kernel) rfl)))))) ?_
  refine xa_cons 9 ((And.intro (Exists.intro (_) (And.intro hr (Or.inl ⟨_, rfl⟩))) (by decide +kernel))) ?_
  refine xa_cons 10 ((And.intro (by decide) (Or.inl (Exists.intro (0) (And.intro rfl (And.intro (by decide +kernel) rfl)))))) ?_
  refine xa_cons 11 (xc_getf (A := A) (own := "ExpressHouse$Population") (index := 42) hx hb htsB xC_2 hown rfl (by decide) xw_247 (And.intro (by decide +kernel) rfl)) ?_
  refine xa_cons 12 (xc_getf (A := A) (own := "ExpressHouse$Population") (index := 159) hx hb htsB xC_3 hown rfl (by decide) xw_577 (And.intro (by decide +kernel) rfl)) ?_
  refine xa_cons 13 ((And.intro (by decide) (Or.inl (Exists.intro (2) (And.intro rfl (And.intro (by decide +kernel) rfl)))))) ?_
  refine xa_cons 14 ((And.intro (by decide) (And.intro (by decide +kernel) rfl))) ?_
  refine xa_cons 15 (xc_iconst hx hb (z := 4) (b := 4) (And.intro (by decide +kernel) rfl) (by decide +kernel) ⟨rfl, rfl⟩) ?_
  refine xa_cons 16 ((And.intro (by decide) (And.intro (by decide +kernel) rfl))) ?_
  refine xa_cons 17 ((And.intro (Or.inl rfl) (Or.inl (Exists.intro (3) (And.intro rfl (And.intro (by decide +kernel) rfl)))))) ?_
  refine xa_cons 18 ((And.intro (by decide) (Or.inl (Exists.intro (3) (And.intro rfl (And.intro (by decide +kernel) rfl)))))) ?_
  refine xa_cons 19 ((And.intro (by decide) (Exists.intro (10) (And.intro (by decide +kernel) (And.intro (by decide +kernel) rfl))))) ?_
  refine xa_cons 20 ((And.intro (by decide) (Or.inl (Exists.intro (0) (And.intro rfl (And.intro (by decide +kernel) rfl)))))) ?_
  refine xa_cons 21 ((And.intro (by decide) (Or.inl (Exists.intro (1) (And.intro rfl (And.intro (by decide +kernel) rfl)))))) ?_
  refine xa_cons 22 ((And.intro (by decide) (Or.inl (Exists.intro (2) (And.intro rfl (And.intro (by decide +kernel) rfl)))))) ?_
  refine xa_cons 23 ((And.intro (xc_callV (index := 162) (n := 2) (ci := 2) S xg_113 rfl xw_12 xw_580 xw_578 xw_579 rfl rfl rfl ⟨by decide, by decide, by decide +kernel⟩ rfl (And.intro (by decide +kernel) rfl)) (by decide +kernel))) ?_
  refine xa_cons 24 ((And.intro (Exists.intro (_) (And.intro hr (Or.inl ⟨_, rfl⟩))) (by decide +kernel))) ?_
  refine xa_cons 25 ((And.intro (by decide) (Or.inl (Exists.intro (1) (And.intro rfl (And.intro (by decide +kernel) rfl)))))) ?_
  refine xa_cons 26 (xc_getf (A := A) (own := "ExpressHouse$Population") (index := 90) hx hb htsB xC_10 hown rfl (by decide) xw_581 (And.intro (by decide +kernel) rfl)) ?_
  refine xa_cons 27 (xc_bipush hx hb (z := 6) (b := 6) (And.intro (by decide +kernel) rfl) (by decide +kernel) ⟨rfl, rfl⟩) ?_
  refine xa_cons 28 ((And.intro (by decide) (Exists.intro (16) (And.intro (by decide +kernel) (And.intro (by decide +kernel) rfl))))) ?_
  refine xa_cons 29 ((And.intro (by decide) (Or.inl (Exists.intro (1) (And.intro rfl (And.intro (by decide +kernel) rfl)))))) ?_
  refine xa_cons 30 (xc_getf (A := A) (own := "ExpressHouse$Population") (index := 110) hx hb htsB xC_10 hown rfl (by decide) xw_582 (And.intro (by decide +kernel) rfl)) ?_
  refine xa_cons 31 (xc_iconst hx hb (z := 1) (b := 1) (And.intro (by decide +kernel) rfl) (by decide +kernel) ⟨rfl, rfl⟩) ?_
  refine xa_cons 32 ((And.intro (by decide) (Exists.intro (8) (And.intro (by decide +kernel) (And.intro (by decide +kernel) rfl))))) ?_
  refine xa_cons 33 ((And.intro (by decide) (Or.inl (Exists.intro (3) (And.intro rfl (And.intro (by decide +kernel) rfl)))))) ?_
  refine xa_cons 34 (xc_iconst hx hb (z := 1) (b := 1) (And.intro (by decide +kernel) rfl) (by decide +kernel) ⟨rfl, rfl⟩) ?_
  refine xa_cons 35 ((And.intro (by decide) (Exists.intro (5) (And.intro (by decide +kernel) (And.intro (by decide +kernel) rfl))))) ?_
  refine xa_cons 36 ((And.intro (by decide) (Or.inl (Exists.intro (1) (And.intro rfl (And.intro (by decide +kernel) rfl)))))) ?_
  refine xa_cons 37 ((And.intro (Exists.intro (_) (And.intro hr (Or.inl ⟨_, rfl⟩))) (by decide +kernel))) ?_
  refine xa_cons 38 ((And.intro (by decide) (Or.inl (Exists.intro (3) (And.intro rfl (And.intro (by decide +kernel) rfl)))))) ?_
  refine xa_cons 39 (xc_iconst hx hb (z := 3) (b := 3) (And.intro (by decide +kernel) rfl) (by decide +kernel) ⟨rfl, rfl⟩) ?_
  refine xa_cons 40 ((And.intro (by decide) (Exists.intro (44) (And.intro (by decide +kernel) (And.intro (by decide +kernel) rfl))))) ?_
  refine xa_cons 41 ((And.intro (by decide) (Or.inl (Exists.intro (3) (And.intro rfl (And.intro (by decide +kernel) rfl)))))) ?_
  refine xa_cons 42 ((And.intro (by decide) (Exists.intro (17) (And.intro (by decide +kernel) (And.intro (by decide +kernel) rfl))))) ?_
  refine xa_cons 43 ((And.intro (by decide) (Or.inl (Exists.intro (0) (And.intro rfl (And.intro (by decide +kernel) rfl)))))) ?_
  refine xa_cons 44 (xc_getf (A := A) (own := "ExpressHouse$Population") (index := 42) hx hb htsB xC_2 hown rfl (by decide) xw_247 (And.intro (by decide +kernel) rfl)) ?_
  refine xa_cons 45 (xc_getf (A := A) (own := "ExpressHouse$Population") (index := 159) hx hb htsB xC_3 hown rfl (by decide) xw_577 (And.intro (by decide +kernel) rfl)) ?_
  refine xa_cons 46 ((And.intro (by decide) (Or.inl (Exists.intro (2) (And.intro rfl (And.intro (by decide +kernel) rfl)))))) ?_
  refine xa_cons 47 ((And.intro (by decide) (And.intro (by decide +kernel) rfl))) ?_
  refine xa_cons 48 (xc_iconst hx hb (z := 5) (b := 5) (And.intro (by decide +kernel) rfl) (by decide +kernel) ⟨rfl, rfl⟩) ?_
  refine xa_cons 49 ((And.intro (by decide) (And.intro (by decide +kernel) rfl))) ?_
  refine xa_cons 50 ((Exists.intro (4) (And.intro (by decide +kernel) (by decide +kernel)))) ?_
  refine xa_cons 51 (xc_iconst hx hb (z := 1) (b := 1) (And.intro (by decide +kernel) rfl) (by decide +kernel) ⟨rfl, rfl⟩) ?_
  refine xa_cons 52 ((And.intro (Or.inl rfl) (Or.inr (And.intro (by decide +kernel) rfl)))) ?_
  refine xa_cons 53 (xc_new (own := "ExpressHouse$Population") (index := 7) hx hb htsB xC_10 hown hA rfl rfl xw_238 xw_58 xw_59 (by decide) (by decide +kernel) (And.intro (by decide +kernel) rfl)) ?_
  refine xa_cons 54 ((And.intro (by decide +kernel) rfl)) ?_
  refine xa_cons 55 ((And.intro (by decide) (Or.inl (Exists.intro (3) (And.intro rfl (And.intro (by decide +kernel) rfl)))))) ?_
  refine xa_cons 56 ((And.intro (by decide) (Or.inr (And.intro (by decide +kernel) rfl)))) ?_
  refine xa_cons 57 ((And.intro (by decide) (Or.inl (Exists.intro (1) (And.intro rfl (And.intro (by decide +kernel) rfl)))))) ?_
  refine xa_cons 58 (xc_getf (A := A) (own := "ExpressHouse$Population") (index := 101) hx hb htsB xC_10 hown rfl (by decide) xw_583 (And.intro (by decide +kernel) rfl)) ?_
  refine xa_cons 59 (xc_iconst hx hb (z := 0) (b := 0) (And.intro (by decide +kernel) rfl) (by decide +kernel) ⟨rfl, rfl⟩) ?_
  refine xa_cons 60 ((And.intro (by decide) (Or.inl (Exists.intro (1) (And.intro rfl (And.intro (by decide +kernel) rfl)))))) ?_
  refine xa_cons 61 (xc_getf (A := A) (own := "ExpressHouse$Population") (index := 97) hx hb htsB xC_10 hown rfl (by decide) xw_584 (And.intro (by decide +kernel) rfl)) ?_
  refine xa_cons 62 ((And.intro (xc_callIN (index := 122) (n := 5) (ci := 10) S xg_79 rfl xw_59 (hgN.1 _ (List.mem_of_getElem? (i := 6) rfl)) xw_439 rfl rfl rfl ⟨by decide, by decide, by decide +kernel⟩ rfl (And.intro (by decide +kernel) rfl)) (by decide +kernel))) ?_
  refine xa_cons 63 ((And.intro (Exists.intro (_) (And.intro hr (Or.inl ⟨_, rfl⟩))) (by decide +kernel))) ?_
  refine xa_cons 64 ((And.intro (by decide) (Or.inl (Exists.intro (1) (And.intro rfl (And.intro (by decide +kernel) rfl)))))) ?_
  refine xa_cons 65 (xc_getf (A := A) (own := "ExpressHouse$Population") (index := 97) hx hb htsB xC_10 hown rfl (by decide) xw_584 (And.intro (by decide +kernel) rfl)) ?_
  refine xa_cons 66 ((And.intro (by decide +kernel) rfl)) ?_
  refine xa_cons 67 (xc_newa hx hb hA (htsB _ xw_214) (Or.inr ⟨rfl, rfl⟩) (And.intro (by decide +kernel) rfl)) ?_
  refine xa_cons 68 ((And.intro (Or.inr rfl) (Or.inr (And.intro (by decide +kernel) rfl)))) ?_
  refine xa_cons 69 (xc_iconst hx hb (z := 0) (b := 0) (And.intro (by decide +kernel) rfl) (by decide +kernel) ⟨rfl, rfl⟩) ?_
  refine xa_cons 70 ((And.intro (Or.inl rfl) (Or.inr (And.intro (by decide +kernel) rfl)))) ?_
  refine xa_cons 71 (xc_iconst hx hb (z := 0) (b := 0) (And.intro (by decide +kernel) rfl) (by decide +kernel) ⟨rfl, rfl⟩) ?_
  refine xa_cons 72 ((And.intro (Or.inl rfl) (Or.inr (And.intro (by decide +kernel) rfl)))) ?_
  refine xa_cons 73 ((And.intro (by decide) (Or.inr (And.intro (by decide +kernel) rfl)))) ?_
  refine xa_cons 74 ((And.intro (by decide) (Or.inr (And.intro (by decide +kernel) rfl)))) ?_
  refine xa_cons 75 ((And.intro (by decide +kernel) rfl)) ?_
  refine xa_cons 76 ((And.intro (by decide) (Exists.intro (79) (And.intro (by decide +kernel) (And.intro (by decide +kernel) rfl))))) ?_
  refine xa_cons 77 (xc_iconst hx hb (z := 0) (b := 0) (And.intro (by decide +kernel) rfl) (by decide +kernel) ⟨rfl, rfl⟩) ?_
  refine xa_cons 78 ((And.intro (Or.inl rfl) (Or.inr (And.intro (by decide +kernel) rfl)))) ?_
  refine xa_cons 79 (xc_iconst hx hb (z := 0) (b := 0) (And.intro (by decide +kernel) rfl) (by decide +kernel) ⟨rfl, rfl⟩) ?_
  refine xa_cons 80 ((And.intro (Or.inl rfl) (Or.inr (And.intro (by decide +kernel) rfl)))) ?_
  refine xa_cons 81 ((And.intro (by decide) (Or.inr (And.intro (by decide +kernel) rfl)))) ?_
  refine xa_cons 82 ((And.intro (by decide) (Or.inr (And.intro (by decide +kernel) rfl)))) ?_
  refine xa_cons 83 ((And.intro (by decide) (Exists.intro (40) (And.intro (by decide +kernel) (And.intro (by decide +kernel) rfl))))) ?_
  refine xa_cons 84 ((And.intro (by decide) (Or.inr (And.intro (by decide +kernel) rfl)))) ?_
  refine xa_cons 85 ((And.intro (by decide) (Exists.intro (35) (And.intro (by decide +kernel) (And.intro (by decide +kernel) rfl))))) ?_
  refine xa_cons 86 ((And.intro (by decide) (Or.inl (Exists.intro (0) (And.intro rfl (And.intro (by decide +kernel) rfl)))))) ?_
  refine xa_cons 87 ((And.intro (by decide) (Or.inl (Exists.intro (1) (And.intro rfl (And.intro (by decide +kernel) rfl)))))) ?_
  refine xa_cons 88 (xc_getf (A := A) (own := "ExpressHouse$Population") (index := 101) hx hb htsB xC_10 hown rfl (by decide) xw_583 (And.intro (by decide +kernel) rfl)) ?_
  refine xa_cons 89 ((And.intro (by decide) (Or.inl (Exists.intro (1) (And.intro rfl (And.intro (by decide +kernel) rfl)))))) ?_
  refine xa_cons 90 (xc_getf (A := A) (own := "ExpressHouse$Population") (index := 97) hx hb htsB xC_10 hown rfl (by decide) xw_584 (And.intro (by decide +kernel) rfl)) ?_
  refine xa_cons 91 ((And.intro (by decide) (Or.inr (And.intro (by decide +kernel) rfl)))) ?_
  refine xa_cons 92 ((And.intro (by decide) (And.intro (by decide +kernel) rfl))) ?_
  refine xa_cons 93 ((And.intro (by decide) (Or.inl (Exists.intro (1) (And.intro rfl (And.intro (by decide +kernel) rfl)))))) ?_
  refine xa_cons 94 (xc_getf (A := A) (own := "ExpressHouse$Population") (index := 101) hx hb htsB xC_10 hown rfl (by decide) xw_583 (And.intro (by decide +kernel) rfl)) ?_
  refine xa_cons 95 ((And.intro (by decide) (Or.inr (And.intro (by decide +kernel) rfl)))) ?_
  refine xa_cons 96 ((And.intro (by decide) (Or.inr (And.intro (by decide +kernel) rfl)))) ?_
  refine xa_cons 97 ((And.intro (by decide) (And.intro (by decide +kernel) rfl))) ?_
  refine xa_cons 98 ((And.intro (xc_callV (index := 143) (n := 4) (ci := 2) S xg_114 rfl xw_12 xw_587 xw_585 xw_586 rfl rfl rfl ⟨by decide, by decide, by decide +kernel⟩ rfl (And.intro (by decide +kernel) rfl)) (by decide +kernel))) ?_
  refine xa_cons 99 ((And.intro (Or.inl rfl) (Or.inr (And.intro (by decide +kernel) rfl)))) ?_
  refine xa_cons 100 ((Exists.intro (1) (And.intro (And.intro (by decide +kernel) rfl) (by decide +kernel)))) ?_
  refine xa_cons 101 ((Exists.intro (-41) (And.intro (by decide +kernel) (by decide +kernel)))) ?_
  refine xa_cons 102 ((And.intro (by decide) (Or.inr (And.intro (by decide +kernel) rfl)))) ?_
  refine xa_cons 103 ((And.intro (by decide) (Exists.intro (18) (And.intro (by decide +kernel) (And.intro (by decide +kernel) rfl))))) ?_
  refine xa_cons 104 ((And.intro (by decide) (Or.inr (And.intro (by decide +kernel) rfl)))) ?_
  refine xa_cons 105 ((And.intro (by decide) (Or.inr (And.intro (by decide +kernel) rfl)))) ?_
  refine xa_cons 106 ((And.intro (by decide) (Or.inl (Exists.intro (1) (And.intro rfl (And.intro (by decide +kernel) rfl)))))) ?_
  refine xa_cons 107 (xc_getf (A := A) (own := "ExpressHouse$Population") (index := 97) hx hb htsB xC_10 hown rfl (by decide) xw_584 (And.intro (by decide +kernel) rfl)) ?_
  refine xa_cons 108 ((And.intro (by decide) (Or.inr (And.intro (by decide +kernel) rfl)))) ?_
  refine xa_cons 109 ((And.intro (by decide) (And.intro (by decide +kernel) rfl))) ?_
  refine xa_cons 110 ((And.intro (by decide) (And.intro (by decide +kernel) rfl))) ?_
  refine xa_cons 111 ((Exists.intro (1) (And.intro (And.intro (by decide +kernel) rfl) (by decide +kernel)))) ?_
  refine xa_cons 112 ((Exists.intro (1) (And.intro (And.intro (by decide +kernel) rfl) (by decide +kernel)))) ?_
  refine xa_cons 113 ((Exists.intro (-81) (And.intro (by decide +kernel) (by decide +kernel)))) ?_
  refine xa_cons 114 (xc_new (own := "ExpressHouse$Population") (index := 7) hx hb htsB xC_10 hown hA rfl rfl xw_238 xw_58 xw_59 (by decide) (by decide +kernel) (And.intro (by decide +kernel) rfl)) ?_
  refine xa_cons 115 ((And.intro (by decide +kernel) rfl)) ?_
  refine xa_cons 116 (xc_iconst hx hb (z := 3) (b := 3) (And.intro (by decide +kernel) rfl) (by decide +kernel) ⟨rfl, rfl⟩) ?_
  refine xa_cons 117 (xc_iconst hx hb (z := 1) (b := 1) (And.intro (by decide +kernel) rfl) (by decide +kernel) ⟨rfl, rfl⟩) ?_
  refine xa_cons 118 ((And.intro (by decide) (Or.inl (Exists.intro (1) (And.intro rfl (And.intro (by decide +kernel) rfl)))))) ?_
  refine xa_cons 119 (xc_getf (A := A) (own := "ExpressHouse$Population") (index := 101) hx hb htsB xC_10 hown rfl (by decide) xw_583 (And.intro (by decide +kernel) rfl)) ?_
  refine xa_cons 120 (xc_iconst hx hb (z := 0) (b := 0) (And.intro (by decide +kernel) rfl) (by decide +kernel) ⟨rfl, rfl⟩) ?_
  refine xa_cons 121 ((And.intro (by decide) (Or.inr (And.intro (by decide +kernel) rfl)))) ?_
  refine xa_cons 122 ((And.intro (by decide) (Or.inr (And.intro (by decide +kernel) rfl)))) ?_
  refine xa_cons 123 ((And.intro (xc_callS (index := 113) S xg_115 rfl xw_495 xw_588 xw_589 ⟨by decide, by decide, by decide +kernel⟩ rfl (And.intro (by decide +kernel) rfl)) (by decide +kernel))) ?_
  refine xa_cons 124 ((And.intro (xc_callIN (index := 122) (n := 5) (ci := 10) S xg_79 rfl xw_59 (hgN.1 _ (List.mem_of_getElem? (i := 6) rfl)) xw_439 rfl rfl rfl ⟨by decide, by decide, by decide +kernel⟩ rfl (And.intro (by decide +kernel) rfl)) (by decide +kernel))) ?_
  refine xa_cons 125 ((And.intro (Exists.intro (_) (And.intro hr (Or.inl ⟨_, rfl⟩))) (by decide +kernel))) ?_
  exact xa_nil
def xrp_58 : Nat → Nat := fun k => ([0, 1, 4, 7, 8, 11, 12, 13, 16, 19, 20, 23, 24, 27, 30, 31, 34, 35, 36, 37, 40, 43, 44, 45, 46, 47, 48, 49, 51, 53, 56, 57, 58, 60, 61, 62, 65, 66, 69, 72, 73, 74, 75, 76, 78, 79, 81, 82, 84, 85, 88, 89, 91, 92, 95, 97, 100, 101, 104, 106, 109, 110, 113, 114, 116, 118, 121, 123, 126, 127, 130, 132, 135, 137, 140, 142, 144, 146, 147, 148, 149, 152, 153, 156, 157, 159, 160, 162, 164, 166, 169, 171, 174, 175, 177, 180, 183, 184, 185, 187, 188, 189, 192, 193, 196, 198, 199, 202, 205, 206, 209, 210, 212, 215, 218, 220] : List Nat).getD k 0
set_option maxRecDepth 20000 in
set_option maxHeartbeats 4000000 in
theorem xz_58 {l : Launch} {D : va_G} {en : XE} : x_Ok xT l D xcl en xrn (xG en) 58 xc_58 := by
  refine ⟨prog_8_method_29_code, (some .boolean), xBIG, xrp_58, by decide +kernel, rfl, rfl, ?_⟩
  intro p e R s m args below meth c s₁ A Q pc i f1 f2 B hml hA hg hi
  obtain ⟨hx, hb, hr, hown, hlocks, hin, htsB, S⟩ := xb_all (C := "ExpressHouse$Population") B hml rfl rfl
  obtain ⟨hgN, hgZ, hgS, hgS2⟩ := xG_all hg
  refine xa_at (i := i) (pc := pc) ?_ hi
  refine xa_cons 0 ((And.intro (by decide) (Or.inl (Exists.intro (1) (And.intro rfl (And.intro (by decide +kernel) rfl)))))) ?_
  refine xa_cons 1 (xc_getf (A := A) (own := "ExpressHouse$Population") (index := 90) hx hb htsB xC_10 hown rfl (by decide) xw_581 (And.intro (by decide +kernel) rfl)) ?_
  refine xa_cons 2 ((And.intro (by decide) (Exists.intro (19) (And.intro (by decide +kernel) (And.intro (by decide +kernel) rfl))))) ?_
  refine xa_cons 3 ((And.intro (by decide) (Or.inl (Exists.intro (2) (And.intro rfl (And.intro (by decide +kernel) rfl)))))) ?_
  refine xa_cons 4 ((And.intro (by decide) (Exists.intro (15) (And.intro (by decide +kernel) (And.intro (by decide +kernel) rfl))))) ?_
  refine xa_cons 5 ((And.intro (by decide) (Or.inl (Exists.intro (2) (And.intro rfl (And.intro (by decide +kernel) rfl)))))) ?_
  refine xa_cons 6 ((And.intro (by decide) (Or.inl (Exists.intro (0) (And.intro rfl (And.intro (by decide +kernel) rfl)))))) ?_
  refine xa_cons 7 (xc_getf (A := A) (own := "ExpressHouse$Population") (index := 42) hx hb htsB xC_2 hown rfl (by decide) xw_247 (And.intro (by decide +kernel) rfl)) ?_
  refine xa_cons 8 (xc_getf (A := A) (own := "ExpressHouse$Population") (index := 159) hx hb htsB xC_3 hown rfl (by decide) xw_577 (And.intro (by decide +kernel) rfl)) ?_
  refine xa_cons 9 ((And.intro (by decide +kernel) rfl)) ?_
  refine xa_cons 10 ((And.intro (by decide) (Exists.intro (16) (And.intro (by decide +kernel) (And.intro (by decide +kernel) rfl))))) ?_
  refine xa_cons 11 ((And.intro (by decide) (Or.inl (Exists.intro (1) (And.intro rfl (And.intro (by decide +kernel) rfl)))))) ?_
  refine xa_cons 12 (xc_getf (A := A) (own := "ExpressHouse$Population") (index := 90) hx hb htsB xC_10 hown rfl (by decide) xw_581 (And.intro (by decide +kernel) rfl)) ?_
  refine xa_cons 13 ((And.intro (by decide) (Exists.intro (7) (And.intro (by decide +kernel) (And.intro (by decide +kernel) rfl))))) ?_
  refine xa_cons 14 (xc_iconst hx hb (z := 1) (b := 1) (And.intro (by decide +kernel) rfl) (by decide +kernel) ⟨rfl, rfl⟩) ?_
  refine xa_cons 15 ((Exists.intro (4) (And.intro (by decide +kernel) (by decide +kernel)))) ?_
  refine xa_cons 16 (xc_iconst hx hb (z := 0) (b := 0) (And.intro (by decide +kernel) rfl) (by decide +kernel) ⟨rfl, rfl⟩) ?_
  refine xa_cons 17 ((And.intro hr (by decide +kernel))) ?_
  refine xa_cons 18 ((And.intro (by decide) (Or.inl (Exists.intro (0) (And.intro rfl (And.intro (by decide +kernel) rfl)))))) ?_
  refine xa_cons 19 (xc_getf (A := A) (own := "ExpressHouse$Population") (index := 42) hx hb htsB xC_2 hown rfl (by decide) xw_247 (And.intro (by decide +kernel) rfl)) ?_
  refine xa_cons 20 (xc_getf (A := A) (own := "ExpressHouse$Population") (index := 159) hx hb htsB xC_3 hown rfl (by decide) xw_577 (And.intro (by decide +kernel) rfl)) ?_
  refine xa_cons 21 ((And.intro (by decide) (Or.inl (Exists.intro (2) (And.intro rfl (And.intro (by decide +kernel) rfl)))))) ?_
  refine xa_cons 22 ((And.intro (by decide) (And.intro (by decide +kernel) rfl))) ?_
  refine xa_cons 23 ((And.intro (Or.inr rfl) (Or.inl (Exists.intro (3) (And.intro rfl (And.intro (by decide +kernel) rfl)))))) ?_
  refine xa_cons 24 ((And.intro (by decide) (Or.inl (Exists.intro (3) (And.intro rfl (And.intro (by decide +kernel) rfl)))))) ?_
  refine xa_cons 25 (xc_iconst hx hb (z := 4) (b := 4) (And.intro (by decide +kernel) rfl) (by decide +kernel) ⟨rfl, rfl⟩) ?_
  refine xa_cons 26 ((And.intro (by decide) (And.intro (by decide +kernel) rfl))) ?_
  refine xa_cons 27 ((And.intro (Or.inl rfl) (Or.inr (And.intro (by decide +kernel) rfl)))) ?_
  refine xa_cons 28 ((And.intro (by decide) (Or.inr (And.intro (by decide +kernel) rfl)))) ?_
  refine xa_cons 29 ((And.intro (by decide) (Exists.intro (20) (And.intro (by decide +kernel) (And.intro (by decide +kernel) rfl))))) ?_
  refine xa_cons 30 ((And.intro (by decide) (Or.inl (Exists.intro (0) (And.intro rfl (And.intro (by decide +kernel) rfl)))))) ?_
  refine xa_cons 31 ((And.intro (by decide) (Or.inl (Exists.intro (3) (And.intro rfl (And.intro (by decide +kernel) rfl)))))) ?_
  refine xa_cons 32 (xc_bipush hx hb (z := 7) (b := 7) (And.intro (by decide +kernel) rfl) (by decide +kernel) ⟨rfl, rfl⟩) ?_
  refine xa_cons 33 ((And.intro (by decide) (And.intro (by decide +kernel) rfl))) ?_
  refine xa_cons 34 ((And.intro (by decide) (Or.inl (Exists.intro (1) (And.intro rfl (And.intro (by decide +kernel) rfl)))))) ?_
  refine xa_cons 35 (xc_getf (A := A) (own := "ExpressHouse$Population") (index := 90) hx hb htsB xC_10 hown rfl (by decide) xw_581 (And.intro (by decide +kernel) rfl)) ?_
  refine xa_cons 36 ((And.intro (by decide) (Or.inl (Exists.intro (1) (And.intro rfl (And.intro (by decide +kernel) rfl)))))) ?_
  refine xa_cons 37 (xc_getf (A := A) (own := "ExpressHouse$Population") (index := 93) hx hb htsB xC_10 hown rfl (by decide) xw_590 (And.intro (by decide +kernel) rfl)) ?_
  refine xa_cons 38 ((And.intro (xc_callV (index := 173) (n := 3) (ci := 2) S xg_116 rfl xw_12 xw_593 xw_591 xw_592 rfl rfl rfl ⟨by decide, by decide, by decide +kernel⟩ rfl (And.intro (by decide +kernel) rfl)) (by decide +kernel))) ?_
  refine xa_cons 39 ((And.intro hr (by decide +kernel))) ?_
  refine xa_cons 40 ((And.intro (by decide) (Or.inl (Exists.intro (3) (And.intro rfl (And.intro (by decide +kernel) rfl)))))) ?_
  refine xa_cons 41 (xc_iconst hx hb (z := 5) (b := 5) (And.intro (by decide +kernel) rfl) (by decide +kernel) ⟨rfl, rfl⟩) ?_
  refine xa_cons 42 ((And.intro (by decide) (And.intro (by decide +kernel) rfl))) ?_
  refine xa_cons 43 ((And.intro (Or.inl rfl) (Or.inr (And.intro (by decide +kernel) rfl)))) ?_
  refine xa_cons 44 ((And.intro (by decide) (Or.inl (Exists.intro (3) (And.intro rfl (And.intro (by decide +kernel) rfl)))))) ?_
  refine xa_cons 45 (xc_bipush hx hb (z := 6) (b := 6) (And.intro (by decide +kernel) rfl) (by decide +kernel) ⟨rfl, rfl⟩) ?_
  refine xa_cons 46 ((And.intro (by decide) (And.intro (by decide +kernel) rfl))) ?_
  refine xa_cons 47 ((And.intro (Or.inl rfl) (Or.inr (And.intro (by decide +kernel) rfl)))) ?_
  refine xa_cons 48 ((And.intro (by decide) (Or.inl (Exists.intro (1) (And.intro rfl (And.intro (by decide +kernel) rfl)))))) ?_
  refine xa_cons 49 (xc_getf (A := A) (own := "ExpressHouse$Population") (index := 97) hx hb htsB xC_10 hown rfl (by decide) xw_584 (And.intro (by decide +kernel) rfl)) ?_
  refine xa_cons 50 ((And.intro (by decide +kernel) rfl)) ?_
  refine xa_cons 51 ((And.intro (Or.inl rfl) (Or.inr (And.intro (by decide +kernel) rfl)))) ?_
  refine xa_cons 52 ((And.intro (by decide) (Or.inl (Exists.intro (1) (And.intro rfl (And.intro (by decide +kernel) rfl)))))) ?_
  refine xa_cons 53 (xc_getf (A := A) (own := "ExpressHouse$Population") (index := 90) hx hb htsB xC_10 hown rfl (by decide) xw_581 (And.intro (by decide +kernel) rfl)) ?_
  refine xa_cons 54 (xc_bipush hx hb (z := 6) (b := 6) (And.intro (by decide +kernel) rfl) (by decide +kernel) ⟨rfl, rfl⟩) ?_
  refine xa_cons 55 ((And.intro (by decide) (Exists.intro (16) (And.intro (by decide +kernel) (And.intro (by decide +kernel) rfl))))) ?_
  refine xa_cons 56 ((And.intro (by decide) (Or.inl (Exists.intro (1) (And.intro rfl (And.intro (by decide +kernel) rfl)))))) ?_
  refine xa_cons 57 (xc_getf (A := A) (own := "ExpressHouse$Population") (index := 110) hx hb htsB xC_10 hown rfl (by decide) xw_582 (And.intro (by decide +kernel) rfl)) ?_
  refine xa_cons 58 ((And.intro (by decide) (Or.inr (And.intro (by decide +kernel) rfl)))) ?_
  refine xa_cons 59 ((And.intro (by decide) (Exists.intro (7) (And.intro (by decide +kernel) (And.intro (by decide +kernel) rfl))))) ?_
  refine xa_cons 60 (xc_iconst hx hb (z := 1) (b := 1) (And.intro (by decide +kernel) rfl) (by decide +kernel) ⟨rfl, rfl⟩) ?_
  refine xa_cons 61 ((Exists.intro (4) (And.intro (by decide +kernel) (by decide +kernel)))) ?_
  refine xa_cons 62 (xc_iconst hx hb (z := 0) (b := 0) (And.intro (by decide +kernel) rfl) (by decide +kernel) ⟨rfl, rfl⟩) ?_
  refine xa_cons 63 ((And.intro (Or.inl rfl) (Or.inr (And.intro (by decide +kernel) rfl)))) ?_
  refine xa_cons 64 ((And.intro (by decide) (Or.inr (And.intro (by decide +kernel) rfl)))) ?_
  refine xa_cons 65 ((And.intro (by decide) (Exists.intro (41) (And.intro (by decide +kernel) (And.intro (by decide +kernel) rfl))))) ?_
  refine xa_cons 66 ((And.intro (by decide) (Or.inr (And.intro (by decide +kernel) rfl)))) ?_
  refine xa_cons 67 ((And.intro (by decide) (Exists.intro (33) (And.intro (by decide +kernel) (And.intro (by decide +kernel) rfl))))) ?_
  refine xa_cons 68 ((And.intro (by decide) (Or.inl (Exists.intro (1) (And.intro rfl (And.intro (by decide +kernel) rfl)))))) ?_
  refine xa_cons 69 (xc_getf (A := A) (own := "ExpressHouse$Population") (index := 119) hx hb htsB xC_10 hown rfl (by decide) xw_594 (And.intro (by decide +kernel) rfl)) ?_
  refine xa_cons 70 ((And.intro (by decide) (Or.inr (And.intro (by decide +kernel) rfl)))) ?_
  refine xa_cons 71 ((And.intro (by decide) (Exists.intro (24) (And.intro (by decide +kernel) (And.intro (by decide +kernel) rfl))))) ?_
  refine xa_cons 72 ((And.intro (by decide) (Or.inr (And.intro (by decide +kernel) rfl)))) ?_
  refine xa_cons 73 ((And.intro (by decide) (Exists.intro (15) (And.intro (by decide +kernel) (And.intro (by decide +kernel) rfl))))) ?_
  refine xa_cons 74 ((And.intro (by decide) (Or.inr (And.intro (by decide +kernel) rfl)))) ?_
  refine xa_cons 75 ((And.intro (by decide) (Or.inr (And.intro (by decide +kernel) rfl)))) ?_
  refine xa_cons 76 ((And.intro (by decide) (Or.inr (And.intro (by decide +kernel) rfl)))) ?_
  refine xa_cons 77 ((And.intro (by decide) (And.intro (by decide +kernel) rfl))) ?_
  refine xa_cons 78 (xc_iconst hx hb (z := 1) (b := 1) (And.intro (by decide +kernel) rfl) (by decide +kernel) ⟨rfl, rfl⟩) ?_
  refine xa_cons 79 ((And.intro (by decide) (And.intro (by decide +kernel) rfl))) ?_
  refine xa_cons 80 ((And.intro (by decide) (Exists.intro (7) (And.intro (by decide +kernel) (And.intro (by decide +kernel) rfl))))) ?_
  refine xa_cons 81 (xc_iconst hx hb (z := 1) (b := 1) (And.intro (by decide +kernel) rfl) (by decide +kernel) ⟨rfl, rfl⟩) ?_
  refine xa_cons 82 ((Exists.intro (4) (And.intro (by decide +kernel) (by decide +kernel)))) ?_
  refine xa_cons 83 (xc_iconst hx hb (z := 0) (b := 0) (And.intro (by decide +kernel) rfl) (by decide +kernel) ⟨rfl, rfl⟩) ?_
  refine xa_cons 84 ((And.intro (Or.inl rfl) (Or.inr (And.intro (by decide +kernel) rfl)))) ?_
  refine xa_cons 85 (xc_iconst hx hb (z := 0) (b := 0) (And.intro (by decide +kernel) rfl) (by decide +kernel) ⟨rfl, rfl⟩) ?_
  refine xa_cons 86 ((And.intro (Or.inl rfl) (Or.inr (And.intro (by decide +kernel) rfl)))) ?_
  refine xa_cons 87 ((And.intro (by decide) (Or.inr (And.intro (by decide +kernel) rfl)))) ?_
  refine xa_cons 88 ((And.intro (by decide) (Or.inr (And.intro (by decide +kernel) rfl)))) ?_
  refine xa_cons 89 ((And.intro (by decide) (Exists.intro (52) (And.intro (by decide +kernel) (And.intro (by decide +kernel) rfl))))) ?_
  refine xa_cons 90 ((And.intro (by decide) (Or.inr (And.intro (by decide +kernel) rfl)))) ?_
  refine xa_cons 91 ((And.intro (by decide) (Exists.intro (47) (And.intro (by decide +kernel) (And.intro (by decide +kernel) rfl))))) ?_
  refine xa_cons 92 ((And.intro (by decide) (Or.inl (Exists.intro (1) (And.intro rfl (And.intro (by decide +kernel) rfl)))))) ?_
  refine xa_cons 93 ((And.intro (by decide) (Or.inr (And.intro (by decide +kernel) rfl)))) ?_
  refine xa_cons 94 ((And.intro (xc_callV (index := 104) (n := 1) (ci := 10) S xg_117 rfl xw_59 xw_597 xw_595 xw_596 rfl rfl rfl ⟨by decide, by decide, by decide +kernel⟩ rfl (And.intro (by decide +kernel) rfl)) (by decide +kernel))) ?_
  refine xa_cons 95 ((And.intro (by decide) (Exists.intro (25) (And.intro (by decide +kernel) (And.intro (by decide +kernel) rfl))))) ?_
  refine xa_cons 96 ((And.intro (by decide) (Or.inl (Exists.intro (0) (And.intro rfl (And.intro (by decide +kernel) rfl)))))) ?_
  refine xa_cons 97 ((And.intro (by decide) (Or.inl (Exists.intro (3) (And.intro rfl (And.intro (by decide +kernel) rfl)))))) ?_
  refine xa_cons 98 (xc_bipush hx hb (z := 7) (b := 7) (And.intro (by decide +kernel) rfl) (by decide +kernel) ⟨rfl, rfl⟩) ?_
  refine xa_cons 99 ((And.intro (by decide) (And.intro (by decide +kernel) rfl))) ?_
  refine xa_cons 100 ((And.intro (by decide) (Or.inl (Exists.intro (1) (And.intro rfl (And.intro (by decide +kernel) rfl)))))) ?_
  refine xa_cons 101 (xc_getf (A := A) (own := "ExpressHouse$Population") (index := 101) hx hb htsB xC_10 hown rfl (by decide) xw_583 (And.intro (by decide +kernel) rfl)) ?_
  refine xa_cons 102 ((And.intro (by decide) (Or.inl (Exists.intro (1) (And.intro rfl (And.intro (by decide +kernel) rfl)))))) ?_
  refine xa_cons 103 (xc_getf (A := A) (own := "ExpressHouse$Population") (index := 97) hx hb htsB xC_10 hown rfl (by decide) xw_584 (And.intro (by decide +kernel) rfl)) ?_
  refine xa_cons 104 ((And.intro (by decide) (Or.inr (And.intro (by decide +kernel) rfl)))) ?_
  refine xa_cons 105 ((And.intro (by decide) (And.intro (by decide +kernel) rfl))) ?_
  refine xa_cons 106 ((And.intro (xc_callV (index := 173) (n := 3) (ci := 2) S xg_116 rfl xw_12 xw_593 xw_591 xw_592 rfl rfl rfl ⟨by decide, by decide, by decide +kernel⟩ rfl (And.intro (by decide +kernel) rfl)) (by decide +kernel))) ?_
  refine xa_cons 107 ((And.intro (by decide) (Exists.intro (7) (And.intro (by decide +kernel) (And.intro (by decide +kernel) rfl))))) ?_
  refine xa_cons 108 (xc_iconst hx hb (z := 1) (b := 1) (And.intro (by decide +kernel) rfl) (by decide +kernel) ⟨rfl, rfl⟩) ?_
  refine xa_cons 109 ((Exists.intro (4) (And.intro (by decide +kernel) (by decide +kernel)))) ?_
  refine xa_cons 110 (xc_iconst hx hb (z := 0) (b := 0) (And.intro (by decide +kernel) rfl) (by decide +kernel) ⟨rfl, rfl⟩) ?_
  refine xa_cons 111 ((And.intro (Or.inl rfl) (Or.inr (And.intro (by decide +kernel) rfl)))) ?_
  refine xa_cons 112 ((Exists.intro (1) (And.intro (And.intro (by decide +kernel) rfl) (by decide +kernel)))) ?_
  refine xa_cons 113 ((Exists.intro (-53) (And.intro (by decide +kernel) (by decide +kernel)))) ?_
  refine xa_cons 114 ((And.intro (by decide) (Or.inr (And.intro (by decide +kernel) rfl)))) ?_
  refine xa_cons 115 ((And.intro hr (by decide +kernel))) ?_
  exact xa_nil
def xrp_59 : Nat → Nat := fun k => ([0, 1, 4, 5, 7, 10, 11, 14, 15, 17, 20, 21, 24, 25, 27, 28, 29, 30, 31, 32, 33, 34, 37] : List Nat).getD k 0
set_option maxRecDepth 20000 in
set_option maxHeartbeats 4000000 in
theorem xz_59 {l : Launch} {D : va_G} {en : XE} : x_Ok xT l D xcl en xrn (xG en) 59 xc_59 := by
  refine ⟨prog_8_method_9_code, none, xBIG, xrp_59, by decide +kernel, rfl, rfl, ?_⟩
  intro p e R s m args below meth c s₁ A Q pc i f1 f2 B hml hA hg hi
  obtain ⟨hx, hb, hr, hown, hlocks, hin, htsB, S⟩ := xb_all (C := "ExpressHouse$Population") B hml rfl rfl
  obtain ⟨hgN, hgZ, hgS, hgS2⟩ := xG_all hg
  refine xa_at (i := i) (pc := pc) ?_ hi
  refine xa_cons 0 ((And.intro (by decide) (Or.inl (Exists.intro (1) (And.intro rfl (And.intro (by decide +kernel) rfl)))))) ?_
  refine xa_cons 1 ((And.intro (by decide) (Exists.intro (36) (And.intro (by decide +kernel) (And.intro (by decide +kernel) rfl))))) ?_
  refine xa_cons 2 ((And.intro (by decide) (Or.inl (Exists.intro (1) (And.intro rfl (And.intro (by decide +kernel) rfl)))))) ?_
  refine xa_cons 3 (xc_bipush hx hb (z := 40) (b := 40) (And.intro (by decide +kernel) rfl) (by decide +kernel) ⟨rfl, rfl⟩) ?_
  refine xa_cons 4 ((And.intro (by decide) (Exists.intro (30) (And.intro (by decide +kernel) (And.intro (by decide +kernel) rfl))))) ?_
  refine xa_cons 5 ((And.intro (by decide) (Or.inl (Exists.intro (2) (And.intro rfl (And.intro (by decide +kernel) rfl)))))) ?_
  refine xa_cons 6 ((And.intro (by decide) (Exists.intro (26) (And.intro (by decide +kernel) (And.intro (by decide +kernel) rfl))))) ?_
  refine xa_cons 7 ((And.intro (by decide) (Or.inl (Exists.intro (2) (And.intro rfl (And.intro (by decide +kernel) rfl)))))) ?_
  refine xa_cons 8 (xc_bipush hx hb (z := 40) (b := 40) (And.intro (by decide +kernel) rfl) (by decide +kernel) ⟨rfl, rfl⟩) ?_
  refine xa_cons 9 ((And.intro (by decide) (Exists.intro (20) (And.intro (by decide +kernel) (And.intro (by decide +kernel) rfl))))) ?_
  refine xa_cons 10 ((And.intro (by decide) (Or.inl (Exists.intro (0) (And.intro rfl (And.intro (by decide +kernel) rfl)))))) ?_
  refine xa_cons 11 (xc_getf (A := A) (own := "ExpressHouse$Population") (index := 22) hx hb htsB xC_2 hown rfl (by decide) xw_241 (And.intro (by decide +kernel) rfl)) ?_
  refine xa_cons 12 ((And.intro (by decide) (Or.inl (Exists.intro (1) (And.intro rfl (And.intro (by decide +kernel) rfl)))))) ?_
  refine xa_cons 13 (xc_bipush hx hb (z := 40) (b := 40) (And.intro (by decide +kernel) rfl) (by decide +kernel) ⟨rfl, rfl⟩) ?_
  refine xa_cons 14 ((And.intro (by decide) (And.intro (by decide +kernel) rfl))) ?_
  refine xa_cons 15 ((And.intro (by decide) (Or.inl (Exists.intro (2) (And.intro rfl (And.intro (by decide +kernel) rfl)))))) ?_
  refine xa_cons 16 ((And.intro (by decide) (And.intro (by decide +kernel) rfl))) ?_
  refine xa_cons 17 ((And.intro (by decide) (Or.inl (Exists.intro (3) (And.intro rfl (And.intro (by decide +kernel) rfl)))))) ?_
  refine xa_cons 18 ((And.intro (by decide) (And.intro (by decide +kernel) rfl))) ?_
  refine xa_cons 19 ((And.intro (by decide) (Or.inl (Exists.intro (0) (And.intro rfl (And.intro (by decide +kernel) rfl)))))) ?_
  refine xa_cons 20 (xc_iconst hx hb (z := 1) (b := 1) (And.intro (by decide +kernel) rfl) (by decide +kernel) ⟨rfl, rfl⟩) ?_
  refine xa_cons 21 (xc_putf (own := "ExpressHouse$Population") (index := 38) hx hb htsB xC_2 hown rfl (by decide) xw_246 rfl (rfl) (And.intro (by decide +kernel) rfl)) ?_
  refine xa_cons 22 ((And.intro hr (by decide +kernel))) ?_
  exact xa_nil
def xrp_60 : Nat → Nat := fun k => ([0, 1, 4, 5, 6, 9, 12, 13, 15, 18, 19, 22, 23, 24, 27, 28, 31, 32] : List Nat).getD k 0
set_option maxRecDepth 20000 in
set_option maxHeartbeats 4000000 in
theorem xz_60 {l : Launch} {D : va_G} {en : XE} : x_Ok xT l D xcl en xrn (xG en) 60 xc_60 := by
  refine ⟨prog_8_method_3_code, (some .boolean), xBIG, xrp_60, by decide +kernel, rfl, rfl, ?_⟩
  intro p e R s m args below meth c s₁ A Q pc i f1 f2 B hml hA hg hi
  obtain ⟨hx, hb, hr, hown, hlocks, hin, htsB, S⟩ := xb_all (C := "ExpressHouse$Population") B hml rfl rfl
  obtain ⟨hgN, hgZ, hgS, hgS2⟩ := xG_all hg
  refine xa_at (i := i) (pc := pc) ?_ hi
  refine xa_cons 0 ((And.intro (by decide) (Or.inl (Exists.intro (1) (And.intro rfl (And.intro (by decide +kernel) rfl)))))) ?_
  refine xa_cons 1 ((And.intro (by decide) (Exists.intro (30) (And.intro (by decide +kernel) (And.intro (by decide +kernel) rfl))))) ?_
  refine xa_cons 2 ((And.intro (by decide) (Or.inl (Exists.intro (1) (And.intro rfl (And.intro (by decide +kernel) rfl)))))) ?_
  refine xa_cons 3 ((And.intro (by decide) (Or.inl (Exists.intro (0) (And.intro rfl (And.intro (by decide +kernel) rfl)))))) ?_
  refine xa_cons 4 (xc_getf (A := A) (own := "ExpressHouse$Population") (index := 46) hx hb htsB xC_2 hown rfl (by decide) xw_529 (And.intro (by decide +kernel) rfl)) ?_
  refine xa_cons 5 ((And.intro (by decide) (Exists.intro (22) (And.intro (by decide +kernel) (And.intro (by decide +kernel) rfl))))) ?_
  refine xa_cons 6 ((And.intro (by decide) (Or.inl (Exists.intro (1) (And.intro rfl (And.intro (by decide +kernel) rfl)))))) ?_
  refine xa_cons 7 (xc_bipush hx hb (z := 40) (b := 40) (And.intro (by decide +kernel) rfl) (by decide +kernel) ⟨rfl, rfl⟩) ?_
  refine xa_cons 8 ((And.intro (by decide) (Exists.intro (16) (And.intro (by decide +kernel) (And.intro (by decide +kernel) rfl))))) ?_
  refine xa_cons 9 ((And.intro (by decide) (Or.inl (Exists.intro (0) (And.intro rfl (And.intro (by decide +kernel) rfl)))))) ?_
  refine xa_cons 10 (xc_getf (A := A) (own := "ExpressHouse$Population") (index := 18) hx hb htsB xC_2 hown rfl (by decide) xw_240 (And.intro (by decide +kernel) rfl)) ?_
  refine xa_cons 11 ((And.intro (by decide) (Or.inl (Exists.intro (1) (And.intro rfl (And.intro (by decide +kernel) rfl)))))) ?_
  refine xa_cons 12 ((And.intro (by decide) (And.intro (by decide +kernel) rfl))) ?_
  refine xa_cons 13 ((And.intro (by decide) (Exists.intro (7) (And.intro (by decide +kernel) (And.intro (by decide +kernel) rfl))))) ?_
  refine xa_cons 14 (xc_iconst hx hb (z := 1) (b := 1) (And.intro (by decide +kernel) rfl) (by decide +kernel) ⟨rfl, rfl⟩) ?_
  refine xa_cons 15 ((Exists.intro (4) (And.intro (by decide +kernel) (by decide +kernel)))) ?_
  refine xa_cons 16 (xc_iconst hx hb (z := 0) (b := 0) (And.intro (by decide +kernel) rfl) (by decide +kernel) ⟨rfl, rfl⟩) ?_
  refine xa_cons 17 ((And.intro hr (by decide +kernel))) ?_
  exact xa_nil
def xrp_61 : Nat → Nat := fun k => ([0, 1, 4, 5, 6, 7, 8, 9, 12, 13, 14, 15, 16, 19, 22, 23, 24, 25, 27, 30, 31, 32, 33, 36, 38, 40, 41, 44, 47, 48, 49, 50, 51, 53, 54, 57, 60, 63, 66, 69, 72, 73, 74, 77] : List Nat).getD k 0
set_option maxRecDepth 20000 in
set_option maxHeartbeats 4000000 in
theorem xz_61 {l : Launch} {D : va_G} {en : XE} : x_Ok xT l D xcl en xrn (xG en) 61 xc_61 := by
  refine ⟨prog_8_method_14_code, none, xBIG, xrp_61, by decide +kernel, rfl, rfl, ?_⟩
  intro p e R s m args below meth c s₁ A Q pc i f1 f2 B hml hA hg hi
  obtain ⟨hx, hb, hr, hown, hlocks, hin, htsB, S⟩ := xb_all (C := "ExpressHouse$Population") B hml rfl rfl
  obtain ⟨hgN, hgZ, hgS, hgS2⟩ := xG_all hg
  refine xa_at (i := i) (pc := pc) ?_ hi
  refine xa_cons 0 ((And.intro (by decide) (Or.inl (Exists.intro (0) (And.intro rfl (And.intro (by decide +kernel) rfl)))))) ?_
  refine xa_cons 1 (xc_getf (A := A) (own := "ExpressHouse$Population") (index := 18) hx hb htsB xC_2 hown rfl (by decide) xw_240 (And.intro (by decide +kernel) rfl)) ?_
  refine xa_cons 2 ((And.intro (by decide) (Or.inl (Exists.intro (1) (And.intro rfl (And.intro (by decide +kernel) rfl)))))) ?_
  refine xa_cons 3 (xc_iconst hx hb (z := 0) (b := 0) (And.intro (by decide +kernel) rfl) (by decide +kernel) ⟨rfl, rfl⟩) ?_
  refine xa_cons 4 ((And.intro (by decide) (And.intro (by decide +kernel) rfl))) ?_
  refine xa_cons 5 ((And.intro (by decide) (Or.inl (Exists.intro (0) (And.intro rfl (And.intro (by decide +kernel) rfl)))))) ?_
  refine xa_cons 6 ((And.intro (by decide) (Or.inl (Exists.intro (1) (And.intro rfl (And.intro (by decide +kernel) rfl)))))) ?_
  refine xa_cons 7 ((And.intro (xc_callV (index := 70) (n := 1) (ci := 2) S xg_103 rfl xw_12 xw_542 xw_540 xw_541 rfl rfl rfl ⟨by decide, by decide, by decide +kernel⟩ rfl (And.intro (by decide +kernel) rfl)) (by decide +kernel))) ?_
  refine xa_cons 8 (xc_iconst hx hb (z := 0) (b := 0) (And.intro (by decide +kernel) rfl) (by decide +kernel) ⟨rfl, rfl⟩) ?_
  refine xa_cons 9 ((And.intro (Or.inl rfl) (Or.inl (Exists.intro (2) (And.intro rfl (And.intro (by decide +kernel) rfl)))))) ?_
  refine xa_cons 10 ((And.intro (by decide) (Or.inl (Exists.intro (2) (And.intro rfl (And.intro (by decide +kernel) rfl)))))) ?_
  refine xa_cons 11 ((And.intro (by decide) (Or.inl (Exists.intro (0) (And.intro rfl (And.intro (by decide +kernel) rfl)))))) ?_
  refine xa_cons 12 (xc_getf (A := A) (own := "ExpressHouse$Population") (index := 46) hx hb htsB xC_2 hown rfl (by decide) xw_529 (And.intro (by decide +kernel) rfl)) ?_
  refine xa_cons 13 ((And.intro (by decide) (Exists.intro (53) (And.intro (by decide +kernel) (And.intro (by decide +kernel) rfl))))) ?_
  refine xa_cons 14 (xc_iconst hx hb (z := 0) (b := 0) (And.intro (by decide +kernel) rfl) (by decide +kernel) ⟨rfl, rfl⟩) ?_
  refine xa_cons 15 ((And.intro (Or.inl rfl) (Or.inl (Exists.intro (3) (And.intro rfl (And.intro (by decide +kernel) rfl)))))) ?_
  refine xa_cons 16 ((And.intro (by decide) (Or.inl (Exists.intro (3) (And.intro rfl (And.intro (by decide +kernel) rfl)))))) ?_
  refine xa_cons 17 (xc_bipush hx hb (z := 40) (b := 40) (And.intro (by decide +kernel) rfl) (by decide +kernel) ⟨rfl, rfl⟩) ?_
  refine xa_cons 18 ((And.intro (by decide) (Exists.intro (39) (And.intro (by decide +kernel) (And.intro (by decide +kernel) rfl))))) ?_
  refine xa_cons 19 ((And.intro (by decide) (Or.inl (Exists.intro (0) (And.intro rfl (And.intro (by decide +kernel) rfl)))))) ?_
  refine xa_cons 20 ((And.intro (by decide) (Or.inl (Exists.intro (2) (And.intro rfl (And.intro (by decide +kernel) rfl)))))) ?_
  refine xa_cons 21 ((And.intro (by decide) (Or.inl (Exists.intro (3) (And.intro rfl (And.intro (by decide +kernel) rfl)))))) ?_
  refine xa_cons 22 ((And.intro (xc_callV (index := 78) (n := 2) (ci := 2) S xg_118 rfl xw_12 xw_600 xw_598 xw_599 rfl rfl rfl ⟨by decide, by decide, by decide +kernel⟩ rfl (And.intro (by decide +kernel) rfl)) (by decide +kernel))) ?_
  refine xa_cons 23 ((And.intro (Or.inr rfl) (Or.inr (And.intro (by decide +kernel) rfl)))) ?_
  refine xa_cons 24 ((And.intro (by decide) (Or.inr (And.intro (by decide +kernel) rfl)))) ?_
  refine xa_cons 25 ((And.intro (by decide) (Or.inl (Exists.intro (1) (And.intro rfl (And.intro (by decide +kernel) rfl)))))) ?_
  refine xa_cons 26 ((And.intro (xc_callS (index := 82) S xg_119 rfl xw_12 xw_601 xw_602 ⟨by decide, by decide, by decide +kernel⟩ rfl (And.intro (by decide +kernel) rfl)) (by decide +kernel))) ?_
  refine xa_cons 27 ((And.intro (by decide) (Exists.intro (16) (And.intro (by decide +kernel) (And.intro (by decide +kernel) rfl))))) ?_
  refine xa_cons 28 ((And.intro (by decide) (Or.inl (Exists.intro (0) (And.intro rfl (And.intro (by decide +kernel) rfl)))))) ?_
  refine xa_cons 29 ((And.intro (by decide) (Or.inl (Exists.intro (2) (And.intro rfl (And.intro (by decide +kernel) rfl)))))) ?_
  refine xa_cons 30 ((And.intro (by decide) (Or.inl (Exists.intro (3) (And.intro rfl (And.intro (by decide +kernel) rfl)))))) ?_
  refine xa_cons 31 ((And.intro (by decide) (Or.inl (Exists.intro (0) (And.intro rfl (And.intro (by decide +kernel) rfl)))))) ?_
  refine xa_cons 32 ((And.intro (by decide) (Or.inr (And.intro (by decide +kernel) rfl)))) ?_
  refine xa_cons 33 ((And.intro (by decide) (Or.inl (Exists.intro (1) (And.intro rfl (And.intro (by decide +kernel) rfl)))))) ?_
  refine xa_cons 34 ((And.intro (xc_callV (index := 86) (n := 2) (ci := 2) S xg_120 rfl xw_12 xw_605 xw_603 xw_604 rfl rfl rfl ⟨by decide, by decide, by decide +kernel⟩ rfl (And.intro (by decide +kernel) rfl)) (by decide +kernel))) ?_
  refine xa_cons 35 ((And.intro (xc_callV (index := 74) (n := 3) (ci := 2) S xg_59 rfl xw_12 xw_606 xw_371 xw_372 rfl rfl rfl ⟨by decide, by decide, by decide +kernel⟩ rfl (And.intro (by decide +kernel) rfl)) (by decide +kernel))) ?_
  refine xa_cons 36 ((Exists.intro (1) (And.intro (And.intro (by decide +kernel) rfl) (by decide +kernel)))) ?_
  refine xa_cons 37 ((Exists.intro (-39) (And.intro (by decide +kernel) (by decide +kernel)))) ?_
  refine xa_cons 38 ((Exists.intro (1) (And.intro (And.intro (by decide +kernel) rfl) (by decide +kernel)))) ?_
  refine xa_cons 39 ((Exists.intro (-55) (And.intro (by decide +kernel) (by decide +kernel)))) ?_
  refine xa_cons 40 ((And.intro (by decide) (Or.inl (Exists.intro (0) (And.intro rfl (And.intro (by decide +kernel) rfl)))))) ?_
  refine xa_cons 41 (xc_iconst hx hb (z := 1) (b := 1) (And.intro (by decide +kernel) rfl) (by decide +kernel) ⟨rfl, rfl⟩) ?_
  refine xa_cons 42 (xc_putf (own := "ExpressHouse$Population") (index := 38) hx hb htsB xC_2 hown rfl (by decide) xw_246 rfl (rfl) (And.intro (by decide +kernel) rfl)) ?_
  refine xa_cons 43 ((And.intro hr (by decide +kernel))) ?_
  exact xa_nil
def xrp_62 : Nat → Nat := fun k => ([0, 1, 4, 5, 6, 7, 10, 11, 14, 15, 18, 19, 22, 24, 25, 26, 29, 30, 33, 34, 35, 37, 38, 39, 42, 43, 46, 47, 48, 49, 50, 51, 54, 55, 58, 59, 60, 62, 63, 64, 67] : List Nat).getD k 0
set_option maxRecDepth 20000 in
set_option maxHeartbeats 4000000 in
theorem xz_62 {l : Launch} {D : va_G} {en : XE} : x_Ok xT l D xcl en xrn (xG en) 62 xc_62 := by
  refine ⟨prog_10_method_24_code, (some .int), xBIG, xrp_62, by decide +kernel, rfl, rfl, ?_⟩
  intro p e R s m args below meth c s₁ A Q pc i f1 f2 B hml hA hg hi
  obtain ⟨hx, hb, hr, hown, hlocks, hin, htsB, S⟩ := xb_all (C := "ExpressHouse$Schema") B hml rfl rfl
  obtain ⟨hgN, hgZ, hgS, hgS2⟩ := xG_all hg
  refine xa_at (i := i) (pc := pc) ?_ hi
  refine xa_cons 0 ((And.intro (by decide) (Or.inl (Exists.intro (0) (And.intro rfl (And.intro (by decide +kernel) rfl)))))) ?_
  refine xa_cons 1 (xc_getf (A := A) (own := "ExpressHouse$Schema") (index := 87) hx hb htsB xC_3 hown rfl (by decide) xw_607 (And.intro (by decide +kernel) rfl)) ?_
  refine xa_cons 2 (xc_iconst hx hb (z := 4) (b := 4) (And.intro (by decide +kernel) rfl) (by decide +kernel) ⟨rfl, rfl⟩) ?_
  refine xa_cons 3 ((And.intro (by decide) (And.intro (by decide +kernel) rfl))) ?_
  refine xa_cons 4 ((And.intro (by decide) (Or.inl (Exists.intro (0) (And.intro rfl (And.intro (by decide +kernel) rfl)))))) ?_
  refine xa_cons 5 (xc_getf (A := A) (own := "ExpressHouse$Schema") (index := 61) hx hb htsB xC_3 hown rfl (by decide) xw_232 (And.intro (by decide +kernel) rfl)) ?_
  refine xa_cons 6 ((And.intro (by decide +kernel) rfl)) ?_
  refine xa_cons 7 ((And.intro (by decide) (Exists.intro (52) (And.intro (by decide +kernel) (And.intro (by decide +kernel) rfl))))) ?_
  refine xa_cons 8 ((And.intro (by decide) (Or.inl (Exists.intro (0) (And.intro rfl (And.intro (by decide +kernel) rfl)))))) ?_
  refine xa_cons 9 (xc_getf (A := A) (own := "ExpressHouse$Schema") (index := 61) hx hb htsB xC_3 hown rfl (by decide) xw_232 (And.intro (by decide +kernel) rfl)) ?_
  refine xa_cons 10 ((And.intro (by decide) (Or.inl (Exists.intro (0) (And.intro rfl (And.intro (by decide +kernel) rfl)))))) ?_
  refine xa_cons 11 (xc_getf (A := A) (own := "ExpressHouse$Schema") (index := 87) hx hb htsB xC_3 hown rfl (by decide) xw_607 (And.intro (by decide +kernel) rfl)) ?_
  refine xa_cons 12 (xc_bipush hx hb (z := 9) (b := 9) (And.intro (by decide +kernel) rfl) (by decide +kernel) ⟨rfl, rfl⟩) ?_
  refine xa_cons 13 ((And.intro (by decide) (And.intro (by decide +kernel) rfl))) ?_
  refine xa_cons 14 ((And.intro (by decide) (Or.inl (Exists.intro (0) (And.intro rfl (And.intro (by decide +kernel) rfl)))))) ?_
  refine xa_cons 15 (xc_getf (A := A) (own := "ExpressHouse$Schema") (index := 61) hx hb htsB xC_3 hown rfl (by decide) xw_232 (And.intro (by decide +kernel) rfl)) ?_
  refine xa_cons 16 ((And.intro (by decide) (Or.inl (Exists.intro (0) (And.intro rfl (And.intro (by decide +kernel) rfl)))))) ?_
  refine xa_cons 17 (xc_getf (A := A) (own := "ExpressHouse$Schema") (index := 87) hx hb htsB xC_3 hown rfl (by decide) xw_607 (And.intro (by decide +kernel) rfl)) ?_
  refine xa_cons 18 (xc_iconst hx hb (z := 1) (b := 1) (And.intro (by decide +kernel) rfl) (by decide +kernel) ⟨rfl, rfl⟩) ?_
  refine xa_cons 19 ((And.intro (by decide) (And.intro (by decide +kernel) rfl))) ?_
  refine xa_cons 20 (xc_bipush hx hb (z := 11) (b := 11) (And.intro (by decide +kernel) rfl) (by decide +kernel) ⟨rfl, rfl⟩) ?_
  refine xa_cons 21 ((And.intro (by decide) (And.intro (by decide +kernel) rfl))) ?_
  refine xa_cons 22 ((And.intro (by decide) (Or.inl (Exists.intro (0) (And.intro rfl (And.intro (by decide +kernel) rfl)))))) ?_
  refine xa_cons 23 (xc_getf (A := A) (own := "ExpressHouse$Schema") (index := 61) hx hb htsB xC_3 hown rfl (by decide) xw_232 (And.intro (by decide +kernel) rfl)) ?_
  refine xa_cons 24 ((And.intro (by decide) (Or.inl (Exists.intro (0) (And.intro rfl (And.intro (by decide +kernel) rfl)))))) ?_
  refine xa_cons 25 (xc_getf (A := A) (own := "ExpressHouse$Schema") (index := 87) hx hb htsB xC_3 hown rfl (by decide) xw_607 (And.intro (by decide +kernel) rfl)) ?_
  refine xa_cons 26 (xc_iconst hx hb (z := 2) (b := 2) (And.intro (by decide +kernel) rfl) (by decide +kernel) ⟨rfl, rfl⟩) ?_
  refine xa_cons 27 ((And.intro (by decide) (And.intro (by decide +kernel) rfl))) ?_
  refine xa_cons 28 ((And.intro (by decide) (Or.inl (Exists.intro (1) (And.intro rfl (And.intro (by decide +kernel) rfl)))))) ?_
  refine xa_cons 29 ((And.intro (by decide) (And.intro (by decide +kernel) rfl))) ?_
  refine xa_cons 30 ((And.intro (by decide) (Or.inl (Exists.intro (0) (And.intro rfl (And.intro (by decide +kernel) rfl)))))) ?_
  refine xa_cons 31 (xc_getf (A := A) (own := "ExpressHouse$Schema") (index := 61) hx hb htsB xC_3 hown rfl (by decide) xw_232 (And.intro (by decide +kernel) rfl)) ?_
  refine xa_cons 32 ((And.intro (by decide) (Or.inl (Exists.intro (0) (And.intro rfl (And.intro (by decide +kernel) rfl)))))) ?_
  refine xa_cons 33 (xc_getf (A := A) (own := "ExpressHouse$Schema") (index := 87) hx hb htsB xC_3 hown rfl (by decide) xw_607 (And.intro (by decide +kernel) rfl)) ?_
  refine xa_cons 34 (xc_iconst hx hb (z := 3) (b := 3) (And.intro (by decide +kernel) rfl) (by decide +kernel) ⟨rfl, rfl⟩) ?_
  refine xa_cons 35 ((And.intro (by decide) (And.intro (by decide +kernel) rfl))) ?_
  refine xa_cons 36 (xc_bipush hx hb (z := 31) (b := 31) (And.intro (by decide +kernel) rfl) (by decide +kernel) ⟨rfl, rfl⟩) ?_
  refine xa_cons 37 ((And.intro (by decide) (And.intro (by decide +kernel) rfl))) ?_
  refine xa_cons 38 ((And.intro (by decide) (Or.inl (Exists.intro (0) (And.intro rfl (And.intro (by decide +kernel) rfl)))))) ?_
  refine xa_cons 39 (xc_getf (A := A) (own := "ExpressHouse$Schema") (index := 87) hx hb htsB xC_3 hown rfl (by decide) xw_607 (And.intro (by decide +kernel) rfl)) ?_
  refine xa_cons 40 ((And.intro hr (by decide +kernel))) ?_
  exact xa_nil
def xrp_63 : Nat → Nat := fun k => ([0, 1, 4, 5, 6, 9, 10, 11, 14, 17, 20, 22, 23, 24, 25, 28, 29, 32, 35] : List Nat).getD k 0
set_option maxRecDepth 20000 in
set_option maxHeartbeats 4000000 in
theorem xz_63 {l : Launch} {D : va_G} {en : XE} : x_Ok xT l D xcl en xrn (xG en) 63 xc_63 := by
  refine ⟨prog_1_method_20_code, (some .int), xBIG, xrp_63, by decide +kernel, rfl, rfl, ?_⟩
  intro p e R s m args below meth c s₁ A Q pc i f1 f2 B hml hA hg hi
  obtain ⟨hx, hb, hr, hown, hlocks, hin, htsB, S⟩ := xb_all (C := "ExpressHouse") B hml rfl rfl
  obtain ⟨hgN, hgZ, hgS, hgS2⟩ := xG_all hg
  refine xa_at (i := i) (pc := pc) ?_ hi
  refine xa_cons 0 ((And.intro (by decide) (Or.inl (Exists.intro (0) (And.intro rfl (And.intro (by decide +kernel) rfl)))))) ?_
  refine xa_cons 1 (xc_getf (A := A) (own := "ExpressHouse") (index := 59) hx hb htsB xC_0 hown rfl (by decide) xw_38 (And.intro (by decide +kernel) rfl)) ?_
  refine xa_cons 2 ((And.intro (by decide) (Or.inl (Exists.intro (1) (And.intro rfl (And.intro (by decide +kernel) rfl)))))) ?_
  refine xa_cons 3 ((And.intro (by decide) (Or.inl (Exists.intro (2) (And.intro rfl (And.intro (by decide +kernel) rfl)))))) ?_
  refine xa_cons 4 ((And.intro (xc_callV (index := 228) (n := 2) (ci := 6) S xg_56 rfl xw_35 xw_363 xw_361 xw_362 rfl rfl rfl ⟨by decide, by decide, by decide +kernel⟩ rfl (And.intro (by decide +kernel) rfl)) (by decide +kernel))) ?_
  refine xa_cons 5 ((And.intro (Or.inr rfl) (Or.inl (Exists.intro (3) (And.intro rfl (And.intro (by decide +kernel) rfl)))))) ?_
  refine xa_cons 6 ((And.intro (by decide) (Or.inl (Exists.intro (0) (And.intro rfl (And.intro (by decide +kernel) rfl)))))) ?_
  refine xa_cons 7 (xc_getf (A := A) (own := "ExpressHouse") (index := 59) hx hb htsB xC_0 hown rfl (by decide) xw_38 (And.intro (by decide +kernel) rfl)) ?_
  refine xa_cons 8 (xc_getf (A := A) (own := "ExpressHouse") (index := 232) hx hb htsB xC_6 hown rfl (by decide) xw_364 (And.intro (by decide +kernel) rfl)) ?_
  refine xa_cons 9 ((And.intro (by decide) (Exists.intro (6) (And.intro (by decide +kernel) (And.intro (by decide +kernel) rfl))))) ?_
  refine xa_cons 10 (xc_bipush hx hb (z := -4) (b := 4294967292) (And.intro (by decide +kernel) rfl) (by decide +kernel) ⟨rfl, rfl⟩) ?_
  refine xa_cons 11 ((And.intro hr (by decide +kernel))) ?_
  refine xa_cons 12 ((And.intro (by decide) (Or.inl (Exists.intro (0) (And.intro rfl (And.intro (by decide +kernel) rfl)))))) ?_
  refine xa_cons 13 ((And.intro (by decide) (Or.inl (Exists.intro (3) (And.intro rfl (And.intro (by decide +kernel) rfl)))))) ?_
  refine xa_cons 14 (xc_putf (own := "ExpressHouse") (index := 93) hx hb htsB xC_0 hown rfl (by decide) xw_61 rfl (Or.inl ⟨_, rfl⟩) (And.intro (by decide +kernel) rfl)) ?_
  refine xa_cons 15 ((And.intro (by decide) (Or.inl (Exists.intro (0) (And.intro rfl (And.intro (by decide +kernel) rfl)))))) ?_
  refine xa_cons 16 (xc_getf (A := A) (own := "ExpressHouse") (index := 93) hx hb htsB xC_0 hown rfl (by decide) xw_61 (And.intro (by decide +kernel) rfl)) ?_
  refine xa_cons 17 (xc_getf (A := A) (own := "ExpressHouse") (index := 248) hx hb htsB xC_10 hown rfl (by decide) xw_374 (And.intro (by decide +kernel) rfl)) ?_
  refine xa_cons 18 ((And.intro hr (by decide +kernel))) ?_
  exact xa_nil
def xrp_64 : Nat → Nat := fun k => ([0, 1, 2, 5, 6, 7, 8, 9, 12, 13, 14, 15, 16, 19, 20, 21, 22] : List Nat).getD k 0
set_option maxRecDepth 20000 in
set_option maxHeartbeats 4000000 in
theorem xz_64 {l : Launch} {D : va_G} {en : XE} : x_Ok xT l D xcl en xrn (xG en) 64 xc_64 := by
  refine ⟨prog_10_method_26_code, (some .int), xBIG, xrp_64, by decide +kernel, rfl, rfl, ?_⟩
  intro p e R s m args below meth c s₁ A Q pc i f1 f2 B hml hA hg hi
  obtain ⟨hx, hb, hr, hown, hlocks, hin, htsB, S⟩ := xb_all (C := "ExpressHouse$Schema") B hml rfl rfl
  obtain ⟨hgN, hgZ, hgS, hgS2⟩ := xG_all hg
  refine xa_at (i := i) (pc := pc) ?_ hi
  refine xa_cons 0 (xc_iconst hx hb (z := 3) (b := 3) (And.intro (by decide +kernel) rfl) (by decide +kernel) ⟨rfl, rfl⟩) ?_
  refine xa_cons 1 ((And.intro (by decide) (Or.inl (Exists.intro (0) (And.intro rfl (And.intro (by decide +kernel) rfl)))))) ?_
  refine xa_cons 2 (xc_getf (A := A) (own := "ExpressHouse$Schema") (index := 28) hx hb htsB xC_3 hown rfl (by decide) xw_221 (And.intro (by decide +kernel) rfl)) ?_
  refine xa_cons 3 (xc_iconst hx hb (z := 2) (b := 2) (And.intro (by decide +kernel) rfl) (by decide +kernel) ⟨rfl, rfl⟩) ?_
  refine xa_cons 4 ((And.intro (by decide) (And.intro (by decide +kernel) rfl))) ?_
  refine xa_cons 5 ((And.intro (by decide) (And.intro (by decide +kernel) rfl))) ?_
  refine xa_cons 6 ((And.intro (by decide) (Or.inl (Exists.intro (0) (And.intro rfl (And.intro (by decide +kernel) rfl)))))) ?_
  refine xa_cons 7 (xc_getf (A := A) (own := "ExpressHouse$Schema") (index := 28) hx hb htsB xC_3 hown rfl (by decide) xw_221 (And.intro (by decide +kernel) rfl)) ?_
  refine xa_cons 8 (xc_iconst hx hb (z := 0) (b := 0) (And.intro (by decide +kernel) rfl) (by decide +kernel) ⟨rfl, rfl⟩) ?_
  refine xa_cons 9 ((And.intro (by decide) (And.intro (by decide +kernel) rfl))) ?_
  refine xa_cons 10 ((And.intro (by decide) (And.intro (by decide +kernel) rfl))) ?_
  refine xa_cons 11 ((And.intro (by decide) (Or.inl (Exists.intro (0) (And.intro rfl (And.intro (by decide +kernel) rfl)))))) ?_
  refine xa_cons 12 (xc_getf (A := A) (own := "ExpressHouse$Schema") (index := 28) hx hb htsB xC_3 hown rfl (by decide) xw_221 (And.intro (by decide +kernel) rfl)) ?_
  refine xa_cons 13 (xc_iconst hx hb (z := 5) (b := 5) (And.intro (by decide +kernel) rfl) (by decide +kernel) ⟨rfl, rfl⟩) ?_
  refine xa_cons 14 ((And.intro (by decide) (And.intro (by decide +kernel) rfl))) ?_
  refine xa_cons 15 ((And.intro (by decide) (And.intro (by decide +kernel) rfl))) ?_
  refine xa_cons 16 ((And.intro hr (by decide +kernel))) ?_
  exact xa_nil
def xrp_65 : Nat → Nat := fun k => ([0, 1, 2, 3, 6, 7, 8, 9, 10, 11, 12, 15, 16, 17, 18, 19, 20, 21, 24, 25, 26, 29, 30, 33, 34, 35, 38, 39, 40, 41] : List Nat).getD k 0
set_option maxRecDepth 20000 in
set_option maxHeartbeats 4000000 in
theorem xz_65 {l : Launch} {D : va_G} {en : XE} : x_Ok xT l D xcl en xrn (xG en) 65 xc_65 := by
  refine ⟨prog_10_method_28_code, (some .int), xBIG, xrp_65, by decide +kernel, rfl, rfl, ?_⟩
  intro p e R s m args below meth c s₁ A Q pc i f1 f2 B hml hA hg hi
  obtain ⟨hx, hb, hr, hown, hlocks, hin, htsB, S⟩ := xb_all (C := "ExpressHouse$Schema") B hml rfl rfl
  obtain ⟨hgN, hgZ, hgS, hgS2⟩ := xG_all hg
  refine xa_at (i := i) (pc := pc) ?_ hi
  refine xa_cons 0 ((And.intro (by decide) (Or.inl (Exists.intro (1) (And.intro rfl (And.intro (by decide +kernel) rfl)))))) ?_
  refine xa_cons 1 (xc_iconst hx hb (z := 3) (b := 3) (And.intro (by decide +kernel) rfl) (by decide +kernel) ⟨rfl, rfl⟩) ?_
  refine xa_cons 2 ((And.intro (by decide) (Or.inl (Exists.intro (0) (And.intro rfl (And.intro (by decide +kernel) rfl)))))) ?_
  refine xa_cons 3 (xc_getf (A := A) (own := "ExpressHouse$Schema") (index := 28) hx hb htsB xC_3 hown rfl (by decide) xw_221 (And.intro (by decide +kernel) rfl)) ?_
  refine xa_cons 4 (xc_iconst hx hb (z := 2) (b := 2) (And.intro (by decide +kernel) rfl) (by decide +kernel) ⟨rfl, rfl⟩) ?_
  refine xa_cons 5 ((And.intro (by decide) (And.intro (by decide +kernel) rfl))) ?_
  refine xa_cons 6 ((And.intro (by decide) (And.intro (by decide +kernel) rfl))) ?_
  refine xa_cons 7 ((And.intro (by decide) (And.intro (by decide +kernel) rfl))) ?_
  refine xa_cons 8 ((And.intro (Or.inl rfl) (Or.inl (Exists.intro (2) (And.intro rfl (And.intro (by decide +kernel) rfl)))))) ?_
  refine xa_cons 9 ((And.intro (by decide) (Or.inl (Exists.intro (2) (And.intro rfl (And.intro (by decide +kernel) rfl)))))) ?_
  refine xa_cons 10 ((And.intro (by decide) (Exists.intro (7) (And.intro (by decide +kernel) (And.intro (by decide +kernel) rfl))))) ?_
  refine xa_cons 11 ((And.intro (by decide) (Or.inl (Exists.intro (1) (And.intro rfl (And.intro (by decide +kernel) rfl)))))) ?_
  refine xa_cons 12 (xc_iconst hx hb (z := 3) (b := 3) (And.intro (by decide +kernel) rfl) (by decide +kernel) ⟨rfl, rfl⟩) ?_
  refine xa_cons 13 ((And.intro (by decide) (And.intro (by decide +kernel) rfl))) ?_
  refine xa_cons 14 ((And.intro hr (by decide +kernel))) ?_
  refine xa_cons 15 ((And.intro (by decide) (Or.inl (Exists.intro (2) (And.intro rfl (And.intro (by decide +kernel) rfl)))))) ?_
  refine xa_cons 16 ((And.intro (by decide) (Or.inl (Exists.intro (0) (And.intro rfl (And.intro (by decide +kernel) rfl)))))) ?_
  refine xa_cons 17 (xc_getf (A := A) (own := "ExpressHouse$Schema") (index := 28) hx hb htsB xC_3 hown rfl (by decide) xw_221 (And.intro (by decide +kernel) rfl)) ?_
  refine xa_cons 18 (xc_iconst hx hb (z := 0) (b := 0) (And.intro (by decide +kernel) rfl) (by decide +kernel) ⟨rfl, rfl⟩) ?_
  refine xa_cons 19 ((And.intro (by decide) (And.intro (by decide +kernel) rfl))) ?_
  refine xa_cons 20 ((And.intro (by decide) (Exists.intro (7) (And.intro (by decide +kernel) (And.intro (by decide +kernel) rfl))))) ?_
  refine xa_cons 21 ((And.intro (by decide) (Or.inl (Exists.intro (2) (And.intro rfl (And.intro (by decide +kernel) rfl)))))) ?_
  refine xa_cons 22 ((Exists.intro (11) (And.intro (by decide +kernel) (by decide +kernel)))) ?_
  refine xa_cons 23 ((And.intro (by decide) (Or.inl (Exists.intro (2) (And.intro rfl (And.intro (by decide +kernel) rfl)))))) ?_
  refine xa_cons 24 ((And.intro (by decide) (Or.inl (Exists.intro (0) (And.intro rfl (And.intro (by decide +kernel) rfl)))))) ?_
  refine xa_cons 25 (xc_getf (A := A) (own := "ExpressHouse$Schema") (index := 28) hx hb htsB xC_3 hown rfl (by decide) xw_221 (And.intro (by decide +kernel) rfl)) ?_
  refine xa_cons 26 (xc_iconst hx hb (z := 0) (b := 0) (And.intro (by decide +kernel) rfl) (by decide +kernel) ⟨rfl, rfl⟩) ?_
  refine xa_cons 27 ((And.intro (by decide) (And.intro (by decide +kernel) rfl))) ?_
  refine xa_cons 28 ((And.intro (by decide) (And.intro (by decide +kernel) rfl))) ?_
  refine xa_cons 29 ((And.intro hr (by decide +kernel))) ?_
  exact xa_nil
end AMM3
