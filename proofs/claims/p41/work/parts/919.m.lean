section AMM19
def xrp_286 : Nat → Nat := fun k => ([0, 1, 4, 7, 8, 9, 12, 13, 16, 19, 21, 24, 25, 28, 29, 32, 34, 36, 39, 40, 43, 44, 47, 50, 51, 54, 56, 59, 61, 63, 66, 67, 70, 73, 74, 77, 80, 81, 84, 86, 89, 90, 93, 95, 98, 99, 102, 105, 106, 109, 111, 114, 115, 118, 120, 123, 125, 128, 130, 132, 135, 136, 139, 141, 144, 145, 148, 149, 150, 152, 153, 154, 157] : List Nat).getD k 0
set_option maxRecDepth 20000 in
set_option maxHeartbeats 4000000 in
theorem xz_286 {l : Launch} {D : va_G} {en : XE} : x_Ok xT l D xcl en xrn (xG en) 286 xc_286 := by
  refine ⟨prog_11_method_40_code, none, xBIG, xrp_286, by decide +kernel, rfl, rfl, ?_⟩
  intro p e R s m args below meth c s₁ A Q pc i f1 f2 B hml hA hg hi
  obtain ⟨hx, hb, hr, hown, hlocks, hin, htsB, S⟩ := xb_all (C := "ExpressHouse$SchemaReader") B hml rfl rfl
  obtain ⟨hgN, hgZ, hgS, hgS2⟩ := xG_all hg
  refine xa_at (i := i) (pc := pc) ?_ hi
  refine xa_cons 0 ((And.intro (by decide) (Or.inl (Exists.intro (0) (And.intro rfl (And.intro (by decide +kernel) rfl)))))) ?_
  refine xa_cons 1 (xc_getf (A := A) (own := "ExpressHouse$SchemaReader") (index := 22) hx hb htsB xC_5 hown rfl (by decide) xw_258 (And.intro (by decide +kernel) rfl)) ?_
  refine xa_cons 2 (xc_getf (A := A) (own := "ExpressHouse$SchemaReader") (index := 104) hx hb htsB xC_1 hown rfl (by decide) xw_1005 (And.intro (by decide +kernel) rfl)) ?_
  refine xa_cons 3 ((And.intro (Or.inl rfl) (Or.inl (Exists.intro (2) (And.intro rfl (And.intro (by decide +kernel) rfl)))))) ?_
  refine xa_cons 4 ((And.intro (by decide) (Or.inl (Exists.intro (0) (And.intro rfl (And.intro (by decide +kernel) rfl)))))) ?_
  refine xa_cons 5 (xc_getf (A := A) (own := "ExpressHouse$SchemaReader") (index := 26) hx hb htsB xC_5 hown rfl (by decide) xw_259 (And.intro (by decide +kernel) rfl)) ?_
  refine xa_cons 6 ((And.intro (by decide) (Or.inl (Exists.intro (2) (And.intro rfl (And.intro (by decide +kernel) rfl)))))) ?_
  refine xa_cons 7 ((And.intro (xc_callV (index := 341) (n := 1) (ci := 4) S xg_312 rfl xw_22 xw_1353 xw_1351 xw_1352 rfl rfl rfl ⟨by decide, by decide, by decide +kernel⟩ rfl (And.intro (by decide +kernel) rfl)) (by decide +kernel))) ?_
  refine xa_cons 8 ((And.intro (by decide) (Exists.intro (8) (And.intro (by decide +kernel) (And.intro (by decide +kernel) rfl))))) ?_
  refine xa_cons 9 (xc_bipush hx hb (z := -3) (b := 4294967293) (And.intro (by decide +kernel) rfl) (by decide +kernel) ⟨rfl, rfl⟩) ?_
  refine xa_cons 10 ((Exists.intro (11) (And.intro (by decide +kernel) (by decide +kernel)))) ?_
  refine xa_cons 11 ((And.intro (by decide) (Or.inl (Exists.intro (0) (And.intro rfl (And.intro (by decide +kernel) rfl)))))) ?_
  refine xa_cons 12 (xc_getf (A := A) (own := "ExpressHouse$SchemaReader") (index := 26) hx hb htsB xC_5 hown rfl (by decide) xw_259 (And.intro (by decide +kernel) rfl)) ?_
  refine xa_cons 13 ((And.intro (by decide) (Or.inl (Exists.intro (2) (And.intro rfl (And.intro (by decide +kernel) rfl)))))) ?_
  refine xa_cons 14 ((And.intro (xc_callV (index := 311) (n := 1) (ci := 4) S xg_235 rfl xw_22 xw_1050 xw_1048 xw_1049 rfl rfl rfl ⟨by decide, by decide, by decide +kernel⟩ rfl (And.intro (by decide +kernel) rfl)) (by decide +kernel))) ?_
  refine xa_cons 15 ((And.intro (Or.inl rfl) (Or.inr (And.intro (by decide +kernel) rfl)))) ?_
  refine xa_cons 16 ((And.intro (by decide) (Or.inr (And.intro (by decide +kernel) rfl)))) ?_
  refine xa_cons 17 ((And.intro (by decide) (Exists.intro (7) (And.intro (by decide +kernel) (And.intro (by decide +kernel) rfl))))) ?_
  refine xa_cons 18 ((And.intro (by decide) (Or.inl (Exists.intro (0) (And.intro rfl (And.intro (by decide +kernel) rfl)))))) ?_
  refine xa_cons 19 ((And.intro (xc_callV (index := 274) (n := 0) (ci := 5) S xg_284 rfl xw_29 xw_1248 xw_1246 xw_1247 rfl rfl rfl ⟨by decide, by decide, by decide +kernel⟩ rfl (And.intro (by decide +kernel) rfl)) (by decide +kernel))) ?_
  refine xa_cons 20 ((And.intro (by decide) (Or.inl (Exists.intro (0) (And.intro rfl (And.intro (by decide +kernel) rfl)))))) ?_
  refine xa_cons 21 (xc_getf (A := A) (own := "ExpressHouse$SchemaReader") (index := 22) hx hb htsB xC_5 hown rfl (by decide) xw_258 (And.intro (by decide +kernel) rfl)) ?_
  refine xa_cons 22 ((And.intro (xc_callV (index := 126) (n := 0) (ci := 1) S xg_147 rfl xw_7 xw_737 xw_721 xw_722 rfl rfl rfl ⟨by decide, by decide, by decide +kernel⟩ rfl (And.intro (by decide +kernel) rfl)) (by decide +kernel))) ?_
  refine xa_cons 23 ((And.intro (by decide) (Or.inl (Exists.intro (0) (And.intro rfl (And.intro (by decide +kernel) rfl)))))) ?_
  refine xa_cons 24 (xc_getf (A := A) (own := "ExpressHouse$SchemaReader") (index := 22) hx hb htsB xC_5 hown rfl (by decide) xw_258 (And.intro (by decide +kernel) rfl)) ?_
  refine xa_cons 25 (xc_bipush hx hb (z := 75) (b := 75) (And.intro (by decide +kernel) rfl) (by decide +kernel) ⟨rfl, rfl⟩) ?_
  refine xa_cons 26 ((And.intro (xc_callV (index := 100) (n := 1) (ci := 1) S xg_154 rfl xw_7 xw_750 xw_748 xw_749 rfl rfl rfl ⟨by decide, by decide, by decide +kernel⟩ rfl (And.intro (by decide +kernel) rfl)) (by decide +kernel))) ?_
  refine xa_cons 27 ((And.intro (Or.inl rfl) (Or.inr (And.intro (by decide +kernel) rfl)))) ?_
  refine xa_cons 28 ((And.intro (by decide) (Or.inr (And.intro (by decide +kernel) rfl)))) ?_
  refine xa_cons 29 ((And.intro (by decide) (Exists.intro (26) (And.intro (by decide +kernel) (And.intro (by decide +kernel) rfl))))) ?_
  refine xa_cons 30 ((And.intro (by decide) (Or.inl (Exists.intro (0) (And.intro rfl (And.intro (by decide +kernel) rfl)))))) ?_
  refine xa_cons 31 (xc_getf (A := A) (own := "ExpressHouse$SchemaReader") (index := 22) hx hb htsB xC_5 hown rfl (by decide) xw_258 (And.intro (by decide +kernel) rfl)) ?_
  refine xa_cons 32 ((And.intro (xc_callV (index := 126) (n := 0) (ci := 1) S xg_147 rfl xw_7 xw_737 xw_721 xw_722 rfl rfl rfl ⟨by decide, by decide, by decide +kernel⟩ rfl (And.intro (by decide +kernel) rfl)) (by decide +kernel))) ?_
  refine xa_cons 33 ((And.intro (by decide) (Or.inl (Exists.intro (0) (And.intro rfl (And.intro (by decide +kernel) rfl)))))) ?_
  refine xa_cons 34 (xc_getf (A := A) (own := "ExpressHouse$SchemaReader") (index := 26) hx hb htsB xC_5 hown rfl (by decide) xw_259 (And.intro (by decide +kernel) rfl)) ?_
  refine xa_cons 35 ((And.intro (xc_callVN (index := 204) (n := 0) (ci := 4) S xg_177 rfl xw_22 (hgN.1 _ (List.mem_of_getElem? (i := 9) rfl)) xw_825 xw_826 rfl rfl rfl ⟨by decide, by decide, by decide +kernel⟩ rfl (And.intro (by decide +kernel) rfl)) (by decide +kernel))) ?_
  refine xa_cons 36 ((And.intro (by decide) (Or.inl (Exists.intro (0) (And.intro rfl (And.intro (by decide +kernel) rfl)))))) ?_
  refine xa_cons 37 (xc_getf (A := A) (own := "ExpressHouse$SchemaReader") (index := 22) hx hb htsB xC_5 hown rfl (by decide) xw_258 (And.intro (by decide +kernel) rfl)) ?_
  refine xa_cons 38 (xc_bipush hx hb (z := 76) (b := 76) (And.intro (by decide +kernel) rfl) (by decide +kernel) ⟨rfl, rfl⟩) ?_
  refine xa_cons 39 ((And.intro (xc_callV (index := 60) (n := 1) (ci := 1) S xg_94 rfl xw_7 xw_502 xw_500 xw_501 rfl rfl rfl ⟨by decide, by decide, by decide +kernel⟩ rfl (And.intro (by decide +kernel) rfl)) (by decide +kernel))) ?_
  refine xa_cons 40 ((And.intro (by decide) (Or.inl (Exists.intro (0) (And.intro rfl (And.intro (by decide +kernel) rfl)))))) ?_
  refine xa_cons 41 (xc_getf (A := A) (own := "ExpressHouse$SchemaReader") (index := 22) hx hb htsB xC_5 hown rfl (by decide) xw_258 (And.intro (by decide +kernel) rfl)) ?_
  refine xa_cons 42 (xc_bipush hx hb (z := 64) (b := 64) (And.intro (by decide +kernel) rfl) (by decide +kernel) ⟨rfl, rfl⟩) ?_
  refine xa_cons 43 ((And.intro (xc_callV (index := 60) (n := 1) (ci := 1) S xg_94 rfl xw_7 xw_502 xw_500 xw_501 rfl rfl rfl ⟨by decide, by decide, by decide +kernel⟩ rfl (And.intro (by decide +kernel) rfl)) (by decide +kernel))) ?_
  refine xa_cons 44 ((And.intro (by decide) (Or.inl (Exists.intro (0) (And.intro rfl (And.intro (by decide +kernel) rfl)))))) ?_
  refine xa_cons 45 (xc_getf (A := A) (own := "ExpressHouse$SchemaReader") (index := 26) hx hb htsB xC_5 hown rfl (by decide) xw_259 (And.intro (by decide +kernel) rfl)) ?_
  refine xa_cons 46 ((And.intro (xc_callVN (index := 204) (n := 0) (ci := 4) S xg_177 rfl xw_22 (hgN.1 _ (List.mem_of_getElem? (i := 9) rfl)) xw_825 xw_826 rfl rfl rfl ⟨by decide, by decide, by decide +kernel⟩ rfl (And.intro (by decide +kernel) rfl)) (by decide +kernel))) ?_
  refine xa_cons 47 ((And.intro (by decide) (Or.inl (Exists.intro (0) (And.intro rfl (And.intro (by decide +kernel) rfl)))))) ?_
  refine xa_cons 48 (xc_getf (A := A) (own := "ExpressHouse$SchemaReader") (index := 22) hx hb htsB xC_5 hown rfl (by decide) xw_258 (And.intro (by decide +kernel) rfl)) ?_
  refine xa_cons 49 (xc_bipush hx hb (z := 78) (b := 78) (And.intro (by decide +kernel) rfl) (by decide +kernel) ⟨rfl, rfl⟩) ?_
  refine xa_cons 50 ((And.intro (xc_callV (index := 60) (n := 1) (ci := 1) S xg_94 rfl xw_7 xw_502 xw_500 xw_501 rfl rfl rfl ⟨by decide, by decide, by decide +kernel⟩ rfl (And.intro (by decide +kernel) rfl)) (by decide +kernel))) ?_
  refine xa_cons 51 ((And.intro (by decide) (Or.inl (Exists.intro (0) (And.intro rfl (And.intro (by decide +kernel) rfl)))))) ?_
  refine xa_cons 52 (xc_getf (A := A) (own := "ExpressHouse$SchemaReader") (index := 26) hx hb htsB xC_5 hown rfl (by decide) xw_259 (And.intro (by decide +kernel) rfl)) ?_
  refine xa_cons 53 ((And.intro (by decide) (Or.inr (And.intro (by decide +kernel) rfl)))) ?_
  refine xa_cons 54 ((And.intro (by decide) (Exists.intro (8) (And.intro (by decide +kernel) (And.intro (by decide +kernel) rfl))))) ?_
  refine xa_cons 55 (xc_bipush hx hb (z := 25) (b := 25) (And.intro (by decide +kernel) rfl) (by decide +kernel) ⟨rfl, rfl⟩) ?_
  refine xa_cons 56 ((Exists.intro (5) (And.intro (by decide +kernel) (by decide +kernel)))) ?_
  refine xa_cons 57 (xc_bipush hx hb (z := 24) (b := 24) (And.intro (by decide +kernel) rfl) (by decide +kernel) ⟨rfl, rfl⟩) ?_
  refine xa_cons 58 ((And.intro (by decide) (Or.inr (And.intro (by decide +kernel) rfl)))) ?_
  refine xa_cons 59 ((And.intro (xc_callV (index := 230) (n := 2) (ci := 4) S xg_161 rfl xw_22 xw_774 xw_772 xw_773 rfl rfl rfl ⟨by decide, by decide, by decide +kernel⟩ rfl (And.intro (by decide +kernel) rfl)) (by decide +kernel))) ?_
  refine xa_cons 60 ((And.intro (by decide) (Or.inl (Exists.intro (0) (And.intro rfl (And.intro (by decide +kernel) rfl)))))) ?_
  refine xa_cons 61 (xc_getf (A := A) (own := "ExpressHouse$SchemaReader") (index := 26) hx hb htsB xC_5 hown rfl (by decide) xw_259 (And.intro (by decide +kernel) rfl)) ?_
  refine xa_cons 62 ((And.intro (by decide) (Or.inr (And.intro (by decide +kernel) rfl)))) ?_
  refine xa_cons 63 ((And.intro (by decide) (Exists.intro (7) (And.intro (by decide +kernel) (And.intro (by decide +kernel) rfl))))) ?_
  refine xa_cons 64 (xc_iconst hx hb (z := 0) (b := 0) (And.intro (by decide +kernel) rfl) (by decide +kernel) ⟨rfl, rfl⟩) ?_
  refine xa_cons 65 ((Exists.intro (9) (And.intro (by decide +kernel) (by decide +kernel)))) ?_
  refine xa_cons 66 ((And.intro (by decide) (Or.inl (Exists.intro (1) (And.intro rfl (And.intro (by decide +kernel) rfl)))))) ?_
  refine xa_cons 67 (xc_iconst hx hb (z := 3) (b := 3) (And.intro (by decide +kernel) rfl) (by decide +kernel) ⟨rfl, rfl⟩) ?_
  refine xa_cons 68 ((And.intro (by decide) (Or.inr (And.intro (by decide +kernel) rfl)))) ?_
  refine xa_cons 69 ((And.intro (by decide) (And.intro (by decide +kernel) rfl))) ?_
  refine xa_cons 70 ((And.intro (by decide) (And.intro (by decide +kernel) rfl))) ?_
  refine xa_cons 71 ((And.intro (xc_callV (index := 209) (n := 1) (ci := 4) S xg_167 rfl xw_22 xw_797 xw_795 xw_796 rfl rfl rfl ⟨by decide, by decide, by decide +kernel⟩ rfl (And.intro (by decide +kernel) rfl)) (by decide +kernel))) ?_
  refine xa_cons 72 ((And.intro hr (by decide +kernel))) ?_
  exact xa_nil
def xrp_287 : Nat → Nat := fun k => ([0, 1, 4, 7, 8, 11, 14, 15, 18, 20, 23, 24, 27, 29, 32, 33, 36, 39, 40, 41, 44, 45, 48, 49, 50, 51, 52, 53, 56, 57, 60, 62, 65, 68, 69, 72, 75, 76, 79, 81, 84, 85, 88, 91, 93, 94, 97, 98, 101, 102, 105, 106, 107, 110, 113, 116, 117, 118, 119, 120, 121, 124, 125, 128, 130, 131, 134, 137, 140, 143, 144, 147, 148, 149, 152, 155, 158, 159, 162] : List Nat).getD k 0
set_option maxRecDepth 20000 in
set_option maxHeartbeats 4000000 in
theorem xz_287 {l : Launch} {D : va_G} {en : XE} : x_Ok xT l D xcl en xrn (xG en) 287 xc_287 := by
  refine ⟨prog_11_method_41_code, none, xBIG, xrp_287, by decide +kernel, rfl, rfl, ?_⟩
  intro p e R s m args below meth c s₁ A Q pc i f1 f2 B hml hA hg hi
  obtain ⟨hx, hb, hr, hown, hlocks, hin, htsB, S⟩ := xb_all (C := "ExpressHouse$SchemaReader") B hml rfl rfl
  obtain ⟨hgN, hgZ, hgS, hgS2⟩ := xG_all hg
  refine xa_at (i := i) (pc := pc) ?_ hi
  refine xa_cons 0 ((And.intro (by decide) (Or.inl (Exists.intro (0) (And.intro rfl (And.intro (by decide +kernel) rfl)))))) ?_
  refine xa_cons 1 (xc_getf (A := A) (own := "ExpressHouse$SchemaReader") (index := 22) hx hb htsB xC_5 hown rfl (by decide) xw_258 (And.intro (by decide +kernel) rfl)) ?_
  refine xa_cons 2 ((And.intro (xc_callV (index := 126) (n := 0) (ci := 1) S xg_147 rfl xw_7 xw_737 xw_721 xw_722 rfl rfl rfl ⟨by decide, by decide, by decide +kernel⟩ rfl (And.intro (by decide +kernel) rfl)) (by decide +kernel))) ?_
  refine xa_cons 3 ((And.intro (by decide) (Or.inl (Exists.intro (0) (And.intro rfl (And.intro (by decide +kernel) rfl)))))) ?_
  refine xa_cons 4 (xc_getf (A := A) (own := "ExpressHouse$SchemaReader") (index := 26) hx hb htsB xC_5 hown rfl (by decide) xw_259 (And.intro (by decide +kernel) rfl)) ?_
  refine xa_cons 5 ((And.intro (xc_callVN (index := 204) (n := 0) (ci := 4) S xg_177 rfl xw_22 (hgN.1 _ (List.mem_of_getElem? (i := 9) rfl)) xw_825 xw_826 rfl rfl rfl ⟨by decide, by decide, by decide +kernel⟩ rfl (And.intro (by decide +kernel) rfl)) (by decide +kernel))) ?_
  refine xa_cons 6 ((And.intro (by decide) (Or.inl (Exists.intro (0) (And.intro rfl (And.intro (by decide +kernel) rfl)))))) ?_
  refine xa_cons 7 (xc_getf (A := A) (own := "ExpressHouse$SchemaReader") (index := 22) hx hb htsB xC_5 hown rfl (by decide) xw_258 (And.intro (by decide +kernel) rfl)) ?_
  refine xa_cons 8 (xc_bipush hx hb (z := 29) (b := 29) (And.intro (by decide +kernel) rfl) (by decide +kernel) ⟨rfl, rfl⟩) ?_
  refine xa_cons 9 ((And.intro (xc_callV (index := 60) (n := 1) (ci := 1) S xg_94 rfl xw_7 xw_502 xw_500 xw_501 rfl rfl rfl ⟨by decide, by decide, by decide +kernel⟩ rfl (And.intro (by decide +kernel) rfl)) (by decide +kernel))) ?_
  refine xa_cons 10 ((And.intro (by decide) (Or.inl (Exists.intro (0) (And.intro rfl (And.intro (by decide +kernel) rfl)))))) ?_
  refine xa_cons 11 (xc_getf (A := A) (own := "ExpressHouse$SchemaReader") (index := 26) hx hb htsB xC_5 hown rfl (by decide) xw_259 (And.intro (by decide +kernel) rfl)) ?_
  refine xa_cons 12 (xc_bipush hx hb (z := 27) (b := 27) (And.intro (by decide +kernel) rfl) (by decide +kernel) ⟨rfl, rfl⟩) ?_
  refine xa_cons 13 ((And.intro (xc_callV (index := 209) (n := 1) (ci := 4) S xg_167 rfl xw_22 xw_797 xw_795 xw_796 rfl rfl rfl ⟨by decide, by decide, by decide +kernel⟩ rfl (And.intro (by decide +kernel) rfl)) (by decide +kernel))) ?_
  refine xa_cons 14 ((And.intro (by decide) (Or.inl (Exists.intro (0) (And.intro rfl (And.intro (by decide +kernel) rfl)))))) ?_
  refine xa_cons 15 (xc_getf (A := A) (own := "ExpressHouse$SchemaReader") (index := 26) hx hb htsB xC_5 hown rfl (by decide) xw_259 (And.intro (by decide +kernel) rfl)) ?_
  refine xa_cons 16 (xc_getf (A := A) (own := "ExpressHouse$SchemaReader") (index := 83) hx hb htsB xC_4 hown rfl (by decide) xw_520 (And.intro (by decide +kernel) rfl)) ?_
  refine xa_cons 17 ((And.intro (Or.inl rfl) (Or.inl (Exists.intro (3) (And.intro rfl (And.intro (by decide +kernel) rfl)))))) ?_
  refine xa_cons 18 ((And.intro (by decide) (Or.inl (Exists.intro (0) (And.intro rfl (And.intro (by decide +kernel) rfl)))))) ?_
  refine xa_cons 19 (xc_getf (A := A) (own := "ExpressHouse$SchemaReader") (index := 26) hx hb htsB xC_5 hown rfl (by decide) xw_259 (And.intro (by decide +kernel) rfl)) ?_
  refine xa_cons 20 (xc_iconst hx hb (z := 0) (b := 0) (And.intro (by decide +kernel) rfl) (by decide +kernel) ⟨rfl, rfl⟩) ?_
  refine xa_cons 21 ((And.intro (xc_callV (index := 209) (n := 1) (ci := 4) S xg_167 rfl xw_22 xw_797 xw_795 xw_796 rfl rfl rfl ⟨by decide, by decide, by decide +kernel⟩ rfl (And.intro (by decide +kernel) rfl)) (by decide +kernel))) ?_
  refine xa_cons 22 ((And.intro (by decide) (Or.inl (Exists.intro (0) (And.intro rfl (And.intro (by decide +kernel) rfl)))))) ?_
  refine xa_cons 23 ((And.intro (by decide) (Or.inl (Exists.intro (1) (And.intro rfl (And.intro (by decide +kernel) rfl)))))) ?_
  refine xa_cons 24 ((And.intro (by decide) (Or.inl (Exists.intro (2) (And.intro rfl (And.intro (by decide +kernel) rfl)))))) ?_
  refine xa_cons 25 (xc_iconst hx hb (z := 1) (b := 1) (And.intro (by decide +kernel) rfl) (by decide +kernel) ⟨rfl, rfl⟩) ?_
  refine xa_cons 26 ((And.intro (by decide) (And.intro (by decide +kernel) rfl))) ?_
  refine xa_cons 27 ((And.intro (xc_callV (index := 308) (n := 2) (ci := 5) S xg_166 rfl xw_29 xw_794 xw_792 xw_793 rfl rfl rfl ⟨by decide, by decide, by decide +kernel⟩ rfl (And.intro (by decide +kernel) rfl)) (by decide +kernel))) ?_
  refine xa_cons 28 ((And.intro (by decide) (Or.inl (Exists.intro (0) (And.intro rfl (And.intro (by decide +kernel) rfl)))))) ?_
  refine xa_cons 29 (xc_getf (A := A) (own := "ExpressHouse$SchemaReader") (index := 22) hx hb htsB xC_5 hown rfl (by decide) xw_258 (And.intro (by decide +kernel) rfl)) ?_
  refine xa_cons 30 (xc_bipush hx hb (z := 30) (b := 30) (And.intro (by decide +kernel) rfl) (by decide +kernel) ⟨rfl, rfl⟩) ?_
  refine xa_cons 31 ((And.intro (xc_callV (index := 100) (n := 1) (ci := 1) S xg_154 rfl xw_7 xw_750 xw_748 xw_749 rfl rfl rfl ⟨by decide, by decide, by decide +kernel⟩ rfl (And.intro (by decide +kernel) rfl)) (by decide +kernel))) ?_
  refine xa_cons 32 ((And.intro (by decide) (Exists.intro (78) (And.intro (by decide +kernel) (And.intro (by decide +kernel) rfl))))) ?_
  refine xa_cons 33 ((And.intro (by decide) (Or.inl (Exists.intro (0) (And.intro rfl (And.intro (by decide +kernel) rfl)))))) ?_
  refine xa_cons 34 (xc_getf (A := A) (own := "ExpressHouse$SchemaReader") (index := 22) hx hb htsB xC_5 hown rfl (by decide) xw_258 (And.intro (by decide +kernel) rfl)) ?_
  refine xa_cons 35 ((And.intro (xc_callV (index := 126) (n := 0) (ci := 1) S xg_147 rfl xw_7 xw_737 xw_721 xw_722 rfl rfl rfl ⟨by decide, by decide, by decide +kernel⟩ rfl (And.intro (by decide +kernel) rfl)) (by decide +kernel))) ?_
  refine xa_cons 36 ((And.intro (by decide) (Or.inl (Exists.intro (0) (And.intro rfl (And.intro (by decide +kernel) rfl)))))) ?_
  refine xa_cons 37 (xc_getf (A := A) (own := "ExpressHouse$SchemaReader") (index := 26) hx hb htsB xC_5 hown rfl (by decide) xw_259 (And.intro (by decide +kernel) rfl)) ?_
  refine xa_cons 38 (xc_bipush hx hb (z := 26) (b := 26) (And.intro (by decide +kernel) rfl) (by decide +kernel) ⟨rfl, rfl⟩) ?_
  refine xa_cons 39 ((And.intro (xc_callV (index := 209) (n := 1) (ci := 4) S xg_167 rfl xw_22 xw_797 xw_795 xw_796 rfl rfl rfl ⟨by decide, by decide, by decide +kernel⟩ rfl (And.intro (by decide +kernel) rfl)) (by decide +kernel))) ?_
  refine xa_cons 40 ((And.intro (by decide) (Or.inl (Exists.intro (0) (And.intro rfl (And.intro (by decide +kernel) rfl)))))) ?_
  refine xa_cons 41 (xc_getf (A := A) (own := "ExpressHouse$SchemaReader") (index := 26) hx hb htsB xC_5 hown rfl (by decide) xw_259 (And.intro (by decide +kernel) rfl)) ?_
  refine xa_cons 42 (xc_getf (A := A) (own := "ExpressHouse$SchemaReader") (index := 83) hx hb htsB xC_4 hown rfl (by decide) xw_520 (And.intro (by decide +kernel) rfl)) ?_
  refine xa_cons 43 ((And.intro (Or.inl rfl) (Or.inr (And.intro (by decide +kernel) rfl)))) ?_
  refine xa_cons 44 ((And.intro (by decide) (Or.inl (Exists.intro (0) (And.intro rfl (And.intro (by decide +kernel) rfl)))))) ?_
  refine xa_cons 45 (xc_getf (A := A) (own := "ExpressHouse$SchemaReader") (index := 26) hx hb htsB xC_5 hown rfl (by decide) xw_259 (And.intro (by decide +kernel) rfl)) ?_
  refine xa_cons 46 (xc_iconst hx hb (z := 0) (b := 0) (And.intro (by decide +kernel) rfl) (by decide +kernel) ⟨rfl, rfl⟩) ?_
  refine xa_cons 47 ((And.intro (xc_callV (index := 209) (n := 1) (ci := 4) S xg_167 rfl xw_22 xw_797 xw_795 xw_796 rfl rfl rfl ⟨by decide, by decide, by decide +kernel⟩ rfl (And.intro (by decide +kernel) rfl)) (by decide +kernel))) ?_
  refine xa_cons 48 ((And.intro (by decide) (Or.inl (Exists.intro (0) (And.intro rfl (And.intro (by decide +kernel) rfl)))))) ?_
  refine xa_cons 49 (xc_getf (A := A) (own := "ExpressHouse$SchemaReader") (index := 26) hx hb htsB xC_5 hown rfl (by decide) xw_259 (And.intro (by decide +kernel) rfl)) ?_
  refine xa_cons 50 ((And.intro (by decide) (Or.inl (Exists.intro (3) (And.intro rfl (And.intro (by decide +kernel) rfl)))))) ?_
  refine xa_cons 51 ((And.intro (by decide) (Or.inl (Exists.intro (0) (And.intro rfl (And.intro (by decide +kernel) rfl)))))) ?_
  refine xa_cons 52 (xc_getf (A := A) (own := "ExpressHouse$SchemaReader") (index := 26) hx hb htsB xC_5 hown rfl (by decide) xw_259 (And.intro (by decide +kernel) rfl)) ?_
  refine xa_cons 53 (xc_getf (A := A) (own := "ExpressHouse$SchemaReader") (index := 83) hx hb htsB xC_4 hown rfl (by decide) xw_520 (And.intro (by decide +kernel) rfl)) ?_
  refine xa_cons 54 ((And.intro (xc_callV (index := 344) (n := 2) (ci := 4) S xg_313 rfl xw_22 xw_1356 xw_1354 xw_1355 rfl rfl rfl ⟨by decide, by decide, by decide +kernel⟩ rfl (And.intro (by decide +kernel) rfl)) (by decide +kernel))) ?_
  refine xa_cons 55 ((And.intro (by decide) (Or.inl (Exists.intro (0) (And.intro rfl (And.intro (by decide +kernel) rfl)))))) ?_
  refine xa_cons 56 ((And.intro (by decide) (Or.inl (Exists.intro (1) (And.intro rfl (And.intro (by decide +kernel) rfl)))))) ?_
  refine xa_cons 57 ((And.intro (by decide) (Or.inl (Exists.intro (2) (And.intro rfl (And.intro (by decide +kernel) rfl)))))) ?_
  refine xa_cons 58 (xc_iconst hx hb (z := 1) (b := 1) (And.intro (by decide +kernel) rfl) (by decide +kernel) ⟨rfl, rfl⟩) ?_
  refine xa_cons 59 ((And.intro (by decide) (And.intro (by decide +kernel) rfl))) ?_
  refine xa_cons 60 ((And.intro (xc_callV (index := 308) (n := 2) (ci := 5) S xg_166 rfl xw_29 xw_794 xw_792 xw_793 rfl rfl rfl ⟨by decide, by decide, by decide +kernel⟩ rfl (And.intro (by decide +kernel) rfl)) (by decide +kernel))) ?_
  refine xa_cons 61 ((And.intro (by decide) (Or.inl (Exists.intro (0) (And.intro rfl (And.intro (by decide +kernel) rfl)))))) ?_
  refine xa_cons 62 (xc_getf (A := A) (own := "ExpressHouse$SchemaReader") (index := 26) hx hb htsB xC_5 hown rfl (by decide) xw_259 (And.intro (by decide +kernel) rfl)) ?_
  refine xa_cons 63 ((And.intro (by decide) (Or.inr (And.intro (by decide +kernel) rfl)))) ?_
  refine xa_cons 64 ((And.intro (by decide) (Or.inl (Exists.intro (0) (And.intro rfl (And.intro (by decide +kernel) rfl)))))) ?_
  refine xa_cons 65 (xc_getf (A := A) (own := "ExpressHouse$SchemaReader") (index := 26) hx hb htsB xC_5 hown rfl (by decide) xw_259 (And.intro (by decide +kernel) rfl)) ?_
  refine xa_cons 66 (xc_getf (A := A) (own := "ExpressHouse$SchemaReader") (index := 83) hx hb htsB xC_4 hown rfl (by decide) xw_520 (And.intro (by decide +kernel) rfl)) ?_
  refine xa_cons 67 ((And.intro (xc_callV (index := 344) (n := 2) (ci := 4) S xg_313 rfl xw_22 xw_1356 xw_1354 xw_1355 rfl rfl rfl ⟨by decide, by decide, by decide +kernel⟩ rfl (And.intro (by decide +kernel) rfl)) (by decide +kernel))) ?_
  refine xa_cons 68 ((Exists.intro (18) (And.intro (by decide +kernel) (by decide +kernel)))) ?_
  refine xa_cons 69 ((And.intro (by decide) (Or.inl (Exists.intro (0) (And.intro rfl (And.intro (by decide +kernel) rfl)))))) ?_
  refine xa_cons 70 (xc_getf (A := A) (own := "ExpressHouse$SchemaReader") (index := 26) hx hb htsB xC_5 hown rfl (by decide) xw_259 (And.intro (by decide +kernel) rfl)) ?_
  refine xa_cons 71 ((And.intro (by decide) (Or.inl (Exists.intro (3) (And.intro rfl (And.intro (by decide +kernel) rfl)))))) ?_
  refine xa_cons 72 ((And.intro (by decide) (Or.inl (Exists.intro (0) (And.intro rfl (And.intro (by decide +kernel) rfl)))))) ?_
  refine xa_cons 73 (xc_getf (A := A) (own := "ExpressHouse$SchemaReader") (index := 26) hx hb htsB xC_5 hown rfl (by decide) xw_259 (And.intro (by decide +kernel) rfl)) ?_
  refine xa_cons 74 (xc_getf (A := A) (own := "ExpressHouse$SchemaReader") (index := 83) hx hb htsB xC_4 hown rfl (by decide) xw_520 (And.intro (by decide +kernel) rfl)) ?_
  refine xa_cons 75 ((And.intro (xc_callV (index := 344) (n := 2) (ci := 4) S xg_313 rfl xw_22 xw_1356 xw_1354 xw_1355 rfl rfl rfl ⟨by decide, by decide, by decide +kernel⟩ rfl (And.intro (by decide +kernel) rfl)) (by decide +kernel))) ?_
  refine xa_cons 76 ((And.intro (by decide) (Or.inl (Exists.intro (0) (And.intro rfl (And.intro (by decide +kernel) rfl)))))) ?_
  refine xa_cons 77 ((And.intro (xc_callV (index := 80) (n := 0) (ci := 5) S xg_99 rfl xw_29 xw_519 xw_517 xw_518 rfl rfl rfl ⟨by decide, by decide, by decide +kernel⟩ rfl (And.intro (by decide +kernel) rfl)) (by decide +kernel))) ?_
  refine xa_cons 78 ((And.intro hr (by decide +kernel))) ?_
  exact xa_nil
def xrp_288 : Nat → Nat := fun k => ([0, 1, 4, 7, 8, 11, 14, 15, 16, 19, 20, 23, 24, 27, 29, 32, 33, 36, 39, 40, 43, 45, 48, 49, 52, 55, 56, 59, 61, 64, 67, 68, 71, 74, 75, 78, 81, 84, 85, 88, 89, 90, 93, 94, 97, 99, 102, 103, 106, 108, 109, 112, 114, 115, 118, 119, 122, 124, 125, 128, 130, 132, 135, 136, 137, 140, 142, 143, 146, 148, 150, 153, 154, 157, 158, 161, 164, 165, 168, 170, 172, 175, 176, 179, 180, 183, 186, 187, 188, 189, 190, 191, 194, 195, 197, 199, 201, 204, 205, 208, 211] : List Nat).getD k 0
set_option maxRecDepth 20000 in
set_option maxHeartbeats 4000000 in
theorem xz_288 {l : Launch} {D : va_G} {en : XE} : x_Ok xT l D xcl en xrn (xG en) 288 xc_288 := by
  refine ⟨prog_11_method_43_code, none, xBIG, xrp_288, by decide +kernel, rfl, rfl, ?_⟩
  intro p e R s m args below meth c s₁ A Q pc i f1 f2 B hml hA hg hi
  obtain ⟨hx, hb, hr, hown, hlocks, hin, htsB, S⟩ := xb_all (C := "ExpressHouse$SchemaReader") B hml rfl rfl
  obtain ⟨hgN, hgZ, hgS, hgS2⟩ := xG_all hg
  refine xa_at (i := i) (pc := pc) ?_ hi
  refine xa_cons 0 ((And.intro (by decide) (Or.inl (Exists.intro (0) (And.intro rfl (And.intro (by decide +kernel) rfl)))))) ?_
  refine xa_cons 1 (xc_getf (A := A) (own := "ExpressHouse$SchemaReader") (index := 22) hx hb htsB xC_5 hown rfl (by decide) xw_258 (And.intro (by decide +kernel) rfl)) ?_
  refine xa_cons 2 ((And.intro (xc_callV (index := 126) (n := 0) (ci := 1) S xg_147 rfl xw_7 xw_737 xw_721 xw_722 rfl rfl rfl ⟨by decide, by decide, by decide +kernel⟩ rfl (And.intro (by decide +kernel) rfl)) (by decide +kernel))) ?_
  refine xa_cons 3 ((And.intro (by decide) (Or.inl (Exists.intro (0) (And.intro rfl (And.intro (by decide +kernel) rfl)))))) ?_
  refine xa_cons 4 (xc_getf (A := A) (own := "ExpressHouse$SchemaReader") (index := 22) hx hb htsB xC_5 hown rfl (by decide) xw_258 (And.intro (by decide +kernel) rfl)) ?_
  refine xa_cons 5 (xc_getf (A := A) (own := "ExpressHouse$SchemaReader") (index := 104) hx hb htsB xC_1 hown rfl (by decide) xw_1005 (And.intro (by decide +kernel) rfl)) ?_
  refine xa_cons 6 ((And.intro (Or.inl rfl) (Or.inl (Exists.intro (3) (And.intro rfl (And.intro (by decide +kernel) rfl)))))) ?_
  refine xa_cons 7 ((And.intro (by decide) (Or.inl (Exists.intro (0) (And.intro rfl (And.intro (by decide +kernel) rfl)))))) ?_
  refine xa_cons 8 (xc_getf (A := A) (own := "ExpressHouse$SchemaReader") (index := 22) hx hb htsB xC_5 hown rfl (by decide) xw_258 (And.intro (by decide +kernel) rfl)) ?_
  refine xa_cons 9 (xc_iconst hx hb (z := 1) (b := 1) (And.intro (by decide +kernel) rfl) (by decide +kernel) ⟨rfl, rfl⟩) ?_
  refine xa_cons 10 ((And.intro (xc_callV (index := 60) (n := 1) (ci := 1) S xg_94 rfl xw_7 xw_502 xw_500 xw_501 rfl rfl rfl ⟨by decide, by decide, by decide +kernel⟩ rfl (And.intro (by decide +kernel) rfl)) (by decide +kernel))) ?_
  refine xa_cons 11 ((And.intro (by decide) (Or.inl (Exists.intro (0) (And.intro rfl (And.intro (by decide +kernel) rfl)))))) ?_
  refine xa_cons 12 (xc_getf (A := A) (own := "ExpressHouse$SchemaReader") (index := 22) hx hb htsB xC_5 hown rfl (by decide) xw_258 (And.intro (by decide +kernel) rfl)) ?_
  refine xa_cons 13 (xc_bipush hx hb (z := 64) (b := 64) (And.intro (by decide +kernel) rfl) (by decide +kernel) ⟨rfl, rfl⟩) ?_
  refine xa_cons 14 ((And.intro (xc_callV (index := 60) (n := 1) (ci := 1) S xg_94 rfl xw_7 xw_502 xw_500 xw_501 rfl rfl rfl ⟨by decide, by decide, by decide +kernel⟩ rfl (And.intro (by decide +kernel) rfl)) (by decide +kernel))) ?_
  refine xa_cons 15 ((And.intro (by decide) (Or.inl (Exists.intro (0) (And.intro rfl (And.intro (by decide +kernel) rfl)))))) ?_
  refine xa_cons 16 (xc_getf (A := A) (own := "ExpressHouse$SchemaReader") (index := 26) hx hb htsB xC_5 hown rfl (by decide) xw_259 (And.intro (by decide +kernel) rfl)) ?_
  refine xa_cons 17 ((And.intro (xc_callVN (index := 204) (n := 0) (ci := 4) S xg_177 rfl xw_22 (hgN.1 _ (List.mem_of_getElem? (i := 9) rfl)) xw_825 xw_826 rfl rfl rfl ⟨by decide, by decide, by decide +kernel⟩ rfl (And.intro (by decide +kernel) rfl)) (by decide +kernel))) ?_
  refine xa_cons 18 ((And.intro (by decide) (Or.inl (Exists.intro (0) (And.intro rfl (And.intro (by decide +kernel) rfl)))))) ?_
  refine xa_cons 19 (xc_getf (A := A) (own := "ExpressHouse$SchemaReader") (index := 22) hx hb htsB xC_5 hown rfl (by decide) xw_258 (And.intro (by decide +kernel) rfl)) ?_
  refine xa_cons 20 (xc_bipush hx hb (z := 32) (b := 32) (And.intro (by decide +kernel) rfl) (by decide +kernel) ⟨rfl, rfl⟩) ?_
  refine xa_cons 21 ((And.intro (xc_callV (index := 60) (n := 1) (ci := 1) S xg_94 rfl xw_7 xw_502 xw_500 xw_501 rfl rfl rfl ⟨by decide, by decide, by decide +kernel⟩ rfl (And.intro (by decide +kernel) rfl)) (by decide +kernel))) ?_
  refine xa_cons 22 ((And.intro (by decide) (Or.inl (Exists.intro (0) (And.intro rfl (And.intro (by decide +kernel) rfl)))))) ?_
  refine xa_cons 23 (xc_getf (A := A) (own := "ExpressHouse$SchemaReader") (index := 26) hx hb htsB xC_5 hown rfl (by decide) xw_259 (And.intro (by decide +kernel) rfl)) ?_
  refine xa_cons 24 ((And.intro (xc_callVN (index := 204) (n := 0) (ci := 4) S xg_177 rfl xw_22 (hgN.1 _ (List.mem_of_getElem? (i := 9) rfl)) xw_825 xw_826 rfl rfl rfl ⟨by decide, by decide, by decide +kernel⟩ rfl (And.intro (by decide +kernel) rfl)) (by decide +kernel))) ?_
  refine xa_cons 25 ((And.intro (by decide) (Or.inl (Exists.intro (0) (And.intro rfl (And.intro (by decide +kernel) rfl)))))) ?_
  refine xa_cons 26 (xc_getf (A := A) (own := "ExpressHouse$SchemaReader") (index := 22) hx hb htsB xC_5 hown rfl (by decide) xw_258 (And.intro (by decide +kernel) rfl)) ?_
  refine xa_cons 27 (xc_bipush hx hb (z := 33) (b := 33) (And.intro (by decide +kernel) rfl) (by decide +kernel) ⟨rfl, rfl⟩) ?_
  refine xa_cons 28 ((And.intro (xc_callV (index := 100) (n := 1) (ci := 1) S xg_154 rfl xw_7 xw_750 xw_748 xw_749 rfl rfl rfl ⟨by decide, by decide, by decide +kernel⟩ rfl (And.intro (by decide +kernel) rfl)) (by decide +kernel))) ?_
  refine xa_cons 29 ((And.intro (by decide) (Exists.intro (20) (And.intro (by decide +kernel) (And.intro (by decide +kernel) rfl))))) ?_
  refine xa_cons 30 ((And.intro (by decide) (Or.inl (Exists.intro (0) (And.intro rfl (And.intro (by decide +kernel) rfl)))))) ?_
  refine xa_cons 31 (xc_getf (A := A) (own := "ExpressHouse$SchemaReader") (index := 22) hx hb htsB xC_5 hown rfl (by decide) xw_258 (And.intro (by decide +kernel) rfl)) ?_
  refine xa_cons 32 ((And.intro (xc_callV (index := 126) (n := 0) (ci := 1) S xg_147 rfl xw_7 xw_737 xw_721 xw_722 rfl rfl rfl ⟨by decide, by decide, by decide +kernel⟩ rfl (And.intro (by decide +kernel) rfl)) (by decide +kernel))) ?_
  refine xa_cons 33 ((And.intro (by decide) (Or.inl (Exists.intro (0) (And.intro rfl (And.intro (by decide +kernel) rfl)))))) ?_
  refine xa_cons 34 (xc_getf (A := A) (own := "ExpressHouse$SchemaReader") (index := 26) hx hb htsB xC_5 hown rfl (by decide) xw_259 (And.intro (by decide +kernel) rfl)) ?_
  refine xa_cons 35 ((And.intro (xc_callVN (index := 204) (n := 0) (ci := 4) S xg_177 rfl xw_22 (hgN.1 _ (List.mem_of_getElem? (i := 9) rfl)) xw_825 xw_826 rfl rfl rfl ⟨by decide, by decide, by decide +kernel⟩ rfl (And.intro (by decide +kernel) rfl)) (by decide +kernel))) ?_
  refine xa_cons 36 ((Exists.intro (12) (And.intro (by decide +kernel) (by decide +kernel)))) ?_
  refine xa_cons 37 ((And.intro (by decide) (Or.inl (Exists.intro (0) (And.intro rfl (And.intro (by decide +kernel) rfl)))))) ?_
  refine xa_cons 38 (xc_getf (A := A) (own := "ExpressHouse$SchemaReader") (index := 26) hx hb htsB xC_5 hown rfl (by decide) xw_259 (And.intro (by decide +kernel) rfl)) ?_
  refine xa_cons 39 (xc_iconst hx hb (z := 3) (b := 3) (And.intro (by decide +kernel) rfl) (by decide +kernel) ⟨rfl, rfl⟩) ?_
  refine xa_cons 40 (xc_iconst hx hb (z := 1) (b := 1) (And.intro (by decide +kernel) rfl) (by decide +kernel) ⟨rfl, rfl⟩) ?_
  refine xa_cons 41 ((And.intro (xc_callV (index := 230) (n := 2) (ci := 4) S xg_161 rfl xw_22 xw_774 xw_772 xw_773 rfl rfl rfl ⟨by decide, by decide, by decide +kernel⟩ rfl (And.intro (by decide +kernel) rfl)) (by decide +kernel))) ?_
  refine xa_cons 42 ((And.intro (by decide) (Or.inl (Exists.intro (0) (And.intro rfl (And.intro (by decide +kernel) rfl)))))) ?_
  refine xa_cons 43 (xc_getf (A := A) (own := "ExpressHouse$SchemaReader") (index := 22) hx hb htsB xC_5 hown rfl (by decide) xw_258 (And.intro (by decide +kernel) rfl)) ?_
  refine xa_cons 44 (xc_bipush hx hb (z := 78) (b := 78) (And.intro (by decide +kernel) rfl) (by decide +kernel) ⟨rfl, rfl⟩) ?_
  refine xa_cons 45 ((And.intro (xc_callV (index := 60) (n := 1) (ci := 1) S xg_94 rfl xw_7 xw_502 xw_500 xw_501 rfl rfl rfl ⟨by decide, by decide, by decide +kernel⟩ rfl (And.intro (by decide +kernel) rfl)) (by decide +kernel))) ?_
  refine xa_cons 46 ((And.intro (by decide) (Or.inl (Exists.intro (0) (And.intro rfl (And.intro (by decide +kernel) rfl)))))) ?_
  refine xa_cons 47 (xc_getf (A := A) (own := "ExpressHouse$SchemaReader") (index := 302) hx hb htsB xC_5 hown rfl (by decide) xw_790 (And.intro (by decide +kernel) rfl)) ?_
  refine xa_cons 48 ((And.intro (Or.inl rfl) (Or.inr (And.intro (by decide +kernel) rfl)))) ?_
  refine xa_cons 49 ((And.intro (by decide) (Or.inl (Exists.intro (0) (And.intro rfl (And.intro (by decide +kernel) rfl)))))) ?_
  refine xa_cons 50 (xc_getf (A := A) (own := "ExpressHouse$SchemaReader") (index := 305) hx hb htsB xC_5 hown rfl (by decide) xw_791 (And.intro (by decide +kernel) rfl)) ?_
  refine xa_cons 51 ((And.intro (Or.inl rfl) (Or.inr (And.intro (by decide +kernel) rfl)))) ?_
  refine xa_cons 52 ((And.intro (by decide) (Or.inl (Exists.intro (0) (And.intro rfl (And.intro (by decide +kernel) rfl)))))) ?_
  refine xa_cons 53 (xc_getf (A := A) (own := "ExpressHouse$SchemaReader") (index := 26) hx hb htsB xC_5 hown rfl (by decide) xw_259 (And.intro (by decide +kernel) rfl)) ?_
  refine xa_cons 54 ((And.intro (by decide) (Or.inl (Exists.intro (3) (And.intro rfl (And.intro (by decide +kernel) rfl)))))) ?_
  refine xa_cons 55 ((And.intro (xc_callV (index := 347) (n := 1) (ci := 4) S xg_314 rfl xw_22 xw_1359 xw_1357 xw_1358 rfl rfl rfl ⟨by decide, by decide, by decide +kernel⟩ rfl (And.intro (by decide +kernel) rfl)) (by decide +kernel))) ?_
  refine xa_cons 56 ((And.intro (Or.inl rfl) (Or.inr (And.intro (by decide +kernel) rfl)))) ?_
  refine xa_cons 57 ((And.intro (by decide) (Or.inl (Exists.intro (0) (And.intro rfl (And.intro (by decide +kernel) rfl)))))) ?_
  refine xa_cons 58 (xc_getf (A := A) (own := "ExpressHouse$SchemaReader") (index := 26) hx hb htsB xC_5 hown rfl (by decide) xw_259 (And.intro (by decide +kernel) rfl)) ?_
  refine xa_cons 59 (xc_bipush hx hb (z := 28) (b := 28) (And.intro (by decide +kernel) rfl) (by decide +kernel) ⟨rfl, rfl⟩) ?_
  refine xa_cons 60 ((And.intro (by decide) (Or.inr (And.intro (by decide +kernel) rfl)))) ?_
  refine xa_cons 61 ((And.intro (xc_callV (index := 230) (n := 2) (ci := 4) S xg_161 rfl xw_22 xw_774 xw_772 xw_773 rfl rfl rfl ⟨by decide, by decide, by decide +kernel⟩ rfl (And.intro (by decide +kernel) rfl)) (by decide +kernel))) ?_
  refine xa_cons 62 ((And.intro (by decide) (Or.inl (Exists.intro (0) (And.intro rfl (And.intro (by decide +kernel) rfl)))))) ?_
  refine xa_cons 63 (xc_iconst hx hb (z := 3) (b := 3) (And.intro (by decide +kernel) rfl) (by decide +kernel) ⟨rfl, rfl⟩) ?_
  refine xa_cons 64 ((And.intro (xc_callV (index := 350) (n := 1) (ci := 5) S xg_315 rfl xw_29 xw_1362 xw_1360 xw_1361 rfl rfl rfl ⟨by decide, by decide, by decide +kernel⟩ rfl (And.intro (by decide +kernel) rfl)) (by decide +kernel))) ?_
  refine xa_cons 65 ((And.intro (Or.inl rfl) (Or.inr (And.intro (by decide +kernel) rfl)))) ?_
  refine xa_cons 66 ((And.intro (by decide) (Or.inl (Exists.intro (0) (And.intro rfl (And.intro (by decide +kernel) rfl)))))) ?_
  refine xa_cons 67 (xc_getf (A := A) (own := "ExpressHouse$SchemaReader") (index := 26) hx hb htsB xC_5 hown rfl (by decide) xw_259 (And.intro (by decide +kernel) rfl)) ?_
  refine xa_cons 68 (xc_bipush hx hb (z := 29) (b := 29) (And.intro (by decide +kernel) rfl) (by decide +kernel) ⟨rfl, rfl⟩) ?_
  refine xa_cons 69 ((And.intro (by decide) (Or.inr (And.intro (by decide +kernel) rfl)))) ?_
  refine xa_cons 70 ((And.intro (xc_callV (index := 230) (n := 2) (ci := 4) S xg_161 rfl xw_22 xw_774 xw_772 xw_773 rfl rfl rfl ⟨by decide, by decide, by decide +kernel⟩ rfl (And.intro (by decide +kernel) rfl)) (by decide +kernel))) ?_
  refine xa_cons 71 ((And.intro (by decide) (Or.inl (Exists.intro (0) (And.intro rfl (And.intro (by decide +kernel) rfl)))))) ?_
  refine xa_cons 72 (xc_getf (A := A) (own := "ExpressHouse$SchemaReader") (index := 26) hx hb htsB xC_5 hown rfl (by decide) xw_259 (And.intro (by decide +kernel) rfl)) ?_
  refine xa_cons 73 ((And.intro (by decide) (Or.inl (Exists.intro (0) (And.intro rfl (And.intro (by decide +kernel) rfl)))))) ?_
  refine xa_cons 74 (xc_getf (A := A) (own := "ExpressHouse$SchemaReader") (index := 302) hx hb htsB xC_5 hown rfl (by decide) xw_790 (And.intro (by decide +kernel) rfl)) ?_
  refine xa_cons 75 ((And.intro (xc_callV (index := 209) (n := 1) (ci := 4) S xg_167 rfl xw_22 xw_797 xw_795 xw_796 rfl rfl rfl ⟨by decide, by decide, by decide +kernel⟩ rfl (And.intro (by decide +kernel) rfl)) (by decide +kernel))) ?_
  refine xa_cons 76 ((And.intro (by decide) (Or.inl (Exists.intro (0) (And.intro rfl (And.intro (by decide +kernel) rfl)))))) ?_
  refine xa_cons 77 (xc_getf (A := A) (own := "ExpressHouse$SchemaReader") (index := 26) hx hb htsB xC_5 hown rfl (by decide) xw_259 (And.intro (by decide +kernel) rfl)) ?_
  refine xa_cons 78 (xc_bipush hx hb (z := 30) (b := 30) (And.intro (by decide +kernel) rfl) (by decide +kernel) ⟨rfl, rfl⟩) ?_
  refine xa_cons 79 ((And.intro (by decide) (Or.inr (And.intro (by decide +kernel) rfl)))) ?_
  refine xa_cons 80 ((And.intro (xc_callV (index := 230) (n := 2) (ci := 4) S xg_161 rfl xw_22 xw_774 xw_772 xw_773 rfl rfl rfl ⟨by decide, by decide, by decide +kernel⟩ rfl (And.intro (by decide +kernel) rfl)) (by decide +kernel))) ?_
  refine xa_cons 81 ((And.intro (by decide) (Or.inl (Exists.intro (0) (And.intro rfl (And.intro (by decide +kernel) rfl)))))) ?_
  refine xa_cons 82 (xc_getf (A := A) (own := "ExpressHouse$SchemaReader") (index := 26) hx hb htsB xC_5 hown rfl (by decide) xw_259 (And.intro (by decide +kernel) rfl)) ?_
  refine xa_cons 83 ((And.intro (by decide) (Or.inl (Exists.intro (0) (And.intro rfl (And.intro (by decide +kernel) rfl)))))) ?_
  refine xa_cons 84 (xc_getf (A := A) (own := "ExpressHouse$SchemaReader") (index := 302) hx hb htsB xC_5 hown rfl (by decide) xw_790 (And.intro (by decide +kernel) rfl)) ?_
  refine xa_cons 85 ((And.intro (xc_callV (index := 209) (n := 1) (ci := 4) S xg_167 rfl xw_22 xw_797 xw_795 xw_796 rfl rfl rfl ⟨by decide, by decide, by decide +kernel⟩ rfl (And.intro (by decide +kernel) rfl)) (by decide +kernel))) ?_
  refine xa_cons 86 ((And.intro (by decide) (Or.inl (Exists.intro (0) (And.intro rfl (And.intro (by decide +kernel) rfl)))))) ?_
  refine xa_cons 87 ((And.intro (by decide) (Or.inl (Exists.intro (1) (And.intro rfl (And.intro (by decide +kernel) rfl)))))) ?_
  refine xa_cons 88 ((And.intro (by decide) (Or.inl (Exists.intro (2) (And.intro rfl (And.intro (by decide +kernel) rfl)))))) ?_
  refine xa_cons 89 (xc_iconst hx hb (z := 1) (b := 1) (And.intro (by decide +kernel) rfl) (by decide +kernel) ⟨rfl, rfl⟩) ?_
  refine xa_cons 90 ((And.intro (by decide) (And.intro (by decide +kernel) rfl))) ?_
  refine xa_cons 91 ((And.intro (xc_callV (index := 308) (n := 2) (ci := 5) S xg_166 rfl xw_29 xw_794 xw_792 xw_793 rfl rfl rfl ⟨by decide, by decide, by decide +kernel⟩ rfl (And.intro (by decide +kernel) rfl)) (by decide +kernel))) ?_
  refine xa_cons 92 ((And.intro (by decide) (Or.inl (Exists.intro (0) (And.intro rfl (And.intro (by decide +kernel) rfl)))))) ?_
  refine xa_cons 93 ((And.intro (by decide) (Or.inr (And.intro (by decide +kernel) rfl)))) ?_
  refine xa_cons 94 ((And.intro (by decide) (Or.inr (And.intro (by decide +kernel) rfl)))) ?_
  refine xa_cons 95 ((And.intro (by decide) (Or.inr (And.intro (by decide +kernel) rfl)))) ?_
  refine xa_cons 96 ((And.intro (xc_callV (index := 353) (n := 3) (ci := 5) S xg_316 rfl xw_29 xw_1365 xw_1363 xw_1364 rfl rfl rfl ⟨by decide, by decide, by decide +kernel⟩ rfl (And.intro (by decide +kernel) rfl)) (by decide +kernel))) ?_
  refine xa_cons 97 ((And.intro (by decide) (Or.inl (Exists.intro (0) (And.intro rfl (And.intro (by decide +kernel) rfl)))))) ?_
  refine xa_cons 98 (xc_getf (A := A) (own := "ExpressHouse$SchemaReader") (index := 26) hx hb htsB xC_5 hown rfl (by decide) xw_259 (And.intro (by decide +kernel) rfl)) ?_
  refine xa_cons 99 ((And.intro (xc_callV (index := 357) (n := 0) (ci := 4) S xg_317 rfl xw_22 xw_1368 xw_1366 xw_1367 rfl rfl rfl ⟨by decide, by decide, by decide +kernel⟩ rfl (And.intro (by decide +kernel) rfl)) (by decide +kernel))) ?_
  refine xa_cons 100 ((And.intro hr (by decide +kernel))) ?_
  exact xa_nil
def xrp_289 : Nat → Nat := fun k => ([0, 1, 4, 7, 8, 11, 12, 13, 16, 18, 19, 20, 23, 25, 26, 29, 32, 33, 36, 38, 41, 42, 45, 47, 48, 51, 54, 55, 56, 57, 58, 59, 62, 63, 65, 66, 68, 71] : List Nat).getD k 0
set_option maxRecDepth 20000 in
set_option maxHeartbeats 4000000 in
theorem xz_289 {l : Launch} {D : va_G} {en : XE} : x_Ok xT l D xcl en xrn (xG en) 289 xc_289 := by
  refine ⟨prog_11_method_45_code, none, xBIG, xrp_289, by decide +kernel, rfl, rfl, ?_⟩
  intro p e R s m args below meth c s₁ A Q pc i f1 f2 B hml hA hg hi
  obtain ⟨hx, hb, hr, hown, hlocks, hin, htsB, S⟩ := xb_all (C := "ExpressHouse$SchemaReader") B hml rfl rfl
  obtain ⟨hgN, hgZ, hgS, hgS2⟩ := xG_all hg
  refine xa_at (i := i) (pc := pc) ?_ hi
  refine xa_cons 0 ((And.intro (by decide) (Or.inl (Exists.intro (0) (And.intro rfl (And.intro (by decide +kernel) rfl)))))) ?_
  refine xa_cons 1 (xc_getf (A := A) (own := "ExpressHouse$SchemaReader") (index := 22) hx hb htsB xC_5 hown rfl (by decide) xw_258 (And.intro (by decide +kernel) rfl)) ?_
  refine xa_cons 2 ((And.intro (xc_callV (index := 126) (n := 0) (ci := 1) S xg_147 rfl xw_7 xw_737 xw_721 xw_722 rfl rfl rfl ⟨by decide, by decide, by decide +kernel⟩ rfl (And.intro (by decide +kernel) rfl)) (by decide +kernel))) ?_
  refine xa_cons 3 ((And.intro (by decide) (Or.inl (Exists.intro (0) (And.intro rfl (And.intro (by decide +kernel) rfl)))))) ?_
  refine xa_cons 4 (xc_getf (A := A) (own := "ExpressHouse$SchemaReader") (index := 302) hx hb htsB xC_5 hown rfl (by decide) xw_790 (And.intro (by decide +kernel) rfl)) ?_
  refine xa_cons 5 ((And.intro (Or.inl rfl) (Or.inl (Exists.intro (3) (And.intro rfl (And.intro (by decide +kernel) rfl)))))) ?_
  refine xa_cons 6 ((And.intro (by decide) (Or.inl (Exists.intro (0) (And.intro rfl (And.intro (by decide +kernel) rfl)))))) ?_
  refine xa_cons 7 (xc_getf (A := A) (own := "ExpressHouse$SchemaReader") (index := 305) hx hb htsB xC_5 hown rfl (by decide) xw_791 (And.intro (by decide +kernel) rfl)) ?_
  refine xa_cons 8 ((And.intro (Or.inl rfl) (Or.inr (And.intro (by decide +kernel) rfl)))) ?_
  refine xa_cons 9 ((And.intro (by decide) (Or.inl (Exists.intro (0) (And.intro rfl (And.intro (by decide +kernel) rfl)))))) ?_
  refine xa_cons 10 (xc_iconst hx hb (z := 0) (b := 0) (And.intro (by decide +kernel) rfl) (by decide +kernel) ⟨rfl, rfl⟩) ?_
  refine xa_cons 11 ((And.intro (xc_callV (index := 350) (n := 1) (ci := 5) S xg_315 rfl xw_29 xw_1362 xw_1360 xw_1361 rfl rfl rfl ⟨by decide, by decide, by decide +kernel⟩ rfl (And.intro (by decide +kernel) rfl)) (by decide +kernel))) ?_
  refine xa_cons 12 ((And.intro (Or.inl rfl) (Or.inr (And.intro (by decide +kernel) rfl)))) ?_
  refine xa_cons 13 ((And.intro (by decide) (Or.inl (Exists.intro (0) (And.intro rfl (And.intro (by decide +kernel) rfl)))))) ?_
  refine xa_cons 14 (xc_getf (A := A) (own := "ExpressHouse$SchemaReader") (index := 26) hx hb htsB xC_5 hown rfl (by decide) xw_259 (And.intro (by decide +kernel) rfl)) ?_
  refine xa_cons 15 ((And.intro (xc_callVN (index := 204) (n := 0) (ci := 4) S xg_177 rfl xw_22 (hgN.1 _ (List.mem_of_getElem? (i := 9) rfl)) xw_825 xw_826 rfl rfl rfl ⟨by decide, by decide, by decide +kernel⟩ rfl (And.intro (by decide +kernel) rfl)) (by decide +kernel))) ?_
  refine xa_cons 16 ((And.intro (by decide) (Or.inl (Exists.intro (0) (And.intro rfl (And.intro (by decide +kernel) rfl)))))) ?_
  refine xa_cons 17 (xc_getf (A := A) (own := "ExpressHouse$SchemaReader") (index := 22) hx hb htsB xC_5 hown rfl (by decide) xw_258 (And.intro (by decide +kernel) rfl)) ?_
  refine xa_cons 18 (xc_bipush hx hb (z := 78) (b := 78) (And.intro (by decide +kernel) rfl) (by decide +kernel) ⟨rfl, rfl⟩) ?_
  refine xa_cons 19 ((And.intro (xc_callV (index := 60) (n := 1) (ci := 1) S xg_94 rfl xw_7 xw_502 xw_500 xw_501 rfl rfl rfl ⟨by decide, by decide, by decide +kernel⟩ rfl (And.intro (by decide +kernel) rfl)) (by decide +kernel))) ?_
  refine xa_cons 20 ((And.intro (by decide) (Or.inl (Exists.intro (0) (And.intro rfl (And.intro (by decide +kernel) rfl)))))) ?_
  refine xa_cons 21 (xc_getf (A := A) (own := "ExpressHouse$SchemaReader") (index := 26) hx hb htsB xC_5 hown rfl (by decide) xw_259 (And.intro (by decide +kernel) rfl)) ?_
  refine xa_cons 22 (xc_bipush hx hb (z := 27) (b := 27) (And.intro (by decide +kernel) rfl) (by decide +kernel) ⟨rfl, rfl⟩) ?_
  refine xa_cons 23 ((And.intro (by decide) (Or.inl (Exists.intro (0) (And.intro rfl (And.intro (by decide +kernel) rfl)))))) ?_
  refine xa_cons 24 (xc_getf (A := A) (own := "ExpressHouse$SchemaReader") (index := 302) hx hb htsB xC_5 hown rfl (by decide) xw_790 (And.intro (by decide +kernel) rfl)) ?_
  refine xa_cons 25 ((And.intro (xc_callV (index := 230) (n := 2) (ci := 4) S xg_161 rfl xw_22 xw_774 xw_772 xw_773 rfl rfl rfl ⟨by decide, by decide, by decide +kernel⟩ rfl (And.intro (by decide +kernel) rfl)) (by decide +kernel))) ?_
  refine xa_cons 26 ((And.intro (by decide) (Or.inl (Exists.intro (0) (And.intro rfl (And.intro (by decide +kernel) rfl)))))) ?_
  refine xa_cons 27 ((And.intro (by decide) (Or.inl (Exists.intro (1) (And.intro rfl (And.intro (by decide +kernel) rfl)))))) ?_
  refine xa_cons 28 ((And.intro (by decide) (Or.inl (Exists.intro (2) (And.intro rfl (And.intro (by decide +kernel) rfl)))))) ?_
  refine xa_cons 29 (xc_iconst hx hb (z := 1) (b := 1) (And.intro (by decide +kernel) rfl) (by decide +kernel) ⟨rfl, rfl⟩) ?_
  refine xa_cons 30 ((And.intro (by decide) (And.intro (by decide +kernel) rfl))) ?_
  refine xa_cons 31 ((And.intro (xc_callV (index := 308) (n := 2) (ci := 5) S xg_166 rfl xw_29 xw_794 xw_792 xw_793 rfl rfl rfl ⟨by decide, by decide, by decide +kernel⟩ rfl (And.intro (by decide +kernel) rfl)) (by decide +kernel))) ?_
  refine xa_cons 32 ((And.intro (by decide) (Or.inl (Exists.intro (0) (And.intro rfl (And.intro (by decide +kernel) rfl)))))) ?_
  refine xa_cons 33 ((And.intro (by decide) (Or.inr (And.intro (by decide +kernel) rfl)))) ?_
  refine xa_cons 34 ((And.intro (by decide) (Or.inl (Exists.intro (3) (And.intro rfl (And.intro (by decide +kernel) rfl)))))) ?_
  refine xa_cons 35 ((And.intro (by decide) (Or.inr (And.intro (by decide +kernel) rfl)))) ?_
  refine xa_cons 36 ((And.intro (xc_callV (index := 353) (n := 3) (ci := 5) S xg_316 rfl xw_29 xw_1365 xw_1363 xw_1364 rfl rfl rfl ⟨by decide, by decide, by decide +kernel⟩ rfl (And.intro (by decide +kernel) rfl)) (by decide +kernel))) ?_
  refine xa_cons 37 ((And.intro hr (by decide +kernel))) ?_
  exact xa_nil
def xrp_290 : Nat → Nat := fun k => ([0, 1, 4, 7, 8, 11, 12, 15, 17, 20, 23, 24, 27, 29, 30, 33, 34, 37, 39, 42] : List Nat).getD k 0
set_option maxRecDepth 20000 in
set_option maxHeartbeats 4000000 in
theorem xz_290 {l : Launch} {D : va_G} {en : XE} : x_Ok xT l D xcl en xrn (xG en) 290 xc_290 := by
  refine ⟨prog_11_method_39_code, none, xBIG, xrp_290, by decide +kernel, rfl, rfl, ?_⟩
  intro p e R s m args below meth c s₁ A Q pc i f1 f2 B hml hA hg hi
  obtain ⟨hx, hb, hr, hown, hlocks, hin, htsB, S⟩ := xb_all (C := "ExpressHouse$SchemaReader") B hml rfl rfl
  obtain ⟨hgN, hgZ, hgS, hgS2⟩ := xG_all hg
  refine xa_at (i := i) (pc := pc) ?_ hi
  refine xa_cons 0 ((And.intro (by decide) (Or.inl (Exists.intro (0) (And.intro rfl (And.intro (by decide +kernel) rfl)))))) ?_
  refine xa_cons 1 (xc_getf (A := A) (own := "ExpressHouse$SchemaReader") (index := 22) hx hb htsB xC_5 hown rfl (by decide) xw_258 (And.intro (by decide +kernel) rfl)) ?_
  refine xa_cons 2 ((And.intro (xc_callV (index := 126) (n := 0) (ci := 1) S xg_147 rfl xw_7 xw_737 xw_721 xw_722 rfl rfl rfl ⟨by decide, by decide, by decide +kernel⟩ rfl (And.intro (by decide +kernel) rfl)) (by decide +kernel))) ?_
  refine xa_cons 3 ((And.intro (by decide) (Or.inl (Exists.intro (1) (And.intro rfl (And.intro (by decide +kernel) rfl)))))) ?_
  refine xa_cons 4 ((And.intro (by decide) (Exists.intro (15) (And.intro (by decide +kernel) (And.intro (by decide +kernel) rfl))))) ?_
  refine xa_cons 5 ((And.intro (by decide) (Or.inl (Exists.intro (0) (And.intro rfl (And.intro (by decide +kernel) rfl)))))) ?_
  refine xa_cons 6 (xc_getf (A := A) (own := "ExpressHouse$SchemaReader") (index := 26) hx hb htsB xC_5 hown rfl (by decide) xw_259 (And.intro (by decide +kernel) rfl)) ?_
  refine xa_cons 7 (xc_bipush hx hb (z := 32) (b := 32) (And.intro (by decide +kernel) rfl) (by decide +kernel) ⟨rfl, rfl⟩) ?_
  refine xa_cons 8 ((And.intro (xc_callV (index := 209) (n := 1) (ci := 4) S xg_167 rfl xw_22 xw_797 xw_795 xw_796 rfl rfl rfl ⟨by decide, by decide, by decide +kernel⟩ rfl (And.intro (by decide +kernel) rfl)) (by decide +kernel))) ?_
  refine xa_cons 9 ((Exists.intro (13) (And.intro (by decide +kernel) (by decide +kernel)))) ?_
  refine xa_cons 10 ((And.intro (by decide) (Or.inl (Exists.intro (0) (And.intro rfl (And.intro (by decide +kernel) rfl)))))) ?_
  refine xa_cons 11 (xc_getf (A := A) (own := "ExpressHouse$SchemaReader") (index := 26) hx hb htsB xC_5 hown rfl (by decide) xw_259 (And.intro (by decide +kernel) rfl)) ?_
  refine xa_cons 12 (xc_bipush hx hb (z := 26) (b := 26) (And.intro (by decide +kernel) rfl) (by decide +kernel) ⟨rfl, rfl⟩) ?_
  refine xa_cons 13 ((And.intro (by decide) (Or.inl (Exists.intro (1) (And.intro rfl (And.intro (by decide +kernel) rfl)))))) ?_
  refine xa_cons 14 ((And.intro (xc_callV (index := 230) (n := 2) (ci := 4) S xg_161 rfl xw_22 xw_774 xw_772 xw_773 rfl rfl rfl ⟨by decide, by decide, by decide +kernel⟩ rfl (And.intro (by decide +kernel) rfl)) (by decide +kernel))) ?_
  refine xa_cons 15 ((And.intro (by decide) (Or.inl (Exists.intro (0) (And.intro rfl (And.intro (by decide +kernel) rfl)))))) ?_
  refine xa_cons 16 (xc_getf (A := A) (own := "ExpressHouse$SchemaReader") (index := 22) hx hb htsB xC_5 hown rfl (by decide) xw_258 (And.intro (by decide +kernel) rfl)) ?_
  refine xa_cons 17 (xc_bipush hx hb (z := 78) (b := 78) (And.intro (by decide +kernel) rfl) (by decide +kernel) ⟨rfl, rfl⟩) ?_
  refine xa_cons 18 ((And.intro (xc_callV (index := 60) (n := 1) (ci := 1) S xg_94 rfl xw_7 xw_502 xw_500 xw_501 rfl rfl rfl ⟨by decide, by decide, by decide +kernel⟩ rfl (And.intro (by decide +kernel) rfl)) (by decide +kernel))) ?_
  refine xa_cons 19 ((And.intro hr (by decide +kernel))) ?_
  exact xa_nil
def xrp_291 : Nat → Nat := fun k => ([0, 1, 4, 5, 6, 9, 10, 11, 12, 14, 17, 18, 21, 24, 27, 30, 31, 34, 37, 38, 39, 40, 43, 44, 47, 48, 49, 52, 55, 58] : List Nat).getD k 0
set_option maxRecDepth 20000 in
set_option maxHeartbeats 4000000 in
theorem xz_291 {l : Launch} {D : va_G} {en : XE} : x_Ok xT l D xcl en xrn (xG en) 291 xc_291 := by
  refine ⟨prog_2_method_19_code, none, xBIG, xrp_291, by decide +kernel, rfl, rfl, ?_⟩
  intro p e R s m args below meth c s₁ A Q pc i f1 f2 B hml hA hg hi
  obtain ⟨hx, hb, hr, hown, hlocks, hin, htsB, S⟩ := xb_all (C := "ExpressHouse$Expressions") B hml rfl rfl
  obtain ⟨hgN, hgZ, hgS, hgS2⟩ := xG_all hg
  refine xa_at (i := i) (pc := pc) ?_ hi
  refine xa_cons 0 ((And.intro (by decide) (Or.inl (Exists.intro (0) (And.intro rfl (And.intro (by decide +kernel) rfl)))))) ?_
  refine xa_cons 1 (xc_getf (A := A) (own := "ExpressHouse$Expressions") (index := 36) hx hb htsB xC_4 hown rfl (by decide) xw_731 (And.intro (by decide +kernel) rfl)) ?_
  refine xa_cons 2 ((And.intro (Or.inl rfl) (Or.inl (Exists.intro (1) (And.intro rfl (And.intro (by decide +kernel) rfl)))))) ?_
  refine xa_cons 3 ((And.intro (by decide) (Or.inl (Exists.intro (0) (And.intro rfl (And.intro (by decide +kernel) rfl)))))) ?_
  refine xa_cons 4 ((And.intro (xc_callV (index := 115) (n := 0) (ci := 4) S xg_318 rfl xw_22 xw_1371 xw_1369 xw_1370 rfl rfl rfl ⟨by decide, by decide, by decide +kernel⟩ rfl (And.intro (by decide +kernel) rfl)) (by decide +kernel))) ?_
  refine xa_cons 5 (xc_iconst hx hb (z := 0) (b := 0) (And.intro (by decide +kernel) rfl) (by decide +kernel) ⟨rfl, rfl⟩) ?_
  refine xa_cons 6 ((And.intro (Or.inl rfl) (Or.inl (Exists.intro (2) (And.intro rfl (And.intro (by decide +kernel) rfl)))))) ?_
  refine xa_cons 7 ((And.intro (by decide) (Or.inl (Exists.intro (2) (And.intro rfl (And.intro (by decide +kernel) rfl)))))) ?_
  refine xa_cons 8 (xc_ldc (own := "ExpressHouse$Expressions") (index := 107) (b := 1000000) hx hb hown (htsB _ xw_1271) (And.intro (by decide +kernel) rfl) ⟨rfl, rfl⟩) ?_
  refine xa_cons 9 ((And.intro (by decide) (Exists.intro (44) (And.intro (by decide +kernel) (And.intro (by decide +kernel) rfl))))) ?_
  refine xa_cons 10 ((And.intro (by decide) (Or.inl (Exists.intro (0) (And.intro rfl (And.intro (by decide +kernel) rfl)))))) ?_
  refine xa_cons 11 (xc_getf (A := A) (own := "ExpressHouse$Expressions") (index := 24) hx hb htsB xC_4 hown rfl (by decide) xw_252 (And.intro (by decide +kernel) rfl)) ?_
  refine xa_cons 12 (xc_getf (A := A) (own := "ExpressHouse$Expressions") (index := 95) hx hb htsB xC_1 hown rfl (by decide) xw_1082 (And.intro (by decide +kernel) rfl)) ?_
  refine xa_cons 13 ((And.intro (xc_callS (index := 118) S xg_319 rfl xw_22 xw_1372 xw_1373 ⟨by decide, by decide, by decide +kernel⟩ rfl (And.intro (by decide +kernel) rfl)) (by decide +kernel))) ?_
  refine xa_cons 14 ((And.intro (by decide) (Exists.intro (31) (And.intro (by decide +kernel) (And.intro (by decide +kernel) rfl))))) ?_
  refine xa_cons 15 ((And.intro (by decide) (Or.inl (Exists.intro (0) (And.intro rfl (And.intro (by decide +kernel) rfl)))))) ?_
  refine xa_cons 16 (xc_getf (A := A) (own := "ExpressHouse$Expressions") (index := 24) hx hb htsB xC_4 hown rfl (by decide) xw_252 (And.intro (by decide +kernel) rfl)) ?_
  refine xa_cons 17 (xc_getf (A := A) (own := "ExpressHouse$Expressions") (index := 95) hx hb htsB xC_1 hown rfl (by decide) xw_1082 (And.intro (by decide +kernel) rfl)) ?_
  refine xa_cons 18 ((And.intro (Or.inl rfl) (Or.inl (Exists.intro (3) (And.intro rfl (And.intro (by decide +kernel) rfl)))))) ?_
  refine xa_cons 19 ((And.intro (by decide) (Or.inl (Exists.intro (0) (And.intro rfl (And.intro (by decide +kernel) rfl)))))) ?_
  refine xa_cons 20 ((And.intro (by decide) (Or.inl (Exists.intro (1) (And.intro rfl (And.intro (by decide +kernel) rfl)))))) ?_
  refine xa_cons 21 ((And.intro (xc_callV (index := 98) (n := 1) (ci := 4) S xg_246 rfl xw_22 xw_1085 xw_1083 xw_1084 rfl rfl rfl ⟨by decide, by decide, by decide +kernel⟩ rfl (And.intro (by decide +kernel) rfl)) (by decide +kernel))) ?_
  refine xa_cons 22 ((And.intro (by decide) (Or.inl (Exists.intro (0) (And.intro rfl (And.intro (by decide +kernel) rfl)))))) ?_
  refine xa_cons 23 ((And.intro (xc_callV (index := 115) (n := 0) (ci := 4) S xg_318 rfl xw_22 xw_1371 xw_1369 xw_1370 rfl rfl rfl ⟨by decide, by decide, by decide +kernel⟩ rfl (And.intro (by decide +kernel) rfl)) (by decide +kernel))) ?_
  refine xa_cons 24 ((And.intro (by decide) (Or.inl (Exists.intro (0) (And.intro rfl (And.intro (by decide +kernel) rfl)))))) ?_
  refine xa_cons 25 ((And.intro (by decide) (Or.inl (Exists.intro (3) (And.intro rfl (And.intro (by decide +kernel) rfl)))))) ?_
  refine xa_cons 26 ((And.intro (xc_callV (index := 112) (n := 1) (ci := 4) S xg_293 rfl xw_22 xw_1276 xw_1274 xw_1275 rfl rfl rfl ⟨by decide, by decide, by decide +kernel⟩ rfl (And.intro (by decide +kernel) rfl)) (by decide +kernel))) ?_
  refine xa_cons 27 ((Exists.intro (1) (And.intro (And.intro (by decide +kernel) rfl) (by decide +kernel)))) ?_
  refine xa_cons 28 ((Exists.intro (-44) (And.intro (by decide +kernel) (by decide +kernel)))) ?_
  refine xa_cons 29 ((And.intro hr (by decide +kernel))) ?_
  exact xa_nil
def xrp_292 : Nat → Nat := fun k => ([0, 1, 3, 6, 7, 9, 12, 13, 15, 18, 19, 21, 24, 25, 28, 29] : List Nat).getD k 0
set_option maxRecDepth 20000 in
set_option maxHeartbeats 4000000 in
theorem xz_292 {l : Launch} {D : va_G} {en : XE} : x_Ok xT l D xcl en xrn (xG en) 292 xc_292 := by
  refine ⟨prog_2_method_18_code, (some .boolean), xBIG, xrp_292, by decide +kernel, rfl, rfl, ?_⟩
  intro p e R s m args below meth c s₁ A Q pc i f1 f2 B hml hA hg hi
  obtain ⟨hx, hb, hr, hown, hlocks, hin, htsB, S⟩ := xb_all (C := "ExpressHouse$Expressions") B hml rfl rfl
  obtain ⟨hgN, hgZ, hgS, hgS2⟩ := xG_all hg
  refine xa_at (i := i) (pc := pc) ?_ hi
  refine xa_cons 0 ((And.intro (by decide) (Or.inl (Exists.intro (0) (And.intro rfl (And.intro (by decide +kernel) rfl)))))) ?_
  refine xa_cons 1 (xc_bipush hx hb (z := 69) (b := 69) (And.intro (by decide +kernel) rfl) (by decide +kernel) ⟨rfl, rfl⟩) ?_
  refine xa_cons 2 ((And.intro (by decide) (Exists.intro (21) (And.intro (by decide +kernel) (And.intro (by decide +kernel) rfl))))) ?_
  refine xa_cons 3 ((And.intro (by decide) (Or.inl (Exists.intro (0) (And.intro rfl (And.intro (by decide +kernel) rfl)))))) ?_
  refine xa_cons 4 (xc_bipush hx hb (z := 70) (b := 70) (And.intro (by decide +kernel) rfl) (by decide +kernel) ⟨rfl, rfl⟩) ?_
  refine xa_cons 5 ((And.intro (by decide) (Exists.intro (15) (And.intro (by decide +kernel) (And.intro (by decide +kernel) rfl))))) ?_
  refine xa_cons 6 ((And.intro (by decide) (Or.inl (Exists.intro (0) (And.intro rfl (And.intro (by decide +kernel) rfl)))))) ?_
  refine xa_cons 7 (xc_bipush hx hb (z := 49) (b := 49) (And.intro (by decide +kernel) rfl) (by decide +kernel) ⟨rfl, rfl⟩) ?_
  refine xa_cons 8 ((And.intro (by decide) (Exists.intro (9) (And.intro (by decide +kernel) (And.intro (by decide +kernel) rfl))))) ?_
  refine xa_cons 9 ((And.intro (by decide) (Or.inl (Exists.intro (0) (And.intro rfl (And.intro (by decide +kernel) rfl)))))) ?_
  refine xa_cons 10 (xc_bipush hx hb (z := 50) (b := 50) (And.intro (by decide +kernel) rfl) (by decide +kernel) ⟨rfl, rfl⟩) ?_
  refine xa_cons 11 ((And.intro (by decide) (Exists.intro (7) (And.intro (by decide +kernel) (And.intro (by decide +kernel) rfl))))) ?_
  refine xa_cons 12 (xc_iconst hx hb (z := 1) (b := 1) (And.intro (by decide +kernel) rfl) (by decide +kernel) ⟨rfl, rfl⟩) ?_
  refine xa_cons 13 ((Exists.intro (4) (And.intro (by decide +kernel) (by decide +kernel)))) ?_
  refine xa_cons 14 (xc_iconst hx hb (z := 0) (b := 0) (And.intro (by decide +kernel) rfl) (by decide +kernel) ⟨rfl, rfl⟩) ?_
  refine xa_cons 15 ((And.intro hr (by decide +kernel))) ?_
  exact xa_nil
def xrp_293 : Nat → Nat := fun k => ([0, 1, 3, 6, 7, 9, 12, 13, 15, 18, 19, 22, 23, 24, 25, 26, 29, 31, 34, 36, 37, 40] : List Nat).getD k 0
set_option maxRecDepth 20000 in
set_option maxHeartbeats 4000000 in
theorem xz_293 {l : Launch} {D : va_G} {en : XE} : x_Ok xT l D xcl en xrn (xG en) 293 xc_293 := by
  refine ⟨prog_2_method_21_code, none, xBIG, xrp_293, by decide +kernel, rfl, rfl, ?_⟩
  intro p e R s m args below meth c s₁ A Q pc i f1 f2 B hml hA hg hi
  obtain ⟨hx, hb, hr, hown, hlocks, hin, htsB, S⟩ := xb_all (C := "ExpressHouse$Expressions") B hml rfl rfl
  obtain ⟨hgN, hgZ, hgS, hgS2⟩ := xG_all hg
  refine xa_at (i := i) (pc := pc) ?_ hi
  refine xa_cons 0 ((And.intro (by decide) (Or.inl (Exists.intro (1) (And.intro rfl (And.intro (by decide +kernel) rfl)))))) ?_
  refine xa_cons 1 (xc_bipush hx hb (z := 48) (b := 48) (And.intro (by decide +kernel) rfl) (by decide +kernel) ⟨rfl, rfl⟩) ?_
  refine xa_cons 2 ((And.intro (by decide) (Exists.intro (15) (And.intro (by decide +kernel) (And.intro (by decide +kernel) rfl))))) ?_
  refine xa_cons 3 ((And.intro (by decide) (Or.inl (Exists.intro (1) (And.intro rfl (And.intro (by decide +kernel) rfl)))))) ?_
  refine xa_cons 4 (xc_bipush hx hb (z := 49) (b := 49) (And.intro (by decide +kernel) rfl) (by decide +kernel) ⟨rfl, rfl⟩) ?_
  refine xa_cons 5 ((And.intro (by decide) (Exists.intro (9) (And.intro (by decide +kernel) (And.intro (by decide +kernel) rfl))))) ?_
  refine xa_cons 6 ((And.intro (by decide) (Or.inl (Exists.intro (1) (And.intro rfl (And.intro (by decide +kernel) rfl)))))) ?_
  refine xa_cons 7 (xc_bipush hx hb (z := 50) (b := 50) (And.intro (by decide +kernel) rfl) (by decide +kernel) ⟨rfl, rfl⟩) ?_
  refine xa_cons 8 ((And.intro (by decide) (Exists.intro (7) (And.intro (by decide +kernel) (And.intro (by decide +kernel) rfl))))) ?_
  refine xa_cons 9 (xc_iconst hx hb (z := 1) (b := 1) (And.intro (by decide +kernel) rfl) (by decide +kernel) ⟨rfl, rfl⟩) ?_
  refine xa_cons 10 ((Exists.intro (4) (And.intro (by decide +kernel) (by decide +kernel)))) ?_
  refine xa_cons 11 (xc_iconst hx hb (z := 0) (b := 0) (And.intro (by decide +kernel) rfl) (by decide +kernel) ⟨rfl, rfl⟩) ?_
  refine xa_cons 12 ((And.intro (Or.inl rfl) (Or.inl (Exists.intro (2) (And.intro rfl (And.intro (by decide +kernel) rfl)))))) ?_
  refine xa_cons 13 ((And.intro (by decide) (Or.inl (Exists.intro (0) (And.intro rfl (And.intro (by decide +kernel) rfl)))))) ?_
  refine xa_cons 14 ((And.intro (by decide) (Or.inl (Exists.intro (2) (And.intro rfl (And.intro (by decide +kernel) rfl)))))) ?_
  refine xa_cons 15 ((And.intro (by decide) (Exists.intro (8) (And.intro (by decide +kernel) (And.intro (by decide +kernel) rfl))))) ?_
  refine xa_cons 16 (xc_bipush hx hb (z := 14) (b := 14) (And.intro (by decide +kernel) rfl) (by decide +kernel) ⟨rfl, rfl⟩) ?_
  refine xa_cons 17 ((Exists.intro (5) (And.intro (by decide +kernel) (by decide +kernel)))) ?_
  refine xa_cons 18 (xc_bipush hx hb (z := 13) (b := 13) (And.intro (by decide +kernel) rfl) (by decide +kernel) ⟨rfl, rfl⟩) ?_
  refine xa_cons 19 ((And.intro (by decide) (Or.inl (Exists.intro (1) (And.intro rfl (And.intro (by decide +kernel) rfl)))))) ?_
  refine xa_cons 20 ((And.intro (xc_callV (index := 101) (n := 2) (ci := 4) S xg_161 rfl xw_22 xw_1086 xw_772 xw_773 rfl rfl rfl ⟨by decide, by decide, by decide +kernel⟩ rfl (And.intro (by decide +kernel) rfl)) (by decide +kernel))) ?_
  refine xa_cons 21 ((And.intro hr (by decide +kernel))) ?_
  exact xa_nil
def xrp_294 : Nat → Nat := fun k => ([0, 1, 2, 5, 6, 7, 10, 11, 14, 17, 20, 21, 24, 25] : List Nat).getD k 0
set_option maxRecDepth 20000 in
set_option maxHeartbeats 4000000 in
theorem xz_294 {l : Launch} {D : va_G} {en : XE} : x_Ok xT l D xcl en xrn (xG en) 294 xc_294 := by
  refine ⟨prog_12_method_25_code, (some .boolean), xBIG, xrp_294, by decide +kernel, rfl, rfl, ?_⟩
  intro p e R s m args below meth c s₁ A Q pc i f1 f2 B hml hA hg hi
  obtain ⟨hx, hb, hr, hown, hlocks, hin, htsB, S⟩ := xb_all (C := "ExpressHouse$Tokens") B hml rfl rfl
  obtain ⟨hgN, hgZ, hgS, hgS2⟩ := xG_all hg
  refine xa_at (i := i) (pc := pc) ?_ hi
  refine xa_cons 0 ((And.intro (by decide) (Or.inl (Exists.intro (0) (And.intro rfl (And.intro (by decide +kernel) rfl)))))) ?_
  refine xa_cons 1 ((And.intro (by decide +kernel) rfl)) ?_
  refine xa_cons 2 (xc_getf (A := A) (own := "ExpressHouse$Tokens") (index := 117) hx hb htsB xC_1 hown rfl (by decide) xw_718 (And.intro (by decide +kernel) rfl)) ?_
  refine xa_cons 3 (xc_iconst hx hb (z := 1) (b := 1) (And.intro (by decide +kernel) rfl) (by decide +kernel) ⟨rfl, rfl⟩) ?_
  refine xa_cons 4 ((And.intro (by decide) (And.intro (by decide +kernel) rfl))) ?_
  refine xa_cons 5 (xc_putf (own := "ExpressHouse$Tokens") (index := 117) hx hb htsB xC_1 hown rfl (by decide) xw_718 rfl (rfl) (And.intro (by decide +kernel) rfl)) ?_
  refine xa_cons 6 ((And.intro (by decide) (Or.inl (Exists.intro (0) (And.intro rfl (And.intro (by decide +kernel) rfl)))))) ?_
  refine xa_cons 7 (xc_getf (A := A) (own := "ExpressHouse$Tokens") (index := 117) hx hb htsB xC_1 hown rfl (by decide) xw_718 (And.intro (by decide +kernel) rfl)) ?_
  refine xa_cons 8 (xc_sipush hx hb (z := 600) (b := 600) (And.intro (by decide +kernel) rfl) (by decide +kernel) ⟨rfl, rfl⟩) ?_
  refine xa_cons 9 ((And.intro (by decide) (Exists.intro (7) (And.intro (by decide +kernel) (And.intro (by decide +kernel) rfl))))) ?_
  refine xa_cons 10 (xc_iconst hx hb (z := 1) (b := 1) (And.intro (by decide +kernel) rfl) (by decide +kernel) ⟨rfl, rfl⟩) ?_
  refine xa_cons 11 ((Exists.intro (4) (And.intro (by decide +kernel) (by decide +kernel)))) ?_
  refine xa_cons 12 (xc_iconst hx hb (z := 0) (b := 0) (And.intro (by decide +kernel) rfl) (by decide +kernel) ⟨rfl, rfl⟩) ?_
  refine xa_cons 13 ((And.intro hr (by decide +kernel))) ?_
  exact xa_nil
def xrp_295 : Nat → Nat := fun k => ([0, 1, 4, 7, 8, 11, 12, 13, 14, 15, 18, 21, 22, 25, 26, 29, 32, 33, 34, 35, 36, 37, 38, 39, 40] : List Nat).getD k 0
set_option maxRecDepth 20000 in
set_option maxHeartbeats 4000000 in
theorem xz_295 {l : Launch} {D : va_G} {en : XE} : x_Ok xT l D xcl en xrn (xG en) 295 xc_295 := by
  refine ⟨prog_2_method_8_code, none, xBIG, xrp_295, by decide +kernel, rfl, rfl, ?_⟩
  intro p e R s m args below meth c s₁ A Q pc i f1 f2 B hml hA hg hi
  obtain ⟨hx, hb, hr, hown, hlocks, hin, htsB, S⟩ := xb_all (C := "ExpressHouse$Expressions") B hml rfl rfl
  obtain ⟨hgN, hgZ, hgS, hgS2⟩ := xG_all hg
  refine xa_at (i := i) (pc := pc) ?_ hi
  refine xa_cons 0 ((And.intro (by decide) (Or.inl (Exists.intro (0) (And.intro rfl (And.intro (by decide +kernel) rfl)))))) ?_
  refine xa_cons 1 (xc_getf (A := A) (own := "ExpressHouse$Expressions") (index := 32) hx hb htsB xC_4 hown rfl (by decide) xw_730 (And.intro (by decide +kernel) rfl)) ?_
  refine xa_cons 2 ((And.intro (by decide) (Exists.intro (36) (And.intro (by decide +kernel) (And.intro (by decide +kernel) rfl))))) ?_
  refine xa_cons 3 ((And.intro (by decide) (Or.inl (Exists.intro (1) (And.intro rfl (And.intro (by decide +kernel) rfl)))))) ?_
  refine xa_cons 4 ((And.intro (by decide) (Exists.intro (32) (And.intro (by decide +kernel) (And.intro (by decide +kernel) rfl))))) ?_
  refine xa_cons 5 ((And.intro (by decide) (Or.inl (Exists.intro (1) (And.intro rfl (And.intro (by decide +kernel) rfl)))))) ?_
  refine xa_cons 6 (xc_iconst hx hb (z := 1) (b := 1) (And.intro (by decide +kernel) rfl) (by decide +kernel) ⟨rfl, rfl⟩) ?_
  refine xa_cons 7 ((And.intro (by decide) (And.intro (by decide +kernel) rfl))) ?_
  refine xa_cons 8 ((And.intro (by decide) (Or.inl (Exists.intro (0) (And.intro rfl (And.intro (by decide +kernel) rfl)))))) ?_
  refine xa_cons 9 (xc_getf (A := A) (own := "ExpressHouse$Expressions") (index := 28) hx hb htsB xC_4 hown rfl (by decide) xw_253 (And.intro (by decide +kernel) rfl)) ?_
  refine xa_cons 10 (xc_getf (A := A) (own := "ExpressHouse$Expressions") (index := 76) hx hb htsB xC_3 hown rfl (by decide) xw_1034 (And.intro (by decide +kernel) rfl)) ?_
  refine xa_cons 11 ((And.intro (by decide +kernel) rfl)) ?_
  refine xa_cons 12 ((And.intro (by decide) (Exists.intro (18) (And.intro (by decide +kernel) (And.intro (by decide +kernel) rfl))))) ?_
  refine xa_cons 13 ((And.intro (by decide) (Or.inl (Exists.intro (0) (And.intro rfl (And.intro (by decide +kernel) rfl)))))) ?_
  refine xa_cons 14 (xc_getf (A := A) (own := "ExpressHouse$Expressions") (index := 28) hx hb htsB xC_4 hown rfl (by decide) xw_253 (And.intro (by decide +kernel) rfl)) ?_
  refine xa_cons 15 (xc_getf (A := A) (own := "ExpressHouse$Expressions") (index := 76) hx hb htsB xC_3 hown rfl (by decide) xw_1034 (And.intro (by decide +kernel) rfl)) ?_
  refine xa_cons 16 ((And.intro (by decide) (Or.inl (Exists.intro (1) (And.intro rfl (And.intro (by decide +kernel) rfl)))))) ?_
  refine xa_cons 17 (xc_iconst hx hb (z := 1) (b := 1) (And.intro (by decide +kernel) rfl) (by decide +kernel) ⟨rfl, rfl⟩) ?_
  refine xa_cons 18 ((And.intro (by decide) (And.intro (by decide +kernel) rfl))) ?_
  refine xa_cons 19 ((And.intro (by decide +kernel) rfl)) ?_
  refine xa_cons 20 ((And.intro (by decide) (And.intro (by decide +kernel) rfl))) ?_
  refine xa_cons 21 (xc_iconst hx hb (z := 1) (b := 1) (And.intro (by decide +kernel) rfl) (by decide +kernel) ⟨rfl, rfl⟩) ?_
  refine xa_cons 22 ((And.intro (by decide) (And.intro (by decide +kernel) rfl))) ?_
  refine xa_cons 23 ((And.intro (by decide) (And.intro (by decide +kernel) rfl))) ?_
  refine xa_cons 24 ((And.intro hr (by decide +kernel))) ?_
  exact xa_nil
def xrp_296 : Nat → Nat := fun k => ([0, 1, 4, 5, 8, 9, 12, 13, 14, 15, 18, 19, 22, 23, 24, 25, 27, 28, 30, 31, 32, 34, 35, 38, 40, 42, 45, 46, 49, 51, 54, 55, 58, 60, 61, 62, 63, 64, 67, 68, 71, 72, 73, 75, 78, 80, 81, 82, 85, 86, 87, 88, 91, 92, 95, 96, 97, 100, 101, 104, 105, 108, 110, 111, 112, 114, 115, 118, 119, 121, 122, 125, 126] : List Nat).getD k 0
set_option maxRecDepth 20000 in
set_option maxHeartbeats 4000000 in
theorem xz_296 {l : Launch} {D : va_G} {en : XE} : x_Ok xT l D xcl en xrn (xG en) 296 xc_296 := by
  refine ⟨prog_9_method_19_code, (some .long), xBIG, xrp_296, by decide +kernel, rfl, rfl, ?_⟩
  intro p e R s m args below meth c s₁ A Q pc i f1 f2 B hml hA hg hi
  obtain ⟨hx, hb, hr, hown, hlocks, hin, htsB, S⟩ := xb_all (C := "ExpressHouse$Reals") B hml rfl rfl
  obtain ⟨hgN, hgZ, hgS, hgS2⟩ := xG_all hg
  refine xa_at (i := i) (pc := pc) ?_ hi
  refine xa_cons 0 ((And.intro (by decide) (Or.inl (Exists.intro (0) (And.intro rfl (And.intro (by decide +kernel) rfl)))))) ?_
  refine xa_cons 1 (xc_ldc2 (own := "ExpressHouse$Reals") (index := 9) (b := 9223372036854775807) hx hb hown (htsB _ xw_1191) (And.intro (by decide +kernel) rfl) ⟨rfl, rfl⟩) ?_
  refine xa_cons 2 ((And.intro (by decide) (And.intro (by decide +kernel) rfl))) ?_
  refine xa_cons 3 (xc_ldc2 (own := "ExpressHouse$Reals") (index := 65) (b := 4841369599423283200) hx hb hown (htsB _ xw_1374) (And.intro (by decide +kernel) rfl) ⟨rfl, rfl⟩) ?_
  refine xa_cons 4 ((And.intro (by decide +kernel) rfl)) ?_
  refine xa_cons 5 ((And.intro (by decide) (Exists.intro (5) (And.intro (by decide +kernel) (And.intro (by decide +kernel) rfl))))) ?_
  refine xa_cons 6 ((And.intro (by decide) (Or.inl (Exists.intro (0) (And.intro rfl (And.intro (by decide +kernel) rfl)))))) ?_
  refine xa_cons 7 ((And.intro hr (by decide +kernel))) ?_
  refine xa_cons 8 ((And.intro (by decide) (Or.inl (Exists.intro (0) (And.intro rfl (And.intro (by decide +kernel) rfl)))))) ?_
  refine xa_cons 9 (xc_ldc2 (own := "ExpressHouse$Reals") (index := 9) (b := 9223372036854775807) hx hb hown (htsB _ xw_1191) (And.intro (by decide +kernel) rfl) ⟨rfl, rfl⟩) ?_
  refine xa_cons 10 ((And.intro (by decide) (And.intro (by decide +kernel) rfl))) ?_
  refine xa_cons 11 ((And.intro (xc_callS (index := 56) S xg_300 rfl xw_909 xw_1311 xw_1301 ⟨by decide, by decide, by decide +kernel⟩ rfl (And.intro (by decide +kernel) rfl)) (by decide +kernel))) ?_
  refine xa_cons 12 ((And.intro (Or.inr rfl) (Or.inl (Exists.intro (3) (And.intro rfl (And.intro (by decide +kernel) rfl)))))) ?_
  refine xa_cons 13 ((And.intro (by decide) (Or.inl (Exists.intro (3) (And.intro rfl (And.intro (by decide +kernel) rfl)))))) ?_
  refine xa_cons 14 (trivial) ?_
  refine xa_cons 15 ((And.intro (Or.inl rfl) (Or.inr (And.intro (by decide +kernel) rfl)))) ?_
  refine xa_cons 16 ((And.intro (by decide) (Or.inl (Exists.intro (3) (And.intro rfl (And.intro (by decide +kernel) rfl)))))) ?_
  refine xa_cons 17 ((And.intro (by decide) (Or.inr (And.intro (by decide +kernel) rfl)))) ?_
  refine xa_cons 18 (trivial) ?_
  refine xa_cons 19 (trivial) ?_
  refine xa_cons 20 ((And.intro (Or.inr rfl) (Or.inr (And.intro (by decide +kernel) rfl)))) ?_
  refine xa_cons 21 ((And.intro (by decide) (Or.inl (Exists.intro (2) (And.intro rfl (And.intro (by decide +kernel) rfl)))))) ?_
  refine xa_cons 22 ((And.intro (by decide) (Exists.intro (43) (And.intro (by decide +kernel) (And.intro (by decide +kernel) rfl))))) ?_
  refine xa_cons 23 ((And.intro (by decide) (Or.inr (And.intro (by decide +kernel) rfl)))) ?_
  refine xa_cons 24 ((And.intro (by decide) (Or.inr (And.intro (by decide +kernel) rfl)))) ?_
  refine xa_cons 25 (trivial) ?_
  refine xa_cons 26 (trivial) ?_
  refine xa_cons 27 ((And.intro (by decide) (Exists.intro (21) (And.intro (by decide +kernel) (And.intro (by decide +kernel) rfl))))) ?_
  refine xa_cons 28 ((And.intro (by decide) (Or.inr (And.intro (by decide +kernel) rfl)))) ?_
  refine xa_cons 29 (trivial) ?_
  refine xa_cons 30 (trivial) ?_
  refine xa_cons 31 ((And.intro (by decide) (Exists.intro (16) (And.intro (by decide +kernel) (And.intro (by decide +kernel) rfl))))) ?_
  refine xa_cons 32 ((And.intro (by decide) (Or.inr (And.intro (by decide +kernel) rfl)))) ?_
  refine xa_cons 33 (xc_lconst hx hb (z := 1) (And.intro (by decide +kernel) rfl) ⟨rfl, rfl⟩) ?_
  refine xa_cons 34 ((And.intro (by decide) (And.intro (by decide +kernel) rfl))) ?_
  refine xa_cons 35 (xc_lconst hx hb (z := 1) (And.intro (by decide +kernel) rfl) ⟨rfl, rfl⟩) ?_
  refine xa_cons 36 ((And.intro (by decide +kernel) rfl)) ?_
  refine xa_cons 37 ((And.intro (by decide) (Exists.intro (7) (And.intro (by decide +kernel) (And.intro (by decide +kernel) rfl))))) ?_
  refine xa_cons 38 (xc_lconst hx hb (z := 1) (And.intro (by decide +kernel) rfl) ⟨rfl, rfl⟩) ?_
  refine xa_cons 39 ((Exists.intro (4) (And.intro (by decide +kernel) (by decide +kernel)))) ?_
  refine xa_cons 40 (xc_lconst hx hb (z := 0) (And.intro (by decide +kernel) rfl) ⟨rfl, rfl⟩) ?_
  refine xa_cons 41 ((And.intro (by decide) (And.intro (by decide +kernel) rfl))) ?_
  refine xa_cons 42 ((And.intro (Or.inl rfl) (Or.inr (And.intro (by decide +kernel) rfl)))) ?_
  refine xa_cons 43 ((Exists.intro (39) (And.intro (by decide +kernel) (by decide +kernel)))) ?_
  refine xa_cons 44 ((And.intro (by decide) (Or.inr (And.intro (by decide +kernel) rfl)))) ?_
  refine xa_cons 45 (trivial) ?_
  refine xa_cons 46 (trivial) ?_
  refine xa_cons 47 ((And.intro (by decide) (Exists.intro (32) (And.intro (by decide +kernel) (And.intro (by decide +kernel) rfl))))) ?_
  refine xa_cons 48 ((And.intro (by decide) (Or.inl (Exists.intro (0) (And.intro rfl (And.intro (by decide +kernel) rfl)))))) ?_
  refine xa_cons 49 (xc_lconst hx hb (z := 0) (And.intro (by decide +kernel) rfl) ⟨rfl, rfl⟩) ?_
  refine xa_cons 50 ((And.intro (by decide +kernel) rfl)) ?_
  refine xa_cons 51 ((And.intro (by decide) (Exists.intro (7) (And.intro (by decide +kernel) (And.intro (by decide +kernel) rfl))))) ?_
  refine xa_cons 52 (xc_iconst hx hb (z := 1) (b := 1) (And.intro (by decide +kernel) rfl) (by decide +kernel) ⟨rfl, rfl⟩) ?_
  refine xa_cons 53 ((Exists.intro (4) (And.intro (by decide +kernel) (by decide +kernel)))) ?_
  refine xa_cons 54 (xc_iconst hx hb (z := 0) (b := 0) (And.intro (by decide +kernel) rfl) (by decide +kernel) ⟨rfl, rfl⟩) ?_
  refine xa_cons 55 ((And.intro (by decide) (Or.inl (Exists.intro (2) (And.intro rfl (And.intro (by decide +kernel) rfl)))))) ?_
  refine xa_cons 56 ((And.intro (by decide) (Exists.intro (7) (And.intro (by decide +kernel) (And.intro (by decide +kernel) rfl))))) ?_
  refine xa_cons 57 (xc_iconst hx hb (z := 1) (b := 1) (And.intro (by decide +kernel) rfl) (by decide +kernel) ⟨rfl, rfl⟩) ?_
  refine xa_cons 58 ((Exists.intro (4) (And.intro (by decide +kernel) (by decide +kernel)))) ?_
  refine xa_cons 59 (xc_iconst hx hb (z := 0) (b := 0) (And.intro (by decide +kernel) rfl) (by decide +kernel) ⟨rfl, rfl⟩) ?_
  refine xa_cons 60 ((And.intro (by decide) (Exists.intro (9) (And.intro (by decide +kernel) (And.intro (by decide +kernel) rfl))))) ?_
  refine xa_cons 61 ((And.intro (by decide) (Or.inr (And.intro (by decide +kernel) rfl)))) ?_
  refine xa_cons 62 (xc_lconst hx hb (z := 1) (And.intro (by decide +kernel) rfl) ⟨rfl, rfl⟩) ?_
  refine xa_cons 63 ((And.intro (by decide) (And.intro (by decide +kernel) rfl))) ?_
  refine xa_cons 64 ((And.intro (Or.inl rfl) (Or.inr (And.intro (by decide +kernel) rfl)))) ?_
  refine xa_cons 65 ((And.intro (by decide) (Or.inl (Exists.intro (0) (And.intro rfl (And.intro (by decide +kernel) rfl)))))) ?_
  refine xa_cons 66 (xc_ldc2 (own := "ExpressHouse$Reals") (index := 31) (b := 9223372036854775808) hx hb hown (htsB _ xw_1188) (And.intro (by decide +kernel) rfl) ⟨rfl, rfl⟩) ?_
  refine xa_cons 67 ((And.intro (by decide) (And.intro (by decide +kernel) rfl))) ?_
  refine xa_cons 68 ((And.intro (by decide) (Or.inr (And.intro (by decide +kernel) rfl)))) ?_
  refine xa_cons 69 (trivial) ?_
  refine xa_cons 70 ((And.intro (xc_callS (index := 39) S xg_202 rfl xw_909 xw_1227 xw_911 ⟨by decide, by decide, by decide +kernel⟩ rfl (And.intro (by decide +kernel) rfl)) (by decide +kernel))) ?_
  refine xa_cons 71 ((And.intro (by decide) (And.intro (by decide +kernel) rfl))) ?_
  refine xa_cons 72 ((And.intro hr (by decide +kernel))) ?_
  exact xa_nil
def xrp_297 : Nat → Nat := fun k => ([0, 1, 4, 5, 6, 7, 10, 11, 14, 15] : List Nat).getD k 0
set_option maxRecDepth 20000 in
set_option maxHeartbeats 4000000 in
theorem xz_297 {l : Launch} {D : va_G} {en : XE} : x_Ok xT l D xcl en xrn (xG en) 297 xc_297 := by
  refine ⟨prog_9_method_4_code, (some .boolean), xBIG, xrp_297, by decide +kernel, rfl, rfl, ?_⟩
  intro p e R s m args below meth c s₁ A Q pc i f1 f2 B hml hA hg hi
  obtain ⟨hx, hb, hr, hown, hlocks, hin, htsB, S⟩ := xb_all (C := "ExpressHouse$Reals") B hml rfl rfl
  obtain ⟨hgN, hgZ, hgS, hgS2⟩ := xG_all hg
  refine xa_at (i := i) (pc := pc) ?_ hi
  refine xa_cons 0 ((And.intro (by decide) (Or.inl (Exists.intro (0) (And.intro rfl (And.intro (by decide +kernel) rfl)))))) ?_
  refine xa_cons 1 (xc_ldc2 (own := "ExpressHouse$Reals") (index := 9) (b := 9223372036854775807) hx hb hown (htsB _ xw_1191) (And.intro (by decide +kernel) rfl) ⟨rfl, rfl⟩) ?_
  refine xa_cons 2 ((And.intro (by decide) (And.intro (by decide +kernel) rfl))) ?_
  refine xa_cons 3 (xc_lconst hx hb (z := 0) (And.intro (by decide +kernel) rfl) ⟨rfl, rfl⟩) ?_
  refine xa_cons 4 ((And.intro (by decide +kernel) rfl)) ?_
  refine xa_cons 5 ((And.intro (by decide) (Exists.intro (7) (And.intro (by decide +kernel) (And.intro (by decide +kernel) rfl))))) ?_
  refine xa_cons 6 (xc_iconst hx hb (z := 1) (b := 1) (And.intro (by decide +kernel) rfl) (by decide +kernel) ⟨rfl, rfl⟩) ?_
  refine xa_cons 7 ((Exists.intro (4) (And.intro (by decide +kernel) (by decide +kernel)))) ?_
  refine xa_cons 8 (xc_iconst hx hb (z := 0) (b := 0) (And.intro (by decide +kernel) rfl) (by decide +kernel) ⟨rfl, rfl⟩) ?_
  refine xa_cons 9 ((And.intro hr (by decide +kernel))) ?_
  exact xa_nil
def xrp_298 : Nat → Nat := fun k => ([0, 1, 4, 7, 10, 13, 14, 17, 18, 19, 22, 25, 26, 29, 30, 33, 34, 35] : List Nat).getD k 0
set_option maxRecDepth 20000 in
set_option maxHeartbeats 4000000 in
theorem xz_298 {l : Launch} {D : va_G} {en : XE} : x_Ok xT l D xcl en xrn (xG en) 298 xc_298 := by
  refine ⟨prog_9_method_16_code, (some .long), xBIG, xrp_298, by decide +kernel, rfl, rfl, ?_⟩
  intro p e R s m args below meth c s₁ A Q pc i f1 f2 B hml hA hg hi
  obtain ⟨hx, hb, hr, hown, hlocks, hin, htsB, S⟩ := xb_all (C := "ExpressHouse$Reals") B hml rfl rfl
  obtain ⟨hgN, hgZ, hgS, hgS2⟩ := xG_all hg
  refine xa_at (i := i) (pc := pc) ?_ hi
  refine xa_cons 0 ((And.intro (by decide) (Or.inl (Exists.intro (0) (And.intro rfl (And.intro (by decide +kernel) rfl)))))) ?_
  refine xa_cons 1 ((And.intro (xc_callS (index := 13) S xg_204 rfl xw_909 xw_1285 xw_915 ⟨by decide, by decide, by decide +kernel⟩ rfl (And.intro (by decide +kernel) rfl)) (by decide +kernel))) ?_
  refine xa_cons 2 ((And.intro (by decide) (Exists.intro (9) (And.intro (by decide +kernel) (And.intro (by decide +kernel) rfl))))) ?_
  refine xa_cons 3 (xc_ldc2 (own := "ExpressHouse$Reals") (index := 17) (b := 9221120237041090560) hx hb hown (htsB _ xw_1286) (And.intro (by decide +kernel) rfl) ⟨rfl, rfl⟩) ?_
  refine xa_cons 4 ((Exists.intro (25) (And.intro (by decide +kernel) (by decide +kernel)))) ?_
  refine xa_cons 5 ((And.intro (by decide) (Or.inl (Exists.intro (0) (And.intro rfl (And.intro (by decide +kernel) rfl)))))) ?_
  refine xa_cons 6 (xc_ldc2 (own := "ExpressHouse$Reals") (index := 9) (b := 9223372036854775807) hx hb hown (htsB _ xw_1191) (And.intro (by decide +kernel) rfl) ⟨rfl, rfl⟩) ?_
  refine xa_cons 7 ((And.intro (by decide) (And.intro (by decide +kernel) rfl))) ?_
  refine xa_cons 8 ((And.intro (by decide) (Or.inl (Exists.intro (2) (And.intro rfl (And.intro (by decide +kernel) rfl)))))) ?_
  refine xa_cons 9 ((And.intro (xc_callS (index := 13) S xg_204 rfl xw_909 xw_1285 xw_915 ⟨by decide, by decide, by decide +kernel⟩ rfl (And.intro (by decide +kernel) rfl)) (by decide +kernel))) ?_
  refine xa_cons 10 ((And.intro (by decide) (Exists.intro (7) (And.intro (by decide +kernel) (And.intro (by decide +kernel) rfl))))) ?_
  refine xa_cons 11 (xc_lconst hx hb (z := 0) (And.intro (by decide +kernel) rfl) ⟨rfl, rfl⟩) ?_
  refine xa_cons 12 ((Exists.intro (8) (And.intro (by decide +kernel) (by decide +kernel)))) ?_
  refine xa_cons 13 ((And.intro (by decide) (Or.inl (Exists.intro (2) (And.intro rfl (And.intro (by decide +kernel) rfl)))))) ?_
  refine xa_cons 14 (xc_ldc2 (own := "ExpressHouse$Reals") (index := 31) (b := 9223372036854775808) hx hb hown (htsB _ xw_1188) (And.intro (by decide +kernel) rfl) ⟨rfl, rfl⟩) ?_
  refine xa_cons 15 ((And.intro (by decide) (And.intro (by decide +kernel) rfl))) ?_
  refine xa_cons 16 ((And.intro (by decide) (And.intro (by decide +kernel) rfl))) ?_
  refine xa_cons 17 ((And.intro hr (by decide +kernel))) ?_
  exact xa_nil
def xrp_299 : Nat → Nat := fun k => ([0, 1, 4, 7, 8, 11, 14, 17, 18, 19, 22, 25, 26, 29, 32, 34, 37, 38, 39, 40, 43, 44, 45, 46, 47, 48, 51, 52, 55, 56, 59, 60, 63, 64, 66, 68, 70, 73, 74, 77, 78, 81, 82, 85, 86] : List Nat).getD k 0
set_option maxRecDepth 20000 in
set_option maxHeartbeats 4000000 in
theorem xz_299 {l : Launch} {D : va_G} {en : XE} : x_Ok xT l D xcl en xrn (xG en) 299 xc_299 := by
  refine ⟨prog_9_method_18_code, (some .long), xBIG, xrp_299, by decide +kernel, rfl, rfl, ?_⟩
  intro p e R s m args below meth c s₁ A Q pc i f1 f2 B hml hA hg hi
  obtain ⟨hx, hb, hr, hown, hlocks, hin, htsB, S⟩ := xb_all (C := "ExpressHouse$Reals") B hml rfl rfl
  obtain ⟨hgN, hgZ, hgS, hgS2⟩ := xG_all hg
  refine xa_at (i := i) (pc := pc) ?_ hi
  refine xa_cons 0 ((And.intro (by decide) (Or.inl (Exists.intro (0) (And.intro rfl (And.intro (by decide +kernel) rfl)))))) ?_
  refine xa_cons 1 ((And.intro (xc_callS (index := 13) S xg_204 rfl xw_909 xw_1285 xw_915 ⟨by decide, by decide, by decide +kernel⟩ rfl (And.intro (by decide +kernel) rfl)) (by decide +kernel))) ?_
  refine xa_cons 2 ((And.intro (by decide) (Exists.intro (10) (And.intro (by decide +kernel) (And.intro (by decide +kernel) rfl))))) ?_
  refine xa_cons 3 ((And.intro (by decide) (Or.inl (Exists.intro (2) (And.intro rfl (And.intro (by decide +kernel) rfl)))))) ?_
  refine xa_cons 4 ((And.intro (xc_callS (index := 13) S xg_204 rfl xw_909 xw_1285 xw_915 ⟨by decide, by decide, by decide +kernel⟩ rfl (And.intro (by decide +kernel) rfl)) (by decide +kernel))) ?_
  refine xa_cons 5 ((And.intro (by decide) (Exists.intro (7) (And.intro (by decide +kernel) (And.intro (by decide +kernel) rfl))))) ?_
  refine xa_cons 6 (xc_ldc2 (own := "ExpressHouse$Reals") (index := 17) (b := 9221120237041090560) hx hb hown (htsB _ xw_1286) (And.intro (by decide +kernel) rfl) ⟨rfl, rfl⟩) ?_
  refine xa_cons 7 ((And.intro hr (by decide +kernel))) ?_
  refine xa_cons 8 ((And.intro (by decide) (Or.inl (Exists.intro (0) (And.intro rfl (And.intro (by decide +kernel) rfl)))))) ?_
  refine xa_cons 9 ((And.intro (xc_callS (index := 60) S xg_297 rfl xw_909 xw_1289 xw_1290 ⟨by decide, by decide, by decide +kernel⟩ rfl (And.intro (by decide +kernel) rfl)) (by decide +kernel))) ?_
  refine xa_cons 10 ((And.intro (by decide) (Exists.intro (25) (And.intro (by decide +kernel) (And.intro (by decide +kernel) rfl))))) ?_
  refine xa_cons 11 ((And.intro (by decide) (Or.inl (Exists.intro (2) (And.intro rfl (And.intro (by decide +kernel) rfl)))))) ?_
  refine xa_cons 12 ((And.intro (xc_callS (index := 60) S xg_297 rfl xw_909 xw_1289 xw_1290 ⟨by decide, by decide, by decide +kernel⟩ rfl (And.intro (by decide +kernel) rfl)) (by decide +kernel))) ?_
  refine xa_cons 13 ((And.intro (by decide) (Exists.intro (18) (And.intro (by decide +kernel) (And.intro (by decide +kernel) rfl))))) ?_
  refine xa_cons 14 ((And.intro (by decide) (Or.inr (And.intro (by decide +kernel) rfl)))) ?_
  refine xa_cons 15 ((And.intro (by decide) (Exists.intro (9) (And.intro (by decide +kernel) (And.intro (by decide +kernel) rfl))))) ?_
  refine xa_cons 16 ((And.intro (by decide) (Or.inl (Exists.intro (0) (And.intro rfl (And.intro (by decide +kernel) rfl)))))) ?_
  refine xa_cons 17 ((And.intro (by decide) (Or.inl (Exists.intro (2) (And.intro rfl (And.intro (by decide +kernel) rfl)))))) ?_
  refine xa_cons 18 ((And.intro (by decide) (And.intro (by decide +kernel) rfl))) ?_
  refine xa_cons 19 ((Exists.intro (6) (And.intro (by decide +kernel) (by decide +kernel)))) ?_
  refine xa_cons 20 ((And.intro (by decide) (Or.inl (Exists.intro (0) (And.intro rfl (And.intro (by decide +kernel) rfl)))))) ?_
  refine xa_cons 21 ((And.intro (by decide) (Or.inl (Exists.intro (2) (And.intro rfl (And.intro (by decide +kernel) rfl)))))) ?_
  refine xa_cons 22 ((And.intro (by decide) (And.intro (by decide +kernel) rfl))) ?_
  refine xa_cons 23 ((And.intro hr (by decide +kernel))) ?_
  refine xa_cons 24 ((And.intro (by decide) (Or.inl (Exists.intro (0) (And.intro rfl (And.intro (by decide +kernel) rfl)))))) ?_
  refine xa_cons 25 ((And.intro (xc_callS (index := 56) S xg_300 rfl xw_909 xw_1311 xw_1301 ⟨by decide, by decide, by decide +kernel⟩ rfl (And.intro (by decide +kernel) rfl)) (by decide +kernel))) ?_
  refine xa_cons 26 ((And.intro (by decide) (Or.inl (Exists.intro (2) (And.intro rfl (And.intro (by decide +kernel) rfl)))))) ?_
  refine xa_cons 27 ((And.intro (xc_callS (index := 56) S xg_300 rfl xw_909 xw_1311 xw_1301 ⟨by decide, by decide, by decide +kernel⟩ rfl (And.intro (by decide +kernel) rfl)) (by decide +kernel))) ?_
  refine xa_cons 28 (trivial) ?_
  refine xa_cons 29 ((And.intro (by decide) (Exists.intro (7) (And.intro (by decide +kernel) (And.intro (by decide +kernel) rfl))))) ?_
  refine xa_cons 30 (xc_iconst hx hb (z := 1) (b := 1) (And.intro (by decide +kernel) rfl) (by decide +kernel) ⟨rfl, rfl⟩) ?_
  refine xa_cons 31 ((Exists.intro (4) (And.intro (by decide +kernel) (by decide +kernel)))) ?_
  refine xa_cons 32 (xc_iconst hx hb (z := 0) (b := 0) (And.intro (by decide +kernel) rfl) (by decide +kernel) ⟨rfl, rfl⟩) ?_
  refine xa_cons 33 ((And.intro (Or.inl rfl) (Or.inr (And.intro (by decide +kernel) rfl)))) ?_
  refine xa_cons 34 ((And.intro (by decide) (Or.inr (And.intro (by decide +kernel) rfl)))) ?_
  refine xa_cons 35 ((And.intro (by decide) (Or.inr (And.intro (by decide +kernel) rfl)))) ?_
  refine xa_cons 36 ((And.intro (by decide) (Exists.intro (7) (And.intro (by decide +kernel) (And.intro (by decide +kernel) rfl))))) ?_
  refine xa_cons 37 (xc_iconst hx hb (z := 1) (b := 1) (And.intro (by decide +kernel) rfl) (by decide +kernel) ⟨rfl, rfl⟩) ?_
  refine xa_cons 38 ((Exists.intro (4) (And.intro (by decide +kernel) (by decide +kernel)))) ?_
  refine xa_cons 39 (xc_iconst hx hb (z := 0) (b := 0) (And.intro (by decide +kernel) rfl) (by decide +kernel) ⟨rfl, rfl⟩) ?_
  refine xa_cons 40 ((And.intro (by decide) (Exists.intro (7) (And.intro (by decide +kernel) (And.intro (by decide +kernel) rfl))))) ?_
  refine xa_cons 41 ((And.intro (by decide) (Or.inl (Exists.intro (0) (And.intro rfl (And.intro (by decide +kernel) rfl)))))) ?_
  refine xa_cons 42 ((Exists.intro (4) (And.intro (by decide +kernel) (by decide +kernel)))) ?_
  refine xa_cons 43 ((And.intro (by decide) (Or.inl (Exists.intro (2) (And.intro rfl (And.intro (by decide +kernel) rfl)))))) ?_
  refine xa_cons 44 ((And.intro hr (by decide +kernel))) ?_
  exact xa_nil
def xrp_300 : Nat → Nat := fun k => ([0, 1, 3, 4, 5, 8, 9, 10, 11, 14, 15, 16, 17, 20, 22, 23, 26, 29, 32, 33, 34, 37, 38, 39, 40, 42, 45, 46, 49, 50, 53, 54, 57, 58, 59, 60, 61, 64, 65, 67, 69, 72, 75, 78, 81, 83, 85, 88, 90, 91, 94, 96, 98, 100, 103, 105, 106, 107, 108, 111, 112, 114, 115, 116, 118, 120, 121, 123, 125, 126, 127, 129, 132, 133, 134, 135, 138, 139, 140, 143, 144] : List Nat).getD k 0
set_option maxRecDepth 20000 in
set_option maxHeartbeats 4000000 in
theorem xz_300 {l : Launch} {D : va_G} {en : XE} : x_Ok xT l D xcl en xrn (xG en) 300 xc_300 := by
  refine ⟨prog_9_method_6_code, (some .double), xBIG, xrp_300, by decide +kernel, rfl, rfl, ?_⟩
  intro p e R s m args below meth c s₁ A Q pc i f1 f2 B hml hA hg hi
  obtain ⟨hx, hb, hr, hown, hlocks, hin, htsB, S⟩ := xb_all (C := "ExpressHouse$Reals") B hml rfl rfl
  obtain ⟨hgN, hgZ, hgS, hgS2⟩ := xG_all hg
  refine xa_at (i := i) (pc := pc) ?_ hi
  refine xa_cons 0 ((And.intro (by decide) (Or.inl (Exists.intro (0) (And.intro rfl (And.intro (by decide +kernel) rfl)))))) ?_
  refine xa_cons 1 (xc_bipush hx hb (z := 52) (b := 52) (And.intro (by decide +kernel) rfl) (by decide +kernel) ⟨rfl, rfl⟩) ?_
  refine xa_cons 2 (trivial) ?_
  refine xa_cons 3 ((And.intro (by decide +kernel) rfl)) ?_
  refine xa_cons 4 (xc_sipush hx hb (z := 2047) (b := 2047) (And.intro (by decide +kernel) rfl) (by decide +kernel) ⟨rfl, rfl⟩) ?_
  refine xa_cons 5 ((And.intro (by decide) (And.intro (by decide +kernel) rfl))) ?_
  refine xa_cons 6 ((And.intro (Or.inl rfl) (Or.inl (Exists.intro (2) (And.intro rfl (And.intro (by decide +kernel) rfl)))))) ?_
  refine xa_cons 7 ((And.intro (by decide) (Or.inl (Exists.intro (0) (And.intro rfl (And.intro (by decide +kernel) rfl)))))) ?_
  refine xa_cons 8 (xc_ldc2 (own := "ExpressHouse$Reals") (index := 19) (b := 4503599627370495) hx hb hown (htsB _ xw_1190) (And.intro (by decide +kernel) rfl) ⟨rfl, rfl⟩) ?_
  refine xa_cons 9 ((And.intro (by decide) (And.intro (by decide +kernel) rfl))) ?_
  refine xa_cons 10 (trivial) ?_
  refine xa_cons 11 ((And.intro (Or.inr rfl) (Or.inl (Exists.intro (3) (And.intro rfl (And.intro (by decide +kernel) rfl)))))) ?_
  refine xa_cons 12 (xc_sipush hx hb (z := -1074) (b := 4294966222) (And.intro (by decide +kernel) rfl) (by decide +kernel) ⟨rfl, rfl⟩) ?_
  refine xa_cons 13 ((And.intro (Or.inl rfl) (Or.inr (And.intro (by decide +kernel) rfl)))) ?_
  refine xa_cons 14 ((And.intro (by decide) (Or.inl (Exists.intro (2) (And.intro rfl (And.intro (by decide +kernel) rfl)))))) ?_
  refine xa_cons 15 (xc_sipush hx hb (z := 2047) (b := 2047) (And.intro (by decide +kernel) rfl) (by decide +kernel) ⟨rfl, rfl⟩) ?_
  refine xa_cons 16 ((And.intro (by decide) (Exists.intro (19) (And.intro (by decide +kernel) (And.intro (by decide +kernel) rfl))))) ?_
  refine xa_cons 17 (trivial) ?_
  refine xa_cons 18 ((And.intro (Or.inr rfl) (Or.inl (Exists.intro (3) (And.intro rfl (And.intro (by decide +kernel) rfl)))))) ?_
  refine xa_cons 19 ((And.intro (by decide) (Or.inl (Exists.intro (3) (And.intro rfl (And.intro (by decide +kernel) rfl)))))) ?_
  refine xa_cons 20 (trivial) ?_
  refine xa_cons 21 (trivial) ?_
  refine xa_cons 22 ((And.intro (Or.inr rfl) (Or.inl (Exists.intro (3) (And.intro rfl (And.intro (by decide +kernel) rfl)))))) ?_
  refine xa_cons 23 (xc_iconst hx hb (z := 0) (b := 0) (And.intro (by decide +kernel) rfl) (by decide +kernel) ⟨rfl, rfl⟩) ?_
  refine xa_cons 24 ((And.intro (Or.inl rfl) (Or.inr (And.intro (by decide +kernel) rfl)))) ?_
  refine xa_cons 25 ((Exists.intro (25) (And.intro (by decide +kernel) (by decide +kernel)))) ?_
  refine xa_cons 26 ((And.intro (by decide) (Or.inl (Exists.intro (2) (And.intro rfl (And.intro (by decide +kernel) rfl)))))) ?_
  refine xa_cons 27 ((And.intro (by decide) (Exists.intro (21) (And.intro (by decide +kernel) (And.intro (by decide +kernel) rfl))))) ?_
  refine xa_cons 28 ((And.intro (by decide) (Or.inl (Exists.intro (0) (And.intro rfl (And.intro (by decide +kernel) rfl)))))) ?_
  refine xa_cons 29 (xc_ldc2 (own := "ExpressHouse$Reals") (index := 19) (b := 4503599627370495) hx hb hown (htsB _ xw_1190) (And.intro (by decide +kernel) rfl) ⟨rfl, rfl⟩) ?_
  refine xa_cons 30 ((And.intro (by decide) (And.intro (by decide +kernel) rfl))) ?_
  refine xa_cons 31 (xc_ldc2 (own := "ExpressHouse$Reals") (index := 25) (b := 4503599627370496) hx hb hown (htsB _ xw_1192) (And.intro (by decide +kernel) rfl) ⟨rfl, rfl⟩) ?_
  refine xa_cons 32 ((And.intro (by decide) (And.intro (by decide +kernel) rfl))) ?_
  refine xa_cons 33 (trivial) ?_
  refine xa_cons 34 ((And.intro (Or.inr rfl) (Or.inl (Exists.intro (3) (And.intro rfl (And.intro (by decide +kernel) rfl)))))) ?_
  refine xa_cons 35 ((And.intro (by decide) (Or.inl (Exists.intro (2) (And.intro rfl (And.intro (by decide +kernel) rfl)))))) ?_
  refine xa_cons 36 (xc_sipush hx hb (z := 1075) (b := 1075) (And.intro (by decide +kernel) rfl) (by decide +kernel) ⟨rfl, rfl⟩) ?_
  refine xa_cons 37 ((And.intro (by decide) (And.intro (by decide +kernel) rfl))) ?_
  refine xa_cons 38 ((And.intro (Or.inl rfl) (Or.inr (And.intro (by decide +kernel) rfl)))) ?_
  refine xa_cons 39 ((And.intro (by decide) (Or.inr (And.intro (by decide +kernel) rfl)))) ?_
  refine xa_cons 40 ((And.intro (by decide) (Exists.intro (9) (And.intro (by decide +kernel) (And.intro (by decide +kernel) rfl))))) ?_
  refine xa_cons 41 (trivial) ?_
  refine xa_cons 42 ((Exists.intro (6) (And.intro (by decide +kernel) (by decide +kernel)))) ?_
  refine xa_cons 43 (trivial) ?_
  refine xa_cons 44 ((And.intro (Or.inr rfl) (Or.inr (And.intro (by decide +kernel) rfl)))) ?_
  refine xa_cons 45 ((And.intro (by decide) (Or.inr (And.intro (by decide +kernel) rfl)))) ?_
  refine xa_cons 46 ((And.intro (by decide) (Exists.intro (9) (And.intro (by decide +kernel) (And.intro (by decide +kernel) rfl))))) ?_
  refine xa_cons 47 ((And.intro (by decide) (Or.inr (And.intro (by decide +kernel) rfl)))) ?_
  refine xa_cons 48 ((And.intro (by decide +kernel) rfl)) ?_
  refine xa_cons 49 ((Exists.intro (5) (And.intro (by decide +kernel) (by decide +kernel)))) ?_
  refine xa_cons 50 ((And.intro (by decide) (Or.inr (And.intro (by decide +kernel) rfl)))) ?_
  refine xa_cons 51 ((And.intro (Or.inl rfl) (Or.inr (And.intro (by decide +kernel) rfl)))) ?_
  refine xa_cons 52 ((And.intro (by decide) (Or.inr (And.intro (by decide +kernel) rfl)))) ?_
  refine xa_cons 53 ((And.intro (by decide) (Exists.intro (32) (And.intro (by decide +kernel) (And.intro (by decide +kernel) rfl))))) ?_
  refine xa_cons 54 ((And.intro (by decide) (Or.inr (And.intro (by decide +kernel) rfl)))) ?_
  refine xa_cons 55 (xc_iconst hx hb (z := 1) (b := 1) (And.intro (by decide +kernel) rfl) (by decide +kernel) ⟨rfl, rfl⟩) ?_
  refine xa_cons 56 ((And.intro (by decide) (And.intro (by decide +kernel) rfl))) ?_
  refine xa_cons 57 (xc_iconst hx hb (z := 1) (b := 1) (And.intro (by decide +kernel) rfl) (by decide +kernel) ⟨rfl, rfl⟩) ?_
  refine xa_cons 58 ((And.intro (by decide) (Exists.intro (8) (And.intro (by decide +kernel) (And.intro (by decide +kernel) rfl))))) ?_
  refine xa_cons 59 ((And.intro (by decide) (Or.inl (Exists.intro (3) (And.intro rfl (And.intro (by decide +kernel) rfl)))))) ?_
  refine xa_cons 60 ((And.intro (by decide) (Or.inr (And.intro (by decide +kernel) rfl)))) ?_
  refine xa_cons 61 (trivial) ?_
  refine xa_cons 62 ((And.intro (Or.inr rfl) (Or.inl (Exists.intro (3) (And.intro rfl (And.intro (by decide +kernel) rfl)))))) ?_
  refine xa_cons 63 ((And.intro (by decide) (Or.inr (And.intro (by decide +kernel) rfl)))) ?_
  refine xa_cons 64 ((And.intro (by decide) (Or.inr (And.intro (by decide +kernel) rfl)))) ?_
  refine xa_cons 65 (trivial) ?_
  refine xa_cons 66 ((And.intro (Or.inr rfl) (Or.inr (And.intro (by decide +kernel) rfl)))) ?_
  refine xa_cons 67 ((And.intro (by decide) (Or.inr (And.intro (by decide +kernel) rfl)))) ?_
  refine xa_cons 68 (xc_iconst hx hb (z := 1) (b := 1) (And.intro (by decide +kernel) rfl) (by decide +kernel) ⟨rfl, rfl⟩) ?_
  refine xa_cons 69 ((And.intro (by decide) (And.intro (by decide +kernel) rfl))) ?_
  refine xa_cons 70 ((And.intro (Or.inl rfl) (Or.inr (And.intro (by decide +kernel) rfl)))) ?_
  refine xa_cons 71 ((Exists.intro (-31) (And.intro (by decide +kernel) (by decide +kernel)))) ?_
  refine xa_cons 72 ((And.intro (by decide) (Or.inl (Exists.intro (0) (And.intro rfl (And.intro (by decide +kernel) rfl)))))) ?_
  refine xa_cons 73 (xc_lconst hx hb (z := 0) (And.intro (by decide +kernel) rfl) ⟨rfl, rfl⟩) ?_
  refine xa_cons 74 ((And.intro (by decide +kernel) rfl)) ?_
  refine xa_cons 75 ((And.intro (by decide) (Exists.intro (8) (And.intro (by decide +kernel) (And.intro (by decide +kernel) rfl))))) ?_
  refine xa_cons 76 ((And.intro (by decide) (Or.inl (Exists.intro (3) (And.intro rfl (And.intro (by decide +kernel) rfl)))))) ?_
  refine xa_cons 77 (trivial) ?_
  refine xa_cons 78 ((Exists.intro (4) (And.intro (by decide +kernel) (by decide +kernel)))) ?_
  refine xa_cons 79 ((And.intro (by decide) (Or.inl (Exists.intro (3) (And.intro rfl (And.intro (by decide +kernel) rfl)))))) ?_
  refine xa_cons 80 ((And.intro hr (by decide +kernel))) ?_
  exact xa_nil
def xrp_301 : Nat → Nat := fun k => ([0, 1, 4, 5, 6, 9, 10, 13, 15, 18, 19, 22, 23, 24] : List Nat).getD k 0
set_option maxRecDepth 20000 in
set_option maxHeartbeats 4000000 in
theorem xz_301 {l : Launch} {D : va_G} {en : XE} : x_Ok xT l D xcl en xrn (xG en) 301 xc_301 := by
  refine ⟨prog_10_method_21_code, (some .int), xBIG, xrp_301, by decide +kernel, rfl, rfl, ?_⟩
  intro p e R s m args below meth c s₁ A Q pc i f1 f2 B hml hA hg hi
  obtain ⟨hx, hb, hr, hown, hlocks, hin, htsB, S⟩ := xb_all (C := "ExpressHouse$Schema") B hml rfl rfl
  obtain ⟨hgN, hgZ, hgS, hgS2⟩ := xG_all hg
  refine xa_at (i := i) (pc := pc) ?_ hi
  refine xa_cons 0 ((And.intro (by decide) (Or.inl (Exists.intro (1) (And.intro rfl (And.intro (by decide +kernel) rfl)))))) ?_
  refine xa_cons 1 ((And.intro (by decide) (Exists.intro (12) (And.intro (by decide +kernel) (And.intro (by decide +kernel) rfl))))) ?_
  refine xa_cons 2 ((And.intro (by decide) (Or.inl (Exists.intro (1) (And.intro rfl (And.intro (by decide +kernel) rfl)))))) ?_
  refine xa_cons 3 ((And.intro (by decide) (Or.inl (Exists.intro (0) (And.intro rfl (And.intro (by decide +kernel) rfl)))))) ?_
  refine xa_cons 4 (xc_getf (A := A) (own := "ExpressHouse$Schema") (index := 32) hx hb htsB xC_3 hown rfl (by decide) xw_222 (And.intro (by decide +kernel) rfl)) ?_
  refine xa_cons 5 ((And.intro (by decide +kernel) rfl)) ?_
  refine xa_cons 6 ((And.intro (by decide) (Exists.intro (8) (And.intro (by decide +kernel) (And.intro (by decide +kernel) rfl))))) ?_
  refine xa_cons 7 (xc_bipush hx hb (z := -3) (b := 4294967293) (And.intro (by decide +kernel) rfl) (by decide +kernel) ⟨rfl, rfl⟩) ?_
  refine xa_cons 8 ((Exists.intro (9) (And.intro (by decide +kernel) (by decide +kernel)))) ?_
  refine xa_cons 9 ((And.intro (by decide) (Or.inl (Exists.intro (0) (And.intro rfl (And.intro (by decide +kernel) rfl)))))) ?_
  refine xa_cons 10 (xc_getf (A := A) (own := "ExpressHouse$Schema") (index := 32) hx hb htsB xC_3 hown rfl (by decide) xw_222 (And.intro (by decide +kernel) rfl)) ?_
  refine xa_cons 11 ((And.intro (by decide) (Or.inl (Exists.intro (1) (And.intro rfl (And.intro (by decide +kernel) rfl)))))) ?_
  refine xa_cons 12 ((And.intro (by decide) (And.intro (by decide +kernel) rfl))) ?_
  refine xa_cons 13 ((And.intro hr (by decide +kernel))) ?_
  exact xa_nil
def xrp_302 : Nat → Nat := fun k => ([0, 1, 4, 5, 8, 9, 12, 13, 16, 17] : List Nat).getD k 0
set_option maxRecDepth 20000 in
set_option maxHeartbeats 4000000 in
theorem xz_302 {l : Launch} {D : va_G} {en : XE} : x_Ok xT l D xcl en xrn (xG en) 302 xc_302 := by
  refine ⟨prog_9_method_3_code, (some .boolean), xBIG, xrp_302, by decide +kernel, rfl, rfl, ?_⟩
  intro p e R s m args below meth c s₁ A Q pc i f1 f2 B hml hA hg hi
  obtain ⟨hx, hb, hr, hown, hlocks, hin, htsB, S⟩ := xb_all (C := "ExpressHouse$Reals") B hml rfl rfl
  obtain ⟨hgN, hgZ, hgS, hgS2⟩ := xG_all hg
  refine xa_at (i := i) (pc := pc) ?_ hi
  refine xa_cons 0 ((And.intro (by decide) (Or.inl (Exists.intro (0) (And.intro rfl (And.intro (by decide +kernel) rfl)))))) ?_
  refine xa_cons 1 (xc_ldc2 (own := "ExpressHouse$Reals") (index := 9) (b := 9223372036854775807) hx hb hown (htsB _ xw_1191) (And.intro (by decide +kernel) rfl) ⟨rfl, rfl⟩) ?_
  refine xa_cons 2 ((And.intro (by decide) (And.intro (by decide +kernel) rfl))) ?_
  refine xa_cons 3 (xc_ldc2 (own := "ExpressHouse$Reals") (index := 11) (b := 9218868437227405312) hx hb hown (htsB _ xw_1189) (And.intro (by decide +kernel) rfl) ⟨rfl, rfl⟩) ?_
  refine xa_cons 4 ((And.intro (by decide +kernel) rfl)) ?_
  refine xa_cons 5 ((And.intro (by decide) (Exists.intro (7) (And.intro (by decide +kernel) (And.intro (by decide +kernel) rfl))))) ?_
  refine xa_cons 6 (xc_iconst hx hb (z := 1) (b := 1) (And.intro (by decide +kernel) rfl) (by decide +kernel) ⟨rfl, rfl⟩) ?_
  refine xa_cons 7 ((Exists.intro (4) (And.intro (by decide +kernel) (by decide +kernel)))) ?_
  refine xa_cons 8 (xc_iconst hx hb (z := 0) (b := 0) (And.intro (by decide +kernel) rfl) (by decide +kernel) ⟨rfl, rfl⟩) ?_
  refine xa_cons 9 ((And.intro hr (by decide +kernel))) ?_
  exact xa_nil
end AMM19
