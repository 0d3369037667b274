section AMM12
def xrp_184 : Nat → Nat := fun k => ([0, 2, 4, 5, 6, 7, 8, 10, 11, 13, 14, 15, 16, 18, 20, 23, 24, 25, 27, 28, 31, 33, 34, 35, 37, 38, 39, 40, 43, 45, 47, 50, 52, 55, 56, 59, 61, 64, 65, 66, 69, 70, 73, 74, 76, 78, 81, 83, 86, 87, 88, 91, 93, 96, 99, 101, 104, 106, 109, 110, 113, 114, 116, 119, 122, 124, 127, 128, 129, 131, 132, 133, 134, 137, 138, 141, 142, 144, 146, 149, 150, 151, 153, 155, 158, 160, 162, 165, 166, 169, 171, 172, 173, 176, 177, 179, 181, 184, 185, 188, 190, 191, 192, 194, 197, 200, 203, 204, 205, 206, 209, 210, 211, 212, 213, 216, 219, 220, 222, 225, 228, 229, 230, 231, 232, 233, 234, 236, 239, 242, 245, 246, 249, 252] : List Nat).getD k 0
set_option maxRecDepth 20000 in
set_option maxHeartbeats 4000000 in
theorem xz_184 {l : Launch} {D : va_G} {en : XE} : x_Ok xT l D xcl en xrn (xG en) 184 xc_184 := by
  refine ⟨prog_6_method_15_code, none, xBIG, xrp_184, by decide +kernel, rfl, rfl, ?_⟩
  intro p e R s m args below meth c s₁ A Q pc i f1 f2 B hml hA hg hi
  obtain ⟨hx, hb, hr, hown, hlocks, hin, htsB, S⟩ := xb_all (C := "ExpressHouse$Machine") B hml rfl rfl
  obtain ⟨hgN, hgZ, hgS, hgS2⟩ := xG_all hg
  refine xa_at (i := i) (pc := pc) ?_ hi
  refine xa_cons 0 (xc_bipush hx hb (z := 24) (b := 24) (And.intro (by decide +kernel) rfl) (by decide +kernel) ⟨rfl, rfl⟩) ?_
  refine xa_cons 1 (xc_newa hx hb hA (htsB _ xw_214) (Or.inr ⟨rfl, rfl⟩) (And.intro (by decide +kernel) rfl)) ?_
  refine xa_cons 2 ((And.intro (Or.inr rfl) (Or.inl (Exists.intro (2) (And.intro rfl (And.intro (by decide +kernel) rfl)))))) ?_
  refine xa_cons 3 (xc_iconst hx hb (z := 0) (b := 0) (And.intro (by decide +kernel) rfl) (by decide +kernel) ⟨rfl, rfl⟩) ?_
  refine xa_cons 4 ((And.intro (Or.inl rfl) (Or.inl (Exists.intro (3) (And.intro rfl (And.intro (by decide +kernel) rfl)))))) ?_
  refine xa_cons 5 (xc_iconst hx hb (z := 0) (b := 0) (And.intro (by decide +kernel) rfl) (by decide +kernel) ⟨rfl, rfl⟩) ?_
  refine xa_cons 6 ((And.intro (Or.inl rfl) (Or.inr (And.intro (by decide +kernel) rfl)))) ?_
  refine xa_cons 7 (xc_iconst hx hb (z := 1) (b := 1) (And.intro (by decide +kernel) rfl) (by decide +kernel) ⟨rfl, rfl⟩) ?_
  refine xa_cons 8 ((And.intro (Or.inl rfl) (Or.inr (And.intro (by decide +kernel) rfl)))) ?_
  refine xa_cons 9 ((And.intro (by decide) (Or.inl (Exists.intro (1) (And.intro rfl (And.intro (by decide +kernel) rfl)))))) ?_
  refine xa_cons 10 (xc_iconst hx hb (z := 1) (b := 1) (And.intro (by decide +kernel) rfl) (by decide +kernel) ⟨rfl, rfl⟩) ?_
  refine xa_cons 11 ((And.intro (by decide) (And.intro (by decide +kernel) rfl))) ?_
  refine xa_cons 12 ((And.intro (Or.inl rfl) (Or.inr (And.intro (by decide +kernel) rfl)))) ?_
  refine xa_cons 13 ((And.intro (by decide) (Or.inr (And.intro (by decide +kernel) rfl)))) ?_
  refine xa_cons 14 ((And.intro (by decide) (Exists.intro (183) (And.intro (by decide +kernel) (And.intro (by decide +kernel) rfl))))) ?_
  refine xa_cons 15 ((And.intro (by decide) (Or.inl (Exists.intro (0) (And.intro rfl (And.intro (by decide +kernel) rfl)))))) ?_
  refine xa_cons 16 (xc_iconst hx hb (z := 2) (b := 2) (And.intro (by decide +kernel) rfl) (by decide +kernel) ⟨rfl, rfl⟩) ?_
  refine xa_cons 17 ((And.intro (by decide) (Or.inr (And.intro (by decide +kernel) rfl)))) ?_
  refine xa_cons 18 ((And.intro (by decide) (And.intro (by decide +kernel) rfl))) ?_
  refine xa_cons 19 ((And.intro (xc_callV (index := 216) (n := 1) (ci := 6) S xg_250 rfl xw_35 xw_1105 xw_1103 xw_1104 rfl rfl rfl ⟨by decide, by decide, by decide +kernel⟩ rfl (And.intro (by decide +kernel) rfl)) (by decide +kernel))) ?_
  refine xa_cons 20 ((And.intro (Or.inr rfl) (Or.inr (And.intro (by decide +kernel) rfl)))) ?_
  refine xa_cons 21 ((And.intro (by decide) (Or.inl (Exists.intro (0) (And.intro rfl (And.intro (by decide +kernel) rfl)))))) ?_
  refine xa_cons 22 (xc_iconst hx hb (z := 2) (b := 2) (And.intro (by decide +kernel) rfl) (by decide +kernel) ⟨rfl, rfl⟩) ?_
  refine xa_cons 23 ((And.intro (by decide) (Or.inr (And.intro (by decide +kernel) rfl)))) ?_
  refine xa_cons 24 ((And.intro (by decide) (And.intro (by decide +kernel) rfl))) ?_
  refine xa_cons 25 (xc_iconst hx hb (z := 1) (b := 1) (And.intro (by decide +kernel) rfl) (by decide +kernel) ⟨rfl, rfl⟩) ?_
  refine xa_cons 26 ((And.intro (by decide) (And.intro (by decide +kernel) rfl))) ?_
  refine xa_cons 27 ((And.intro (xc_callV (index := 216) (n := 1) (ci := 6) S xg_250 rfl xw_35 xw_1105 xw_1103 xw_1104 rfl rfl rfl ⟨by decide, by decide, by decide +kernel⟩ rfl (And.intro (by decide +kernel) rfl)) (by decide +kernel))) ?_
  refine xa_cons 28 ((And.intro (Or.inr rfl) (Or.inr (And.intro (by decide +kernel) rfl)))) ?_
  refine xa_cons 29 ((And.intro (by decide) (Or.inr (And.intro (by decide +kernel) rfl)))) ?_
  refine xa_cons 30 ((And.intro (by decide) (Exists.intro (26) (And.intro (by decide +kernel) (And.intro (by decide +kernel) rfl))))) ?_
  refine xa_cons 31 ((And.intro (by decide) (Or.inr (And.intro (by decide +kernel) rfl)))) ?_
  refine xa_cons 32 (xc_getf (A := A) (own := "ExpressHouse$Machine") (index := 188) hx hb htsB xC_10 hown rfl (by decide) xw_874 (And.intro (by decide +kernel) rfl)) ?_
  refine xa_cons 33 (xc_iconst hx hb (z := 1) (b := 1) (And.intro (by decide +kernel) rfl) (by decide +kernel) ⟨rfl, rfl⟩) ?_
  refine xa_cons 34 ((And.intro (by decide) (Exists.intro (17) (And.intro (by decide +kernel) (And.intro (by decide +kernel) rfl))))) ?_
  refine xa_cons 35 ((And.intro (by decide) (Or.inr (And.intro (by decide +kernel) rfl)))) ?_
  refine xa_cons 36 (xc_getf (A := A) (own := "ExpressHouse$Machine") (index := 197) hx hb htsB xC_10 hown rfl (by decide) xw_1096 (And.intro (by decide +kernel) rfl)) ?_
  refine xa_cons 37 (xc_lconst hx hb (z := 0) (And.intro (by decide +kernel) rfl) ⟨rfl, rfl⟩) ?_
  refine xa_cons 38 ((And.intro (by decide +kernel) rfl)) ?_
  refine xa_cons 39 ((And.intro (by decide) (Exists.intro (7) (And.intro (by decide +kernel) (And.intro (by decide +kernel) rfl))))) ?_
  refine xa_cons 40 (xc_iconst hx hb (z := 1) (b := 1) (And.intro (by decide +kernel) rfl) (by decide +kernel) ⟨rfl, rfl⟩) ?_
  refine xa_cons 41 ((Exists.intro (4) (And.intro (by decide +kernel) (by decide +kernel)))) ?_
  refine xa_cons 42 (xc_iconst hx hb (z := 0) (b := 0) (And.intro (by decide +kernel) rfl) (by decide +kernel) ⟨rfl, rfl⟩) ?_
  refine xa_cons 43 ((And.intro (Or.inl rfl) (Or.inr (And.intro (by decide +kernel) rfl)))) ?_
  refine xa_cons 44 ((And.intro (by decide) (Or.inr (And.intro (by decide +kernel) rfl)))) ?_
  refine xa_cons 45 ((And.intro (by decide) (Exists.intro (119) (And.intro (by decide +kernel) (And.intro (by decide +kernel) rfl))))) ?_
  refine xa_cons 46 ((And.intro (by decide) (Or.inr (And.intro (by decide +kernel) rfl)))) ?_
  refine xa_cons 47 (xc_getf (A := A) (own := "ExpressHouse$Machine") (index := 197) hx hb htsB xC_10 hown rfl (by decide) xw_1096 (And.intro (by decide +kernel) rfl)) ?_
  refine xa_cons 48 (xc_lconst hx hb (z := 0) (And.intro (by decide +kernel) rfl) ⟨rfl, rfl⟩) ?_
  refine xa_cons 49 ((And.intro (by decide +kernel) rfl)) ?_
  refine xa_cons 50 ((And.intro (by decide) (Exists.intro (109) (And.intro (by decide +kernel) (And.intro (by decide +kernel) rfl))))) ?_
  refine xa_cons 51 ((And.intro (by decide) (Or.inr (And.intro (by decide +kernel) rfl)))) ?_
  refine xa_cons 52 (xc_getf (A := A) (own := "ExpressHouse$Machine") (index := 188) hx hb htsB xC_10 hown rfl (by decide) xw_874 (And.intro (by decide +kernel) rfl)) ?_
  refine xa_cons 53 ((And.intro (by decide) (Exists.intro (45) (And.intro (by decide +kernel) (And.intro (by decide +kernel) rfl))))) ?_
  refine xa_cons 54 ((And.intro (by decide) (Or.inr (And.intro (by decide +kernel) rfl)))) ?_
  refine xa_cons 55 (xc_getf (A := A) (own := "ExpressHouse$Machine") (index := 188) hx hb htsB xC_10 hown rfl (by decide) xw_874 (And.intro (by decide +kernel) rfl)) ?_
  refine xa_cons 56 (xc_bipush hx hb (z := 6) (b := 6) (And.intro (by decide +kernel) rfl) (by decide +kernel) ⟨rfl, rfl⟩) ?_
  refine xa_cons 57 ((And.intro (by decide) (Exists.intro (35) (And.intro (by decide +kernel) (And.intro (by decide +kernel) rfl))))) ?_
  refine xa_cons 58 ((And.intro (by decide) (Or.inl (Exists.intro (3) (And.intro rfl (And.intro (by decide +kernel) rfl)))))) ?_
  refine xa_cons 59 ((And.intro (by decide) (Exists.intro (12) (And.intro (by decide +kernel) (And.intro (by decide +kernel) rfl))))) ?_
  refine xa_cons 60 ((And.intro (by decide) (Or.inl (Exists.intro (3) (And.intro rfl (And.intro (by decide +kernel) rfl)))))) ?_
  refine xa_cons 61 ((And.intro (by decide) (Or.inr (And.intro (by decide +kernel) rfl)))) ?_
  refine xa_cons 62 (xc_getf (A := A) (own := "ExpressHouse$Machine") (index := 188) hx hb htsB xC_10 hown rfl (by decide) xw_874 (And.intro (by decide +kernel) rfl)) ?_
  refine xa_cons 63 ((And.intro (by decide) (Exists.intro (22) (And.intro (by decide +kernel) (And.intro (by decide +kernel) rfl))))) ?_
  refine xa_cons 64 ((And.intro (by decide) (Or.inr (And.intro (by decide +kernel) rfl)))) ?_
  refine xa_cons 65 (xc_getf (A := A) (own := "ExpressHouse$Machine") (index := 197) hx hb htsB xC_10 hown rfl (by decide) xw_1096 (And.intro (by decide +kernel) rfl)) ?_
  refine xa_cons 66 ((And.intro (by decide) (Or.inl (Exists.intro (2) (And.intro rfl (And.intro (by decide +kernel) rfl)))))) ?_
  refine xa_cons 67 ((And.intro (by decide +kernel) rfl)) ?_
  refine xa_cons 68 ((And.intro (by decide) (Or.inr (And.intro (by decide +kernel) rfl)))) ?_
  refine xa_cons 69 ((And.intro (by decide) (And.intro (by decide +kernel) rfl))) ?_
  refine xa_cons 70 ((And.intro (by decide +kernel) rfl)) ?_
  refine xa_cons 71 ((And.intro (by decide +kernel) rfl)) ?_
  refine xa_cons 72 ((And.intro (by decide) (Exists.intro (7) (And.intro (by decide +kernel) (And.intro (by decide +kernel) rfl))))) ?_
  refine xa_cons 73 (xc_iconst hx hb (z := 1) (b := 1) (And.intro (by decide +kernel) rfl) (by decide +kernel) ⟨rfl, rfl⟩) ?_
  refine xa_cons 74 ((Exists.intro (4) (And.intro (by decide +kernel) (by decide +kernel)))) ?_
  refine xa_cons 75 (xc_iconst hx hb (z := 0) (b := 0) (And.intro (by decide +kernel) rfl) (by decide +kernel) ⟨rfl, rfl⟩) ?_
  refine xa_cons 76 ((And.intro (Or.inl rfl) (Or.inr (And.intro (by decide +kernel) rfl)))) ?_
  refine xa_cons 77 ((And.intro (by decide) (Or.inr (And.intro (by decide +kernel) rfl)))) ?_
  refine xa_cons 78 (xc_getf (A := A) (own := "ExpressHouse$Machine") (index := 188) hx hb htsB xC_10 hown rfl (by decide) xw_874 (And.intro (by decide +kernel) rfl)) ?_
  refine xa_cons 79 ((And.intro (Or.inl rfl) (Or.inl (Exists.intro (3) (And.intro rfl (And.intro (by decide +kernel) rfl)))))) ?_
  refine xa_cons 80 (xc_lconst hx hb (z := 0) (And.intro (by decide +kernel) rfl) ⟨rfl, rfl⟩) ?_
  refine xa_cons 81 ((And.intro (Or.inl rfl) (Or.inr (And.intro (by decide +kernel) rfl)))) ?_
  refine xa_cons 82 ((And.intro (by decide) (Or.inr (And.intro (by decide +kernel) rfl)))) ?_
  refine xa_cons 83 ((And.intro (by decide) (Exists.intro (42) (And.intro (by decide +kernel) (And.intro (by decide +kernel) rfl))))) ?_
  refine xa_cons 84 ((And.intro (by decide) (Or.inr (And.intro (by decide +kernel) rfl)))) ?_
  refine xa_cons 85 ((And.intro (by decide) (Or.inr (And.intro (by decide +kernel) rfl)))) ?_
  refine xa_cons 86 (xc_getf (A := A) (own := "ExpressHouse$Machine") (index := 197) hx hb htsB xC_10 hown rfl (by decide) xw_1096 (And.intro (by decide +kernel) rfl)) ?_
  refine xa_cons 87 ((And.intro (by decide +kernel) rfl)) ?_
  refine xa_cons 88 ((And.intro (by decide) (Exists.intro (31) (And.intro (by decide +kernel) (And.intro (by decide +kernel) rfl))))) ?_
  refine xa_cons 89 ((And.intro (by decide) (Or.inr (And.intro (by decide +kernel) rfl)))) ?_
  refine xa_cons 90 ((And.intro (by decide) (Or.inl (Exists.intro (2) (And.intro rfl (And.intro (by decide +kernel) rfl)))))) ?_
  refine xa_cons 91 ((And.intro (by decide +kernel) rfl)) ?_
  refine xa_cons 92 ((And.intro (by decide) (Exists.intro (24) (And.intro (by decide +kernel) (And.intro (by decide +kernel) rfl))))) ?_
  refine xa_cons 93 ((And.intro (by decide) (Or.inl (Exists.intro (2) (And.intro rfl (And.intro (by decide +kernel) rfl)))))) ?_
  refine xa_cons 94 ((And.intro (by decide) (Or.inr (And.intro (by decide +kernel) rfl)))) ?_
  refine xa_cons 95 ((And.intro (by decide) (Or.inr (And.intro (by decide +kernel) rfl)))) ?_
  refine xa_cons 96 (xc_getf (A := A) (own := "ExpressHouse$Machine") (index := 197) hx hb htsB xC_10 hown rfl (by decide) xw_1096 (And.intro (by decide +kernel) rfl)) ?_
  refine xa_cons 97 ((And.intro (by decide) (And.intro (by decide +kernel) rfl))) ?_
  refine xa_cons 98 ((Exists.intro (1) (And.intro (And.intro (by decide +kernel) rfl) (by decide +kernel)))) ?_
  refine xa_cons 99 ((And.intro (by decide) (Or.inr (And.intro (by decide +kernel) rfl)))) ?_
  refine xa_cons 100 (xc_lconst hx hb (z := 1) (And.intro (by decide +kernel) rfl) ⟨rfl, rfl⟩) ?_
  refine xa_cons 101 ((And.intro (by decide) (And.intro (by decide +kernel) rfl))) ?_
  refine xa_cons 102 ((And.intro (Or.inl rfl) (Or.inr (And.intro (by decide +kernel) rfl)))) ?_
  refine xa_cons 103 ((Exists.intro (-41) (And.intro (by decide +kernel) (by decide +kernel)))) ?_
  refine xa_cons 104 ((Exists.intro (-1) (And.intro (And.intro (by decide +kernel) rfl) (by decide +kernel)))) ?_
  refine xa_cons 105 ((Exists.intro (-182) (And.intro (by decide +kernel) (by decide +kernel)))) ?_
  refine xa_cons 106 ((And.intro (by decide) (Or.inl (Exists.intro (0) (And.intro rfl (And.intro (by decide +kernel) rfl)))))) ?_
  refine xa_cons 107 (xc_iconst hx hb (z := 0) (b := 0) (And.intro (by decide +kernel) rfl) (by decide +kernel) ⟨rfl, rfl⟩) ?_
  refine xa_cons 108 ((And.intro (by decide) (Or.inl (Exists.intro (0) (And.intro rfl (And.intro (by decide +kernel) rfl)))))) ?_
  refine xa_cons 109 (xc_getf (A := A) (own := "ExpressHouse$Machine") (index := 76) hx hb htsB xC_6 hown rfl (by decide) xw_556 (And.intro (by decide +kernel) rfl)) ?_
  refine xa_cons 110 (xc_iconst hx hb (z := 2) (b := 2) (And.intro (by decide +kernel) rfl) (by decide +kernel) ⟨rfl, rfl⟩) ?_
  refine xa_cons 111 ((And.intro (by decide) (Or.inl (Exists.intro (1) (And.intro rfl (And.intro (by decide +kernel) rfl)))))) ?_
  refine xa_cons 112 ((And.intro (by decide) (And.intro (by decide +kernel) rfl))) ?_
  refine xa_cons 113 ((And.intro (by decide) (And.intro (by decide +kernel) rfl))) ?_
  refine xa_cons 114 ((Exists.intro ("ExpressHouse$Machine") (Exists.intro (219) (And.intro hown (And.intro (htsB _ xw_475) (And.intro hml (And.intro (by omega) (And.intro (by omega) (And.intro (And.intro (by decide +kernel) rfl) (Or.inr (And.intro rfl (And.intro (htsB _ xw_1106) (And.intro (htsB _ xw_1107) (htsB _ xw_1108)))))))))))))) ?_
  refine xa_cons 115 (xc_putf (own := "ExpressHouse$Machine") (index := 76) hx hb htsB xC_6 hown rfl (by decide) xw_556 rfl (rfl) (And.intro (by decide +kernel) rfl)) ?_
  refine xa_cons 116 ((And.intro (by decide) (Or.inl (Exists.intro (0) (And.intro rfl (And.intro (by decide +kernel) rfl)))))) ?_
  refine xa_cons 117 ((And.intro (by decide) (Or.inr (And.intro (by decide +kernel) rfl)))) ?_
  refine xa_cons 118 ((And.intro (by decide) (Exists.intro (23) (And.intro (by decide +kernel) (And.intro (by decide +kernel) rfl))))) ?_
  refine xa_cons 119 (xc_new (own := "ExpressHouse$Machine") (index := 9) hx hb htsB xC_10 hown hA rfl rfl xw_261 xw_58 xw_59 (by decide) (by decide +kernel) (And.intro (by decide +kernel) rfl)) ?_
  refine xa_cons 120 ((And.intro (by decide +kernel) rfl)) ?_
  refine xa_cons 121 (xc_iconst hx hb (z := 1) (b := 1) (And.intro (by decide +kernel) rfl) (by decide +kernel) ⟨rfl, rfl⟩) ?_
  refine xa_cons 122 (xc_iconst hx hb (z := 1) (b := 1) (And.intro (by decide +kernel) rfl) (by decide +kernel) ⟨rfl, rfl⟩) ?_
  refine xa_cons 123 ((And.intro (by decide) (Or.inl (Exists.intro (3) (And.intro rfl (And.intro (by decide +kernel) rfl)))))) ?_
  refine xa_cons 124 (xc_iconst hx hb (z := 0) (b := 0) (And.intro (by decide +kernel) rfl) (by decide +kernel) ⟨rfl, rfl⟩) ?_
  refine xa_cons 125 ((And.intro (by decide) (Or.inl (Exists.intro (2) (And.intro rfl (And.intro (by decide +kernel) rfl)))))) ?_
  refine xa_cons 126 ((And.intro (by decide) (Or.inr (And.intro (by decide +kernel) rfl)))) ?_
  refine xa_cons 127 ((And.intro (xc_callS (index := 222) S xg_115 rfl xw_495 xw_1109 xw_589 ⟨by decide, by decide, by decide +kernel⟩ rfl (And.intro (by decide +kernel) rfl)) (by decide +kernel))) ?_
  refine xa_cons 128 ((And.intro (xc_callIN (index := 228) (n := 5) (ci := 10) S xg_79 rfl xw_59 (hgN.1 _ (List.mem_of_getElem? (i := 10) rfl)) xw_439 rfl rfl rfl ⟨by decide, by decide, by decide +kernel⟩ rfl (And.intro (by decide +kernel) rfl)) (by decide +kernel))) ?_
  refine xa_cons 129 ((Exists.intro (7) (And.intro (by decide +kernel) (by decide +kernel)))) ?_
  refine xa_cons 130 ((And.intro (by decide) (Or.inl (Exists.intro (0) (And.intro rfl (And.intro (by decide +kernel) rfl)))))) ?_
  refine xa_cons 131 (xc_getf (A := A) (own := "ExpressHouse$Machine") (index := 68) hx hb htsB xC_6 hown rfl (by decide) xw_281 (And.intro (by decide +kernel) rfl)) ?_
  refine xa_cons 132 ((And.intro (xc_callV (index := 138) (n := 1) (ci := 6) S xg_180 rfl xw_35 xw_841 xw_839 xw_840 rfl rfl rfl ⟨by decide, by decide, by decide +kernel⟩ rfl (And.intro (by decide +kernel) rfl)) (by decide +kernel))) ?_
  refine xa_cons 133 ((And.intro hr (by decide +kernel))) ?_
  exact xa_nil
def xrp_185 : Nat → Nat := fun k => ([0, 1, 4, 5, 8, 9, 10, 13, 14, 17, 18, 19, 22, 23, 26, 29, 30, 31, 32, 35, 38, 41, 44, 45, 48] : List Nat).getD k 0
set_option maxRecDepth 20000 in
set_option maxHeartbeats 4000000 in
theorem xz_185 {l : Launch} {D : va_G} {en : XE} : x_Ok xT l D xcl en xrn (xG en) 185 xc_185 := by
  refine ⟨prog_7_method_10_code, (some (.object "ExpressHouse$Value")), xBIG, xrp_185, by decide +kernel, rfl, rfl, ?_⟩
  intro p e R s m args below meth c s₁ A Q pc i f1 f2 B hml hA hg hi
  obtain ⟨hx, hb, hr, hown, hlocks, hin, htsB, S⟩ := xb_all (C := "ExpressHouse$Operators") B hml rfl rfl
  obtain ⟨hgN, hgZ, hgS, hgS2⟩ := xG_all hg
  refine xa_at (i := i) (pc := pc) ?_ hi
  refine xa_cons 0 ((And.intro (by decide) (Or.inl (Exists.intro (1) (And.intro rfl (And.intro (by decide +kernel) rfl)))))) ?_
  refine xa_cons 1 (xc_getf (A := A) (own := "ExpressHouse$Operators") (index := 33) hx hb htsB xC_10 hown rfl (by decide) xw_1110 (And.intro (by decide +kernel) rfl)) ?_
  refine xa_cons 2 (xc_iconst hx hb (z := 1) (b := 1) (And.intro (by decide +kernel) rfl) (by decide +kernel) ⟨rfl, rfl⟩) ?_
  refine xa_cons 3 ((And.intro (by decide) (Exists.intro (13) (And.intro (by decide +kernel) (And.intro (by decide +kernel) rfl))))) ?_
  refine xa_cons 4 ((And.intro (by decide) (Or.inl (Exists.intro (0) (And.intro rfl (And.intro (by decide +kernel) rfl)))))) ?_
  refine xa_cons 5 ((And.intro (by decide) (Or.inl (Exists.intro (1) (And.intro rfl (And.intro (by decide +kernel) rfl)))))) ?_
  refine xa_cons 6 (xc_getf (A := A) (own := "ExpressHouse$Operators") (index := 39) hx hb htsB xC_10 hown rfl (by decide) xw_1111 (And.intro (by decide +kernel) rfl)) ?_
  refine xa_cons 7 (trivial) ?_
  refine xa_cons 8 ((And.intro (xc_callV (index := 113) (n := 1) (ci := 11) S xg_251 rfl xw_276 xw_1114 xw_1112 xw_1113 rfl rfl rfl ⟨by decide, by decide, by decide +kernel⟩ rfl (And.intro (by decide +kernel) rfl)) (by decide +kernel))) ?_
  refine xa_cons 9 ((And.intro (Exists.intro (_) (And.intro hr (Or.inl ⟨_, rfl⟩))) (by decide +kernel))) ?_
  refine xa_cons 10 ((And.intro (by decide) (Or.inl (Exists.intro (1) (And.intro rfl (And.intro (by decide +kernel) rfl)))))) ?_
  refine xa_cons 11 (xc_getf (A := A) (own := "ExpressHouse$Operators") (index := 33) hx hb htsB xC_10 hown rfl (by decide) xw_1110 (And.intro (by decide +kernel) rfl)) ?_
  refine xa_cons 12 (xc_iconst hx hb (z := 2) (b := 2) (And.intro (by decide +kernel) rfl) (by decide +kernel) ⟨rfl, rfl⟩) ?_
  refine xa_cons 13 ((And.intro (by decide) (Exists.intro (21) (And.intro (by decide +kernel) (And.intro (by decide +kernel) rfl))))) ?_
  refine xa_cons 14 (xc_new (own := "ExpressHouse$Operators") (index := 7) hx hb htsB xC_10 hown hA rfl rfl xw_1115 xw_58 xw_59 (by decide) (by decide +kernel) (And.intro (by decide +kernel) rfl)) ?_
  refine xa_cons 15 ((And.intro (by decide +kernel) rfl)) ?_
  refine xa_cons 16 (xc_iconst hx hb (z := 2) (b := 2) (And.intro (by decide +kernel) rfl) (by decide +kernel) ⟨rfl, rfl⟩) ?_
  refine xa_cons 17 ((And.intro (by decide) (Or.inl (Exists.intro (1) (And.intro rfl (And.intro (by decide +kernel) rfl)))))) ?_
  refine xa_cons 18 (xc_getf (A := A) (own := "ExpressHouse$Operators") (index := 39) hx hb htsB xC_10 hown rfl (by decide) xw_1111 (And.intro (by decide +kernel) rfl)) ?_
  refine xa_cons 19 ((And.intro (xc_callS (index := 57) S xg_252 rfl xw_909 xw_1116 xw_1117 ⟨by decide, by decide, by decide +kernel⟩ rfl (And.intro (by decide +kernel) rfl)) (by decide +kernel))) ?_
  refine xa_cons 20 ((And.intro (xc_callIN (index := 26) (n := 2) (ci := 10) S xg_18 rfl xw_59 (hgN.1 _ (List.mem_of_getElem? (i := 11) rfl)) xw_60 rfl rfl rfl ⟨by decide, by decide, by decide +kernel⟩ rfl (And.intro (by decide +kernel) rfl)) (by decide +kernel))) ?_
  refine xa_cons 21 ((Exists.intro (7) (And.intro (by decide +kernel) (by decide +kernel)))) ?_
  refine xa_cons 22 ((And.intro (by decide) (Or.inl (Exists.intro (0) (And.intro rfl (And.intro (by decide +kernel) rfl)))))) ?_
  refine xa_cons 23 (xc_getf (A := A) (own := "ExpressHouse$Operators") (index := 25) hx hb htsB xC_11 hown rfl (by decide) xw_468 (And.intro (by decide +kernel) rfl)) ?_
  refine xa_cons 24 ((And.intro (Exists.intro (_) (And.intro hr (Or.inl ⟨_, rfl⟩))) (by decide +kernel))) ?_
  exact xa_nil
def xrp_186 : Nat → Nat := fun k => ([0, 1, 4, 7, 10, 11, 12, 13, 16, 17, 18, 21, 22, 25, 28, 29, 30, 33, 34, 37, 38, 41, 44, 45, 48] : List Nat).getD k 0
set_option maxRecDepth 20000 in
set_option maxHeartbeats 4000000 in
theorem xz_186 {l : Launch} {D : va_G} {en : XE} : x_Ok xT l D xcl en xrn (xG en) 186 xc_186 := by
  refine ⟨prog_7_method_9_code, (some (.object "ExpressHouse$Value")), xBIG, xrp_186, by decide +kernel, rfl, rfl, ?_⟩
  intro p e R s m args below meth c s₁ A Q pc i f1 f2 B hml hA hg hi
  obtain ⟨hx, hb, hr, hown, hlocks, hin, htsB, S⟩ := xb_all (C := "ExpressHouse$Operators") B hml rfl rfl
  obtain ⟨hgN, hgZ, hgS, hgS2⟩ := xG_all hg
  refine xa_at (i := i) (pc := pc) ?_ hi
  refine xa_cons 0 ((And.intro (by decide) (Or.inl (Exists.intro (1) (And.intro rfl (And.intro (by decide +kernel) rfl)))))) ?_
  refine xa_cons 1 (xc_getf (A := A) (own := "ExpressHouse$Operators") (index := 33) hx hb htsB xC_10 hown rfl (by decide) xw_1110 (And.intro (by decide +kernel) rfl)) ?_
  refine xa_cons 2 ((And.intro (by decide) (Exists.intro (13) (And.intro (by decide +kernel) (And.intro (by decide +kernel) rfl))))) ?_
  refine xa_cons 3 (xc_new (own := "ExpressHouse$Operators") (index := 7) hx hb htsB xC_10 hown hA rfl rfl xw_1115 xw_58 xw_59 (by decide) (by decide +kernel) (And.intro (by decide +kernel) rfl)) ?_
  refine xa_cons 4 ((And.intro (by decide +kernel) rfl)) ?_
  refine xa_cons 5 (xc_iconst hx hb (z := 3) (b := 3) (And.intro (by decide +kernel) rfl) (by decide +kernel) ⟨rfl, rfl⟩) ?_
  refine xa_cons 6 (xc_lconst hx hb (z := 1) (And.intro (by decide +kernel) rfl) ⟨rfl, rfl⟩) ?_
  refine xa_cons 7 ((And.intro (xc_callIN (index := 26) (n := 2) (ci := 10) S xg_18 rfl xw_59 (hgN.1 _ (List.mem_of_getElem? (i := 11) rfl)) xw_60 rfl rfl rfl ⟨by decide, by decide, by decide +kernel⟩ rfl (And.intro (by decide +kernel) rfl)) (by decide +kernel))) ?_
  refine xa_cons 8 ((And.intro (Exists.intro (_) (And.intro hr (Or.inl ⟨_, rfl⟩))) (by decide +kernel))) ?_
  refine xa_cons 9 ((And.intro (by decide) (Or.inl (Exists.intro (1) (And.intro rfl (And.intro (by decide +kernel) rfl)))))) ?_
  refine xa_cons 10 (xc_getf (A := A) (own := "ExpressHouse$Operators") (index := 33) hx hb htsB xC_10 hown rfl (by decide) xw_1110 (And.intro (by decide +kernel) rfl)) ?_
  refine xa_cons 11 (xc_iconst hx hb (z := 3) (b := 3) (And.intro (by decide +kernel) rfl) (by decide +kernel) ⟨rfl, rfl⟩) ?_
  refine xa_cons 12 ((And.intro (by decide) (Exists.intro (22) (And.intro (by decide +kernel) (And.intro (by decide +kernel) rfl))))) ?_
  refine xa_cons 13 (xc_new (own := "ExpressHouse$Operators") (index := 7) hx hb htsB xC_10 hown hA rfl rfl xw_1115 xw_58 xw_59 (by decide) (by decide +kernel) (And.intro (by decide +kernel) rfl)) ?_
  refine xa_cons 14 ((And.intro (by decide +kernel) rfl)) ?_
  refine xa_cons 15 (xc_iconst hx hb (z := 3) (b := 3) (And.intro (by decide +kernel) rfl) (by decide +kernel) ⟨rfl, rfl⟩) ?_
  refine xa_cons 16 (xc_ldc2 (own := "ExpressHouse$Operators") (index := 99) (b := 2) hx hb hown (htsB _ xw_1118) (And.intro (by decide +kernel) rfl) ⟨rfl, rfl⟩) ?_
  refine xa_cons 17 ((And.intro (by decide) (Or.inl (Exists.intro (1) (And.intro rfl (And.intro (by decide +kernel) rfl)))))) ?_
  refine xa_cons 18 (xc_getf (A := A) (own := "ExpressHouse$Operators") (index := 39) hx hb htsB xC_10 hown rfl (by decide) xw_1111 (And.intro (by decide +kernel) rfl)) ?_
  refine xa_cons 19 ((And.intro (by decide) (And.intro (by decide +kernel) rfl))) ?_
  refine xa_cons 20 ((And.intro (xc_callIN (index := 26) (n := 2) (ci := 10) S xg_18 rfl xw_59 (hgN.1 _ (List.mem_of_getElem? (i := 11) rfl)) xw_60 rfl rfl rfl ⟨by decide, by decide, by decide +kernel⟩ rfl (And.intro (by decide +kernel) rfl)) (by decide +kernel))) ?_
  refine xa_cons 21 ((Exists.intro (7) (And.intro (by decide +kernel) (by decide +kernel)))) ?_
  refine xa_cons 22 ((And.intro (by decide) (Or.inl (Exists.intro (0) (And.intro rfl (And.intro (by decide +kernel) rfl)))))) ?_
  refine xa_cons 23 (xc_getf (A := A) (own := "ExpressHouse$Operators") (index := 25) hx hb htsB xC_11 hown rfl (by decide) xw_468 (And.intro (by decide +kernel) rfl)) ?_
  refine xa_cons 24 ((And.intro (Exists.intro (_) (And.intro hr (Or.inl ⟨_, rfl⟩))) (by decide +kernel))) ?_
  exact xa_nil
def xrp_187 : Nat → Nat := fun k => ([0, 1, 76, 77, 80, 81, 84, 85, 86, 89, 92, 95, 98, 99, 100, 101, 104, 107, 110, 111, 112, 113, 114, 117, 118, 119, 120, 121, 124, 125, 126, 127, 128, 131, 132, 133, 136, 137, 140, 141, 142, 145, 146, 149, 150, 153, 156, 157, 158, 159, 162, 165, 168, 169, 170, 171, 172, 175, 176, 179, 180, 181, 182, 183, 186, 189, 190, 191, 192, 193, 196, 197, 200, 201, 202, 203, 204, 207, 208, 209, 212, 215, 216, 219, 220, 223, 224, 225, 228, 229, 232, 233, 236, 237, 240, 241, 244, 247, 248, 251, 252, 253, 256, 257, 260, 261, 264, 265, 266, 267, 268, 271, 272, 275, 276, 279, 282, 283, 286, 287, 288, 291, 294, 295, 298, 299, 300, 301, 302, 303, 304, 307] : List Nat).getD k 0
set_option maxRecDepth 20000 in
set_option maxHeartbeats 4000000 in
theorem xz_187 {l : Launch} {D : va_G} {en : XE} : x_Ok xT l D xcl en xrn (xG en) 187 xc_187 := by
  refine ⟨prog_7_method_15_code, (some (.object "ExpressHouse$Value")), xBIG, xrp_187, by decide +kernel, rfl, rfl, ?_⟩
  intro p e R s m args below meth c s₁ A Q pc i f1 f2 B hml hA hg hi
  obtain ⟨hx, hb, hr, hown, hlocks, hin, htsB, S⟩ := xb_all (C := "ExpressHouse$Operators") B hml rfl rfl
  obtain ⟨hgN, hgZ, hgS, hgS2⟩ := xG_all hg
  refine xa_at (i := i) (pc := pc) ?_ hi
  refine xa_cons 0 ((And.intro (by decide) (Or.inl (Exists.intro (1) (And.intro rfl (And.intro (by decide +kernel) rfl)))))) ?_
  refine xa_cons 1 (xc_table hx hb (by decide +kernel : decode prog_7_method_15_code 1 = .ok (.tableswitch 299 0 14 #[75, 110, 117, 124, 131, 168, 179, 189, 207, 223, 251, 299, 299, 299, 286], 75)) (by decide +kernel) (by decide) (by decide +kernel) (by decide) (by decide +kernel)) ?_
  refine xa_cons 2 ((And.intro (by decide) (Or.inl (Exists.intro (2) (And.intro rfl (And.intro (by decide +kernel) rfl)))))) ?_
  refine xa_cons 3 (xc_getf (A := A) (own := "ExpressHouse$Operators") (index := 33) hx hb htsB xC_10 hown rfl (by decide) xw_1110 (And.intro (by decide +kernel) rfl)) ?_
  refine xa_cons 4 (xc_iconst hx hb (z := 1) (b := 1) (And.intro (by decide +kernel) rfl) (by decide +kernel) ⟨rfl, rfl⟩) ?_
  refine xa_cons 5 ((And.intro (by decide) (Exists.intro (17) (And.intro (by decide +kernel) (And.intro (by decide +kernel) rfl))))) ?_
  refine xa_cons 6 ((And.intro (by decide) (Or.inl (Exists.intro (0) (And.intro rfl (And.intro (by decide +kernel) rfl)))))) ?_
  refine xa_cons 7 ((And.intro (by decide) (Or.inl (Exists.intro (2) (And.intro rfl (And.intro (by decide +kernel) rfl)))))) ?_
  refine xa_cons 8 (xc_getf (A := A) (own := "ExpressHouse$Operators") (index := 39) hx hb htsB xC_10 hown rfl (by decide) xw_1111 (And.intro (by decide +kernel) rfl)) ?_
  refine xa_cons 9 (trivial) ?_
  refine xa_cons 10 ((And.intro (xc_callV (index := 113) (n := 1) (ci := 11) S xg_251 rfl xw_276 xw_1114 xw_1112 xw_1113 rfl rfl rfl ⟨by decide, by decide, by decide +kernel⟩ rfl (And.intro (by decide +kernel) rfl)) (by decide +kernel))) ?_
  refine xa_cons 11 ((Exists.intro (15) (And.intro (by decide +kernel) (by decide +kernel)))) ?_
  refine xa_cons 12 ((And.intro (by decide) (Or.inl (Exists.intro (0) (And.intro rfl (And.intro (by decide +kernel) rfl)))))) ?_
  refine xa_cons 13 ((And.intro (by decide) (Or.inl (Exists.intro (2) (And.intro rfl (And.intro (by decide +kernel) rfl)))))) ?_
  refine xa_cons 14 ((And.intro (by decide) (Or.inl (Exists.intro (2) (And.intro rfl (And.intro (by decide +kernel) rfl)))))) ?_
  refine xa_cons 15 (xc_getf (A := A) (own := "ExpressHouse$Operators") (index := 39) hx hb htsB xC_10 hown rfl (by decide) xw_1111 (And.intro (by decide +kernel) rfl)) ?_
  refine xa_cons 16 ((And.intro (xc_callS (index := 176) S xg_253 rfl xw_909 xw_1119 xw_1120 ⟨by decide, by decide, by decide +kernel⟩ rfl (And.intro (by decide +kernel) rfl)) (by decide +kernel))) ?_
  refine xa_cons 17 ((And.intro (xc_callV (index := 179) (n := 2) (ci := 11) S xg_254 rfl xw_276 xw_1123 xw_1121 xw_1122 rfl rfl rfl ⟨by decide, by decide, by decide +kernel⟩ rfl (And.intro (by decide +kernel) rfl)) (by decide +kernel))) ?_
  refine xa_cons 18 ((And.intro (Exists.intro (_) (And.intro hr (Or.inl ⟨_, rfl⟩))) (by decide +kernel))) ?_
  refine xa_cons 19 ((And.intro (by decide) (Or.inl (Exists.intro (0) (And.intro rfl (And.intro (by decide +kernel) rfl)))))) ?_
  refine xa_cons 20 ((And.intro (by decide) (Or.inl (Exists.intro (2) (And.intro rfl (And.intro (by decide +kernel) rfl)))))) ?_
  refine xa_cons 21 (xc_iconst hx hb (z := -1) (b := 4294967295) (And.intro (by decide +kernel) rfl) (by decide +kernel) ⟨rfl, rfl⟩) ?_
  refine xa_cons 22 ((And.intro (xc_callV (index := 183) (n := 2) (ci := 11) S xg_255 rfl xw_276 xw_1126 xw_1124 xw_1125 rfl rfl rfl ⟨by decide, by decide, by decide +kernel⟩ rfl (And.intro (by decide +kernel) rfl)) (by decide +kernel))) ?_
  refine xa_cons 23 ((And.intro (Exists.intro (_) (And.intro hr (Or.inl ⟨_, rfl⟩))) (by decide +kernel))) ?_
  refine xa_cons 24 ((And.intro (by decide) (Or.inl (Exists.intro (0) (And.intro rfl (And.intro (by decide +kernel) rfl)))))) ?_
  refine xa_cons 25 ((And.intro (by decide) (Or.inl (Exists.intro (2) (And.intro rfl (And.intro (by decide +kernel) rfl)))))) ?_
  refine xa_cons 26 (xc_iconst hx hb (z := 1) (b := 1) (And.intro (by decide +kernel) rfl) (by decide +kernel) ⟨rfl, rfl⟩) ?_
  refine xa_cons 27 ((And.intro (xc_callV (index := 183) (n := 2) (ci := 11) S xg_255 rfl xw_276 xw_1126 xw_1124 xw_1125 rfl rfl rfl ⟨by decide, by decide, by decide +kernel⟩ rfl (And.intro (by decide +kernel) rfl)) (by decide +kernel))) ?_
  refine xa_cons 28 ((And.intro (Exists.intro (_) (And.intro hr (Or.inl ⟨_, rfl⟩))) (by decide +kernel))) ?_
  refine xa_cons 29 ((And.intro (by decide) (Or.inl (Exists.intro (0) (And.intro rfl (And.intro (by decide +kernel) rfl)))))) ?_
  refine xa_cons 30 ((And.intro (by decide) (Or.inl (Exists.intro (2) (And.intro rfl (And.intro (by decide +kernel) rfl)))))) ?_
  refine xa_cons 31 (xc_iconst hx hb (z := 0) (b := 0) (And.intro (by decide +kernel) rfl) (by decide +kernel) ⟨rfl, rfl⟩) ?_
  refine xa_cons 32 ((And.intro (xc_callV (index := 183) (n := 2) (ci := 11) S xg_255 rfl xw_276 xw_1126 xw_1124 xw_1125 rfl rfl rfl ⟨by decide, by decide, by decide +kernel⟩ rfl (And.intro (by decide +kernel) rfl)) (by decide +kernel))) ?_
  refine xa_cons 33 ((And.intro (Exists.intro (_) (And.intro hr (Or.inl ⟨_, rfl⟩))) (by decide +kernel))) ?_
  refine xa_cons 34 ((And.intro (by decide) (Or.inl (Exists.intro (2) (And.intro rfl (And.intro (by decide +kernel) rfl)))))) ?_
  refine xa_cons 35 (xc_getf (A := A) (own := "ExpressHouse$Operators") (index := 33) hx hb htsB xC_10 hown rfl (by decide) xw_1110 (And.intro (by decide +kernel) rfl)) ?_
  refine xa_cons 36 (xc_iconst hx hb (z := 1) (b := 1) (And.intro (by decide +kernel) rfl) (by decide +kernel) ⟨rfl, rfl⟩) ?_
  refine xa_cons 37 ((And.intro (by decide) (Exists.intro (19) (And.intro (by decide +kernel) (And.intro (by decide +kernel) rfl))))) ?_
  refine xa_cons 38 ((And.intro (by decide) (Or.inl (Exists.intro (0) (And.intro rfl (And.intro (by decide +kernel) rfl)))))) ?_
  refine xa_cons 39 ((And.intro (by decide) (Or.inl (Exists.intro (2) (And.intro rfl (And.intro (by decide +kernel) rfl)))))) ?_
  refine xa_cons 40 (xc_getf (A := A) (own := "ExpressHouse$Operators") (index := 39) hx hb htsB xC_10 hown rfl (by decide) xw_1111 (And.intro (by decide +kernel) rfl)) ?_
  refine xa_cons 41 (xc_lconst hx hb (z := 0) (And.intro (by decide +kernel) rfl) ⟨rfl, rfl⟩) ?_
  refine xa_cons 42 (trivial) ?_
  refine xa_cons 43 ((And.intro (by decide +kernel) rfl)) ?_
  refine xa_cons 44 ((And.intro (xc_callV (index := 113) (n := 1) (ci := 11) S xg_251 rfl xw_276 xw_1114 xw_1112 xw_1113 rfl rfl rfl ⟨by decide, by decide, by decide +kernel⟩ rfl (And.intro (by decide +kernel) rfl)) (by decide +kernel))) ?_
  refine xa_cons 45 ((Exists.intro (15) (And.intro (by decide +kernel) (by decide +kernel)))) ?_
  refine xa_cons 46 ((And.intro (by decide) (Or.inl (Exists.intro (0) (And.intro rfl (And.intro (by decide +kernel) rfl)))))) ?_
  refine xa_cons 47 ((And.intro (by decide) (Or.inl (Exists.intro (2) (And.intro rfl (And.intro (by decide +kernel) rfl)))))) ?_
  refine xa_cons 48 ((And.intro (by decide) (Or.inl (Exists.intro (2) (And.intro rfl (And.intro (by decide +kernel) rfl)))))) ?_
  refine xa_cons 49 (xc_getf (A := A) (own := "ExpressHouse$Operators") (index := 39) hx hb htsB xC_10 hown rfl (by decide) xw_1111 (And.intro (by decide +kernel) rfl)) ?_
  refine xa_cons 50 ((And.intro (xc_callS (index := 192) S xg_256 rfl xw_909 xw_1127 xw_1128 ⟨by decide, by decide, by decide +kernel⟩ rfl (And.intro (by decide +kernel) rfl)) (by decide +kernel))) ?_
  refine xa_cons 51 ((And.intro (xc_callV (index := 179) (n := 2) (ci := 11) S xg_254 rfl xw_276 xw_1123 xw_1121 xw_1122 rfl rfl rfl ⟨by decide, by decide, by decide +kernel⟩ rfl (And.intro (by decide +kernel) rfl)) (by decide +kernel))) ?_
  refine xa_cons 52 ((And.intro (Exists.intro (_) (And.intro hr (Or.inl ⟨_, rfl⟩))) (by decide +kernel))) ?_
  refine xa_cons 53 ((And.intro (by decide) (Or.inl (Exists.intro (0) (And.intro rfl (And.intro (by decide +kernel) rfl)))))) ?_
  refine xa_cons 54 ((And.intro (by decide) (Or.inl (Exists.intro (2) (And.intro rfl (And.intro (by decide +kernel) rfl)))))) ?_
  refine xa_cons 55 ((And.intro (by decide) (Or.inl (Exists.intro (2) (And.intro rfl (And.intro (by decide +kernel) rfl)))))) ?_
  refine xa_cons 56 (xc_getf (A := A) (own := "ExpressHouse$Operators") (index := 75) hx hb htsB xC_10 hown rfl (by decide) xw_1129 (And.intro (by decide +kernel) rfl)) ?_
  refine xa_cons 57 ((And.intro (by decide +kernel) rfl)) ?_
  refine xa_cons 58 ((And.intro (xc_callV (index := 195) (n := 2) (ci := 11) S xg_257 rfl xw_276 xw_1132 xw_1130 xw_1131 rfl rfl rfl ⟨by decide, by decide, by decide +kernel⟩ rfl (And.intro (by decide +kernel) rfl)) (by decide +kernel))) ?_
  refine xa_cons 59 ((And.intro (Exists.intro (_) (And.intro hr (Or.inl ⟨_, rfl⟩))) (by decide +kernel))) ?_
  refine xa_cons 60 ((And.intro (by decide) (Or.inl (Exists.intro (0) (And.intro rfl (And.intro (by decide +kernel) rfl)))))) ?_
  refine xa_cons 61 ((And.intro (by decide) (Or.inl (Exists.intro (2) (And.intro rfl (And.intro (by decide +kernel) rfl)))))) ?_
  refine xa_cons 62 ((And.intro (by decide) (Or.inl (Exists.intro (2) (And.intro rfl (And.intro (by decide +kernel) rfl)))))) ?_
  refine xa_cons 63 (xc_getf (A := A) (own := "ExpressHouse$Operators") (index := 143) hx hb htsB xC_10 hown rfl (by decide) xw_1133 (And.intro (by decide +kernel) rfl)) ?_
  refine xa_cons 64 ((And.intro (xc_callV (index := 195) (n := 2) (ci := 11) S xg_257 rfl xw_276 xw_1132 xw_1130 xw_1131 rfl rfl rfl ⟨by decide, by decide, by decide +kernel⟩ rfl (And.intro (by decide +kernel) rfl)) (by decide +kernel))) ?_
  refine xa_cons 65 ((And.intro (Exists.intro (_) (And.intro hr (Or.inl ⟨_, rfl⟩))) (by decide +kernel))) ?_
  refine xa_cons 66 ((And.intro (by decide) (Or.inl (Exists.intro (0) (And.intro rfl (And.intro (by decide +kernel) rfl)))))) ?_
  refine xa_cons 67 ((And.intro (by decide) (Or.inl (Exists.intro (2) (And.intro rfl (And.intro (by decide +kernel) rfl)))))) ?_
  refine xa_cons 68 ((And.intro (by decide) (Or.inl (Exists.intro (2) (And.intro rfl (And.intro (by decide +kernel) rfl)))))) ?_
  refine xa_cons 69 (xc_getf (A := A) (own := "ExpressHouse$Operators") (index := 143) hx hb htsB xC_10 hown rfl (by decide) xw_1133 (And.intro (by decide +kernel) rfl)) ?_
  refine xa_cons 70 ((And.intro (by decide) (Or.inl (Exists.intro (2) (And.intro rfl (And.intro (by decide +kernel) rfl)))))) ?_
  refine xa_cons 71 (xc_getf (A := A) (own := "ExpressHouse$Operators") (index := 75) hx hb htsB xC_10 hown rfl (by decide) xw_1129 (And.intro (by decide +kernel) rfl)) ?_
  refine xa_cons 72 ((And.intro (by decide +kernel) rfl)) ?_
  refine xa_cons 73 ((And.intro (by decide) (And.intro (by decide +kernel) rfl))) ?_
  refine xa_cons 74 (xc_iconst hx hb (z := 1) (b := 1) (And.intro (by decide +kernel) rfl) (by decide +kernel) ⟨rfl, rfl⟩) ?_
  refine xa_cons 75 ((And.intro (by decide) (And.intro (by decide +kernel) rfl))) ?_
  refine xa_cons 76 ((And.intro (xc_callV (index := 195) (n := 2) (ci := 11) S xg_257 rfl xw_276 xw_1132 xw_1130 xw_1131 rfl rfl rfl ⟨by decide, by decide, by decide +kernel⟩ rfl (And.intro (by decide +kernel) rfl)) (by decide +kernel))) ?_
  refine xa_cons 77 ((And.intro (Exists.intro (_) (And.intro hr (Or.inl ⟨_, rfl⟩))) (by decide +kernel))) ?_
  refine xa_cons 78 ((And.intro (by decide) (Or.inl (Exists.intro (2) (And.intro rfl (And.intro (by decide +kernel) rfl)))))) ?_
  refine xa_cons 79 (xc_getf (A := A) (own := "ExpressHouse$Operators") (index := 33) hx hb htsB xC_10 hown rfl (by decide) xw_1110 (And.intro (by decide +kernel) rfl)) ?_
  refine xa_cons 80 ((And.intro (by decide) (Exists.intro (7) (And.intro (by decide +kernel) (And.intro (by decide +kernel) rfl))))) ?_
  refine xa_cons 81 (xc_iconst hx hb (z := 1) (b := 1) (And.intro (by decide +kernel) rfl) (by decide +kernel) ⟨rfl, rfl⟩) ?_
  refine xa_cons 82 ((Exists.intro (4) (And.intro (by decide +kernel) (by decide +kernel)))) ?_
  refine xa_cons 83 (xc_iconst hx hb (z := 0) (b := 0) (And.intro (by decide +kernel) rfl) (by decide +kernel) ⟨rfl, rfl⟩) ?_
  refine xa_cons 84 ((And.intro (xc_callS (index := 109) S xg_258 rfl xw_276 xw_1134 xw_1135 ⟨by decide, by decide, by decide +kernel⟩ rfl (And.intro (by decide +kernel) rfl)) (by decide +kernel))) ?_
  refine xa_cons 85 ((And.intro (Exists.intro (_) (And.intro hr (Or.inl ⟨_, rfl⟩))) (by decide +kernel))) ?_
  refine xa_cons 86 ((And.intro (by decide) (Or.inl (Exists.intro (2) (And.intro rfl (And.intro (by decide +kernel) rfl)))))) ?_
  refine xa_cons 87 (xc_getf (A := A) (own := "ExpressHouse$Operators") (index := 33) hx hb htsB xC_10 hown rfl (by decide) xw_1110 (And.intro (by decide +kernel) rfl)) ?_
  refine xa_cons 88 (xc_iconst hx hb (z := 5) (b := 5) (And.intro (by decide +kernel) rfl) (by decide +kernel) ⟨rfl, rfl⟩) ?_
  refine xa_cons 89 ((And.intro (by decide) (Exists.intro (18) (And.intro (by decide +kernel) (And.intro (by decide +kernel) rfl))))) ?_
  refine xa_cons 90 ((And.intro (by decide) (Or.inl (Exists.intro (0) (And.intro rfl (And.intro (by decide +kernel) rfl)))))) ?_
  refine xa_cons 91 (xc_getf (A := A) (own := "ExpressHouse$Operators") (index := 15) hx hb htsB xC_11 hown rfl (by decide) xw_466 (And.intro (by decide +kernel) rfl)) ?_
  refine xa_cons 92 ((And.intro (by decide) (Or.inl (Exists.intro (2) (And.intro rfl (And.intro (by decide +kernel) rfl)))))) ?_
  refine xa_cons 93 (xc_getf (A := A) (own := "ExpressHouse$Operators") (index := 39) hx hb htsB xC_10 hown rfl (by decide) xw_1111 (And.intro (by decide +kernel) rfl)) ?_
  refine xa_cons 94 ((And.intro (by decide +kernel) rfl)) ?_
  refine xa_cons 95 ((And.intro (xc_callV (index := 198) (n := 1) (ci := 2) S xg_259 rfl xw_12 xw_1138 xw_1136 xw_1137 rfl rfl rfl ⟨by decide, by decide, by decide +kernel⟩ rfl (And.intro (by decide +kernel) rfl)) (by decide +kernel))) ?_
  refine xa_cons 96 ((Exists.intro (7) (And.intro (by decide +kernel) (by decide +kernel)))) ?_
  refine xa_cons 97 ((And.intro (by decide) (Or.inl (Exists.intro (0) (And.intro rfl (And.intro (by decide +kernel) rfl)))))) ?_
  refine xa_cons 98 (xc_getf (A := A) (own := "ExpressHouse$Operators") (index := 25) hx hb htsB xC_11 hown rfl (by decide) xw_468 (And.intro (by decide +kernel) rfl)) ?_
  refine xa_cons 99 ((And.intro (Exists.intro (_) (And.intro hr (Or.inl ⟨_, rfl⟩))) (by decide +kernel))) ?_
  refine xa_cons 100 ((And.intro (by decide) (Or.inl (Exists.intro (2) (And.intro rfl (And.intro (by decide +kernel) rfl)))))) ?_
  refine xa_cons 101 (xc_getf (A := A) (own := "ExpressHouse$Operators") (index := 33) hx hb htsB xC_10 hown rfl (by decide) xw_1110 (And.intro (by decide +kernel) rfl)) ?_
  refine xa_cons 102 (xc_iconst hx hb (z := 1) (b := 1) (And.intro (by decide +kernel) rfl) (by decide +kernel) ⟨rfl, rfl⟩) ?_
  refine xa_cons 103 ((And.intro (by decide) (Exists.intro (25) (And.intro (by decide +kernel) (And.intro (by decide +kernel) rfl))))) ?_
  refine xa_cons 104 ((And.intro (by decide) (Or.inl (Exists.intro (2) (And.intro rfl (And.intro (by decide +kernel) rfl)))))) ?_
  refine xa_cons 105 (xc_getf (A := A) (own := "ExpressHouse$Operators") (index := 39) hx hb htsB xC_10 hown rfl (by decide) xw_1111 (And.intro (by decide +kernel) rfl)) ?_
  refine xa_cons 106 (xc_lconst hx hb (z := 1) (And.intro (by decide +kernel) rfl) ⟨rfl, rfl⟩) ?_
  refine xa_cons 107 ((And.intro (by decide) (And.intro (by decide +kernel) rfl))) ?_
  refine xa_cons 108 (xc_lconst hx hb (z := 1) (And.intro (by decide +kernel) rfl) ⟨rfl, rfl⟩) ?_
  refine xa_cons 109 ((And.intro (by decide +kernel) rfl)) ?_
  refine xa_cons 110 ((And.intro (by decide) (Exists.intro (7) (And.intro (by decide +kernel) (And.intro (by decide +kernel) rfl))))) ?_
  refine xa_cons 111 (xc_iconst hx hb (z := 1) (b := 1) (And.intro (by decide +kernel) rfl) (by decide +kernel) ⟨rfl, rfl⟩) ?_
  refine xa_cons 112 ((Exists.intro (4) (And.intro (by decide +kernel) (by decide +kernel)))) ?_
  refine xa_cons 113 (xc_iconst hx hb (z := 0) (b := 0) (And.intro (by decide +kernel) rfl) (by decide +kernel) ⟨rfl, rfl⟩) ?_
  refine xa_cons 114 ((And.intro (xc_callS (index := 109) S xg_258 rfl xw_276 xw_1134 xw_1135 ⟨by decide, by decide, by decide +kernel⟩ rfl (And.intro (by decide +kernel) rfl)) (by decide +kernel))) ?_
  refine xa_cons 115 ((Exists.intro (7) (And.intro (by decide +kernel) (by decide +kernel)))) ?_
  refine xa_cons 116 ((And.intro (by decide) (Or.inl (Exists.intro (0) (And.intro rfl (And.intro (by decide +kernel) rfl)))))) ?_
  refine xa_cons 117 (xc_getf (A := A) (own := "ExpressHouse$Operators") (index := 25) hx hb htsB xC_11 hown rfl (by decide) xw_468 (And.intro (by decide +kernel) rfl)) ?_
  refine xa_cons 118 ((And.intro (Exists.intro (_) (And.intro hr (Or.inl ⟨_, rfl⟩))) (by decide +kernel))) ?_
  refine xa_cons 119 ((And.intro (by decide) (Or.inl (Exists.intro (2) (And.intro rfl (And.intro (by decide +kernel) rfl)))))) ?_
  refine xa_cons 120 (xc_getf (A := A) (own := "ExpressHouse$Operators") (index := 33) hx hb htsB xC_10 hown rfl (by decide) xw_1110 (And.intro (by decide +kernel) rfl)) ?_
  refine xa_cons 121 ((And.intro (by decide) (Exists.intro (7) (And.intro (by decide +kernel) (And.intro (by decide +kernel) rfl))))) ?_
  refine xa_cons 122 ((And.intro (by decide) (Or.inl (Exists.intro (3) (And.intro rfl (And.intro (by decide +kernel) rfl)))))) ?_
  refine xa_cons 123 ((Exists.intro (4) (And.intro (by decide +kernel) (by decide +kernel)))) ?_
  refine xa_cons 124 ((And.intro (by decide) (Or.inl (Exists.intro (2) (And.intro rfl (And.intro (by decide +kernel) rfl)))))) ?_
  refine xa_cons 125 ((And.intro (Exists.intro (_) (And.intro hr (Or.inl ⟨_, rfl⟩))) (by decide +kernel))) ?_
  refine xa_cons 126 ((And.intro (by decide) (Or.inl (Exists.intro (0) (And.intro rfl (And.intro (by decide +kernel) rfl)))))) ?_
  refine xa_cons 127 ((And.intro (by decide) (Or.inl (Exists.intro (1) (And.intro rfl (And.intro (by decide +kernel) rfl)))))) ?_
  refine xa_cons 128 ((And.intro (by decide) (Or.inl (Exists.intro (2) (And.intro rfl (And.intro (by decide +kernel) rfl)))))) ?_
  refine xa_cons 129 ((And.intro (by decide) (Or.inl (Exists.intro (3) (And.intro rfl (And.intro (by decide +kernel) rfl)))))) ?_
  refine xa_cons 130 ((And.intro (xc_callV (index := 202) (n := 3) (ci := 11) S xg_260 rfl xw_276 xw_1141 xw_1139 xw_1140 rfl rfl rfl ⟨by decide, by decide, by decide +kernel⟩ rfl (And.intro (by decide +kernel) rfl)) (by decide +kernel))) ?_
  refine xa_cons 131 ((And.intro (Exists.intro (_) (And.intro hr (Or.inl ⟨_, rfl⟩))) (by decide +kernel))) ?_
  exact xa_nil
def xrp_188 : Nat → Nat := fun k => ([0, 1, 4, 6, 9, 10, 13, 14, 17, 18, 21, 22, 23, 26, 27, 30, 31, 32, 33, 34, 35, 36, 39, 40, 41, 44, 45, 46, 47, 50, 51, 54, 55, 56, 57, 58, 61, 63, 65, 68, 69, 72, 75, 78, 79, 81, 82, 83, 84, 87, 90] : List Nat).getD k 0
set_option maxRecDepth 20000 in
set_option maxHeartbeats 4000000 in
theorem xz_188 {l : Launch} {D : va_G} {en : XE} : x_Ok xT l D xcl en xrn (xG en) 188 xc_188 := by
  refine ⟨prog_7_method_13_code, (some (.object "ExpressHouse$Value")), xBIG, xrp_188, by decide +kernel, rfl, rfl, ?_⟩
  intro p e R s m args below meth c s₁ A Q pc i f1 f2 B hml hA hg hi
  obtain ⟨hx, hb, hr, hown, hlocks, hin, htsB, S⟩ := xb_all (C := "ExpressHouse$Operators") B hml rfl rfl
  obtain ⟨hgN, hgZ, hgS, hgS2⟩ := xG_all hg
  refine xa_at (i := i) (pc := pc) ?_ hi
  refine xa_cons 0 ((And.intro (by decide) (Or.inl (Exists.intro (1) (And.intro rfl (And.intro (by decide +kernel) rfl)))))) ?_
  refine xa_cons 1 (xc_getf (A := A) (own := "ExpressHouse$Operators") (index := 33) hx hb htsB xC_10 hown rfl (by decide) xw_1110 (And.intro (by decide +kernel) rfl)) ?_
  refine xa_cons 2 (xc_bipush hx hb (z := 6) (b := 6) (And.intro (by decide +kernel) rfl) (by decide +kernel) ⟨rfl, rfl⟩) ?_
  refine xa_cons 3 ((And.intro (by decide) (Exists.intro (11) (And.intro (by decide +kernel) (And.intro (by decide +kernel) rfl))))) ?_
  refine xa_cons 4 ((And.intro (by decide) (Or.inl (Exists.intro (2) (And.intro rfl (And.intro (by decide +kernel) rfl)))))) ?_
  refine xa_cons 5 (xc_getf (A := A) (own := "ExpressHouse$Operators") (index := 33) hx hb htsB xC_10 hown rfl (by decide) xw_1110 (And.intro (by decide +kernel) rfl)) ?_
  refine xa_cons 6 (xc_iconst hx hb (z := 1) (b := 1) (And.intro (by decide +kernel) rfl) (by decide +kernel) ⟨rfl, rfl⟩) ?_
  refine xa_cons 7 ((And.intro (by decide) (Exists.intro (8) (And.intro (by decide +kernel) (And.intro (by decide +kernel) rfl))))) ?_
  refine xa_cons 8 ((And.intro (by decide) (Or.inl (Exists.intro (0) (And.intro rfl (And.intro (by decide +kernel) rfl)))))) ?_
  refine xa_cons 9 (xc_getf (A := A) (own := "ExpressHouse$Operators") (index := 25) hx hb htsB xC_11 hown rfl (by decide) xw_468 (And.intro (by decide +kernel) rfl)) ?_
  refine xa_cons 10 ((And.intro (Exists.intro (_) (And.intro hr (Or.inl ⟨_, rfl⟩))) (by decide +kernel))) ?_
  refine xa_cons 11 ((And.intro (by decide) (Or.inl (Exists.intro (2) (And.intro rfl (And.intro (by decide +kernel) rfl)))))) ?_
  refine xa_cons 12 (xc_getf (A := A) (own := "ExpressHouse$Operators") (index := 39) hx hb htsB xC_10 hown rfl (by decide) xw_1111 (And.intro (by decide +kernel) rfl)) ?_
  refine xa_cons 13 ((And.intro (by decide) (Or.inl (Exists.intro (1) (And.intro rfl (And.intro (by decide +kernel) rfl)))))) ?_
  refine xa_cons 14 (xc_getf (A := A) (own := "ExpressHouse$Operators") (index := 143) hx hb htsB xC_10 hown rfl (by decide) xw_1133 (And.intro (by decide +kernel) rfl)) ?_
  refine xa_cons 15 ((And.intro (by decide +kernel) rfl)) ?_
  refine xa_cons 16 ((And.intro (by decide) (And.intro (by decide +kernel) rfl))) ?_
  refine xa_cons 17 ((And.intro (Or.inl rfl) (Or.inl (Exists.intro (3) (And.intro rfl (And.intro (by decide +kernel) rfl)))))) ?_
  refine xa_cons 18 ((And.intro (by decide) (Or.inl (Exists.intro (3) (And.intro rfl (And.intro (by decide +kernel) rfl)))))) ?_
  refine xa_cons 19 (xc_lconst hx hb (z := 0) (And.intro (by decide +kernel) rfl) ⟨rfl, rfl⟩) ?_
  refine xa_cons 20 ((And.intro (by decide +kernel) rfl)) ?_
  refine xa_cons 21 ((And.intro (by decide) (Exists.intro (14) (And.intro (by decide +kernel) (And.intro (by decide +kernel) rfl))))) ?_
  refine xa_cons 22 ((And.intro (by decide) (Or.inl (Exists.intro (3) (And.intro rfl (And.intro (by decide +kernel) rfl)))))) ?_
  refine xa_cons 23 ((And.intro (by decide) (Or.inl (Exists.intro (1) (And.intro rfl (And.intro (by decide +kernel) rfl)))))) ?_
  refine xa_cons 24 (xc_getf (A := A) (own := "ExpressHouse$Operators") (index := 75) hx hb htsB xC_10 hown rfl (by decide) xw_1129 (And.intro (by decide +kernel) rfl)) ?_
  refine xa_cons 25 ((And.intro (by decide +kernel) rfl)) ?_
  refine xa_cons 26 ((And.intro (by decide +kernel) rfl)) ?_
  refine xa_cons 27 ((And.intro (by decide +kernel) rfl)) ?_
  refine xa_cons 28 ((And.intro (by decide) (Exists.intro (8) (And.intro (by decide +kernel) (And.intro (by decide +kernel) rfl))))) ?_
  refine xa_cons 29 ((And.intro (by decide) (Or.inl (Exists.intro (0) (And.intro rfl (And.intro (by decide +kernel) rfl)))))) ?_
  refine xa_cons 30 (xc_getf (A := A) (own := "ExpressHouse$Operators") (index := 25) hx hb htsB xC_11 hown rfl (by decide) xw_468 (And.intro (by decide +kernel) rfl)) ?_
  refine xa_cons 31 ((And.intro (Exists.intro (_) (And.intro hr (Or.inl ⟨_, rfl⟩))) (by decide +kernel))) ?_
  refine xa_cons 32 ((And.intro (by decide) (Or.inl (Exists.intro (1) (And.intro rfl (And.intro (by decide +kernel) rfl)))))) ?_
  refine xa_cons 33 ((And.intro (by decide) (Or.inl (Exists.intro (3) (And.intro rfl (And.intro (by decide +kernel) rfl)))))) ?_
  refine xa_cons 34 ((And.intro (by decide +kernel) rfl)) ?_
  refine xa_cons 35 ((And.intro (xc_callV (index := 146) (n := 1) (ci := 10) S xg_261 rfl xw_59 xw_1144 xw_1142 xw_1143 rfl rfl rfl ⟨by decide, by decide, by decide +kernel⟩ rfl (And.intro (by decide +kernel) rfl)) (by decide +kernel))) ?_
  refine xa_cons 36 ((And.intro (Or.inl rfl) (Or.inr (And.intro (by decide +kernel) rfl)))) ?_
  refine xa_cons 37 ((And.intro (by decide) (Or.inr (And.intro (by decide +kernel) rfl)))) ?_
  refine xa_cons 38 ((And.intro (by decide) (Exists.intro (10) (And.intro (by decide +kernel) (And.intro (by decide +kernel) rfl))))) ?_
  refine xa_cons 39 ((And.intro (by decide) (Or.inl (Exists.intro (0) (And.intro rfl (And.intro (by decide +kernel) rfl)))))) ?_
  refine xa_cons 40 (xc_getf (A := A) (own := "ExpressHouse$Operators") (index := 25) hx hb htsB xC_11 hown rfl (by decide) xw_468 (And.intro (by decide +kernel) rfl)) ?_
  refine xa_cons 41 ((Exists.intro (18) (And.intro (by decide +kernel) (by decide +kernel)))) ?_
  refine xa_cons 42 (xc_new (own := "ExpressHouse$Operators") (index := 7) hx hb htsB xC_10 hown hA rfl rfl xw_1115 xw_58 xw_59 (by decide) (by decide +kernel) (And.intro (by decide +kernel) rfl)) ?_
  refine xa_cons 43 ((And.intro (by decide +kernel) rfl)) ?_
  refine xa_cons 44 ((And.intro (by decide) (Or.inr (And.intro (by decide +kernel) rfl)))) ?_
  refine xa_cons 45 ((And.intro (by decide) (Or.inl (Exists.intro (1) (And.intro rfl (And.intro (by decide +kernel) rfl)))))) ?_
  refine xa_cons 46 ((And.intro (by decide) (Or.inl (Exists.intro (3) (And.intro rfl (And.intro (by decide +kernel) rfl)))))) ?_
  refine xa_cons 47 ((And.intro (by decide +kernel) rfl)) ?_
  refine xa_cons 48 ((And.intro (xc_callV (index := 149) (n := 1) (ci := 10) S xg_262 rfl xw_59 xw_1147 xw_1145 xw_1146 rfl rfl rfl ⟨by decide, by decide, by decide +kernel⟩ rfl (And.intro (by decide +kernel) rfl)) (by decide +kernel))) ?_
  refine xa_cons 49 ((And.intro (xc_callIN (index := 26) (n := 2) (ci := 10) S xg_18 rfl xw_59 (hgN.1 _ (List.mem_of_getElem? (i := 11) rfl)) xw_60 rfl rfl rfl ⟨by decide, by decide, by decide +kernel⟩ rfl (And.intro (by decide +kernel) rfl)) (by decide +kernel))) ?_
  refine xa_cons 50 ((And.intro (Exists.intro (_) (And.intro hr (Or.inl ⟨_, rfl⟩))) (by decide +kernel))) ?_
  exact xa_nil
def xrp_189 : Nat → Nat := fun k => ([0, 1, 4, 7, 8, 11, 12, 15, 17, 18, 21, 24, 25, 28, 29, 32, 34, 35, 38, 41, 42, 45, 46, 49, 50, 53, 56, 57, 60, 61, 64, 65, 68, 69, 70, 72, 75, 78, 79, 80, 82, 84, 87, 90, 91, 92, 94, 97, 100, 101, 102, 104, 106, 109, 112, 113, 115, 116, 117, 120, 122, 123, 124, 127, 128, 131, 132, 134, 136, 139, 142, 143, 144, 145, 148, 151, 153, 155, 156, 159, 160, 163, 164, 167] : List Nat).getD k 0
set_option maxRecDepth 20000 in
set_option maxHeartbeats 4000000 in
theorem xz_189 {l : Launch} {D : va_G} {en : XE} : x_Ok xT l D xcl en xrn (xG en) 189 xc_189 := by
  refine ⟨prog_7_method_8_code, (some (.object "ExpressHouse$Value")), xBIG, xrp_189, by decide +kernel, rfl, rfl, ?_⟩
  intro p e R s m args below meth c s₁ A Q pc i f1 f2 B hml hA hg hi
  obtain ⟨hx, hb, hr, hown, hlocks, hin, htsB, S⟩ := xb_all (C := "ExpressHouse$Operators") B hml rfl rfl
  obtain ⟨hgN, hgZ, hgS, hgS2⟩ := xG_all hg
  refine xa_at (i := i) (pc := pc) ?_ hi
  refine xa_cons 0 ((And.intro (by decide) (Or.inl (Exists.intro (2) (And.intro rfl (And.intro (by decide +kernel) rfl)))))) ?_
  refine xa_cons 1 (xc_getf (A := A) (own := "ExpressHouse$Operators") (index := 33) hx hb htsB xC_10 hown rfl (by decide) xw_1110 (And.intro (by decide +kernel) rfl)) ?_
  refine xa_cons 2 ((And.intro (by decide) (Exists.intro (7) (And.intro (by decide +kernel) (And.intro (by decide +kernel) rfl))))) ?_
  refine xa_cons 3 (xc_lconst hx hb (z := 1) (And.intro (by decide +kernel) rfl) ⟨rfl, rfl⟩) ?_
  refine xa_cons 4 ((Exists.intro (7) (And.intro (by decide +kernel) (by decide +kernel)))) ?_
  refine xa_cons 5 ((And.intro (by decide) (Or.inl (Exists.intro (2) (And.intro rfl (And.intro (by decide +kernel) rfl)))))) ?_
  refine xa_cons 6 (xc_getf (A := A) (own := "ExpressHouse$Operators") (index := 39) hx hb htsB xC_10 hown rfl (by decide) xw_1111 (And.intro (by decide +kernel) rfl)) ?_
  refine xa_cons 7 ((And.intro (Or.inl rfl) (Or.inr (And.intro (by decide +kernel) rfl)))) ?_
  refine xa_cons 8 ((And.intro (by decide) (Or.inl (Exists.intro (3) (And.intro rfl (And.intro (by decide +kernel) rfl)))))) ?_
  refine xa_cons 9 (xc_getf (A := A) (own := "ExpressHouse$Operators") (index := 33) hx hb htsB xC_10 hown rfl (by decide) xw_1110 (And.intro (by decide +kernel) rfl)) ?_
  refine xa_cons 10 ((And.intro (by decide) (Exists.intro (7) (And.intro (by decide +kernel) (And.intro (by decide +kernel) rfl))))) ?_
  refine xa_cons 11 (xc_lconst hx hb (z := 1) (And.intro (by decide +kernel) rfl) ⟨rfl, rfl⟩) ?_
  refine xa_cons 12 ((Exists.intro (7) (And.intro (by decide +kernel) (by decide +kernel)))) ?_
  refine xa_cons 13 ((And.intro (by decide) (Or.inl (Exists.intro (3) (And.intro rfl (And.intro (by decide +kernel) rfl)))))) ?_
  refine xa_cons 14 (xc_getf (A := A) (own := "ExpressHouse$Operators") (index := 39) hx hb htsB xC_10 hown rfl (by decide) xw_1111 (And.intro (by decide +kernel) rfl)) ?_
  refine xa_cons 15 ((And.intro (Or.inl rfl) (Or.inr (And.intro (by decide +kernel) rfl)))) ?_
  refine xa_cons 16 ((And.intro (by decide) (Or.inl (Exists.intro (2) (And.intro rfl (And.intro (by decide +kernel) rfl)))))) ?_
  refine xa_cons 17 (xc_getf (A := A) (own := "ExpressHouse$Operators") (index := 33) hx hb htsB xC_10 hown rfl (by decide) xw_1110 (And.intro (by decide +kernel) rfl)) ?_
  refine xa_cons 18 ((And.intro (by decide) (Exists.intro (11) (And.intro (by decide +kernel) (And.intro (by decide +kernel) rfl))))) ?_
  refine xa_cons 19 ((And.intro (by decide) (Or.inl (Exists.intro (2) (And.intro rfl (And.intro (by decide +kernel) rfl)))))) ?_
  refine xa_cons 20 (xc_getf (A := A) (own := "ExpressHouse$Operators") (index := 33) hx hb htsB xC_10 hown rfl (by decide) xw_1110 (And.intro (by decide +kernel) rfl)) ?_
  refine xa_cons 21 (xc_iconst hx hb (z := 3) (b := 3) (And.intro (by decide +kernel) rfl) (by decide +kernel) ⟨rfl, rfl⟩) ?_
  refine xa_cons 22 ((And.intro (by decide) (Exists.intro (18) (And.intro (by decide +kernel) (And.intro (by decide +kernel) rfl))))) ?_
  refine xa_cons 23 ((And.intro (by decide) (Or.inl (Exists.intro (3) (And.intro rfl (And.intro (by decide +kernel) rfl)))))) ?_
  refine xa_cons 24 (xc_getf (A := A) (own := "ExpressHouse$Operators") (index := 33) hx hb htsB xC_10 hown rfl (by decide) xw_1110 (And.intro (by decide +kernel) rfl)) ?_
  refine xa_cons 25 ((And.intro (by decide) (Exists.intro (16) (And.intro (by decide +kernel) (And.intro (by decide +kernel) rfl))))) ?_
  refine xa_cons 26 ((And.intro (by decide) (Or.inl (Exists.intro (3) (And.intro rfl (And.intro (by decide +kernel) rfl)))))) ?_
  refine xa_cons 27 (xc_getf (A := A) (own := "ExpressHouse$Operators") (index := 33) hx hb htsB xC_10 hown rfl (by decide) xw_1110 (And.intro (by decide +kernel) rfl)) ?_
  refine xa_cons 28 (xc_iconst hx hb (z := 3) (b := 3) (And.intro (by decide +kernel) rfl) (by decide +kernel) ⟨rfl, rfl⟩) ?_
  refine xa_cons 29 ((And.intro (by decide) (Exists.intro (8) (And.intro (by decide +kernel) (And.intro (by decide +kernel) rfl))))) ?_
  refine xa_cons 30 ((And.intro (by decide) (Or.inl (Exists.intro (0) (And.intro rfl (And.intro (by decide +kernel) rfl)))))) ?_
  refine xa_cons 31 (xc_getf (A := A) (own := "ExpressHouse$Operators") (index := 25) hx hb htsB xC_11 hown rfl (by decide) xw_468 (And.intro (by decide +kernel) rfl)) ?_
  refine xa_cons 32 ((And.intro (Exists.intro (_) (And.intro hr (Or.inl ⟨_, rfl⟩))) (by decide +kernel))) ?_
  refine xa_cons 33 ((And.intro (by decide) (Or.inl (Exists.intro (1) (And.intro rfl (And.intro (by decide +kernel) rfl)))))) ?_
  refine xa_cons 34 (xc_bipush hx hb (z := 48) (b := 48) (And.intro (by decide +kernel) rfl) (by decide +kernel) ⟨rfl, rfl⟩) ?_
  refine xa_cons 35 ((And.intro (by decide) (Exists.intro (19) (And.intro (by decide +kernel) (And.intro (by decide +kernel) rfl))))) ?_
  refine xa_cons 36 (xc_new (own := "ExpressHouse$Operators") (index := 7) hx hb htsB xC_10 hown hA rfl rfl xw_1115 xw_58 xw_59 (by decide) (by decide +kernel) (And.intro (by decide +kernel) rfl)) ?_
  refine xa_cons 37 ((And.intro (by decide +kernel) rfl)) ?_
  refine xa_cons 38 (xc_iconst hx hb (z := 3) (b := 3) (And.intro (by decide +kernel) rfl) (by decide +kernel) ⟨rfl, rfl⟩) ?_
  refine xa_cons 39 ((And.intro (by decide) (Or.inr (And.intro (by decide +kernel) rfl)))) ?_
  refine xa_cons 40 ((And.intro (by decide) (Or.inr (And.intro (by decide +kernel) rfl)))) ?_
  refine xa_cons 41 (trivial) ?_
  refine xa_cons 42 ((And.intro (xc_callIN (index := 26) (n := 2) (ci := 10) S xg_18 rfl xw_59 (hgN.1 _ (List.mem_of_getElem? (i := 11) rfl)) xw_60 rfl rfl rfl ⟨by decide, by decide, by decide +kernel⟩ rfl (And.intro (by decide +kernel) rfl)) (by decide +kernel))) ?_
  refine xa_cons 43 ((And.intro (Exists.intro (_) (And.intro hr (Or.inl ⟨_, rfl⟩))) (by decide +kernel))) ?_
  refine xa_cons 44 ((And.intro (by decide) (Or.inl (Exists.intro (1) (And.intro rfl (And.intro (by decide +kernel) rfl)))))) ?_
  refine xa_cons 45 (xc_bipush hx hb (z := 49) (b := 49) (And.intro (by decide +kernel) rfl) (by decide +kernel) ⟨rfl, rfl⟩) ?_
  refine xa_cons 46 ((And.intro (by decide) (Exists.intro (19) (And.intro (by decide +kernel) (And.intro (by decide +kernel) rfl))))) ?_
  refine xa_cons 47 (xc_new (own := "ExpressHouse$Operators") (index := 7) hx hb htsB xC_10 hown hA rfl rfl xw_1115 xw_58 xw_59 (by decide) (by decide +kernel) (And.intro (by decide +kernel) rfl)) ?_
  refine xa_cons 48 ((And.intro (by decide +kernel) rfl)) ?_
  refine xa_cons 49 (xc_iconst hx hb (z := 3) (b := 3) (And.intro (by decide +kernel) rfl) (by decide +kernel) ⟨rfl, rfl⟩) ?_
  refine xa_cons 50 ((And.intro (by decide) (Or.inr (And.intro (by decide +kernel) rfl)))) ?_
  refine xa_cons 51 ((And.intro (by decide) (Or.inr (And.intro (by decide +kernel) rfl)))) ?_
  refine xa_cons 52 (trivial) ?_
  refine xa_cons 53 ((And.intro (xc_callIN (index := 26) (n := 2) (ci := 10) S xg_18 rfl xw_59 (hgN.1 _ (List.mem_of_getElem? (i := 11) rfl)) xw_60 rfl rfl rfl ⟨by decide, by decide, by decide +kernel⟩ rfl (And.intro (by decide +kernel) rfl)) (by decide +kernel))) ?_
  refine xa_cons 54 ((And.intro (Exists.intro (_) (And.intro hr (Or.inl ⟨_, rfl⟩))) (by decide +kernel))) ?_
  refine xa_cons 55 ((And.intro (by decide) (Or.inr (And.intro (by decide +kernel) rfl)))) ?_
  refine xa_cons 56 (xc_lconst hx hb (z := 1) (And.intro (by decide +kernel) rfl) ⟨rfl, rfl⟩) ?_
  refine xa_cons 57 ((And.intro (by decide +kernel) rfl)) ?_
  refine xa_cons 58 ((And.intro (by decide) (Exists.intro (10) (And.intro (by decide +kernel) (And.intro (by decide +kernel) rfl))))) ?_
  refine xa_cons 59 ((And.intro (by decide) (Or.inr (And.intro (by decide +kernel) rfl)))) ?_
  refine xa_cons 60 (xc_lconst hx hb (z := 1) (And.intro (by decide +kernel) rfl) ⟨rfl, rfl⟩) ?_
  refine xa_cons 61 ((And.intro (by decide +kernel) rfl)) ?_
  refine xa_cons 62 ((And.intro (by decide) (Exists.intro (7) (And.intro (by decide +kernel) (And.intro (by decide +kernel) rfl))))) ?_
  refine xa_cons 63 (xc_iconst hx hb (z := 1) (b := 1) (And.intro (by decide +kernel) rfl) (by decide +kernel) ⟨rfl, rfl⟩) ?_
  refine xa_cons 64 ((Exists.intro (4) (And.intro (by decide +kernel) (by decide +kernel)))) ?_
  refine xa_cons 65 (xc_iconst hx hb (z := 0) (b := 0) (And.intro (by decide +kernel) rfl) (by decide +kernel) ⟨rfl, rfl⟩) ?_
  refine xa_cons 66 ((And.intro (Or.inl rfl) (Or.inr (And.intro (by decide +kernel) rfl)))) ?_
  refine xa_cons 67 ((And.intro (by decide) (Or.inr (And.intro (by decide +kernel) rfl)))) ?_
  refine xa_cons 68 ((And.intro (by decide) (Exists.intro (15) (And.intro (by decide +kernel) (And.intro (by decide +kernel) rfl))))) ?_
  refine xa_cons 69 (xc_new (own := "ExpressHouse$Operators") (index := 7) hx hb htsB xC_10 hown hA rfl rfl xw_1115 xw_58 xw_59 (by decide) (by decide +kernel) (And.intro (by decide +kernel) rfl)) ?_
  refine xa_cons 70 ((And.intro (by decide +kernel) rfl)) ?_
  refine xa_cons 71 (xc_iconst hx hb (z := 3) (b := 3) (And.intro (by decide +kernel) rfl) (by decide +kernel) ⟨rfl, rfl⟩) ?_
  refine xa_cons 72 (xc_lconst hx hb (z := 1) (And.intro (by decide +kernel) rfl) ⟨rfl, rfl⟩) ?_
  refine xa_cons 73 ((And.intro (xc_callIN (index := 26) (n := 2) (ci := 10) S xg_18 rfl xw_59 (hgN.1 _ (List.mem_of_getElem? (i := 11) rfl)) xw_60 rfl rfl rfl ⟨by decide, by decide, by decide +kernel⟩ rfl (And.intro (by decide +kernel) rfl)) (by decide +kernel))) ?_
  refine xa_cons 74 ((Exists.intro (19) (And.intro (by decide +kernel) (by decide +kernel)))) ?_
  refine xa_cons 75 ((And.intro (by decide) (Or.inr (And.intro (by decide +kernel) rfl)))) ?_
  refine xa_cons 76 ((And.intro (by decide) (Or.inr (And.intro (by decide +kernel) rfl)))) ?_
  refine xa_cons 77 ((And.intro (by decide +kernel) rfl)) ?_
  refine xa_cons 78 ((And.intro (by decide) (Exists.intro (7) (And.intro (by decide +kernel) (And.intro (by decide +kernel) rfl))))) ?_
  refine xa_cons 79 (xc_iconst hx hb (z := 1) (b := 1) (And.intro (by decide +kernel) rfl) (by decide +kernel) ⟨rfl, rfl⟩) ?_
  refine xa_cons 80 ((Exists.intro (4) (And.intro (by decide +kernel) (by decide +kernel)))) ?_
  refine xa_cons 81 (xc_iconst hx hb (z := 0) (b := 0) (And.intro (by decide +kernel) rfl) (by decide +kernel) ⟨rfl, rfl⟩) ?_
  refine xa_cons 82 ((And.intro (xc_callS (index := 109) S xg_258 rfl xw_276 xw_1134 xw_1135 ⟨by decide, by decide, by decide +kernel⟩ rfl (And.intro (by decide +kernel) rfl)) (by decide +kernel))) ?_
  refine xa_cons 83 ((And.intro (Exists.intro (_) (And.intro hr (Or.inl ⟨_, rfl⟩))) (by decide +kernel))) ?_
  exact xa_nil
def xrp_190 : Nat → Nat := fun k => ([0, 1, 4, 7, 8, 11, 14, 17, 18, 19, 20, 23, 24, 25, 27, 30, 31, 34, 36, 39, 40, 41, 44, 45, 48, 49, 52, 55, 58, 59, 62, 63, 64, 67, 68, 71, 74, 75, 78, 81, 82, 85, 88, 89, 92, 93, 94, 96, 99, 100, 101, 102, 103, 106, 107, 108, 111, 112, 115, 116, 119, 120, 121, 124, 125, 128, 129, 130, 133, 136, 137, 138, 139, 142, 143, 144, 146, 149, 150, 153, 154, 157, 158, 161, 162, 165, 166, 169, 170, 173, 174, 177, 178, 181, 182, 183, 186, 188, 190, 191, 193, 196, 197, 200, 201, 204, 205, 208, 209, 212] : List Nat).getD k 0
set_option maxRecDepth 20000 in
set_option maxHeartbeats 4000000 in
theorem xz_190 {l : Launch} {D : va_G} {en : XE} : x_Ok xT l D xcl en xrn (xG en) 190 xc_190 := by
  refine ⟨prog_7_method_11_code, (some (.object "ExpressHouse$Value")), xBIG, xrp_190, by decide +kernel, rfl, rfl, ?_⟩
  intro p e R s m args below meth c s₁ A Q pc i f1 f2 B hml hA hg hi
  obtain ⟨hx, hb, hr, hown, hlocks, hin, htsB, S⟩ := xb_all (C := "ExpressHouse$Operators") B hml rfl rfl
  obtain ⟨hgN, hgZ, hgS, hgS2⟩ := xG_all hg
  refine xa_at (i := i) (pc := pc) ?_ hi
  refine xa_cons 0 ((And.intro (by decide) (Or.inl (Exists.intro (2) (And.intro rfl (And.intro (by decide +kernel) rfl)))))) ?_
  refine xa_cons 1 (xc_getf (A := A) (own := "ExpressHouse$Operators") (index := 33) hx hb htsB xC_10 hown rfl (by decide) xw_1110 (And.intro (by decide +kernel) rfl)) ?_
  refine xa_cons 2 ((And.intro (by decide) (Exists.intro (10) (And.intro (by decide +kernel) (And.intro (by decide +kernel) rfl))))) ?_
  refine xa_cons 3 ((And.intro (by decide) (Or.inl (Exists.intro (3) (And.intro rfl (And.intro (by decide +kernel) rfl)))))) ?_
  refine xa_cons 4 (xc_getf (A := A) (own := "ExpressHouse$Operators") (index := 33) hx hb htsB xC_10 hown rfl (by decide) xw_1110 (And.intro (by decide +kernel) rfl)) ?_
  refine xa_cons 5 ((And.intro (by decide) (Exists.intro (13) (And.intro (by decide +kernel) (And.intro (by decide +kernel) rfl))))) ?_
  refine xa_cons 6 (xc_new (own := "ExpressHouse$Operators") (index := 7) hx hb htsB xC_10 hown hA rfl rfl xw_1115 xw_58 xw_59 (by decide) (by decide +kernel) (And.intro (by decide +kernel) rfl)) ?_
  refine xa_cons 7 ((And.intro (by decide +kernel) rfl)) ?_
  refine xa_cons 8 (xc_iconst hx hb (z := 3) (b := 3) (And.intro (by decide +kernel) rfl) (by decide +kernel) ⟨rfl, rfl⟩) ?_
  refine xa_cons 9 (xc_lconst hx hb (z := 1) (And.intro (by decide +kernel) rfl) ⟨rfl, rfl⟩) ?_
  refine xa_cons 10 ((And.intro (xc_callIN (index := 26) (n := 2) (ci := 10) S xg_18 rfl xw_59 (hgN.1 _ (List.mem_of_getElem? (i := 11) rfl)) xw_60 rfl rfl rfl ⟨by decide, by decide, by decide +kernel⟩ rfl (And.intro (by decide +kernel) rfl)) (by decide +kernel))) ?_
  refine xa_cons 11 ((And.intro (Exists.intro (_) (And.intro hr (Or.inl ⟨_, rfl⟩))) (by decide +kernel))) ?_
  refine xa_cons 12 ((And.intro (by decide) (Or.inl (Exists.intro (1) (And.intro rfl (And.intro (by decide +kernel) rfl)))))) ?_
  refine xa_cons 13 (xc_bipush hx hb (z := 52) (b := 52) (And.intro (by decide +kernel) rfl) (by decide +kernel) ⟨rfl, rfl⟩) ?_
  refine xa_cons 14 ((And.intro (by decide) (Exists.intro (36) (And.intro (by decide +kernel) (And.intro (by decide +kernel) rfl))))) ?_
  refine xa_cons 15 ((And.intro (by decide) (Or.inl (Exists.intro (3) (And.intro rfl (And.intro (by decide +kernel) rfl)))))) ?_
  refine xa_cons 16 (xc_getf (A := A) (own := "ExpressHouse$Operators") (index := 33) hx hb htsB xC_10 hown rfl (by decide) xw_1110 (And.intro (by decide +kernel) rfl)) ?_
  refine xa_cons 17 (xc_bipush hx hb (z := 6) (b := 6) (And.intro (by decide +kernel) rfl) (by decide +kernel) ⟨rfl, rfl⟩) ?_
  refine xa_cons 18 ((And.intro (by decide) (Exists.intro (22) (And.intro (by decide +kernel) (And.intro (by decide +kernel) rfl))))) ?_
  refine xa_cons 19 ((And.intro (by decide) (Or.inl (Exists.intro (0) (And.intro rfl (And.intro (by decide +kernel) rfl)))))) ?_
  refine xa_cons 20 ((And.intro (by decide) (Or.inl (Exists.intro (2) (And.intro rfl (And.intro (by decide +kernel) rfl)))))) ?_
  refine xa_cons 21 (xc_getf (A := A) (own := "ExpressHouse$Operators") (index := 33) hx hb htsB xC_10 hown rfl (by decide) xw_1110 (And.intro (by decide +kernel) rfl)) ?_
  refine xa_cons 22 ((And.intro (by decide) (Or.inl (Exists.intro (2) (And.intro rfl (And.intro (by decide +kernel) rfl)))))) ?_
  refine xa_cons 23 (xc_getf (A := A) (own := "ExpressHouse$Operators") (index := 39) hx hb htsB xC_10 hown rfl (by decide) xw_1111 (And.intro (by decide +kernel) rfl)) ?_
  refine xa_cons 24 ((And.intro (by decide) (Or.inl (Exists.intro (3) (And.intro rfl (And.intro (by decide +kernel) rfl)))))) ?_
  refine xa_cons 25 ((And.intro (xc_callV (index := 78) (n := 3) (ci := 11) S xg_263 rfl xw_276 xw_1150 xw_1148 xw_1149 rfl rfl rfl ⟨by decide, by decide, by decide +kernel⟩ rfl (And.intro (by decide +kernel) rfl)) (by decide +kernel))) ?_
  refine xa_cons 26 ((And.intro (xc_callS (index := 109) S xg_258 rfl xw_276 xw_1134 xw_1135 ⟨by decide, by decide, by decide +kernel⟩ rfl (And.intro (by decide +kernel) rfl)) (by decide +kernel))) ?_
  refine xa_cons 27 ((Exists.intro (7) (And.intro (by decide +kernel) (by decide +kernel)))) ?_
  refine xa_cons 28 ((And.intro (by decide) (Or.inl (Exists.intro (0) (And.intro rfl (And.intro (by decide +kernel) rfl)))))) ?_
  refine xa_cons 29 (xc_getf (A := A) (own := "ExpressHouse$Operators") (index := 25) hx hb htsB xC_11 hown rfl (by decide) xw_468 (And.intro (by decide +kernel) rfl)) ?_
  refine xa_cons 30 ((And.intro (Exists.intro (_) (And.intro hr (Or.inl ⟨_, rfl⟩))) (by decide +kernel))) ?_
  refine xa_cons 31 ((And.intro (by decide) (Or.inl (Exists.intro (2) (And.intro rfl (And.intro (by decide +kernel) rfl)))))) ?_
  refine xa_cons 32 (xc_getf (A := A) (own := "ExpressHouse$Operators") (index := 33) hx hb htsB xC_10 hown rfl (by decide) xw_1110 (And.intro (by decide +kernel) rfl)) ?_
  refine xa_cons 33 ((And.intro (by decide) (Or.inl (Exists.intro (3) (And.intro rfl (And.intro (by decide +kernel) rfl)))))) ?_
  refine xa_cons 34 (xc_getf (A := A) (own := "ExpressHouse$Operators") (index := 33) hx hb htsB xC_10 hown rfl (by decide) xw_1110 (And.intro (by decide +kernel) rfl)) ?_
  refine xa_cons 35 ((And.intro (by decide) (Exists.intro (22) (And.intro (by decide +kernel) (And.intro (by decide +kernel) rfl))))) ?_
  refine xa_cons 36 ((And.intro (by decide) (Or.inl (Exists.intro (2) (And.intro rfl (And.intro (by decide +kernel) rfl)))))) ?_
  refine xa_cons 37 ((And.intro (xc_callV (index := 29) (n := 0) (ci := 10) S xg_264 rfl xw_59 xw_1153 xw_1151 xw_1152 rfl rfl rfl ⟨by decide, by decide, by decide +kernel⟩ rfl (And.intro (by decide +kernel) rfl)) (by decide +kernel))) ?_
  refine xa_cons 38 ((And.intro (by decide) (Exists.intro (10) (And.intro (by decide +kernel) (And.intro (by decide +kernel) rfl))))) ?_
  refine xa_cons 39 ((And.intro (by decide) (Or.inl (Exists.intro (3) (And.intro rfl (And.intro (by decide +kernel) rfl)))))) ?_
  refine xa_cons 40 ((And.intro (xc_callV (index := 29) (n := 0) (ci := 10) S xg_264 rfl xw_59 xw_1153 xw_1151 xw_1152 rfl rfl rfl ⟨by decide, by decide, by decide +kernel⟩ rfl (And.intro (by decide +kernel) rfl)) (by decide +kernel))) ?_
  refine xa_cons 41 ((And.intro (by decide) (Exists.intro (8) (And.intro (by decide +kernel) (And.intro (by decide +kernel) rfl))))) ?_
  refine xa_cons 42 ((And.intro (by decide) (Or.inl (Exists.intro (0) (And.intro rfl (And.intro (by decide +kernel) rfl)))))) ?_
  refine xa_cons 43 (xc_getf (A := A) (own := "ExpressHouse$Operators") (index := 25) hx hb htsB xC_11 hown rfl (by decide) xw_468 (And.intro (by decide +kernel) rfl)) ?_
  refine xa_cons 44 ((And.intro (Exists.intro (_) (And.intro hr (Or.inl ⟨_, rfl⟩))) (by decide +kernel))) ?_
  refine xa_cons 45 ((And.intro (by decide) (Or.inl (Exists.intro (1) (And.intro rfl (And.intro (by decide +kernel) rfl)))))) ?_
  refine xa_cons 46 (xc_bipush hx hb (z := 63) (b := 63) (And.intro (by decide +kernel) rfl) (by decide +kernel) ⟨rfl, rfl⟩) ?_
  refine xa_cons 47 ((And.intro (by decide) (Exists.intro (11) (And.intro (by decide +kernel) (And.intro (by decide +kernel) rfl))))) ?_
  refine xa_cons 48 ((And.intro (by decide) (Or.inl (Exists.intro (0) (And.intro rfl (And.intro (by decide +kernel) rfl)))))) ?_
  refine xa_cons 49 ((And.intro (by decide) (Or.inl (Exists.intro (1) (And.intro rfl (And.intro (by decide +kernel) rfl)))))) ?_
  refine xa_cons 50 ((And.intro (by decide) (Or.inl (Exists.intro (2) (And.intro rfl (And.intro (by decide +kernel) rfl)))))) ?_
  refine xa_cons 51 ((And.intro (by decide) (Or.inl (Exists.intro (3) (And.intro rfl (And.intro (by decide +kernel) rfl)))))) ?_
  refine xa_cons 52 ((And.intro (xc_callV (index := 117) (n := 3) (ci := 11) S xg_265 rfl xw_276 xw_1156 xw_1154 xw_1155 rfl rfl rfl ⟨by decide, by decide, by decide +kernel⟩ rfl (And.intro (by decide +kernel) rfl)) (by decide +kernel))) ?_
  refine xa_cons 53 ((And.intro (Exists.intro (_) (And.intro hr (Or.inl ⟨_, rfl⟩))) (by decide +kernel))) ?_
  refine xa_cons 54 ((And.intro (by decide) (Or.inl (Exists.intro (2) (And.intro rfl (And.intro (by decide +kernel) rfl)))))) ?_
  refine xa_cons 55 (xc_getf (A := A) (own := "ExpressHouse$Operators") (index := 33) hx hb htsB xC_10 hown rfl (by decide) xw_1110 (And.intro (by decide +kernel) rfl)) ?_
  refine xa_cons 56 (xc_iconst hx hb (z := 3) (b := 3) (And.intro (by decide +kernel) rfl) (by decide +kernel) ⟨rfl, rfl⟩) ?_
  refine xa_cons 57 ((And.intro (by decide) (Exists.intro (31) (And.intro (by decide +kernel) (And.intro (by decide +kernel) rfl))))) ?_
  refine xa_cons 58 ((And.intro (by decide) (Or.inl (Exists.intro (2) (And.intro rfl (And.intro (by decide +kernel) rfl)))))) ?_
  refine xa_cons 59 (xc_getf (A := A) (own := "ExpressHouse$Operators") (index := 39) hx hb htsB xC_10 hown rfl (by decide) xw_1111 (And.intro (by decide +kernel) rfl)) ?_
  refine xa_cons 60 (xc_lconst hx hb (z := 1) (And.intro (by decide +kernel) rfl) ⟨rfl, rfl⟩) ?_
  refine xa_cons 61 ((And.intro (by decide +kernel) rfl)) ?_
  refine xa_cons 62 ((And.intro (by decide) (Exists.intro (12) (And.intro (by decide +kernel) (And.intro (by decide +kernel) rfl))))) ?_
  refine xa_cons 63 ((And.intro (by decide) (Or.inl (Exists.intro (3) (And.intro rfl (And.intro (by decide +kernel) rfl)))))) ?_
  refine xa_cons 64 (xc_getf (A := A) (own := "ExpressHouse$Operators") (index := 39) hx hb htsB xC_10 hown rfl (by decide) xw_1111 (And.intro (by decide +kernel) rfl)) ?_
  refine xa_cons 65 (xc_lconst hx hb (z := 1) (And.intro (by decide +kernel) rfl) ⟨rfl, rfl⟩) ?_
  refine xa_cons 66 ((And.intro (by decide +kernel) rfl)) ?_
  refine xa_cons 67 ((And.intro (by decide) (Exists.intro (13) (And.intro (by decide +kernel) (And.intro (by decide +kernel) rfl))))) ?_
  refine xa_cons 68 (xc_new (own := "ExpressHouse$Operators") (index := 7) hx hb htsB xC_10 hown hA rfl rfl xw_1115 xw_58 xw_59 (by decide) (by decide +kernel) (And.intro (by decide +kernel) rfl)) ?_
  refine xa_cons 69 ((And.intro (by decide +kernel) rfl)) ?_
  refine xa_cons 70 (xc_iconst hx hb (z := 3) (b := 3) (And.intro (by decide +kernel) rfl) (by decide +kernel) ⟨rfl, rfl⟩) ?_
  refine xa_cons 71 (xc_lconst hx hb (z := 1) (And.intro (by decide +kernel) rfl) ⟨rfl, rfl⟩) ?_
  refine xa_cons 72 ((And.intro (xc_callIN (index := 26) (n := 2) (ci := 10) S xg_18 rfl xw_59 (hgN.1 _ (List.mem_of_getElem? (i := 11) rfl)) xw_60 rfl rfl rfl ⟨by decide, by decide, by decide +kernel⟩ rfl (And.intro (by decide +kernel) rfl)) (by decide +kernel))) ?_
  refine xa_cons 73 ((And.intro (Exists.intro (_) (And.intro hr (Or.inl ⟨_, rfl⟩))) (by decide +kernel))) ?_
  refine xa_cons 74 ((And.intro (by decide) (Or.inl (Exists.intro (1) (And.intro rfl (And.intro (by decide +kernel) rfl)))))) ?_
  refine xa_cons 75 (xc_bipush hx hb (z := 66) (b := 66) (And.intro (by decide +kernel) rfl) (by decide +kernel) ⟨rfl, rfl⟩) ?_
  refine xa_cons 76 ((And.intro (by decide) (Exists.intro (31) (And.intro (by decide +kernel) (And.intro (by decide +kernel) rfl))))) ?_
  refine xa_cons 77 ((And.intro (by decide) (Or.inl (Exists.intro (2) (And.intro rfl (And.intro (by decide +kernel) rfl)))))) ?_
  refine xa_cons 78 (xc_getf (A := A) (own := "ExpressHouse$Operators") (index := 33) hx hb htsB xC_10 hown rfl (by decide) xw_1110 (And.intro (by decide +kernel) rfl)) ?_
  refine xa_cons 79 (xc_iconst hx hb (z := 5) (b := 5) (And.intro (by decide +kernel) rfl) (by decide +kernel) ⟨rfl, rfl⟩) ?_
  refine xa_cons 80 ((And.intro (by decide) (Exists.intro (23) (And.intro (by decide +kernel) (And.intro (by decide +kernel) rfl))))) ?_
  refine xa_cons 81 ((And.intro (by decide) (Or.inl (Exists.intro (2) (And.intro rfl (And.intro (by decide +kernel) rfl)))))) ?_
  refine xa_cons 82 (xc_getf (A := A) (own := "ExpressHouse$Operators") (index := 39) hx hb htsB xC_10 hown rfl (by decide) xw_1111 (And.intro (by decide +kernel) rfl)) ?_
  refine xa_cons 83 ((And.intro (by decide) (Or.inl (Exists.intro (3) (And.intro rfl (And.intro (by decide +kernel) rfl)))))) ?_
  refine xa_cons 84 (xc_getf (A := A) (own := "ExpressHouse$Operators") (index := 39) hx hb htsB xC_10 hown rfl (by decide) xw_1111 (And.intro (by decide +kernel) rfl)) ?_
  refine xa_cons 85 ((And.intro (by decide +kernel) rfl)) ?_
  refine xa_cons 86 ((And.intro (by decide) (Exists.intro (7) (And.intro (by decide +kernel) (And.intro (by decide +kernel) rfl))))) ?_
  refine xa_cons 87 (xc_iconst hx hb (z := 1) (b := 1) (And.intro (by decide +kernel) rfl) (by decide +kernel) ⟨rfl, rfl⟩) ?_
  refine xa_cons 88 ((Exists.intro (16) (And.intro (by decide +kernel) (by decide +kernel)))) ?_
  refine xa_cons 89 (xc_iconst hx hb (z := 0) (b := 0) (And.intro (by decide +kernel) rfl) (by decide +kernel) ⟨rfl, rfl⟩) ?_
  refine xa_cons 90 ((Exists.intro (12) (And.intro (by decide +kernel) (by decide +kernel)))) ?_
  refine xa_cons 91 ((And.intro (by decide) (Or.inl (Exists.intro (0) (And.intro rfl (And.intro (by decide +kernel) rfl)))))) ?_
  refine xa_cons 92 (xc_getf (A := A) (own := "ExpressHouse$Operators") (index := 15) hx hb htsB xC_11 hown rfl (by decide) xw_466 (And.intro (by decide +kernel) rfl)) ?_
  refine xa_cons 93 ((And.intro (by decide) (Or.inl (Exists.intro (2) (And.intro rfl (And.intro (by decide +kernel) rfl)))))) ?_
  refine xa_cons 94 ((And.intro (by decide) (Or.inl (Exists.intro (3) (And.intro rfl (And.intro (by decide +kernel) rfl)))))) ?_
  refine xa_cons 95 ((And.intro (xc_callV (index := 121) (n := 2) (ci := 2) S xg_247 rfl xw_12 xw_1157 xw_1088 xw_1089 rfl rfl rfl ⟨by decide, by decide, by decide +kernel⟩ rfl (And.intro (by decide +kernel) rfl)) (by decide +kernel))) ?_
  refine xa_cons 96 ((And.intro (Or.inl rfl) (Or.inr (And.intro (by decide +kernel) rfl)))) ?_
  refine xa_cons 97 ((And.intro (by decide) (Or.inr (And.intro (by decide +kernel) rfl)))) ?_
  refine xa_cons 98 ((And.intro (by decide) (Or.inl (Exists.intro (1) (And.intro rfl (And.intro (by decide +kernel) rfl)))))) ?_
  refine xa_cons 99 (xc_bipush hx hb (z := 65) (b := 65) (And.intro (by decide +kernel) rfl) (by decide +kernel) ⟨rfl, rfl⟩) ?_
  refine xa_cons 100 ((And.intro (by decide) (Exists.intro (7) (And.intro (by decide +kernel) (And.intro (by decide +kernel) rfl))))) ?_
  refine xa_cons 101 (xc_iconst hx hb (z := 1) (b := 1) (And.intro (by decide +kernel) rfl) (by decide +kernel) ⟨rfl, rfl⟩) ?_
  refine xa_cons 102 ((Exists.intro (4) (And.intro (by decide +kernel) (by decide +kernel)))) ?_
  refine xa_cons 103 (xc_iconst hx hb (z := 0) (b := 0) (And.intro (by decide +kernel) rfl) (by decide +kernel) ⟨rfl, rfl⟩) ?_
  refine xa_cons 104 ((And.intro (by decide) (Exists.intro (7) (And.intro (by decide +kernel) (And.intro (by decide +kernel) rfl))))) ?_
  refine xa_cons 105 (xc_iconst hx hb (z := 1) (b := 1) (And.intro (by decide +kernel) rfl) (by decide +kernel) ⟨rfl, rfl⟩) ?_
  refine xa_cons 106 ((Exists.intro (4) (And.intro (by decide +kernel) (by decide +kernel)))) ?_
  refine xa_cons 107 (xc_iconst hx hb (z := 0) (b := 0) (And.intro (by decide +kernel) rfl) (by decide +kernel) ⟨rfl, rfl⟩) ?_
  refine xa_cons 108 ((And.intro (xc_callS (index := 109) S xg_258 rfl xw_276 xw_1134 xw_1135 ⟨by decide, by decide, by decide +kernel⟩ rfl (And.intro (by decide +kernel) rfl)) (by decide +kernel))) ?_
  refine xa_cons 109 ((And.intro (Exists.intro (_) (And.intro hr (Or.inl ⟨_, rfl⟩))) (by decide +kernel))) ?_
  exact xa_nil
end AMM12
