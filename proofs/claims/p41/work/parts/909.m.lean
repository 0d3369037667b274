section AMM9
def xrp_139 : Nat → Nat := fun k => ([0, 1, 4, 5, 6, 9, 12, 13, 14, 17, 20, 21, 22, 25, 26, 29, 30, 31, 32, 34, 35, 38, 39, 42, 44, 45, 48, 49, 52, 53, 55, 56, 59, 60, 63, 65, 66, 69, 72, 75, 76, 77, 78, 79, 80, 83, 85, 87, 88, 89, 92, 94, 95, 98, 99, 102, 105, 107, 110, 111, 112, 113, 116, 119, 120, 123, 126, 129, 130, 133, 136, 137, 140, 141, 144, 145, 148, 149, 152, 153, 156, 158, 161, 162, 165, 166, 167, 168, 171, 172, 175, 176, 177, 179, 180, 181, 182, 184, 187, 188, 191, 194, 195, 197, 200, 202, 203, 205, 206, 208, 210, 211, 214, 217, 218, 221, 224, 226, 229, 230, 233, 235, 238, 241, 242, 245, 247, 250, 252, 255, 256, 258, 261, 262, 264, 267, 269, 272, 274, 277, 278, 281, 282, 284, 285, 288, 291, 293, 294, 295, 297, 300, 301, 304, 306, 309, 311, 312, 315, 318, 321, 322, 325, 328, 329, 332, 334, 337, 339, 342, 344, 347, 348, 349, 350, 353, 356, 357, 359, 362] : List Nat).getD k 0
set_option maxRecDepth 20000 in
set_option maxHeartbeats 4000000 in
theorem xz_139 {l : Launch} {D : va_G} {en : XE} : x_Ok xT l D xcl en xrn (xG en) 139 xc_139 := by
  refine ⟨prog_3_method_19_code, none, xBIG, xrp_139, by decide +kernel, rfl, rfl, ?_⟩
  intro p e R s m args below meth c s₁ A Q pc i f1 f2 B hml hA hg hi
  obtain ⟨hx, hb, hr, hown, hlocks, hin, htsB, S⟩ := xb_all (C := "ExpressHouse$FileReader") B hml rfl rfl
  obtain ⟨hgN, hgZ, hgS, hgS2⟩ := xG_all hg
  refine xa_at (i := i) (pc := pc) ?_ hi
  refine xa_cons 0 ((And.intro (by decide) (Or.inl (Exists.intro (0) (And.intro rfl (And.intro (by decide +kernel) rfl)))))) ?_
  refine xa_cons 1 (xc_getf (A := A) (own := "ExpressHouse$FileReader") (index := 65) hx hb htsB xC_8 hown rfl (by decide) xw_668 (And.intro (by decide +kernel) rfl)) ?_
  refine xa_cons 2 ((And.intro (Or.inl rfl) (Or.inl (Exists.intro (2) (And.intro rfl (And.intro (by decide +kernel) rfl)))))) ?_
  refine xa_cons 3 ((And.intro (by decide) (Or.inl (Exists.intro (0) (And.intro rfl (And.intro (by decide +kernel) rfl)))))) ?_
  refine xa_cons 4 (xc_getf (A := A) (own := "ExpressHouse$FileReader") (index := 37) hx hb htsB xC_8 hown rfl (by decide) xw_294 (And.intro (by decide +kernel) rfl)) ?_
  refine xa_cons 5 (xc_getf (A := A) (own := "ExpressHouse$FileReader") (index := 138) hx hb htsB xC_2 hown rfl (by decide) xw_972 (And.intro (by decide +kernel) rfl)) ?_
  refine xa_cons 6 (xc_iconst hx hb (z := 2) (b := 2) (And.intro (by decide +kernel) rfl) (by decide +kernel) ⟨rfl, rfl⟩) ?_
  refine xa_cons 7 ((And.intro (by decide) (Or.inl (Exists.intro (0) (And.intro rfl (And.intro (by decide +kernel) rfl)))))) ?_
  refine xa_cons 8 ((And.intro (xc_callV (index := 166) (n := 0) (ci := 8) S xg_216 rfl xw_47 xw_980 xw_978 xw_979 rfl rfl rfl ⟨by decide, by decide, by decide +kernel⟩ rfl (And.intro (by decide +kernel) rfl)) (by decide +kernel))) ?_
  refine xa_cons 9 ((And.intro (xc_callV (index := 170) (n := 2) (ci := 3) S xg_217 rfl xw_15 xw_983 xw_981 xw_982 rfl rfl rfl ⟨by decide, by decide, by decide +kernel⟩ rfl (And.intro (by decide +kernel) rfl)) (by decide +kernel))) ?_
  refine xa_cons 10 ((And.intro (Or.inl rfl) (Or.inl (Exists.intro (3) (And.intro rfl (And.intro (by decide +kernel) rfl)))))) ?_
  refine xa_cons 11 ((And.intro (by decide) (Or.inl (Exists.intro (3) (And.intro rfl (And.intro (by decide +kernel) rfl)))))) ?_
  refine xa_cons 12 ((And.intro (by decide) (Exists.intro (7) (And.intro (by decide +kernel) (And.intro (by decide +kernel) rfl))))) ?_
  refine xa_cons 13 (xc_iconst hx hb (z := 0) (b := 0) (And.intro (by decide +kernel) rfl) (by decide +kernel) ⟨rfl, rfl⟩) ?_
  refine xa_cons 14 ((Exists.intro (6) (And.intro (by decide +kernel) (by decide +kernel)))) ?_
  refine xa_cons 15 (xc_iconst hx hb (z := 1) (b := 1) (And.intro (by decide +kernel) rfl) (by decide +kernel) ⟨rfl, rfl⟩) ?_
  refine xa_cons 16 ((And.intro (by decide) (Or.inl (Exists.intro (3) (And.intro rfl (And.intro (by decide +kernel) rfl)))))) ?_
  refine xa_cons 17 ((And.intro (by decide) (And.intro (by decide +kernel) rfl))) ?_
  refine xa_cons 18 ((And.intro (Or.inl rfl) (Or.inr (And.intro (by decide +kernel) rfl)))) ?_
  refine xa_cons 19 ((And.intro (by decide) (Or.inl (Exists.intro (3) (And.intro rfl (And.intro (by decide +kernel) rfl)))))) ?_
  refine xa_cons 20 ((And.intro (by decide) (Exists.intro (17) (And.intro (by decide +kernel) (And.intro (by decide +kernel) rfl))))) ?_
  refine xa_cons 21 ((And.intro (by decide) (Or.inl (Exists.intro (0) (And.intro rfl (And.intro (by decide +kernel) rfl)))))) ?_
  refine xa_cons 22 (xc_getf (A := A) (own := "ExpressHouse$FileReader") (index := 122) hx hb htsB xC_8 hown rfl (by decide) xw_686 (And.intro (by decide +kernel) rfl)) ?_
  refine xa_cons 23 ((And.intro (by decide) (Or.inr (And.intro (by decide +kernel) rfl)))) ?_
  refine xa_cons 24 ((And.intro (by decide) (And.intro (by decide +kernel) rfl))) ?_
  refine xa_cons 25 ((And.intro (by decide) (Exists.intro (7) (And.intro (by decide +kernel) (And.intro (by decide +kernel) rfl))))) ?_
  refine xa_cons 26 (xc_iconst hx hb (z := 1) (b := 1) (And.intro (by decide +kernel) rfl) (by decide +kernel) ⟨rfl, rfl⟩) ?_
  refine xa_cons 27 ((Exists.intro (4) (And.intro (by decide +kernel) (by decide +kernel)))) ?_
  refine xa_cons 28 (xc_iconst hx hb (z := 0) (b := 0) (And.intro (by decide +kernel) rfl) (by decide +kernel) ⟨rfl, rfl⟩) ?_
  refine xa_cons 29 ((And.intro (Or.inl rfl) (Or.inr (And.intro (by decide +kernel) rfl)))) ?_
  refine xa_cons 30 ((And.intro (by decide) (Or.inl (Exists.intro (1) (And.intro rfl (And.intro (by decide +kernel) rfl)))))) ?_
  refine xa_cons 31 ((And.intro (by decide) (Exists.intro (27) (And.intro (by decide +kernel) (And.intro (by decide +kernel) rfl))))) ?_
  refine xa_cons 32 ((And.intro (by decide) (Or.inl (Exists.intro (3) (And.intro rfl (And.intro (by decide +kernel) rfl)))))) ?_
  refine xa_cons 33 ((And.intro (by decide) (Exists.intro (23) (And.intro (by decide +kernel) (And.intro (by decide +kernel) rfl))))) ?_
  refine xa_cons 34 ((And.intro (by decide) (Or.inr (And.intro (by decide +kernel) rfl)))) ?_
  refine xa_cons 35 ((And.intro (by decide) (Or.inl (Exists.intro (0) (And.intro rfl (And.intro (by decide +kernel) rfl)))))) ?_
  refine xa_cons 36 (xc_getf (A := A) (own := "ExpressHouse$FileReader") (index := 37) hx hb htsB xC_8 hown rfl (by decide) xw_294 (And.intro (by decide +kernel) rfl)) ?_
  refine xa_cons 37 (xc_getf (A := A) (own := "ExpressHouse$FileReader") (index := 138) hx hb htsB xC_2 hown rfl (by decide) xw_972 (And.intro (by decide +kernel) rfl)) ?_
  refine xa_cons 38 (xc_getf (A := A) (own := "ExpressHouse$FileReader") (index := 174) hx hb htsB xC_3 hown rfl (by decide) xw_984 (And.intro (by decide +kernel) rfl)) ?_
  refine xa_cons 39 ((And.intro (by decide) (Or.inl (Exists.intro (3) (And.intro rfl (And.intro (by decide +kernel) rfl)))))) ?_
  refine xa_cons 40 ((And.intro (by decide) (And.intro (by decide +kernel) rfl))) ?_
  refine xa_cons 41 (xc_iconst hx hb (z := 2) (b := 2) (And.intro (by decide +kernel) rfl) (by decide +kernel) ⟨rfl, rfl⟩) ?_
  refine xa_cons 42 ((And.intro (by decide) (And.intro (by decide +kernel) rfl))) ?_
  refine xa_cons 43 ((And.intro (by decide) (And.intro (by decide +kernel) rfl))) ?_
  refine xa_cons 44 ((Exists.intro (5) (And.intro (by decide +kernel) (by decide +kernel)))) ?_
  refine xa_cons 45 ((And.intro (by decide) (Or.inr (And.intro (by decide +kernel) rfl)))) ?_
  refine xa_cons 46 ((And.intro (Or.inl rfl) (Or.inr (And.intro (by decide +kernel) rfl)))) ?_
  refine xa_cons 47 ((And.intro (by decide) (Or.inl (Exists.intro (0) (And.intro rfl (And.intro (by decide +kernel) rfl)))))) ?_
  refine xa_cons 48 ((And.intro (by decide +kernel) rfl)) ?_
  refine xa_cons 49 (xc_getf (A := A) (own := "ExpressHouse$FileReader") (index := 122) hx hb htsB xC_8 hown rfl (by decide) xw_686 (And.intro (by decide +kernel) rfl)) ?_
  refine xa_cons 50 ((And.intro (by decide) (Or.inr (And.intro (by decide +kernel) rfl)))) ?_
  refine xa_cons 51 ((And.intro (by decide) (And.intro (by decide +kernel) rfl))) ?_
  refine xa_cons 52 (xc_putf (own := "ExpressHouse$FileReader") (index := 122) hx hb htsB xC_8 hown rfl (by decide) xw_686 rfl (rfl) (And.intro (by decide +kernel) rfl)) ?_
  refine xa_cons 53 ((And.intro (by decide) (Or.inl (Exists.intro (0) (And.intro rfl (And.intro (by decide +kernel) rfl)))))) ?_
  refine xa_cons 54 (xc_getf (A := A) (own := "ExpressHouse$FileReader") (index := 61) hx hb htsB xC_8 hown rfl (by decide) xw_667 (And.intro (by decide +kernel) rfl)) ?_
  refine xa_cons 55 ((And.intro (by decide) (Exists.intro (17) (And.intro (by decide +kernel) (And.intro (by decide +kernel) rfl))))) ?_
  refine xa_cons 56 ((And.intro (by decide) (Or.inr (And.intro (by decide +kernel) rfl)))) ?_
  refine xa_cons 57 ((And.intro (by decide) (Exists.intro (12) (And.intro (by decide +kernel) (And.intro (by decide +kernel) rfl))))) ?_
  refine xa_cons 58 ((And.intro (by decide) (Or.inl (Exists.intro (0) (And.intro rfl (And.intro (by decide +kernel) rfl)))))) ?_
  refine xa_cons 59 (xc_iconst hx hb (z := 2) (b := 2) (And.intro (by decide +kernel) rfl) (by decide +kernel) ⟨rfl, rfl⟩) ?_
  refine xa_cons 60 ((And.intro (by decide) (Or.inl (Exists.intro (2) (And.intro rfl (And.intro (by decide +kernel) rfl)))))) ?_
  refine xa_cons 61 ((And.intro (xc_callV (index := 110) (n := 2) (ci := 8) S xg_214 rfl xw_47 xw_971 xw_969 xw_970 rfl rfl rfl ⟨by decide, by decide, by decide +kernel⟩ rfl (And.intro (by decide +kernel) rfl)) (by decide +kernel))) ?_
  refine xa_cons 62 ((Exists.intro (65) (And.intro (by decide +kernel) (by decide +kernel)))) ?_
  refine xa_cons 63 ((And.intro (by decide) (Or.inl (Exists.intro (0) (And.intro rfl (And.intro (by decide +kernel) rfl)))))) ?_
  refine xa_cons 64 (xc_getf (A := A) (own := "ExpressHouse$FileReader") (index := 68) hx hb htsB xC_8 hown rfl (by decide) xw_669 (And.intro (by decide +kernel) rfl)) ?_
  refine xa_cons 65 (xc_sipush hx hb (z := 440) (b := 440) (And.intro (by decide +kernel) rfl) (by decide +kernel) ⟨rfl, rfl⟩) ?_
  refine xa_cons 66 ((And.intro (by decide) (Exists.intro (55) (And.intro (by decide +kernel) (And.intro (by decide +kernel) rfl))))) ?_
  refine xa_cons 67 ((And.intro (by decide) (Or.inl (Exists.intro (0) (And.intro rfl (And.intro (by decide +kernel) rfl)))))) ?_
  refine xa_cons 68 (xc_getf (A := A) (own := "ExpressHouse$FileReader") (index := 61) hx hb htsB xC_8 hown rfl (by decide) xw_667 (And.intro (by decide +kernel) rfl)) ?_
  refine xa_cons 69 ((And.intro (by decide) (Exists.intro (48) (And.intro (by decide +kernel) (And.intro (by decide +kernel) rfl))))) ?_
  refine xa_cons 70 ((And.intro (by decide) (Or.inl (Exists.intro (0) (And.intro rfl (And.intro (by decide +kernel) rfl)))))) ?_
  refine xa_cons 71 (xc_getf (A := A) (own := "ExpressHouse$FileReader") (index := 22) hx hb htsB xC_8 hown rfl (by decide) xw_291 (And.intro (by decide +kernel) rfl)) ?_
  refine xa_cons 72 ((And.intro (by decide) (Or.inl (Exists.intro (0) (And.intro rfl (And.intro (by decide +kernel) rfl)))))) ?_
  refine xa_cons 73 (xc_getf (A := A) (own := "ExpressHouse$FileReader") (index := 68) hx hb htsB xC_8 hown rfl (by decide) xw_669 (And.intro (by decide +kernel) rfl)) ?_
  refine xa_cons 74 ((And.intro (by decide) (Or.inl (Exists.intro (0) (And.intro rfl (And.intro (by decide +kernel) rfl)))))) ?_
  refine xa_cons 75 (xc_getf (A := A) (own := "ExpressHouse$FileReader") (index := 22) hx hb htsB xC_8 hown rfl (by decide) xw_291 (And.intro (by decide +kernel) rfl)) ?_
  refine xa_cons 76 ((And.intro (by decide) (Or.inl (Exists.intro (0) (And.intro rfl (And.intro (by decide +kernel) rfl)))))) ?_
  refine xa_cons 77 (xc_getf (A := A) (own := "ExpressHouse$FileReader") (index := 68) hx hb htsB xC_8 hown rfl (by decide) xw_669 (And.intro (by decide +kernel) rfl)) ?_
  refine xa_cons 78 ((And.intro (by decide) (And.intro (by decide +kernel) rfl))) ?_
  refine xa_cons 79 ((And.intro (by decide) (Exists.intro (12) (And.intro (by decide +kernel) (And.intro (by decide +kernel) rfl))))) ?_
  refine xa_cons 80 ((And.intro (by decide) (Or.inr (And.intro (by decide +kernel) rfl)))) ?_
  refine xa_cons 81 ((And.intro (by decide) (Exists.intro (7) (And.intro (by decide +kernel) (And.intro (by decide +kernel) rfl))))) ?_
  refine xa_cons 82 (xc_iconst hx hb (z := 1) (b := 1) (And.intro (by decide +kernel) rfl) (by decide +kernel) ⟨rfl, rfl⟩) ?_
  refine xa_cons 83 ((Exists.intro (4) (And.intro (by decide +kernel) (by decide +kernel)))) ?_
  refine xa_cons 84 (xc_iconst hx hb (z := 0) (b := 0) (And.intro (by decide +kernel) rfl) (by decide +kernel) ⟨rfl, rfl⟩) ?_
  refine xa_cons 85 ((And.intro (by decide) (And.intro (by decide +kernel) rfl))) ?_
  refine xa_cons 86 ((And.intro (by decide) (Or.inl (Exists.intro (0) (And.intro rfl (And.intro (by decide +kernel) rfl)))))) ?_
  refine xa_cons 87 (xc_getf (A := A) (own := "ExpressHouse$FileReader") (index := 19) hx hb htsB xC_8 hown rfl (by decide) xw_290 (And.intro (by decide +kernel) rfl)) ?_
  refine xa_cons 88 ((And.intro (by decide) (Or.inl (Exists.intro (0) (And.intro rfl (And.intro (by decide +kernel) rfl)))))) ?_
  refine xa_cons 89 (xc_getf (A := A) (own := "ExpressHouse$FileReader") (index := 68) hx hb htsB xC_8 hown rfl (by decide) xw_669 (And.intro (by decide +kernel) rfl)) ?_
  refine xa_cons 90 ((And.intro (by decide +kernel) rfl)) ?_
  refine xa_cons 91 ((And.intro (by decide) (And.intro (by decide +kernel) rfl))) ?_
  refine xa_cons 92 ((And.intro (by decide) (Or.inr (And.intro (by decide +kernel) rfl)))) ?_
  refine xa_cons 93 ((And.intro (by decide) (And.intro (by decide +kernel) rfl))) ?_
  refine xa_cons 94 ((And.intro (by decide) (And.intro (by decide +kernel) rfl))) ?_
  refine xa_cons 95 ((And.intro (by decide) (Or.inl (Exists.intro (0) (And.intro rfl (And.intro (by decide +kernel) rfl)))))) ?_
  refine xa_cons 96 (xc_bipush hx hb (z := 40) (b := 40) (And.intro (by decide +kernel) rfl) (by decide +kernel) ⟨rfl, rfl⟩) ?_
  refine xa_cons 97 ((And.intro (xc_callV (index := 125) (n := 1) (ci := 8) S xg_137 rfl xw_47 xw_689 xw_687 xw_688 rfl rfl rfl ⟨by decide, by decide, by decide +kernel⟩ rfl (And.intro (by decide +kernel) rfl)) (by decide +kernel))) ?_
  refine xa_cons 98 ((And.intro (by decide) (Or.inl (Exists.intro (0) (And.intro rfl (And.intro (by decide +kernel) rfl)))))) ?_
  refine xa_cons 99 (xc_getf (A := A) (own := "ExpressHouse$FileReader") (index := 37) hx hb htsB xC_8 hown rfl (by decide) xw_294 (And.intro (by decide +kernel) rfl)) ?_
  refine xa_cons 100 (xc_getf (A := A) (own := "ExpressHouse$FileReader") (index := 138) hx hb htsB xC_2 hown rfl (by decide) xw_972 (And.intro (by decide +kernel) rfl)) ?_
  refine xa_cons 101 (xc_iconst hx hb (z := 0) (b := 0) (And.intro (by decide +kernel) rfl) (by decide +kernel) ⟨rfl, rfl⟩) ?_
  refine xa_cons 102 ((And.intro (by decide) (Or.inr (And.intro (by decide +kernel) rfl)))) ?_
  refine xa_cons 103 ((And.intro (xc_callV (index := 178) (n := 2) (ci := 3) S xg_218 rfl xw_15 xw_987 xw_985 xw_986 rfl rfl rfl ⟨by decide, by decide, by decide +kernel⟩ rfl (And.intro (by decide +kernel) rfl)) (by decide +kernel))) ?_
  refine xa_cons 104 ((And.intro (Or.inl rfl) (Or.inr (And.intro (by decide +kernel) rfl)))) ?_
  refine xa_cons 105 (xc_iconst hx hb (z := 0) (b := 0) (And.intro (by decide +kernel) rfl) (by decide +kernel) ⟨rfl, rfl⟩) ?_
  refine xa_cons 106 ((And.intro (Or.inl rfl) (Or.inr (And.intro (by decide +kernel) rfl)))) ?_
  refine xa_cons 107 (xc_iconst hx hb (z := 0) (b := 0) (And.intro (by decide +kernel) rfl) (by decide +kernel) ⟨rfl, rfl⟩) ?_
  refine xa_cons 108 ((And.intro (Or.inl rfl) (Or.inr (And.intro (by decide +kernel) rfl)))) ?_
  refine xa_cons 109 ((And.intro (by decide) (Or.inr (And.intro (by decide +kernel) rfl)))) ?_
  refine xa_cons 110 ((And.intro (by decide) (Or.inl (Exists.intro (0) (And.intro rfl (And.intro (by decide +kernel) rfl)))))) ?_
  refine xa_cons 111 (xc_getf (A := A) (own := "ExpressHouse$FileReader") (index := 52) hx hb htsB xC_8 hown rfl (by decide) xw_664 (And.intro (by decide +kernel) rfl)) ?_
  refine xa_cons 112 ((And.intro (by decide) (Exists.intro (107) (And.intro (by decide +kernel) (And.intro (by decide +kernel) rfl))))) ?_
  refine xa_cons 113 ((And.intro (by decide) (Or.inl (Exists.intro (0) (And.intro rfl (And.intro (by decide +kernel) rfl)))))) ?_
  refine xa_cons 114 (xc_getf (A := A) (own := "ExpressHouse$FileReader") (index := 55) hx hb htsB xC_8 hown rfl (by decide) xw_665 (And.intro (by decide +kernel) rfl)) ?_
  refine xa_cons 115 ((And.intro (by decide) (Exists.intro (100) (And.intro (by decide +kernel) (And.intro (by decide +kernel) rfl))))) ?_
  refine xa_cons 116 ((And.intro (by decide) (Or.inr (And.intro (by decide +kernel) rfl)))) ?_
  refine xa_cons 117 ((And.intro (by decide) (Exists.intro (15) (And.intro (by decide +kernel) (And.intro (by decide +kernel) rfl))))) ?_
  refine xa_cons 118 ((And.intro (by decide) (Or.inl (Exists.intro (0) (And.intro rfl (And.intro (by decide +kernel) rfl)))))) ?_
  refine xa_cons 119 ((And.intro (xc_callV (index := 100) (n := 0) (ci := 8) S xg_138 rfl xw_47 xw_692 xw_690 xw_691 rfl rfl rfl ⟨by decide, by decide, by decide +kernel⟩ rfl (And.intro (by decide +kernel) rfl)) (by decide +kernel))) ?_
  refine xa_cons 120 (xc_bipush hx hb (z := 44) (b := 44) (And.intro (by decide +kernel) rfl) (by decide +kernel) ⟨rfl, rfl⟩) ?_
  refine xa_cons 121 ((And.intro (by decide) (Exists.intro (86) (And.intro (by decide +kernel) (And.intro (by decide +kernel) rfl))))) ?_
  refine xa_cons 122 ((Exists.intro (12) (And.intro (by decide +kernel) (by decide +kernel)))) ?_
  refine xa_cons 123 ((And.intro (by decide) (Or.inl (Exists.intro (0) (And.intro rfl (And.intro (by decide +kernel) rfl)))))) ?_
  refine xa_cons 124 ((And.intro (xc_callV (index := 100) (n := 0) (ci := 8) S xg_138 rfl xw_47 xw_692 xw_690 xw_691 rfl rfl rfl ⟨by decide, by decide, by decide +kernel⟩ rfl (And.intro (by decide +kernel) rfl)) (by decide +kernel))) ?_
  refine xa_cons 125 (xc_bipush hx hb (z := 41) (b := 41) (And.intro (by decide +kernel) rfl) (by decide +kernel) ⟨rfl, rfl⟩) ?_
  refine xa_cons 126 ((And.intro (by decide) (Exists.intro (74) (And.intro (by decide +kernel) (And.intro (by decide +kernel) rfl))))) ?_
  refine xa_cons 127 ((And.intro (by decide) (Or.inr (And.intro (by decide +kernel) rfl)))) ?_
  refine xa_cons 128 ((And.intro (by decide) (Exists.intro (9) (And.intro (by decide +kernel) (And.intro (by decide +kernel) rfl))))) ?_
  refine xa_cons 129 ((And.intro (by decide) (Or.inl (Exists.intro (0) (And.intro rfl (And.intro (by decide +kernel) rfl)))))) ?_
  refine xa_cons 130 (xc_bipush hx hb (z := 44) (b := 44) (And.intro (by decide +kernel) rfl) (by decide +kernel) ⟨rfl, rfl⟩) ?_
  refine xa_cons 131 ((And.intro (xc_callV (index := 125) (n := 1) (ci := 8) S xg_137 rfl xw_47 xw_689 xw_687 xw_688 rfl rfl rfl ⟨by decide, by decide, by decide +kernel⟩ rfl (And.intro (by decide +kernel) rfl)) (by decide +kernel))) ?_
  refine xa_cons 132 ((And.intro (by decide) (Or.inl (Exists.intro (0) (And.intro rfl (And.intro (by decide +kernel) rfl)))))) ?_
  refine xa_cons 133 ((And.intro (by decide) (Or.inr (And.intro (by decide +kernel) rfl)))) ?_
  refine xa_cons 134 ((And.intro (xc_callV (index := 181) (n := 1) (ci := 8) S xg_219 rfl xw_47 xw_990 xw_988 xw_989 rfl rfl rfl ⟨by decide, by decide, by decide +kernel⟩ rfl (And.intro (by decide +kernel) rfl)) (by decide +kernel))) ?_
  refine xa_cons 135 ((And.intro (by decide) (Or.inr (And.intro (by decide +kernel) rfl)))) ?_
  refine xa_cons 136 ((And.intro (by decide) (Exists.intro (8) (And.intro (by decide +kernel) (And.intro (by decide +kernel) rfl))))) ?_
  refine xa_cons 137 ((And.intro (by decide) (Or.inr (And.intro (by decide +kernel) rfl)))) ?_
  refine xa_cons 138 ((And.intro (by decide) (Exists.intro (7) (And.intro (by decide +kernel) (And.intro (by decide +kernel) rfl))))) ?_
  refine xa_cons 139 (xc_iconst hx hb (z := 1) (b := 1) (And.intro (by decide +kernel) rfl) (by decide +kernel) ⟨rfl, rfl⟩) ?_
  refine xa_cons 140 ((Exists.intro (4) (And.intro (by decide +kernel) (by decide +kernel)))) ?_
  refine xa_cons 141 (xc_iconst hx hb (z := 0) (b := 0) (And.intro (by decide +kernel) rfl) (by decide +kernel) ⟨rfl, rfl⟩) ?_
  refine xa_cons 142 ((And.intro (Or.inl rfl) (Or.inr (And.intro (by decide +kernel) rfl)))) ?_
  refine xa_cons 143 ((And.intro (by decide) (Or.inl (Exists.intro (0) (And.intro rfl (And.intro (by decide +kernel) rfl)))))) ?_
  refine xa_cons 144 (xc_getf (A := A) (own := "ExpressHouse$FileReader") (index := 37) hx hb htsB xC_8 hown rfl (by decide) xw_294 (And.intro (by decide +kernel) rfl)) ?_
  refine xa_cons 145 (xc_getf (A := A) (own := "ExpressHouse$FileReader") (index := 138) hx hb htsB xC_2 hown rfl (by decide) xw_972 (And.intro (by decide +kernel) rfl)) ?_
  refine xa_cons 146 ((And.intro (by decide) (Or.inr (And.intro (by decide +kernel) rfl)))) ?_
  refine xa_cons 147 (xc_iconst hx hb (z := 1) (b := 1) (And.intro (by decide +kernel) rfl) (by decide +kernel) ⟨rfl, rfl⟩) ?_
  refine xa_cons 148 ((And.intro (by decide) (And.intro (by decide +kernel) rfl))) ?_
  refine xa_cons 149 ((And.intro (by decide) (Or.inr (And.intro (by decide +kernel) rfl)))) ?_
  refine xa_cons 150 ((And.intro (by decide) (Exists.intro (7) (And.intro (by decide +kernel) (And.intro (by decide +kernel) rfl))))) ?_
  refine xa_cons 151 (xc_iconst hx hb (z := 0) (b := 0) (And.intro (by decide +kernel) rfl) (by decide +kernel) ⟨rfl, rfl⟩) ?_
  refine xa_cons 152 ((Exists.intro (5) (And.intro (by decide +kernel) (by decide +kernel)))) ?_
  refine xa_cons 153 ((And.intro (by decide) (Or.inr (And.intro (by decide +kernel) rfl)))) ?_
  refine xa_cons 154 ((And.intro (xc_callV (index := 178) (n := 2) (ci := 3) S xg_218 rfl xw_15 xw_987 xw_985 xw_986 rfl rfl rfl ⟨by decide, by decide, by decide +kernel⟩ rfl (And.intro (by decide +kernel) rfl)) (by decide +kernel))) ?_
  refine xa_cons 155 ((And.intro (Or.inl rfl) (Or.inr (And.intro (by decide +kernel) rfl)))) ?_
  refine xa_cons 156 ((And.intro (by decide) (Or.inl (Exists.intro (0) (And.intro rfl (And.intro (by decide +kernel) rfl)))))) ?_
  refine xa_cons 157 ((And.intro (xc_callV (index := 78) (n := 0) (ci := 8) S xg_133 rfl xw_47 xw_676 xw_674 xw_675 rfl rfl rfl ⟨by decide, by decide, by decide +kernel⟩ rfl (And.intro (by decide +kernel) rfl)) (by decide +kernel))) ?_
  refine xa_cons 158 ((Exists.intro (1) (And.intro (And.intro (by decide +kernel) rfl) (by decide +kernel)))) ?_
  refine xa_cons 159 ((Exists.intro (-110) (And.intro (by decide +kernel) (by decide +kernel)))) ?_
  refine xa_cons 160 ((And.intro (by decide) (Or.inl (Exists.intro (0) (And.intro rfl (And.intro (by decide +kernel) rfl)))))) ?_
  refine xa_cons 161 (xc_getf (A := A) (own := "ExpressHouse$FileReader") (index := 61) hx hb htsB xC_8 hown rfl (by decide) xw_667 (And.intro (by decide +kernel) rfl)) ?_
  refine xa_cons 162 ((And.intro (by decide) (Exists.intro (31) (And.intro (by decide +kernel) (And.intro (by decide +kernel) rfl))))) ?_
  refine xa_cons 163 ((And.intro (by decide) (Or.inl (Exists.intro (0) (And.intro rfl (And.intro (by decide +kernel) rfl)))))) ?_
  refine xa_cons 164 ((And.intro (xc_callV (index := 100) (n := 0) (ci := 8) S xg_138 rfl xw_47 xw_692 xw_690 xw_691 rfl rfl rfl ⟨by decide, by decide, by decide +kernel⟩ rfl (And.intro (by decide +kernel) rfl)) (by decide +kernel))) ?_
  refine xa_cons 165 (xc_bipush hx hb (z := 41) (b := 41) (And.intro (by decide +kernel) rfl) (by decide +kernel) ⟨rfl, rfl⟩) ?_
  refine xa_cons 166 ((And.intro (by decide) (Exists.intro (22) (And.intro (by decide +kernel) (And.intro (by decide +kernel) rfl))))) ?_
  refine xa_cons 167 ((And.intro (by decide) (Or.inr (And.intro (by decide +kernel) rfl)))) ?_
  refine xa_cons 168 ((And.intro (by decide) (Exists.intro (8) (And.intro (by decide +kernel) (And.intro (by decide +kernel) rfl))))) ?_
  refine xa_cons 169 ((And.intro (by decide) (Or.inr (And.intro (by decide +kernel) rfl)))) ?_
  refine xa_cons 170 ((And.intro (by decide) (Exists.intro (12) (And.intro (by decide +kernel) (And.intro (by decide +kernel) rfl))))) ?_
  refine xa_cons 171 ((And.intro (by decide) (Or.inl (Exists.intro (0) (And.intro rfl (And.intro (by decide +kernel) rfl)))))) ?_
  refine xa_cons 172 (xc_iconst hx hb (z := 2) (b := 2) (And.intro (by decide +kernel) rfl) (by decide +kernel) ⟨rfl, rfl⟩) ?_
  refine xa_cons 173 ((And.intro (by decide) (Or.inl (Exists.intro (0) (And.intro rfl (And.intro (by decide +kernel) rfl)))))) ?_
  refine xa_cons 174 (xc_getf (A := A) (own := "ExpressHouse$FileReader") (index := 65) hx hb htsB xC_8 hown rfl (by decide) xw_668 (And.intro (by decide +kernel) rfl)) ?_
  refine xa_cons 175 ((And.intro (xc_callV (index := 110) (n := 2) (ci := 8) S xg_214 rfl xw_47 xw_971 xw_969 xw_970 rfl rfl rfl ⟨by decide, by decide, by decide +kernel⟩ rfl (And.intro (by decide +kernel) rfl)) (by decide +kernel))) ?_
  refine xa_cons 176 ((And.intro (by decide) (Or.inl (Exists.intro (0) (And.intro rfl (And.intro (by decide +kernel) rfl)))))) ?_
  refine xa_cons 177 (xc_bipush hx hb (z := 41) (b := 41) (And.intro (by decide +kernel) rfl) (by decide +kernel) ⟨rfl, rfl⟩) ?_
  refine xa_cons 178 ((And.intro (xc_callV (index := 125) (n := 1) (ci := 8) S xg_137 rfl xw_47 xw_689 xw_687 xw_688 rfl rfl rfl ⟨by decide, by decide, by decide +kernel⟩ rfl (And.intro (by decide +kernel) rfl)) (by decide +kernel))) ?_
  refine xa_cons 179 ((And.intro hr (by decide +kernel))) ?_
  exact xa_nil
def xrp_140 : Nat → Nat := fun k => ([0, 1, 2, 5, 6, 7, 10, 11, 12, 15] : List Nat).getD k 0
set_option maxRecDepth 20000 in
set_option maxHeartbeats 4000000 in
theorem xz_140 {l : Launch} {D : va_G} {en : XE} : x_Ok xT l D xcl en xrn (xG en) 140 xc_140 := by
  refine ⟨prog_8_method_13_code, none, xBIG, xrp_140, by decide +kernel, rfl, rfl, ?_⟩
  intro p e R s m args below meth c s₁ A Q pc i f1 f2 B hml hA hg hi
  obtain ⟨hx, hb, hr, hown, hlocks, hin, htsB, S⟩ := xb_all (C := "ExpressHouse$Population") B hml rfl rfl
  obtain ⟨hgN, hgZ, hgS, hgS2⟩ := xG_all hg
  refine xa_at (i := i) (pc := pc) ?_ hi
  refine xa_cons 0 ((And.intro (by decide) (Or.inl (Exists.intro (0) (And.intro rfl (And.intro (by decide +kernel) rfl)))))) ?_
  refine xa_cons 1 ((And.intro (by decide +kernel) rfl)) ?_
  refine xa_cons 2 (xc_getf (A := A) (own := "ExpressHouse$Population") (index := 46) hx hb htsB xC_2 hown rfl (by decide) xw_529 (And.intro (by decide +kernel) rfl)) ?_
  refine xa_cons 3 ((And.intro (by decide) (Or.inl (Exists.intro (1) (And.intro rfl (And.intro (by decide +kernel) rfl)))))) ?_
  refine xa_cons 4 ((And.intro (by decide) (And.intro (by decide +kernel) rfl))) ?_
  refine xa_cons 5 (xc_putf (own := "ExpressHouse$Population") (index := 46) hx hb htsB xC_2 hown rfl (by decide) xw_529 rfl (rfl) (And.intro (by decide +kernel) rfl)) ?_
  refine xa_cons 6 ((And.intro (by decide) (Or.inl (Exists.intro (0) (And.intro rfl (And.intro (by decide +kernel) rfl)))))) ?_
  refine xa_cons 7 (xc_iconst hx hb (z := 1) (b := 1) (And.intro (by decide +kernel) rfl) (by decide +kernel) ⟨rfl, rfl⟩) ?_
  refine xa_cons 8 (xc_putf (own := "ExpressHouse$Population") (index := 38) hx hb htsB xC_2 hown rfl (by decide) xw_246 rfl (rfl) (And.intro (by decide +kernel) rfl)) ?_
  refine xa_cons 9 ((And.intro hr (by decide +kernel))) ?_
  exact xa_nil
def xrp_141 : Nat → Nat := fun k => ([0, 1, 3, 6, 7, 9, 12, 13, 16, 17] : List Nat).getD k 0
set_option maxRecDepth 20000 in
set_option maxHeartbeats 4000000 in
theorem xz_141 {l : Launch} {D : va_G} {en : XE} : x_Ok xT l D xcl en xrn (xG en) 141 xc_141 := by
  refine ⟨prog_12_method_4_code, (some .boolean), xBIG, xrp_141, by decide +kernel, rfl, rfl, ?_⟩
  intro p e R s m args below meth c s₁ A Q pc i f1 f2 B hml hA hg hi
  obtain ⟨hx, hb, hr, hown, hlocks, hin, htsB, S⟩ := xb_all (C := "ExpressHouse$Tokens") B hml rfl rfl
  obtain ⟨hgN, hgZ, hgS, hgS2⟩ := xG_all hg
  refine xa_at (i := i) (pc := pc) ?_ hi
  refine xa_cons 0 ((And.intro (by decide) (Or.inl (Exists.intro (0) (And.intro rfl (And.intro (by decide +kernel) rfl)))))) ?_
  refine xa_cons 1 (xc_bipush hx hb (z := 97) (b := 97) (And.intro (by decide +kernel) rfl) (by decide +kernel) ⟨rfl, rfl⟩) ?_
  refine xa_cons 2 ((And.intro (by decide) (Exists.intro (13) (And.intro (by decide +kernel) (And.intro (by decide +kernel) rfl))))) ?_
  refine xa_cons 3 ((And.intro (by decide) (Or.inl (Exists.intro (0) (And.intro rfl (And.intro (by decide +kernel) rfl)))))) ?_
  refine xa_cons 4 (xc_bipush hx hb (z := 122) (b := 122) (And.intro (by decide +kernel) rfl) (by decide +kernel) ⟨rfl, rfl⟩) ?_
  refine xa_cons 5 ((And.intro (by decide) (Exists.intro (7) (And.intro (by decide +kernel) (And.intro (by decide +kernel) rfl))))) ?_
  refine xa_cons 6 (xc_iconst hx hb (z := 1) (b := 1) (And.intro (by decide +kernel) rfl) (by decide +kernel) ⟨rfl, rfl⟩) ?_
  refine xa_cons 7 ((Exists.intro (4) (And.intro (by decide +kernel) (by decide +kernel)))) ?_
  refine xa_cons 8 (xc_iconst hx hb (z := 0) (b := 0) (And.intro (by decide +kernel) rfl) (by decide +kernel) ⟨rfl, rfl⟩) ?_
  refine xa_cons 9 ((And.intro hr (by decide +kernel))) ?_
  exact xa_nil
def xrp_142 : Nat → Nat := fun k => ([0, 1, 3, 4, 6, 7, 9, 11, 12, 15, 17, 19, 22, 23, 25, 26, 29, 32, 34, 36, 39, 41, 44, 45, 46, 48, 49, 52, 53, 54, 56, 59, 62, 65, 67, 69, 72, 73, 74, 75, 76, 78, 81, 82, 84, 87, 89] : List Nat).getD k 0
set_option maxRecDepth 20000 in
set_option maxHeartbeats 4000000 in
theorem xz_142 {l : Launch} {D : va_G} {en : XE} : x_Ok xT l D xcl en xrn (xG en) 142 xc_142 := by
  refine ⟨prog_12_method_12_code, (some .int), xBIG, xrp_142, by decide +kernel, rfl, rfl, ?_⟩
  intro p e R s m args below meth c s₁ A Q pc i f1 f2 B hml hA hg hi
  obtain ⟨hx, hb, hr, hown, hlocks, hin, htsB, S⟩ := xb_all (C := "ExpressHouse$Tokens") B hml rfl rfl
  obtain ⟨hgN, hgZ, hgS, hgS2⟩ := xG_all hg
  refine xa_at (i := i) (pc := pc) ?_ hi
  refine xa_cons 0 (xc_lconst hx hb (z := 0) (And.intro (by decide +kernel) rfl) ⟨rfl, rfl⟩) ?_
  refine xa_cons 1 ((And.intro (Or.inl rfl) (Or.inr (And.intro (by decide +kernel) rfl)))) ?_
  refine xa_cons 2 (xc_iconst hx hb (z := 0) (b := 0) (And.intro (by decide +kernel) rfl) (by decide +kernel) ⟨rfl, rfl⟩) ?_
  refine xa_cons 3 ((And.intro (Or.inl rfl) (Or.inr (And.intro (by decide +kernel) rfl)))) ?_
  refine xa_cons 4 ((And.intro (by decide) (Or.inl (Exists.intro (3) (And.intro rfl (And.intro (by decide +kernel) rfl)))))) ?_
  refine xa_cons 5 ((And.intro (Or.inl rfl) (Or.inr (And.intro (by decide +kernel) rfl)))) ?_
  refine xa_cons 6 ((And.intro (by decide) (Or.inr (And.intro (by decide +kernel) rfl)))) ?_
  refine xa_cons 7 ((And.intro (by decide) (Or.inl (Exists.intro (2) (And.intro rfl (And.intro (by decide +kernel) rfl)))))) ?_
  refine xa_cons 8 ((And.intro (by decide) (Exists.intro (53) (And.intro (by decide +kernel) (And.intro (by decide +kernel) rfl))))) ?_
  refine xa_cons 9 ((And.intro (by decide) (Or.inr (And.intro (by decide +kernel) rfl)))) ?_
  refine xa_cons 10 (xc_bipush hx hb (z := 12) (b := 12) (And.intro (by decide +kernel) rfl) (by decide +kernel) ⟨rfl, rfl⟩) ?_
  refine xa_cons 11 ((And.intro (by decide) (Exists.intro (46) (And.intro (by decide +kernel) (And.intro (by decide +kernel) rfl))))) ?_
  refine xa_cons 12 ((And.intro (by decide) (Or.inl (Exists.intro (1) (And.intro rfl (And.intro (by decide +kernel) rfl)))))) ?_
  refine xa_cons 13 ((And.intro (by decide) (Or.inr (And.intro (by decide +kernel) rfl)))) ?_
  refine xa_cons 14 ((And.intro (by decide) (And.intro (by decide +kernel) rfl))) ?_
  refine xa_cons 15 ((And.intro (xc_callS (index := 43) S xg_86 rfl xw_7 xw_462 xw_463 ⟨by decide, by decide, by decide +kernel⟩ rfl (And.intro (by decide +kernel) rfl)) (by decide +kernel))) ?_
  refine xa_cons 16 ((And.intro (by decide) (Exists.intro (36) (And.intro (by decide +kernel) (And.intro (by decide +kernel) rfl))))) ?_
  refine xa_cons 17 ((And.intro (by decide) (Or.inr (And.intro (by decide +kernel) rfl)))) ?_
  refine xa_cons 18 (xc_bipush hx hb (z := 12) (b := 12) (And.intro (by decide +kernel) rfl) (by decide +kernel) ⟨rfl, rfl⟩) ?_
  refine xa_cons 19 ((And.intro (by decide) (Exists.intro (20) (And.intro (by decide +kernel) (And.intro (by decide +kernel) rfl))))) ?_
  refine xa_cons 20 ((And.intro (by decide) (Or.inr (And.intro (by decide +kernel) rfl)))) ?_
  refine xa_cons 21 (xc_ldc2 (own := "ExpressHouse$Tokens") (index := 41) (b := 38) hx hb hown (htsB _ xw_461) (And.intro (by decide +kernel) rfl) ⟨rfl, rfl⟩) ?_
  refine xa_cons 22 ((And.intro (by decide) (And.intro (by decide +kernel) rfl))) ?_
  refine xa_cons 23 ((And.intro (by decide) (Or.inl (Exists.intro (1) (And.intro rfl (And.intro (by decide +kernel) rfl)))))) ?_
  refine xa_cons 24 ((And.intro (by decide) (Or.inr (And.intro (by decide +kernel) rfl)))) ?_
  refine xa_cons 25 ((And.intro (by decide) (And.intro (by decide +kernel) rfl))) ?_
  refine xa_cons 26 ((And.intro (xc_callS (index := 43) S xg_86 rfl xw_7 xw_462 xw_463 ⟨by decide, by decide, by decide +kernel⟩ rfl (And.intro (by decide +kernel) rfl)) (by decide +kernel))) ?_
  refine xa_cons 27 ((And.intro (by decide +kernel) rfl)) ?_
  refine xa_cons 28 ((And.intro (by decide) (And.intro (by decide +kernel) rfl))) ?_
  refine xa_cons 29 ((And.intro (Or.inl rfl) (Or.inr (And.intro (by decide +kernel) rfl)))) ?_
  refine xa_cons 30 ((Exists.intro (1) (And.intro (And.intro (by decide +kernel) rfl) (by decide +kernel)))) ?_
  refine xa_cons 31 ((Exists.intro (1) (And.intro (And.intro (by decide +kernel) rfl) (by decide +kernel)))) ?_
  refine xa_cons 32 ((Exists.intro (-53) (And.intro (by decide +kernel) (by decide +kernel)))) ?_
  refine xa_cons 33 ((And.intro (by decide) (Or.inr (And.intro (by decide +kernel) rfl)))) ?_
  refine xa_cons 34 (xc_bipush hx hb (z := 12) (b := 12) (And.intro (by decide +kernel) rfl) (by decide +kernel) ⟨rfl, rfl⟩) ?_
  refine xa_cons 35 ((And.intro (by decide) (Exists.intro (5) (And.intro (by decide +kernel) (And.intro (by decide +kernel) rfl))))) ?_
  refine xa_cons 36 (xc_iconst hx hb (z := 0) (b := 0) (And.intro (by decide +kernel) rfl) (by decide +kernel) ⟨rfl, rfl⟩) ?_
  refine xa_cons 37 ((And.intro hr (by decide +kernel))) ?_
  refine xa_cons 38 ((And.intro (by decide) (Or.inl (Exists.intro (0) (And.intro rfl (And.intro (by decide +kernel) rfl)))))) ?_
  refine xa_cons 39 ((And.intro (by decide) (Or.inl (Exists.intro (0) (And.intro rfl (And.intro (by decide +kernel) rfl)))))) ?_
  refine xa_cons 40 ((And.intro (by decide) (Or.inr (And.intro (by decide +kernel) rfl)))) ?_
  refine xa_cons 41 ((And.intro (xc_callV (index := 101) (n := 1) (ci := 1) S xg_220 rfl xw_7 xw_993 xw_991 xw_992 rfl rfl rfl ⟨by decide, by decide, by decide +kernel⟩ rfl (And.intro (by decide +kernel) rfl)) (by decide +kernel))) ?_
  refine xa_cons 42 ((And.intro (by decide) (Or.inl (Exists.intro (3) (And.intro rfl (And.intro (by decide +kernel) rfl)))))) ?_
  refine xa_cons 43 ((And.intro (by decide) (Or.inr (And.intro (by decide +kernel) rfl)))) ?_
  refine xa_cons 44 ((And.intro (xc_callV (index := 75) (n := 3) (ci := 1) S xg_89 rfl xw_7 xw_483 xw_481 xw_482 rfl rfl rfl ⟨by decide, by decide, by decide +kernel⟩ rfl (And.intro (by decide +kernel) rfl)) (by decide +kernel))) ?_
  refine xa_cons 45 ((And.intro (by decide) (Or.inr (And.intro (by decide +kernel) rfl)))) ?_
  refine xa_cons 46 ((And.intro hr (by decide +kernel))) ?_
  exact xa_nil
def xrp_143 : Nat → Nat := fun k => ([0, 1, 3, 6, 7, 9, 12, 13, 16, 17] : List Nat).getD k 0
set_option maxRecDepth 20000 in
set_option maxHeartbeats 4000000 in
theorem xz_143 {l : Launch} {D : va_G} {en : XE} : x_Ok xT l D xcl en xrn (xG en) 143 xc_143 := by
  refine ⟨prog_12_method_5_code, (some .boolean), xBIG, xrp_143, by decide +kernel, rfl, rfl, ?_⟩
  intro p e R s m args below meth c s₁ A Q pc i f1 f2 B hml hA hg hi
  obtain ⟨hx, hb, hr, hown, hlocks, hin, htsB, S⟩ := xb_all (C := "ExpressHouse$Tokens") B hml rfl rfl
  obtain ⟨hgN, hgZ, hgS, hgS2⟩ := xG_all hg
  refine xa_at (i := i) (pc := pc) ?_ hi
  refine xa_cons 0 ((And.intro (by decide) (Or.inl (Exists.intro (0) (And.intro rfl (And.intro (by decide +kernel) rfl)))))) ?_
  refine xa_cons 1 (xc_bipush hx hb (z := 48) (b := 48) (And.intro (by decide +kernel) rfl) (by decide +kernel) ⟨rfl, rfl⟩) ?_
  refine xa_cons 2 ((And.intro (by decide) (Exists.intro (13) (And.intro (by decide +kernel) (And.intro (by decide +kernel) rfl))))) ?_
  refine xa_cons 3 ((And.intro (by decide) (Or.inl (Exists.intro (0) (And.intro rfl (And.intro (by decide +kernel) rfl)))))) ?_
  refine xa_cons 4 (xc_bipush hx hb (z := 57) (b := 57) (And.intro (by decide +kernel) rfl) (by decide +kernel) ⟨rfl, rfl⟩) ?_
  refine xa_cons 5 ((And.intro (by decide) (Exists.intro (7) (And.intro (by decide +kernel) (And.intro (by decide +kernel) rfl))))) ?_
  refine xa_cons 6 (xc_iconst hx hb (z := 1) (b := 1) (And.intro (by decide +kernel) rfl) (by decide +kernel) ⟨rfl, rfl⟩) ?_
  refine xa_cons 7 ((Exists.intro (4) (And.intro (by decide +kernel) (by decide +kernel)))) ?_
  refine xa_cons 8 (xc_iconst hx hb (z := 0) (b := 0) (And.intro (by decide +kernel) rfl) (by decide +kernel) ⟨rfl, rfl⟩) ?_
  refine xa_cons 9 ((And.intro hr (by decide +kernel))) ?_
  exact xa_nil
def xrp_144 : Nat → Nat := fun k => ([0, 1, 3, 4, 6, 7, 9, 11, 12, 15, 16, 18, 19, 22, 25, 27, 29, 32, 34, 37, 38, 39, 41, 42, 43, 44, 47, 48, 51, 53, 55, 58, 61, 64, 65, 67, 68, 70, 71, 73, 74, 75, 78, 79, 80, 82, 83, 84, 86, 89, 90, 93, 94, 96, 97, 99, 100, 101, 102, 104, 106, 109, 111, 112, 115, 116, 118, 119, 122, 125, 127, 129, 132, 134, 137, 138, 139, 141, 142, 143, 144, 147, 148, 151, 153, 155, 157, 159, 162, 164, 167, 168, 171, 173, 175, 178, 181, 184, 186, 188, 191, 193, 196, 198, 201, 203, 205, 208, 209, 210, 211, 213, 216, 217, 220, 221, 222, 224, 227, 229, 231, 234, 237, 239, 242, 244, 247, 249, 250, 251, 253, 254, 257, 259] : List Nat).getD k 0
set_option maxRecDepth 20000 in
set_option maxHeartbeats 4000000 in
theorem xz_144 {l : Launch} {D : va_G} {en : XE} : x_Ok xT l D xcl en xrn (xG en) 144 xc_144 := by
  refine ⟨prog_12_method_14_code, (some .int), xBIG, xrp_144, by decide +kernel, rfl, rfl, ?_⟩
  intro p e R s m args below meth c s₁ A Q pc i f1 f2 B hml hA hg hi
  obtain ⟨hx, hb, hr, hown, hlocks, hin, htsB, S⟩ := xb_all (C := "ExpressHouse$Tokens") B hml rfl rfl
  obtain ⟨hgN, hgZ, hgS, hgS2⟩ := xG_all hg
  refine xa_at (i := i) (pc := pc) ?_ hi
  refine xa_cons 0 (xc_lconst hx hb (z := 0) (And.intro (by decide +kernel) rfl) ⟨rfl, rfl⟩) ?_
  refine xa_cons 1 ((And.intro (Or.inl rfl) (Or.inr (And.intro (by decide +kernel) rfl)))) ?_
  refine xa_cons 2 (xc_iconst hx hb (z := 0) (b := 0) (And.intro (by decide +kernel) rfl) (by decide +kernel) ⟨rfl, rfl⟩) ?_
  refine xa_cons 3 ((And.intro (Or.inl rfl) (Or.inr (And.intro (by decide +kernel) rfl)))) ?_
  refine xa_cons 4 ((And.intro (by decide) (Or.inl (Exists.intro (3) (And.intro rfl (And.intro (by decide +kernel) rfl)))))) ?_
  refine xa_cons 5 ((And.intro (Or.inl rfl) (Or.inr (And.intro (by decide +kernel) rfl)))) ?_
  refine xa_cons 6 ((And.intro (by decide) (Or.inr (And.intro (by decide +kernel) rfl)))) ?_
  refine xa_cons 7 ((And.intro (by decide) (Or.inl (Exists.intro (2) (And.intro rfl (And.intro (by decide +kernel) rfl)))))) ?_
  refine xa_cons 8 ((And.intro (by decide) (Exists.intro (52) (And.intro (by decide +kernel) (And.intro (by decide +kernel) rfl))))) ?_
  refine xa_cons 9 ((And.intro (by decide) (Or.inl (Exists.intro (1) (And.intro rfl (And.intro (by decide +kernel) rfl)))))) ?_
  refine xa_cons 10 ((And.intro (by decide) (Or.inr (And.intro (by decide +kernel) rfl)))) ?_
  refine xa_cons 11 ((And.intro (by decide) (And.intro (by decide +kernel) rfl))) ?_
  refine xa_cons 12 ((And.intro (xc_callS (index := 88) S xg_143 rfl xw_7 xw_708 xw_709 ⟨by decide, by decide, by decide +kernel⟩ rfl (And.intro (by decide +kernel) rfl)) (by decide +kernel))) ?_
  refine xa_cons 13 ((And.intro (by decide) (Exists.intro (42) (And.intro (by decide +kernel) (And.intro (by decide +kernel) rfl))))) ?_
  refine xa_cons 14 ((And.intro (by decide) (Or.inr (And.intro (by decide +kernel) rfl)))) ?_
  refine xa_cons 15 (xc_bipush hx hb (z := 9) (b := 9) (And.intro (by decide +kernel) rfl) (by decide +kernel) ⟨rfl, rfl⟩) ?_
  refine xa_cons 16 ((And.intro (by decide) (Exists.intro (22) (And.intro (by decide +kernel) (And.intro (by decide +kernel) rfl))))) ?_
  refine xa_cons 17 ((And.intro (by decide) (Or.inr (And.intro (by decide +kernel) rfl)))) ?_
  refine xa_cons 18 (xc_ldc2 (own := "ExpressHouse$Tokens") (index := 104) (b := 10) hx hb hown (htsB _ xw_994) (And.intro (by decide +kernel) rfl) ⟨rfl, rfl⟩) ?_
  refine xa_cons 19 ((And.intro (by decide) (And.intro (by decide +kernel) rfl))) ?_
  refine xa_cons 20 ((And.intro (by decide) (Or.inl (Exists.intro (1) (And.intro rfl (And.intro (by decide +kernel) rfl)))))) ?_
  refine xa_cons 21 ((And.intro (by decide) (Or.inr (And.intro (by decide +kernel) rfl)))) ?_
  refine xa_cons 22 ((And.intro (by decide) (And.intro (by decide +kernel) rfl))) ?_
  refine xa_cons 23 ((And.intro (by decide +kernel) rfl)) ?_
  refine xa_cons 24 ((And.intro (by decide) (And.intro (by decide +kernel) rfl))) ?_
  refine xa_cons 25 (xc_ldc2 (own := "ExpressHouse$Tokens") (index := 106) (b := 48) hx hb hown (htsB _ xw_995) (And.intro (by decide +kernel) rfl) ⟨rfl, rfl⟩) ?_
  refine xa_cons 26 ((And.intro (by decide) (And.intro (by decide +kernel) rfl))) ?_
  refine xa_cons 27 ((Exists.intro (5) (And.intro (by decide +kernel) (by decide +kernel)))) ?_
  refine xa_cons 28 ((And.intro (by decide) (Or.inr (And.intro (by decide +kernel) rfl)))) ?_
  refine xa_cons 29 ((And.intro (Or.inl rfl) (Or.inr (And.intro (by decide +kernel) rfl)))) ?_
  refine xa_cons 30 ((Exists.intro (1) (And.intro (And.intro (by decide +kernel) rfl) (by decide +kernel)))) ?_
  refine xa_cons 31 ((Exists.intro (1) (And.intro (And.intro (by decide +kernel) rfl) (by decide +kernel)))) ?_
  refine xa_cons 32 ((Exists.intro (-52) (And.intro (by decide +kernel) (by decide +kernel)))) ?_
  refine xa_cons 33 (xc_iconst hx hb (z := 0) (b := 0) (And.intro (by decide +kernel) rfl) (by decide +kernel) ⟨rfl, rfl⟩) ?_
  refine xa_cons 34 ((And.intro (Or.inl rfl) (Or.inr (And.intro (by decide +kernel) rfl)))) ?_
  refine xa_cons 35 (xc_lconst hx hb (z := 1) (And.intro (by decide +kernel) rfl) ⟨rfl, rfl⟩) ?_
  refine xa_cons 36 ((And.intro (Or.inl rfl) (Or.inr (And.intro (by decide +kernel) rfl)))) ?_
  refine xa_cons 37 ((And.intro (by decide) (Or.inl (Exists.intro (3) (And.intro rfl (And.intro (by decide +kernel) rfl)))))) ?_
  refine xa_cons 38 ((And.intro (by decide) (Or.inr (And.intro (by decide +kernel) rfl)))) ?_
  refine xa_cons 39 ((And.intro (by decide) (And.intro (by decide +kernel) rfl))) ?_
  refine xa_cons 40 ((And.intro (by decide) (Or.inl (Exists.intro (2) (And.intro rfl (And.intro (by decide +kernel) rfl)))))) ?_
  refine xa_cons 41 ((And.intro (by decide) (Exists.intro (18) (And.intro (by decide +kernel) (And.intro (by decide +kernel) rfl))))) ?_
  refine xa_cons 42 ((And.intro (by decide) (Or.inl (Exists.intro (1) (And.intro rfl (And.intro (by decide +kernel) rfl)))))) ?_
  refine xa_cons 43 ((And.intro (by decide) (Or.inl (Exists.intro (3) (And.intro rfl (And.intro (by decide +kernel) rfl)))))) ?_
  refine xa_cons 44 ((And.intro (by decide) (Or.inr (And.intro (by decide +kernel) rfl)))) ?_
  refine xa_cons 45 ((And.intro (by decide) (And.intro (by decide +kernel) rfl))) ?_
  refine xa_cons 46 ((And.intro (by decide) (And.intro (by decide +kernel) rfl))) ?_
  refine xa_cons 47 (xc_bipush hx hb (z := 46) (b := 46) (And.intro (by decide +kernel) rfl) (by decide +kernel) ⟨rfl, rfl⟩) ?_
  refine xa_cons 48 ((And.intro (by decide) (Exists.intro (7) (And.intro (by decide +kernel) (And.intro (by decide +kernel) rfl))))) ?_
  refine xa_cons 49 (xc_iconst hx hb (z := 1) (b := 1) (And.intro (by decide +kernel) rfl) (by decide +kernel) ⟨rfl, rfl⟩) ?_
  refine xa_cons 50 ((Exists.intro (4) (And.intro (by decide +kernel) (by decide +kernel)))) ?_
  refine xa_cons 51 (xc_iconst hx hb (z := 0) (b := 0) (And.intro (by decide +kernel) rfl) (by decide +kernel) ⟨rfl, rfl⟩) ?_
  refine xa_cons 52 ((And.intro (Or.inl rfl) (Or.inr (And.intro (by decide +kernel) rfl)))) ?_
  refine xa_cons 53 ((And.intro (by decide) (Or.inl (Exists.intro (3) (And.intro rfl (And.intro (by decide +kernel) rfl)))))) ?_
  refine xa_cons 54 ((And.intro (by decide) (Or.inr (And.intro (by decide +kernel) rfl)))) ?_
  refine xa_cons 55 ((And.intro (by decide) (And.intro (by decide +kernel) rfl))) ?_
  refine xa_cons 56 (xc_iconst hx hb (z := 1) (b := 1) (And.intro (by decide +kernel) rfl) (by decide +kernel) ⟨rfl, rfl⟩) ?_
  refine xa_cons 57 ((And.intro (by decide) (And.intro (by decide +kernel) rfl))) ?_
  refine xa_cons 58 ((And.intro (Or.inl rfl) (Or.inr (And.intro (by decide +kernel) rfl)))) ?_
  refine xa_cons 59 ((And.intro (by decide) (Or.inr (And.intro (by decide +kernel) rfl)))) ?_
  refine xa_cons 60 ((And.intro (by decide) (Exists.intro (78) (And.intro (by decide +kernel) (And.intro (by decide +kernel) rfl))))) ?_
  refine xa_cons 61 ((And.intro (by decide) (Or.inr (And.intro (by decide +kernel) rfl)))) ?_
  refine xa_cons 62 ((And.intro (by decide) (Or.inl (Exists.intro (2) (And.intro rfl (And.intro (by decide +kernel) rfl)))))) ?_
  refine xa_cons 63 ((And.intro (by decide) (Exists.intro (72) (And.intro (by decide +kernel) (And.intro (by decide +kernel) rfl))))) ?_
  refine xa_cons 64 ((And.intro (by decide) (Or.inl (Exists.intro (1) (And.intro rfl (And.intro (by decide +kernel) rfl)))))) ?_
  refine xa_cons 65 ((And.intro (by decide) (Or.inr (And.intro (by decide +kernel) rfl)))) ?_
  refine xa_cons 66 ((And.intro (by decide) (And.intro (by decide +kernel) rfl))) ?_
  refine xa_cons 67 ((And.intro (xc_callS (index := 88) S xg_143 rfl xw_7 xw_708 xw_709 ⟨by decide, by decide, by decide +kernel⟩ rfl (And.intro (by decide +kernel) rfl)) (by decide +kernel))) ?_
  refine xa_cons 68 ((And.intro (by decide) (Exists.intro (62) (And.intro (by decide +kernel) (And.intro (by decide +kernel) rfl))))) ?_
  refine xa_cons 69 ((And.intro (by decide) (Or.inr (And.intro (by decide +kernel) rfl)))) ?_
  refine xa_cons 70 (xc_bipush hx hb (z := 6) (b := 6) (And.intro (by decide +kernel) rfl) (by decide +kernel) ⟨rfl, rfl⟩) ?_
  refine xa_cons 71 ((And.intro (by decide) (Exists.intro (22) (And.intro (by decide +kernel) (And.intro (by decide +kernel) rfl))))) ?_
  refine xa_cons 72 ((And.intro (by decide) (Or.inr (And.intro (by decide +kernel) rfl)))) ?_
  refine xa_cons 73 (xc_ldc2 (own := "ExpressHouse$Tokens") (index := 104) (b := 10) hx hb hown (htsB _ xw_994) (And.intro (by decide +kernel) rfl) ⟨rfl, rfl⟩) ?_
  refine xa_cons 74 ((And.intro (by decide) (And.intro (by decide +kernel) rfl))) ?_
  refine xa_cons 75 ((And.intro (by decide) (Or.inl (Exists.intro (1) (And.intro rfl (And.intro (by decide +kernel) rfl)))))) ?_
  refine xa_cons 76 ((And.intro (by decide) (Or.inr (And.intro (by decide +kernel) rfl)))) ?_
  refine xa_cons 77 ((And.intro (by decide) (And.intro (by decide +kernel) rfl))) ?_
  refine xa_cons 78 ((And.intro (by decide +kernel) rfl)) ?_
  refine xa_cons 79 ((And.intro (by decide) (And.intro (by decide +kernel) rfl))) ?_
  refine xa_cons 80 (xc_ldc2 (own := "ExpressHouse$Tokens") (index := 106) (b := 48) hx hb hown (htsB _ xw_995) (And.intro (by decide +kernel) rfl) ⟨rfl, rfl⟩) ?_
  refine xa_cons 81 ((And.intro (by decide) (And.intro (by decide +kernel) rfl))) ?_
  refine xa_cons 82 ((Exists.intro (5) (And.intro (by decide +kernel) (by decide +kernel)))) ?_
  refine xa_cons 83 ((And.intro (by decide) (Or.inr (And.intro (by decide +kernel) rfl)))) ?_
  refine xa_cons 84 ((And.intro (Or.inl rfl) (Or.inr (And.intro (by decide +kernel) rfl)))) ?_
  refine xa_cons 85 ((And.intro (by decide) (Or.inr (And.intro (by decide +kernel) rfl)))) ?_
  refine xa_cons 86 (xc_bipush hx hb (z := 6) (b := 6) (And.intro (by decide +kernel) rfl) (by decide +kernel) ⟨rfl, rfl⟩) ?_
  refine xa_cons 87 ((And.intro (by decide) (Exists.intro (12) (And.intro (by decide +kernel) (And.intro (by decide +kernel) rfl))))) ?_
  refine xa_cons 88 ((And.intro (by decide) (Or.inr (And.intro (by decide +kernel) rfl)))) ?_
  refine xa_cons 89 (xc_ldc2 (own := "ExpressHouse$Tokens") (index := 104) (b := 10) hx hb hown (htsB _ xw_994) (And.intro (by decide +kernel) rfl) ⟨rfl, rfl⟩) ?_
  refine xa_cons 90 ((And.intro (by decide) (And.intro (by decide +kernel) rfl))) ?_
  refine xa_cons 91 ((Exists.intro (5) (And.intro (by decide +kernel) (by decide +kernel)))) ?_
  refine xa_cons 92 ((And.intro (by decide) (Or.inr (And.intro (by decide +kernel) rfl)))) ?_
  refine xa_cons 93 ((And.intro (Or.inl rfl) (Or.inr (And.intro (by decide +kernel) rfl)))) ?_
  refine xa_cons 94 ((Exists.intro (1) (And.intro (And.intro (by decide +kernel) rfl) (by decide +kernel)))) ?_
  refine xa_cons 95 ((Exists.intro (1) (And.intro (And.intro (by decide +kernel) rfl) (by decide +kernel)))) ?_
  refine xa_cons 96 ((Exists.intro (-77) (And.intro (by decide +kernel) (by decide +kernel)))) ?_
  refine xa_cons 97 ((And.intro (by decide) (Or.inr (And.intro (by decide +kernel) rfl)))) ?_
  refine xa_cons 98 ((And.intro (by decide) (Or.inr (And.intro (by decide +kernel) rfl)))) ?_
  refine xa_cons 99 ((And.intro (by decide) (Exists.intro (8) (And.intro (by decide +kernel) (And.intro (by decide +kernel) rfl))))) ?_
  refine xa_cons 100 (xc_bipush hx hb (z := 6) (b := 6) (And.intro (by decide +kernel) rfl) (by decide +kernel) ⟨rfl, rfl⟩) ?_
  refine xa_cons 101 ((Exists.intro (5) (And.intro (by decide +kernel) (by decide +kernel)))) ?_
  refine xa_cons 102 (xc_bipush hx hb (z := 9) (b := 9) (And.intro (by decide +kernel) rfl) (by decide +kernel) ⟨rfl, rfl⟩) ?_
  refine xa_cons 103 ((And.intro (by decide) (Exists.intro (10) (And.intro (by decide +kernel) (And.intro (by decide +kernel) rfl))))) ?_
  refine xa_cons 104 ((And.intro (by decide) (Or.inr (And.intro (by decide +kernel) rfl)))) ?_
  refine xa_cons 105 (xc_bipush hx hb (z := 6) (b := 6) (And.intro (by decide +kernel) rfl) (by decide +kernel) ⟨rfl, rfl⟩) ?_
  refine xa_cons 106 ((And.intro (by decide) (Exists.intro (5) (And.intro (by decide +kernel) (And.intro (by decide +kernel) rfl))))) ?_
  refine xa_cons 107 (xc_iconst hx hb (z := 0) (b := 0) (And.intro (by decide +kernel) rfl) (by decide +kernel) ⟨rfl, rfl⟩) ?_
  refine xa_cons 108 ((And.intro hr (by decide +kernel))) ?_
  refine xa_cons 109 ((And.intro (by decide) (Or.inl (Exists.intro (0) (And.intro rfl (And.intro (by decide +kernel) rfl)))))) ?_
  refine xa_cons 110 ((And.intro (by decide) (Or.inr (And.intro (by decide +kernel) rfl)))) ?_
  refine xa_cons 111 ((And.intro (by decide) (Exists.intro (7) (And.intro (by decide +kernel) (And.intro (by decide +kernel) rfl))))) ?_
  refine xa_cons 112 (xc_iconst hx hb (z := 3) (b := 3) (And.intro (by decide +kernel) rfl) (by decide +kernel) ⟨rfl, rfl⟩) ?_
  refine xa_cons 113 ((Exists.intro (4) (And.intro (by decide +kernel) (by decide +kernel)))) ?_
  refine xa_cons 114 (xc_iconst hx hb (z := 2) (b := 2) (And.intro (by decide +kernel) rfl) (by decide +kernel) ⟨rfl, rfl⟩) ?_
  refine xa_cons 115 ((And.intro (by decide) (Or.inl (Exists.intro (3) (And.intro rfl (And.intro (by decide +kernel) rfl)))))) ?_
  refine xa_cons 116 ((And.intro (by decide) (Or.inr (And.intro (by decide +kernel) rfl)))) ?_
  refine xa_cons 117 ((And.intro (by decide) (Exists.intro (13) (And.intro (by decide +kernel) (And.intro (by decide +kernel) rfl))))) ?_
  refine xa_cons 118 ((And.intro (by decide) (Or.inr (And.intro (by decide +kernel) rfl)))) ?_
  refine xa_cons 119 ((And.intro (by decide) (Or.inr (And.intro (by decide +kernel) rfl)))) ?_
  refine xa_cons 120 ((And.intro (xc_callS (index := 108) S xg_221 rfl xw_909 xw_996 xw_997 ⟨by decide, by decide, by decide +kernel⟩ rfl (And.intro (by decide +kernel) rfl)) (by decide +kernel))) ?_
  refine xa_cons 121 ((Exists.intro (5) (And.intro (by decide +kernel) (by decide +kernel)))) ?_
  refine xa_cons 122 ((And.intro (by decide) (Or.inr (And.intro (by decide +kernel) rfl)))) ?_
  refine xa_cons 123 ((And.intro (xc_callV (index := 75) (n := 3) (ci := 1) S xg_89 rfl xw_7 xw_483 xw_481 xw_482 rfl rfl rfl ⟨by decide, by decide, by decide +kernel⟩ rfl (And.intro (by decide +kernel) rfl)) (by decide +kernel))) ?_
  refine xa_cons 124 ((And.intro (by decide) (Or.inr (And.intro (by decide +kernel) rfl)))) ?_
  refine xa_cons 125 ((And.intro (by decide) (Exists.intro (13) (And.intro (by decide +kernel) (And.intro (by decide +kernel) rfl))))) ?_
  refine xa_cons 126 ((And.intro (by decide) (Or.inr (And.intro (by decide +kernel) rfl)))) ?_
  refine xa_cons 127 (xc_iconst hx hb (z := 1) (b := 1) (And.intro (by decide +kernel) rfl) (by decide +kernel) ⟨rfl, rfl⟩) ?_
  refine xa_cons 128 ((And.intro (by decide) (And.intro (by decide +kernel) rfl))) ?_
  refine xa_cons 129 ((And.intro (by decide) (Or.inr (And.intro (by decide +kernel) rfl)))) ?_
  refine xa_cons 130 ((And.intro (by decide) (And.intro (by decide +kernel) rfl))) ?_
  refine xa_cons 131 ((Exists.intro (5) (And.intro (by decide +kernel) (by decide +kernel)))) ?_
  refine xa_cons 132 ((And.intro (by decide) (Or.inr (And.intro (by decide +kernel) rfl)))) ?_
  refine xa_cons 133 ((And.intro hr (by decide +kernel))) ?_
  exact xa_nil
def xrp_145 : Nat → Nat := fun k => ([0, 1, 36, 37, 39, 42, 44, 47, 48, 50, 53, 55, 58, 59, 61, 64, 66, 69, 70, 71, 72, 74, 77, 79, 82, 83, 84, 85, 87, 90, 91, 93, 96, 98, 101, 102, 103, 104] : List Nat).getD k 0
set_option maxRecDepth 20000 in
set_option maxHeartbeats 4000000 in
theorem xz_145 {l : Launch} {D : va_G} {en : XE} : x_Ok xT l D xcl en xrn (xG en) 145 xc_145 := by
  refine ⟨prog_12_method_15_code, (some .int), xBIG, xrp_145, by decide +kernel, rfl, rfl, ?_⟩
  intro p e R s m args below meth c s₁ A Q pc i f1 f2 B hml hA hg hi
  obtain ⟨hx, hb, hr, hown, hlocks, hin, htsB, S⟩ := xb_all (C := "ExpressHouse$Tokens") B hml rfl rfl
  obtain ⟨hgN, hgZ, hgS, hgS2⟩ := xG_all hg
  refine xa_at (i := i) (pc := pc) ?_ hi
  refine xa_cons 0 ((And.intro (by decide) (Or.inl (Exists.intro (0) (And.intro rfl (And.intro (by decide +kernel) rfl)))))) ?_
  refine xa_cons 1 (xc_table hx hb (by decide +kernel : decode prog_12_method_15_code 1 = .ok (.tableswitch 102 58 62 #[83, 102, 35, 102, 70], 35)) (by decide +kernel) (by decide) (by decide +kernel) (by decide) (by decide +kernel)) ?_
  refine xa_cons 2 ((And.intro (by decide) (Or.inl (Exists.intro (1) (And.intro rfl (And.intro (by decide +kernel) rfl)))))) ?_
  refine xa_cons 3 (xc_bipush hx hb (z := 61) (b := 61) (And.intro (by decide +kernel) rfl) (by decide +kernel) ⟨rfl, rfl⟩) ?_
  refine xa_cons 4 ((And.intro (by decide) (Exists.intro (8) (And.intro (by decide +kernel) (And.intro (by decide +kernel) rfl))))) ?_
  refine xa_cons 5 (xc_bipush hx hb (z := 61) (b := 61) (And.intro (by decide +kernel) rfl) (by decide +kernel) ⟨rfl, rfl⟩) ?_
  refine xa_cons 6 ((Exists.intro (26) (And.intro (by decide +kernel) (by decide +kernel)))) ?_
  refine xa_cons 7 ((And.intro (by decide) (Or.inl (Exists.intro (1) (And.intro rfl (And.intro (by decide +kernel) rfl)))))) ?_
  refine xa_cons 8 (xc_bipush hx hb (z := 62) (b := 62) (And.intro (by decide +kernel) rfl) (by decide +kernel) ⟨rfl, rfl⟩) ?_
  refine xa_cons 9 ((And.intro (by decide) (Exists.intro (8) (And.intro (by decide +kernel) (And.intro (by decide +kernel) rfl))))) ?_
  refine xa_cons 10 (xc_bipush hx hb (z := 65) (b := 65) (And.intro (by decide +kernel) rfl) (by decide +kernel) ⟨rfl, rfl⟩) ?_
  refine xa_cons 11 ((Exists.intro (15) (And.intro (by decide +kernel) (by decide +kernel)))) ?_
  refine xa_cons 12 ((And.intro (by decide) (Or.inl (Exists.intro (1) (And.intro rfl (And.intro (by decide +kernel) rfl)))))) ?_
  refine xa_cons 13 (xc_bipush hx hb (z := 42) (b := 42) (And.intro (by decide +kernel) rfl) (by decide +kernel) ⟨rfl, rfl⟩) ?_
  refine xa_cons 14 ((And.intro (by decide) (Exists.intro (8) (And.intro (by decide +kernel) (And.intro (by decide +kernel) rfl))))) ?_
  refine xa_cons 15 (xc_bipush hx hb (z := 67) (b := 67) (And.intro (by decide +kernel) rfl) (by decide +kernel) ⟨rfl, rfl⟩) ?_
  refine xa_cons 16 ((Exists.intro (4) (And.intro (by decide +kernel) (by decide +kernel)))) ?_
  refine xa_cons 17 (xc_iconst hx hb (z := 4) (b := 4) (And.intro (by decide +kernel) rfl) (by decide +kernel) ⟨rfl, rfl⟩) ?_
  refine xa_cons 18 ((And.intro hr (by decide +kernel))) ?_
  refine xa_cons 19 ((And.intro (by decide) (Or.inl (Exists.intro (1) (And.intro rfl (And.intro (by decide +kernel) rfl)))))) ?_
  refine xa_cons 20 (xc_bipush hx hb (z := 61) (b := 61) (And.intro (by decide +kernel) rfl) (by decide +kernel) ⟨rfl, rfl⟩) ?_
  refine xa_cons 21 ((And.intro (by decide) (Exists.intro (8) (And.intro (by decide +kernel) (And.intro (by decide +kernel) rfl))))) ?_
  refine xa_cons 22 (xc_bipush hx hb (z := 63) (b := 63) (And.intro (by decide +kernel) rfl) (by decide +kernel) ⟨rfl, rfl⟩) ?_
  refine xa_cons 23 ((Exists.intro (4) (And.intro (by decide +kernel) (by decide +kernel)))) ?_
  refine xa_cons 24 (xc_iconst hx hb (z := 4) (b := 4) (And.intro (by decide +kernel) rfl) (by decide +kernel) ⟨rfl, rfl⟩) ?_
  refine xa_cons 25 ((And.intro hr (by decide +kernel))) ?_
  refine xa_cons 26 ((And.intro (by decide) (Or.inl (Exists.intro (1) (And.intro rfl (And.intro (by decide +kernel) rfl)))))) ?_
  refine xa_cons 27 (xc_bipush hx hb (z := 61) (b := 61) (And.intro (by decide +kernel) rfl) (by decide +kernel) ⟨rfl, rfl⟩) ?_
  refine xa_cons 28 ((And.intro (by decide) (Exists.intro (14) (And.intro (by decide +kernel) (And.intro (by decide +kernel) rfl))))) ?_
  refine xa_cons 29 ((And.intro (by decide) (Or.inl (Exists.intro (2) (And.intro rfl (And.intro (by decide +kernel) rfl)))))) ?_
  refine xa_cons 30 (xc_bipush hx hb (z := 58) (b := 58) (And.intro (by decide +kernel) rfl) (by decide +kernel) ⟨rfl, rfl⟩) ?_
  refine xa_cons 31 ((And.intro (by decide) (Exists.intro (8) (And.intro (by decide +kernel) (And.intro (by decide +kernel) rfl))))) ?_
  refine xa_cons 32 (xc_bipush hx hb (z := 66) (b := 66) (And.intro (by decide +kernel) rfl) (by decide +kernel) ⟨rfl, rfl⟩) ?_
  refine xa_cons 33 ((Exists.intro (4) (And.intro (by decide +kernel) (by decide +kernel)))) ?_
  refine xa_cons 34 (xc_iconst hx hb (z := 4) (b := 4) (And.intro (by decide +kernel) rfl) (by decide +kernel) ⟨rfl, rfl⟩) ?_
  refine xa_cons 35 ((And.intro hr (by decide +kernel))) ?_
  refine xa_cons 36 (xc_iconst hx hb (z := 4) (b := 4) (And.intro (by decide +kernel) rfl) (by decide +kernel) ⟨rfl, rfl⟩) ?_
  refine xa_cons 37 ((And.intro hr (by decide +kernel))) ?_
  exact xa_nil
def xrp_146 : Nat → Nat := fun k => ([0, 1, 156, 158, 159, 161, 162, 164, 165, 167, 168, 170, 171, 173, 174, 176, 177, 179, 180, 182, 183, 185, 186, 188, 189, 191, 192, 194, 195, 197, 198, 200, 201, 203, 204, 206, 207, 209, 210, 211] : List Nat).getD k 0
set_option maxRecDepth 20000 in
set_option maxHeartbeats 4000000 in
theorem xz_146 {l : Launch} {D : va_G} {en : XE} : x_Ok xT l D xcl en xrn (xG en) 146 xc_146 := by
  refine ⟨prog_12_method_16_code, (some .int), xBIG, xrp_146, by decide +kernel, rfl, rfl, ?_⟩
  intro p e R s m args below meth c s₁ A Q pc i f1 f2 B hml hA hg hi
  obtain ⟨hx, hb, hr, hown, hlocks, hin, htsB, S⟩ := xb_all (C := "ExpressHouse$Tokens") B hml rfl rfl
  obtain ⟨hgN, hgZ, hgS, hgS2⟩ := xG_all hg
  refine xa_at (i := i) (pc := pc) ?_ hi
  refine xa_cons 0 ((And.intro (by decide) (Or.inl (Exists.intro (0) (And.intro rfl (And.intro (by decide +kernel) rfl)))))) ?_
  refine xa_cons 1 (xc_lookup hx hb (by decide +kernel : decode prog_12_method_16_code 1 = .ok (.lookupswitch 209 #[(35, 206), (40, 179), (41, 182), (42, 173), (43, 167), (44, 191), (45, 170), (46, 200), (47, 176), (58, 197), (59, 194), (60, 155), (61, 161), (62, 158), (63, 203), (91, 185), (93, 188), (124, 164)], 155)) (by decide +kernel) (by decide +kernel) (by decide +kernel)) ?_
  refine xa_cons 2 (xc_bipush hx hb (z := 60) (b := 60) (And.intro (by decide +kernel) rfl) (by decide +kernel) ⟨rfl, rfl⟩) ?_
  refine xa_cons 3 ((And.intro hr (by decide +kernel))) ?_
  refine xa_cons 4 (xc_bipush hx hb (z := 62) (b := 62) (And.intro (by decide +kernel) rfl) (by decide +kernel) ⟨rfl, rfl⟩) ?_
  refine xa_cons 5 ((And.intro hr (by decide +kernel))) ?_
  refine xa_cons 6 (xc_bipush hx hb (z := 64) (b := 64) (And.intro (by decide +kernel) rfl) (by decide +kernel) ⟨rfl, rfl⟩) ?_
  refine xa_cons 7 ((And.intro hr (by decide +kernel))) ?_
  refine xa_cons 8 (xc_bipush hx hb (z := 68) (b := 68) (And.intro (by decide +kernel) rfl) (by decide +kernel) ⟨rfl, rfl⟩) ?_
  refine xa_cons 9 ((And.intro hr (by decide +kernel))) ?_
  refine xa_cons 10 (xc_bipush hx hb (z := 69) (b := 69) (And.intro (by decide +kernel) rfl) (by decide +kernel) ⟨rfl, rfl⟩) ?_
  refine xa_cons 11 ((And.intro hr (by decide +kernel))) ?_
  refine xa_cons 12 (xc_bipush hx hb (z := 70) (b := 70) (And.intro (by decide +kernel) rfl) (by decide +kernel) ⟨rfl, rfl⟩) ?_
  refine xa_cons 13 ((And.intro hr (by decide +kernel))) ?_
  refine xa_cons 14 (xc_bipush hx hb (z := 71) (b := 71) (And.intro (by decide +kernel) rfl) (by decide +kernel) ⟨rfl, rfl⟩) ?_
  refine xa_cons 15 ((And.intro hr (by decide +kernel))) ?_
  refine xa_cons 16 (xc_bipush hx hb (z := 72) (b := 72) (And.intro (by decide +kernel) rfl) (by decide +kernel) ⟨rfl, rfl⟩) ?_
  refine xa_cons 17 ((And.intro hr (by decide +kernel))) ?_
  refine xa_cons 18 (xc_bipush hx hb (z := 73) (b := 73) (And.intro (by decide +kernel) rfl) (by decide +kernel) ⟨rfl, rfl⟩) ?_
  refine xa_cons 19 ((And.intro hr (by decide +kernel))) ?_
  refine xa_cons 20 (xc_bipush hx hb (z := 74) (b := 74) (And.intro (by decide +kernel) rfl) (by decide +kernel) ⟨rfl, rfl⟩) ?_
  refine xa_cons 21 ((And.intro hr (by decide +kernel))) ?_
  refine xa_cons 22 (xc_bipush hx hb (z := 75) (b := 75) (And.intro (by decide +kernel) rfl) (by decide +kernel) ⟨rfl, rfl⟩) ?_
  refine xa_cons 23 ((And.intro hr (by decide +kernel))) ?_
  refine xa_cons 24 (xc_bipush hx hb (z := 76) (b := 76) (And.intro (by decide +kernel) rfl) (by decide +kernel) ⟨rfl, rfl⟩) ?_
  refine xa_cons 25 ((And.intro hr (by decide +kernel))) ?_
  refine xa_cons 26 (xc_bipush hx hb (z := 77) (b := 77) (And.intro (by decide +kernel) rfl) (by decide +kernel) ⟨rfl, rfl⟩) ?_
  refine xa_cons 27 ((And.intro hr (by decide +kernel))) ?_
  refine xa_cons 28 (xc_bipush hx hb (z := 78) (b := 78) (And.intro (by decide +kernel) rfl) (by decide +kernel) ⟨rfl, rfl⟩) ?_
  refine xa_cons 29 ((And.intro hr (by decide +kernel))) ?_
  refine xa_cons 30 (xc_bipush hx hb (z := 79) (b := 79) (And.intro (by decide +kernel) rfl) (by decide +kernel) ⟨rfl, rfl⟩) ?_
  refine xa_cons 31 ((And.intro hr (by decide +kernel))) ?_
  refine xa_cons 32 (xc_bipush hx hb (z := 80) (b := 80) (And.intro (by decide +kernel) rfl) (by decide +kernel) ⟨rfl, rfl⟩) ?_
  refine xa_cons 33 ((And.intro hr (by decide +kernel))) ?_
  refine xa_cons 34 (xc_bipush hx hb (z := 81) (b := 81) (And.intro (by decide +kernel) rfl) (by decide +kernel) ⟨rfl, rfl⟩) ?_
  refine xa_cons 35 ((And.intro hr (by decide +kernel))) ?_
  refine xa_cons 36 (xc_bipush hx hb (z := 82) (b := 82) (And.intro (by decide +kernel) rfl) (by decide +kernel) ⟨rfl, rfl⟩) ?_
  refine xa_cons 37 ((And.intro hr (by decide +kernel))) ?_
  refine xa_cons 38 (xc_iconst hx hb (z := 4) (b := 4) (And.intro (by decide +kernel) rfl) (by decide +kernel) ⟨rfl, rfl⟩) ?_
  refine xa_cons 39 ((And.intro hr (by decide +kernel))) ?_
  exact xa_nil
def xrp_147 : Nat → Nat := fun k => ([0, 1, 4, 5, 8, 9, 12, 13, 14, 15, 18, 21, 22, 25, 26, 27, 28, 31, 32, 35, 36, 37, 40, 41, 42, 45, 46, 47, 50, 51, 54, 55, 58, 59, 60, 63, 64, 67, 68, 71, 72, 73, 76, 77, 80, 81, 84] : List Nat).getD k 0
set_option maxRecDepth 20000 in
set_option maxHeartbeats 4000000 in
theorem xz_147 {l : Launch} {D : va_G} {en : XE} : x_Ok xT l D xcl en xrn (xG en) 147 xc_147 := by
  refine ⟨prog_12_method_19_code, none, xBIG, xrp_147, by decide +kernel, rfl, rfl, ?_⟩
  intro p e R s m args below meth c s₁ A Q pc i f1 f2 B hml hA hg hi
  obtain ⟨hx, hb, hr, hown, hlocks, hin, htsB, S⟩ := xb_all (C := "ExpressHouse$Tokens") B hml rfl rfl
  obtain ⟨hgN, hgZ, hgS, hgS2⟩ := xG_all hg
  refine xa_at (i := i) (pc := pc) ?_ hi
  refine xa_cons 0 ((And.intro (by decide) (Or.inl (Exists.intro (0) (And.intro rfl (And.intro (by decide +kernel) rfl)))))) ?_
  refine xa_cons 1 (xc_getf (A := A) (own := "ExpressHouse$Tokens") (index := 123) hx hb htsB xC_1 hown rfl (by decide) xw_720 (And.intro (by decide +kernel) rfl)) ?_
  refine xa_cons 2 (xc_iconst hx hb (z := 5) (b := 5) (And.intro (by decide +kernel) rfl) (by decide +kernel) ⟨rfl, rfl⟩) ?_
  refine xa_cons 3 ((And.intro (by decide) (Exists.intro (79) (And.intro (by decide +kernel) (And.intro (by decide +kernel) rfl))))) ?_
  refine xa_cons 4 ((And.intro (by decide) (Or.inl (Exists.intro (0) (And.intro rfl (And.intro (by decide +kernel) rfl)))))) ?_
  refine xa_cons 5 (xc_getf (A := A) (own := "ExpressHouse$Tokens") (index := 114) hx hb htsB xC_1 hown rfl (by decide) xw_717 (And.intro (by decide +kernel) rfl)) ?_
  refine xa_cons 6 (xc_iconst hx hb (z := 1) (b := 1) (And.intro (by decide +kernel) rfl) (by decide +kernel) ⟨rfl, rfl⟩) ?_
  refine xa_cons 7 ((And.intro (by decide) (And.intro (by decide +kernel) rfl))) ?_
  refine xa_cons 8 ((And.intro (by decide) (Or.inl (Exists.intro (0) (And.intro rfl (And.intro (by decide +kernel) rfl)))))) ?_
  refine xa_cons 9 (xc_getf (A := A) (own := "ExpressHouse$Tokens") (index := 51) hx hb htsB xC_1 hown rfl (by decide) xw_469 (And.intro (by decide +kernel) rfl)) ?_
  refine xa_cons 10 ((And.intro (by decide) (Exists.intro (66) (And.intro (by decide +kernel) (And.intro (by decide +kernel) rfl))))) ?_
  refine xa_cons 11 ((And.intro (by decide) (Or.inl (Exists.intro (0) (And.intro rfl (And.intro (by decide +kernel) rfl)))))) ?_
  refine xa_cons 12 (xc_getf (A := A) (own := "ExpressHouse$Tokens") (index := 114) hx hb htsB xC_1 hown rfl (by decide) xw_717 (And.intro (by decide +kernel) rfl)) ?_
  refine xa_cons 13 (xc_iconst hx hb (z := 1) (b := 1) (And.intro (by decide +kernel) rfl) (by decide +kernel) ⟨rfl, rfl⟩) ?_
  refine xa_cons 14 ((And.intro (by decide) (And.intro (by decide +kernel) rfl))) ?_
  refine xa_cons 15 ((And.intro (by decide) (Or.inl (Exists.intro (0) (And.intro rfl (And.intro (by decide +kernel) rfl)))))) ?_
  refine xa_cons 16 (xc_getf (A := A) (own := "ExpressHouse$Tokens") (index := 21) hx hb htsB xC_1 hown rfl (by decide) xw_212 (And.intro (by decide +kernel) rfl)) ?_
  refine xa_cons 17 ((And.intro (by decide +kernel) rfl)) ?_
  refine xa_cons 18 ((And.intro (by decide) (Exists.intro (52) (And.intro (by decide +kernel) (And.intro (by decide +kernel) rfl))))) ?_
  refine xa_cons 19 ((And.intro (by decide) (Or.inl (Exists.intro (0) (And.intro rfl (And.intro (by decide +kernel) rfl)))))) ?_
  refine xa_cons 20 ((And.intro (by decide +kernel) rfl)) ?_
  refine xa_cons 21 (xc_getf (A := A) (own := "ExpressHouse$Tokens") (index := 114) hx hb htsB xC_1 hown rfl (by decide) xw_717 (And.intro (by decide +kernel) rfl)) ?_
  refine xa_cons 22 (xc_iconst hx hb (z := 1) (b := 1) (And.intro (by decide +kernel) rfl) (by decide +kernel) ⟨rfl, rfl⟩) ?_
  refine xa_cons 23 ((And.intro (by decide) (And.intro (by decide +kernel) rfl))) ?_
  refine xa_cons 24 (xc_putf (own := "ExpressHouse$Tokens") (index := 114) hx hb htsB xC_1 hown rfl (by decide) xw_717 rfl (rfl) (And.intro (by decide +kernel) rfl)) ?_
  refine xa_cons 25 ((And.intro (by decide) (Or.inl (Exists.intro (0) (And.intro rfl (And.intro (by decide +kernel) rfl)))))) ?_
  refine xa_cons 26 ((And.intro (by decide) (Or.inl (Exists.intro (0) (And.intro rfl (And.intro (by decide +kernel) rfl)))))) ?_
  refine xa_cons 27 (xc_getf (A := A) (own := "ExpressHouse$Tokens") (index := 21) hx hb htsB xC_1 hown rfl (by decide) xw_212 (And.intro (by decide +kernel) rfl)) ?_
  refine xa_cons 28 ((And.intro (by decide) (Or.inl (Exists.intro (0) (And.intro rfl (And.intro (by decide +kernel) rfl)))))) ?_
  refine xa_cons 29 (xc_getf (A := A) (own := "ExpressHouse$Tokens") (index := 114) hx hb htsB xC_1 hown rfl (by decide) xw_717 (And.intro (by decide +kernel) rfl)) ?_
  refine xa_cons 30 ((And.intro (by decide) (And.intro (by decide +kernel) rfl))) ?_
  refine xa_cons 31 (xc_putf (own := "ExpressHouse$Tokens") (index := 123) hx hb htsB xC_1 hown rfl (by decide) xw_720 rfl (rfl) (And.intro (by decide +kernel) rfl)) ?_
  refine xa_cons 32 ((And.intro (by decide) (Or.inl (Exists.intro (0) (And.intro rfl (And.intro (by decide +kernel) rfl)))))) ?_
  refine xa_cons 33 ((And.intro (by decide) (Or.inl (Exists.intro (0) (And.intro rfl (And.intro (by decide +kernel) rfl)))))) ?_
  refine xa_cons 34 (xc_getf (A := A) (own := "ExpressHouse$Tokens") (index := 25) hx hb htsB xC_1 hown rfl (by decide) xw_213 (And.intro (by decide +kernel) rfl)) ?_
  refine xa_cons 35 ((And.intro (by decide) (Or.inl (Exists.intro (0) (And.intro rfl (And.intro (by decide +kernel) rfl)))))) ?_
  refine xa_cons 36 (xc_getf (A := A) (own := "ExpressHouse$Tokens") (index := 114) hx hb htsB xC_1 hown rfl (by decide) xw_717 (And.intro (by decide +kernel) rfl)) ?_
  refine xa_cons 37 ((And.intro (by decide) (And.intro (by decide +kernel) rfl))) ?_
  refine xa_cons 38 (xc_putf (own := "ExpressHouse$Tokens") (index := 129) hx hb htsB xC_1 hown rfl (by decide) xw_735 rfl (rfl) (And.intro (by decide +kernel) rfl)) ?_
  refine xa_cons 39 ((And.intro (by decide) (Or.inl (Exists.intro (0) (And.intro rfl (And.intro (by decide +kernel) rfl)))))) ?_
  refine xa_cons 40 ((And.intro (by decide) (Or.inl (Exists.intro (0) (And.intro rfl (And.intro (by decide +kernel) rfl)))))) ?_
  refine xa_cons 41 (xc_getf (A := A) (own := "ExpressHouse$Tokens") (index := 28) hx hb htsB xC_1 hown rfl (by decide) xw_215 (And.intro (by decide +kernel) rfl)) ?_
  refine xa_cons 42 ((And.intro (by decide) (Or.inl (Exists.intro (0) (And.intro rfl (And.intro (by decide +kernel) rfl)))))) ?_
  refine xa_cons 43 (xc_getf (A := A) (own := "ExpressHouse$Tokens") (index := 114) hx hb htsB xC_1 hown rfl (by decide) xw_717 (And.intro (by decide +kernel) rfl)) ?_
  refine xa_cons 44 ((And.intro (by decide) (And.intro (by decide +kernel) rfl))) ?_
  refine xa_cons 45 (xc_putf (own := "ExpressHouse$Tokens") (index := 132) hx hb htsB xC_1 hown rfl (by decide) xw_736 rfl (rfl) (And.intro (by decide +kernel) rfl)) ?_
  refine xa_cons 46 ((And.intro hr (by decide +kernel))) ?_
  exact xa_nil
def xrp_148 : Nat → Nat := fun k => ([0, 1, 2, 3, 4, 6, 7, 9, 12, 13, 14, 15, 16, 19, 22] : List Nat).getD k 0
set_option maxRecDepth 20000 in
set_option maxHeartbeats 4000000 in
theorem xz_148 {l : Launch} {D : va_G} {en : XE} : x_Ok xT l D xcl en xrn (xG en) 148 xc_148 := by
  refine ⟨prog_46_method_101_code, none, xBIG, xrp_148, by decide +kernel, rfl, rfl, ?_⟩
  intro p e R s m args below meth c s₁ A Q pc i f1 f2 B hml hA hg hi
  obtain ⟨hx, hb, hr, hown, hlocks, hin, htsB, S⟩ := xb_all (C := "java/util/Arrays") B hml rfl rfl
  obtain ⟨hgN, hgZ, hgS, hgS2⟩ := xG_all hg
  refine xa_at (i := i) (pc := pc) ?_ hi
  refine xa_cons 0 (xc_iconst hx hb (z := 0) (b := 0) (And.intro (by decide +kernel) rfl) (by decide +kernel) ⟨rfl, rfl⟩) ?_
  refine xa_cons 1 ((And.intro (Or.inl rfl) (Or.inl (Exists.intro (3) (And.intro rfl (And.intro (by decide +kernel) rfl)))))) ?_
  refine xa_cons 2 ((And.intro (by decide) (Or.inl (Exists.intro (0) (And.intro rfl (And.intro (by decide +kernel) rfl)))))) ?_
  refine xa_cons 3 ((And.intro (by decide +kernel) rfl)) ?_
  refine xa_cons 4 ((And.intro (Or.inl rfl) (Or.inr (And.intro (by decide +kernel) rfl)))) ?_
  refine xa_cons 5 ((And.intro (by decide) (Or.inl (Exists.intro (3) (And.intro rfl (And.intro (by decide +kernel) rfl)))))) ?_
  refine xa_cons 6 ((And.intro (by decide) (Or.inr (And.intro (by decide +kernel) rfl)))) ?_
  refine xa_cons 7 ((And.intro (by decide) (Exists.intro (13) (And.intro (by decide +kernel) (And.intro (by decide +kernel) rfl))))) ?_
  refine xa_cons 8 ((And.intro (by decide) (Or.inl (Exists.intro (0) (And.intro rfl (And.intro (by decide +kernel) rfl)))))) ?_
  refine xa_cons 9 ((And.intro (by decide) (Or.inl (Exists.intro (3) (And.intro rfl (And.intro (by decide +kernel) rfl)))))) ?_
  refine xa_cons 10 ((And.intro (by decide) (Or.inl (Exists.intro (1) (And.intro rfl (And.intro (by decide +kernel) rfl)))))) ?_
  refine xa_cons 11 ((And.intro (by decide) (And.intro (by decide +kernel) rfl))) ?_
  refine xa_cons 12 ((Exists.intro (1) (And.intro (And.intro (by decide +kernel) rfl) (by decide +kernel)))) ?_
  refine xa_cons 13 ((Exists.intro (-13) (And.intro (by decide +kernel) (by decide +kernel)))) ?_
  refine xa_cons 14 ((And.intro hr (by decide +kernel))) ?_
  exact xa_nil
def xrp_149 : Nat → Nat := fun k => ([0, 1, 2, 3, 4, 5, 8, 9, 10, 11, 12, 15, 18, 21] : List Nat).getD k 0
set_option maxRecDepth 20000 in
set_option maxHeartbeats 4000000 in
theorem xz_149 {l : Launch} {D : va_G} {en : XE} : x_Ok xT l D xcl en xrn (xG en) 149 xc_149 := by
  refine ⟨prog_10_method_4_code, none, xBIG, xrp_149, by decide +kernel, rfl, rfl, ?_⟩
  intro p e R s m args below meth c s₁ A Q pc i f1 f2 B hml hA hg hi
  obtain ⟨hx, hb, hr, hown, hlocks, hin, htsB, S⟩ := xb_all (C := "ExpressHouse$Schema") B hml rfl rfl
  obtain ⟨hgN, hgZ, hgS, hgS2⟩ := xG_all hg
  refine xa_at (i := i) (pc := pc) ?_ hi
  refine xa_cons 0 (xc_iconst hx hb (z := 0) (b := 0) (And.intro (by decide +kernel) rfl) (by decide +kernel) ⟨rfl, rfl⟩) ?_
  refine xa_cons 1 ((And.intro (Or.inl rfl) (Or.inl (Exists.intro (1) (And.intro rfl (And.intro (by decide +kernel) rfl)))))) ?_
  refine xa_cons 2 ((And.intro (by decide) (Or.inl (Exists.intro (1) (And.intro rfl (And.intro (by decide +kernel) rfl)))))) ?_
  refine xa_cons 3 ((And.intro (by decide) (Or.inl (Exists.intro (0) (And.intro rfl (And.intro (by decide +kernel) rfl)))))) ?_
  refine xa_cons 4 ((And.intro (by decide +kernel) rfl)) ?_
  refine xa_cons 5 ((And.intro (by decide) (Exists.intro (16) (And.intro (by decide +kernel) (And.intro (by decide +kernel) rfl))))) ?_
  refine xa_cons 6 ((And.intro (by decide) (Or.inl (Exists.intro (0) (And.intro rfl (And.intro (by decide +kernel) rfl)))))) ?_
  refine xa_cons 7 ((And.intro (by decide) (Or.inl (Exists.intro (1) (And.intro rfl (And.intro (by decide +kernel) rfl)))))) ?_
  refine xa_cons 8 ((And.intro (by decide) (And.intro (by decide +kernel) rfl))) ?_
  refine xa_cons 9 (xc_iconst hx hb (z := 0) (b := 0) (And.intro (by decide +kernel) rfl) (by decide +kernel) ⟨rfl, rfl⟩) ?_
  refine xa_cons 10 ((And.intro (xc_callS (index := 74) S xg_93 rfl xw_495 xw_724 xw_497 ⟨by decide, by decide, by decide +kernel⟩ rfl (And.intro (by decide +kernel) rfl)) (by decide +kernel))) ?_
  refine xa_cons 11 ((Exists.intro (1) (And.intro (And.intro (by decide +kernel) rfl) (by decide +kernel)))) ?_
  refine xa_cons 12 ((Exists.intro (-16) (And.intro (by decide +kernel) (by decide +kernel)))) ?_
  refine xa_cons 13 ((And.intro hr (by decide +kernel))) ?_
  exact xa_nil
def xrp_150 : Nat → Nat := fun k => ([0, 1, 2, 5, 6, 7, 10, 11, 12, 15, 16, 17, 20, 21, 22, 25] : List Nat).getD k 0
set_option maxRecDepth 20000 in
set_option maxHeartbeats 4000000 in
theorem xz_150 {l : Launch} {D : va_G} {en : XE} : x_Ok xT l D xcl en xrn (xG en) 150 xc_150 := by
  refine ⟨prog_2_method_3_code, none, xBIG, xrp_150, by decide +kernel, rfl, rfl, ?_⟩
  intro p e R s m args below meth c s₁ A Q pc i f1 f2 B hml hA hg hi
  obtain ⟨hx, hb, hr, hown, hlocks, hin, htsB, S⟩ := xb_all (C := "ExpressHouse$Expressions") B hml rfl rfl
  obtain ⟨hgN, hgZ, hgS, hgS2⟩ := xG_all hg
  refine xa_at (i := i) (pc := pc) ?_ hi
  refine xa_cons 0 ((And.intro (by decide) (Or.inl (Exists.intro (0) (And.intro rfl (And.intro (by decide +kernel) rfl)))))) ?_
  refine xa_cons 1 ((And.intro (by decide) (Or.inl (Exists.intro (1) (And.intro rfl (And.intro (by decide +kernel) rfl)))))) ?_
  refine xa_cons 2 (xc_putf (own := "ExpressHouse$Expressions") (index := 44) hx hb htsB xC_4 hown rfl (by decide) xw_998 rfl (rfl) (And.intro (by decide +kernel) rfl)) ?_
  refine xa_cons 3 ((And.intro (by decide) (Or.inl (Exists.intro (0) (And.intro rfl (And.intro (by decide +kernel) rfl)))))) ?_
  refine xa_cons 4 ((And.intro (by decide) (Or.inl (Exists.intro (2) (And.intro rfl (And.intro (by decide +kernel) rfl)))))) ?_
  refine xa_cons 5 (xc_putf (own := "ExpressHouse$Expressions") (index := 47) hx hb htsB xC_4 hown rfl (by decide) xw_999 rfl (rfl) (And.intro (by decide +kernel) rfl)) ?_
  refine xa_cons 6 ((And.intro (by decide) (Or.inl (Exists.intro (0) (And.intro rfl (And.intro (by decide +kernel) rfl)))))) ?_
  refine xa_cons 7 (xc_iconst hx hb (z := 0) (b := 0) (And.intro (by decide +kernel) rfl) (by decide +kernel) ⟨rfl, rfl⟩) ?_
  refine xa_cons 8 (xc_putf (own := "ExpressHouse$Expressions") (index := 50) hx hb htsB xC_4 hown rfl (by decide) xw_1000 rfl (rfl) (And.intro (by decide +kernel) rfl)) ?_
  refine xa_cons 9 ((And.intro (by decide) (Or.inl (Exists.intro (0) (And.intro rfl (And.intro (by decide +kernel) rfl)))))) ?_
  refine xa_cons 10 (xc_iconst hx hb (z := 0) (b := 0) (And.intro (by decide +kernel) rfl) (by decide +kernel) ⟨rfl, rfl⟩) ?_
  refine xa_cons 11 (xc_putf (own := "ExpressHouse$Expressions") (index := 53) hx hb htsB xC_4 hown rfl (by decide) xw_1001 rfl (rfl) (And.intro (by decide +kernel) rfl)) ?_
  refine xa_cons 12 ((And.intro (by decide) (Or.inl (Exists.intro (0) (And.intro rfl (And.intro (by decide +kernel) rfl)))))) ?_
  refine xa_cons 13 (xc_iconst hx hb (z := 0) (b := 0) (And.intro (by decide +kernel) rfl) (by decide +kernel) ⟨rfl, rfl⟩) ?_
  refine xa_cons 14 (xc_putf (own := "ExpressHouse$Expressions") (index := 56) hx hb htsB xC_4 hown rfl (by decide) xw_1002 rfl (rfl) (And.intro (by decide +kernel) rfl)) ?_
  refine xa_cons 15 ((And.intro hr (by decide +kernel))) ?_
  exact xa_nil
def xrp_151 : Nat → Nat := fun k => ([0, 1, 4, 5, 6, 9, 10, 11, 12, 13, 16, 17, 20, 21, 24, 25, 28, 31, 32, 35, 36, 37, 40, 43, 46, 49, 50, 53, 54, 57, 60, 61, 62, 65, 66, 69, 70, 73, 76, 77, 80, 81, 82, 85, 88, 91, 92, 95, 96, 99, 100, 103, 104, 105, 106, 107, 108, 109, 110, 111, 114, 115, 118, 119, 120, 121] : List Nat).getD k 0
set_option maxRecDepth 20000 in
set_option maxHeartbeats 4000000 in
theorem xz_151 {l : Launch} {D : va_G} {en : XE} : x_Ok xT l D xcl en xrn (xG en) 151 xc_151 := by
  refine ⟨prog_11_method_6_code, (some .int), xBIG, xrp_151, by decide +kernel, rfl, rfl, ?_⟩
  intro p e R s m args below meth c s₁ A Q pc i f1 f2 B hml hA hg hi
  obtain ⟨hx, hb, hr, hown, hlocks, hin, htsB, S⟩ := xb_all (C := "ExpressHouse$SchemaReader") B hml rfl rfl
  obtain ⟨hgN, hgZ, hgS, hgS2⟩ := xG_all hg
  refine xa_at (i := i) (pc := pc) ?_ hi
  refine xa_cons 0 ((And.intro (by decide) (Or.inl (Exists.intro (1) (And.intro rfl (And.intro (by decide +kernel) rfl)))))) ?_
  refine xa_cons 1 ((And.intro (xc_callS (index := 96) S xg_222 rfl xw_15 xw_1003 xw_1004 ⟨by decide, by decide, by decide +kernel⟩ rfl (And.intro (by decide +kernel) rfl)) (by decide +kernel))) ?_
  refine xa_cons 2 ((And.intro (Or.inl rfl) (Or.inl (Exists.intro (2) (And.intro rfl (And.intro (by decide +kernel) rfl)))))) ?_
  refine xa_cons 3 ((And.intro (by decide) (Or.inl (Exists.intro (0) (And.intro rfl (And.intro (by decide +kernel) rfl)))))) ?_
  refine xa_cons 4 (xc_getf (A := A) (own := "ExpressHouse$SchemaReader") (index := 18) hx hb htsB xC_5 hown rfl (by decide) xw_257 (And.intro (by decide +kernel) rfl)) ?_
  refine xa_cons 5 ((And.intro (by decide) (Or.inl (Exists.intro (1) (And.intro rfl (And.intro (by decide +kernel) rfl)))))) ?_
  refine xa_cons 6 ((And.intro (by decide) (And.intro (by decide +kernel) rfl))) ?_
  refine xa_cons 7 ((And.intro (Or.inl rfl) (Or.inl (Exists.intro (3) (And.intro rfl (And.intro (by decide +kernel) rfl)))))) ?_
  refine xa_cons 8 ((And.intro (by decide) (Or.inl (Exists.intro (0) (And.intro rfl (And.intro (by decide +kernel) rfl)))))) ?_
  refine xa_cons 9 (xc_getf (A := A) (own := "ExpressHouse$SchemaReader") (index := 33) hx hb htsB xC_5 hown rfl (by decide) xw_490 (And.intro (by decide +kernel) rfl)) ?_
  refine xa_cons 10 (xc_iconst hx hb (z := 1) (b := 1) (And.intro (by decide +kernel) rfl) (by decide +kernel) ⟨rfl, rfl⟩) ?_
  refine xa_cons 11 ((And.intro (by decide) (Exists.intro (74) (And.intro (by decide +kernel) (And.intro (by decide +kernel) rfl))))) ?_
  refine xa_cons 12 ((And.intro (by decide) (Or.inl (Exists.intro (0) (And.intro rfl (And.intro (by decide +kernel) rfl)))))) ?_
  refine xa_cons 13 (xc_getf (A := A) (own := "ExpressHouse$SchemaReader") (index := 22) hx hb htsB xC_5 hown rfl (by decide) xw_258 (And.intro (by decide +kernel) rfl)) ?_
  refine xa_cons 14 (xc_iconst hx hb (z := 1) (b := 1) (And.intro (by decide +kernel) rfl) (by decide +kernel) ⟨rfl, rfl⟩) ?_
  refine xa_cons 15 ((And.intro (xc_callV (index := 100) (n := 1) (ci := 1) S xg_154 rfl xw_7 xw_750 xw_748 xw_749 rfl rfl rfl ⟨by decide, by decide, by decide +kernel⟩ rfl (And.intro (by decide +kernel) rfl)) (by decide +kernel))) ?_
  refine xa_cons 16 ((And.intro (by decide) (Exists.intro (63) (And.intro (by decide +kernel) (And.intro (by decide +kernel) rfl))))) ?_
  refine xa_cons 17 ((And.intro (by decide) (Or.inl (Exists.intro (0) (And.intro rfl (And.intro (by decide +kernel) rfl)))))) ?_
  refine xa_cons 18 (xc_getf (A := A) (own := "ExpressHouse$SchemaReader") (index := 12) hx hb htsB xC_5 hown rfl (by decide) xw_256 (And.intro (by decide +kernel) rfl)) ?_
  refine xa_cons 19 ((And.intro (by decide) (Or.inl (Exists.intro (1) (And.intro rfl (And.intro (by decide +kernel) rfl)))))) ?_
  refine xa_cons 20 ((And.intro (by decide) (Or.inl (Exists.intro (0) (And.intro rfl (And.intro (by decide +kernel) rfl)))))) ?_
  refine xa_cons 21 (xc_getf (A := A) (own := "ExpressHouse$SchemaReader") (index := 22) hx hb htsB xC_5 hown rfl (by decide) xw_258 (And.intro (by decide +kernel) rfl)) ?_
  refine xa_cons 22 (xc_getf (A := A) (own := "ExpressHouse$SchemaReader") (index := 104) hx hb htsB xC_1 hown rfl (by decide) xw_1005 (And.intro (by decide +kernel) rfl)) ?_
  refine xa_cons 23 ((And.intro (xc_callV (index := 108) (n := 2) (ci := 3) S xg_223 rfl xw_15 xw_1008 xw_1006 xw_1007 rfl rfl rfl ⟨by decide, by decide, by decide +kernel⟩ rfl (And.intro (by decide +kernel) rfl)) (by decide +kernel))) ?_
  refine xa_cons 24 ((And.intro (by decide) (Exists.intro (14) (And.intro (by decide +kernel) (And.intro (by decide +kernel) rfl))))) ?_
  refine xa_cons 25 ((And.intro (by decide) (Or.inl (Exists.intro (0) (And.intro rfl (And.intro (by decide +kernel) rfl)))))) ?_
  refine xa_cons 26 (xc_getf (A := A) (own := "ExpressHouse$SchemaReader") (index := 22) hx hb htsB xC_5 hown rfl (by decide) xw_258 (And.intro (by decide +kernel) rfl)) ?_
  refine xa_cons 27 (xc_iconst hx hb (z := 3) (b := 3) (And.intro (by decide +kernel) rfl) (by decide +kernel) ⟨rfl, rfl⟩) ?_
  refine xa_cons 28 ((And.intro (xc_callV (index := 112) (n := 1) (ci := 1) S xg_224 rfl xw_7 xw_1011 xw_1009 xw_1010 rfl rfl rfl ⟨by decide, by decide, by decide +kernel⟩ rfl (And.intro (by decide +kernel) rfl)) (by decide +kernel))) ?_
  refine xa_cons 29 ((Exists.intro (34) (And.intro (by decide +kernel) (by decide +kernel)))) ?_
  refine xa_cons 30 ((And.intro (by decide) (Or.inl (Exists.intro (3) (And.intro rfl (And.intro (by decide +kernel) rfl)))))) ?_
  refine xa_cons 31 ((And.intro (by decide) (Or.inl (Exists.intro (2) (And.intro rfl (And.intro (by decide +kernel) rfl)))))) ?_
  refine xa_cons 32 ((And.intro (by decide) (Exists.intro (14) (And.intro (by decide +kernel) (And.intro (by decide +kernel) rfl))))) ?_
  refine xa_cons 33 ((And.intro (by decide) (Or.inl (Exists.intro (0) (And.intro rfl (And.intro (by decide +kernel) rfl)))))) ?_
  refine xa_cons 34 (xc_getf (A := A) (own := "ExpressHouse$SchemaReader") (index := 22) hx hb htsB xC_5 hown rfl (by decide) xw_258 (And.intro (by decide +kernel) rfl)) ?_
  refine xa_cons 35 (xc_iconst hx hb (z := 5) (b := 5) (And.intro (by decide +kernel) rfl) (by decide +kernel) ⟨rfl, rfl⟩) ?_
  refine xa_cons 36 ((And.intro (xc_callV (index := 112) (n := 1) (ci := 1) S xg_224 rfl xw_7 xw_1011 xw_1009 xw_1010 rfl rfl rfl ⟨by decide, by decide, by decide +kernel⟩ rfl (And.intro (by decide +kernel) rfl)) (by decide +kernel))) ?_
  refine xa_cons 37 ((Exists.intro (18) (And.intro (by decide +kernel) (by decide +kernel)))) ?_
  refine xa_cons 38 ((And.intro (by decide) (Or.inl (Exists.intro (0) (And.intro rfl (And.intro (by decide +kernel) rfl)))))) ?_
  refine xa_cons 39 (xc_getf (A := A) (own := "ExpressHouse$SchemaReader") (index := 12) hx hb htsB xC_5 hown rfl (by decide) xw_256 (And.intro (by decide +kernel) rfl)) ?_
  refine xa_cons 40 ((And.intro (by decide) (Or.inl (Exists.intro (1) (And.intro rfl (And.intro (by decide +kernel) rfl)))))) ?_
  refine xa_cons 41 ((And.intro (by decide) (Or.inl (Exists.intro (0) (And.intro rfl (And.intro (by decide +kernel) rfl)))))) ?_
  refine xa_cons 42 (xc_getf (A := A) (own := "ExpressHouse$SchemaReader") (index := 22) hx hb htsB xC_5 hown rfl (by decide) xw_258 (And.intro (by decide +kernel) rfl)) ?_
  refine xa_cons 43 (xc_getf (A := A) (own := "ExpressHouse$SchemaReader") (index := 104) hx hb htsB xC_1 hown rfl (by decide) xw_1005 (And.intro (by decide +kernel) rfl)) ?_
  refine xa_cons 44 ((And.intro (xc_callV (index := 115) (n := 2) (ci := 3) S xg_225 rfl xw_15 xw_1014 xw_1012 xw_1013 rfl rfl rfl ⟨by decide, by decide, by decide +kernel⟩ rfl (And.intro (by decide +kernel) rfl)) (by decide +kernel))) ?_
  refine xa_cons 45 ((And.intro (by decide) (Or.inl (Exists.intro (0) (And.intro rfl (And.intro (by decide +kernel) rfl)))))) ?_
  refine xa_cons 46 (xc_getf (A := A) (own := "ExpressHouse$SchemaReader") (index := 22) hx hb htsB xC_5 hown rfl (by decide) xw_258 (And.intro (by decide +kernel) rfl)) ?_
  refine xa_cons 47 (xc_iconst hx hb (z := 1) (b := 1) (And.intro (by decide +kernel) rfl) (by decide +kernel) ⟨rfl, rfl⟩) ?_
  refine xa_cons 48 ((And.intro (xc_callV (index := 60) (n := 1) (ci := 1) S xg_94 rfl xw_7 xw_502 xw_500 xw_501 rfl rfl rfl ⟨by decide, by decide, by decide +kernel⟩ rfl (And.intro (by decide +kernel) rfl)) (by decide +kernel))) ?_
  refine xa_cons 49 ((And.intro (by decide) (Or.inl (Exists.intro (0) (And.intro rfl (And.intro (by decide +kernel) rfl)))))) ?_
  refine xa_cons 50 (xc_getf (A := A) (own := "ExpressHouse$SchemaReader") (index := 18) hx hb htsB xC_5 hown rfl (by decide) xw_257 (And.intro (by decide +kernel) rfl)) ?_
  refine xa_cons 51 ((And.intro (by decide) (Or.inl (Exists.intro (1) (And.intro rfl (And.intro (by decide +kernel) rfl)))))) ?_
  refine xa_cons 52 ((And.intro (by decide +kernel) rfl)) ?_
  refine xa_cons 53 ((And.intro (by decide) (And.intro (by decide +kernel) rfl))) ?_
  refine xa_cons 54 (xc_iconst hx hb (z := 1) (b := 1) (And.intro (by decide +kernel) rfl) (by decide +kernel) ⟨rfl, rfl⟩) ?_
  refine xa_cons 55 ((And.intro (by decide) (And.intro (by decide +kernel) rfl))) ?_
  refine xa_cons 56 ((And.intro (by decide) (And.intro (by decide +kernel) rfl))) ?_
  refine xa_cons 57 ((And.intro (by decide) (Or.inl (Exists.intro (3) (And.intro rfl (And.intro (by decide +kernel) rfl)))))) ?_
  refine xa_cons 58 ((And.intro (by decide) (Or.inl (Exists.intro (2) (And.intro rfl (And.intro (by decide +kernel) rfl)))))) ?_
  refine xa_cons 59 ((And.intro (by decide) (Exists.intro (7) (And.intro (by decide +kernel) (And.intro (by decide +kernel) rfl))))) ?_
  refine xa_cons 60 ((And.intro (by decide) (Or.inl (Exists.intro (3) (And.intro rfl (And.intro (by decide +kernel) rfl)))))) ?_
  refine xa_cons 61 ((Exists.intro (6) (And.intro (by decide +kernel) (by decide +kernel)))) ?_
  refine xa_cons 62 ((And.intro (by decide) (Or.inl (Exists.intro (2) (And.intro rfl (And.intro (by decide +kernel) rfl)))))) ?_
  refine xa_cons 63 (xc_iconst hx hb (z := 1) (b := 1) (And.intro (by decide +kernel) rfl) (by decide +kernel) ⟨rfl, rfl⟩) ?_
  refine xa_cons 64 ((And.intro (by decide) (And.intro (by decide +kernel) rfl))) ?_
  refine xa_cons 65 ((And.intro hr (by decide +kernel))) ?_
  exact xa_nil
def xrp_152 : Nat → Nat := fun k => ([0, 1, 4, 5, 6, 7, 8, 9, 10, 11, 12, 13, 16, 17, 20, 21, 24, 25, 26, 29, 30, 33, 36, 37, 38, 39, 40, 41, 42, 45, 46, 49, 50] : List Nat).getD k 0
set_option maxRecDepth 20000 in
set_option maxHeartbeats 4000000 in
theorem xz_152 {l : Launch} {D : va_G} {en : XE} : x_Ok xT l D xcl en xrn (xG en) 152 xc_152 := by
  refine ⟨prog_10_method_17_code, (some .boolean), xBIG, xrp_152, by decide +kernel, rfl, rfl, ?_⟩
  intro p e R s m args below meth c s₁ A Q pc i f1 f2 B hml hA hg hi
  obtain ⟨hx, hb, hr, hown, hlocks, hin, htsB, S⟩ := xb_all (C := "ExpressHouse$Schema") B hml rfl rfl
  obtain ⟨hgN, hgZ, hgS, hgS2⟩ := xG_all hg
  refine xa_at (i := i) (pc := pc) ?_ hi
  refine xa_cons 0 ((And.intro (by decide) (Or.inl (Exists.intro (0) (And.intro rfl (And.intro (by decide +kernel) rfl)))))) ?_
  refine xa_cons 1 (xc_getf (A := A) (own := "ExpressHouse$Schema") (index := 37) hx hb htsB xC_3 hown rfl (by decide) xw_224 (And.intro (by decide +kernel) rfl)) ?_
  refine xa_cons 2 ((And.intro (by decide) (Or.inl (Exists.intro (1) (And.intro rfl (And.intro (by decide +kernel) rfl)))))) ?_
  refine xa_cons 3 ((And.intro (by decide) (And.intro (by decide +kernel) rfl))) ?_
  refine xa_cons 4 (xc_iconst hx hb (z := 2) (b := 2) (And.intro (by decide +kernel) rfl) (by decide +kernel) ⟨rfl, rfl⟩) ?_
  refine xa_cons 5 ((And.intro (by decide) (And.intro (by decide +kernel) rfl))) ?_
  refine xa_cons 6 ((And.intro (Or.inl rfl) (Or.inl (Exists.intro (2) (And.intro rfl (And.intro (by decide +kernel) rfl)))))) ?_
  refine xa_cons 7 (xc_iconst hx hb (z := 0) (b := 0) (And.intro (by decide +kernel) rfl) (by decide +kernel) ⟨rfl, rfl⟩) ?_
  refine xa_cons 8 ((And.intro (Or.inl rfl) (Or.inl (Exists.intro (3) (And.intro rfl (And.intro (by decide +kernel) rfl)))))) ?_
  refine xa_cons 9 ((And.intro (by decide) (Or.inl (Exists.intro (3) (And.intro rfl (And.intro (by decide +kernel) rfl)))))) ?_
  refine xa_cons 10 ((And.intro (by decide) (Or.inl (Exists.intro (0) (And.intro rfl (And.intro (by decide +kernel) rfl)))))) ?_
  refine xa_cons 11 (xc_getf (A := A) (own := "ExpressHouse$Schema") (index := 37) hx hb htsB xC_3 hown rfl (by decide) xw_224 (And.intro (by decide +kernel) rfl)) ?_
  refine xa_cons 12 ((And.intro (by decide +kernel) rfl)) ?_
  refine xa_cons 13 ((And.intro (by decide) (Exists.intro (19) (And.intro (by decide +kernel) (And.intro (by decide +kernel) rfl))))) ?_
  refine xa_cons 14 ((And.intro (by decide) (Or.inl (Exists.intro (0) (And.intro rfl (And.intro (by decide +kernel) rfl)))))) ?_
  refine xa_cons 15 (xc_getf (A := A) (own := "ExpressHouse$Schema") (index := 37) hx hb htsB xC_3 hown rfl (by decide) xw_224 (And.intro (by decide +kernel) rfl)) ?_
  refine xa_cons 16 (xc_iconst hx hb (z := 2) (b := 2) (And.intro (by decide +kernel) rfl) (by decide +kernel) ⟨rfl, rfl⟩) ?_
  refine xa_cons 17 ((And.intro (by decide) (Or.inl (Exists.intro (2) (And.intro rfl (And.intro (by decide +kernel) rfl)))))) ?_
  refine xa_cons 18 ((And.intro (xc_callS (index := 114) S xg_169 rfl xw_15 xw_801 xw_802 ⟨by decide, by decide, by decide +kernel⟩ rfl (And.intro (by decide +kernel) rfl)) (by decide +kernel))) ?_
  refine xa_cons 19 ((And.intro (Or.inl rfl) (Or.inl (Exists.intro (2) (And.intro rfl (And.intro (by decide +kernel) rfl)))))) ?_
  refine xa_cons 20 ((Exists.intro (1) (And.intro (And.intro (by decide +kernel) rfl) (by decide +kernel)))) ?_
  refine xa_cons 21 ((Exists.intro (-22) (And.intro (by decide +kernel) (by decide +kernel)))) ?_
  refine xa_cons 22 ((And.intro (by decide) (Or.inl (Exists.intro (2) (And.intro rfl (And.intro (by decide +kernel) rfl)))))) ?_
  refine xa_cons 23 ((And.intro (by decide) (Or.inl (Exists.intro (1) (And.intro rfl (And.intro (by decide +kernel) rfl)))))) ?_
  refine xa_cons 24 ((And.intro (by decide) (And.intro (by decide +kernel) rfl))) ?_
  refine xa_cons 25 (xc_iconst hx hb (z := 1) (b := 1) (And.intro (by decide +kernel) rfl) (by decide +kernel) ⟨rfl, rfl⟩) ?_
  refine xa_cons 26 ((And.intro (by decide) (And.intro (by decide +kernel) rfl))) ?_
  refine xa_cons 27 (xc_iconst hx hb (z := 1) (b := 1) (And.intro (by decide +kernel) rfl) (by decide +kernel) ⟨rfl, rfl⟩) ?_
  refine xa_cons 28 ((And.intro (by decide) (Exists.intro (7) (And.intro (by decide +kernel) (And.intro (by decide +kernel) rfl))))) ?_
  refine xa_cons 29 (xc_iconst hx hb (z := 1) (b := 1) (And.intro (by decide +kernel) rfl) (by decide +kernel) ⟨rfl, rfl⟩) ?_
  refine xa_cons 30 ((Exists.intro (4) (And.intro (by decide +kernel) (by decide +kernel)))) ?_
  refine xa_cons 31 (xc_iconst hx hb (z := 0) (b := 0) (And.intro (by decide +kernel) rfl) (by decide +kernel) ⟨rfl, rfl⟩) ?_
  refine xa_cons 32 ((And.intro hr (by decide +kernel))) ?_
  exact xa_nil
def xrp_153 : Nat → Nat := fun k => ([0, 1, 2, 5, 8, 9, 10, 13, 16, 17, 18, 21, 24, 25, 28, 29, 30, 31, 34, 37, 38, 41, 42, 43, 46, 47, 48, 51] : List Nat).getD k 0
set_option maxRecDepth 20000 in
set_option maxHeartbeats 4000000 in
theorem xz_153 {l : Launch} {D : va_G} {en : XE} : x_Ok xT l D xcl en xrn (xG en) 153 xc_153 := by
  refine ⟨prog_12_method_23_code, none, xBIG, xrp_153, by decide +kernel, rfl, rfl, ?_⟩
  intro p e R s m args below meth c s₁ A Q pc i f1 f2 B hml hA hg hi
  obtain ⟨hx, hb, hr, hown, hlocks, hin, htsB, S⟩ := xb_all (C := "ExpressHouse$Tokens") B hml rfl rfl
  obtain ⟨hgN, hgZ, hgS, hgS2⟩ := xG_all hg
  refine xa_at (i := i) (pc := pc) ?_ hi
  refine xa_cons 0 ((And.intro (by decide) (Or.inl (Exists.intro (2) (And.intro rfl (And.intro (by decide +kernel) rfl)))))) ?_
  refine xa_cons 1 ((And.intro (by decide) (Or.inl (Exists.intro (0) (And.intro rfl (And.intro (by decide +kernel) rfl)))))) ?_
  refine xa_cons 2 (xc_getf (A := A) (own := "ExpressHouse$Tokens") (index := 143) hx hb htsB xC_1 hown rfl (by decide) xw_527 (And.intro (by decide +kernel) rfl)) ?_
  refine xa_cons 3 ((And.intro (by decide) (Exists.intro (19) (And.intro (by decide +kernel) (And.intro (by decide +kernel) rfl))))) ?_
  refine xa_cons 4 ((And.intro (by decide) (Or.inl (Exists.intro (2) (And.intro rfl (And.intro (by decide +kernel) rfl)))))) ?_
  refine xa_cons 5 ((And.intro (by decide) (Or.inl (Exists.intro (0) (And.intro rfl (And.intro (by decide +kernel) rfl)))))) ?_
  refine xa_cons 6 (xc_getf (A := A) (own := "ExpressHouse$Tokens") (index := 143) hx hb htsB xC_1 hown rfl (by decide) xw_527 (And.intro (by decide +kernel) rfl)) ?_
  refine xa_cons 7 ((And.intro (by decide) (Exists.intro (15) (And.intro (by decide +kernel) (And.intro (by decide +kernel) rfl))))) ?_
  refine xa_cons 8 ((And.intro (by decide) (Or.inl (Exists.intro (1) (And.intro rfl (And.intro (by decide +kernel) rfl)))))) ?_
  refine xa_cons 9 ((And.intro (by decide) (Or.inl (Exists.intro (0) (And.intro rfl (And.intro (by decide +kernel) rfl)))))) ?_
  refine xa_cons 10 (xc_getf (A := A) (own := "ExpressHouse$Tokens") (index := 58) hx hb htsB xC_1 hown rfl (by decide) xw_471 (And.intro (by decide +kernel) rfl)) ?_
  refine xa_cons 11 ((And.intro (by decide) (Exists.intro (7) (And.intro (by decide +kernel) (And.intro (by decide +kernel) rfl))))) ?_
  refine xa_cons 12 (xc_iconst hx hb (z := 1) (b := 1) (And.intro (by decide +kernel) rfl) (by decide +kernel) ⟨rfl, rfl⟩) ?_
  refine xa_cons 13 ((Exists.intro (4) (And.intro (by decide +kernel) (by decide +kernel)))) ?_
  refine xa_cons 14 (xc_iconst hx hb (z := 0) (b := 0) (And.intro (by decide +kernel) rfl) (by decide +kernel) ⟨rfl, rfl⟩) ?_
  refine xa_cons 15 ((And.intro (Or.inl rfl) (Or.inl (Exists.intro (3) (And.intro rfl (And.intro (by decide +kernel) rfl)))))) ?_
  refine xa_cons 16 ((And.intro (by decide) (Or.inl (Exists.intro (0) (And.intro rfl (And.intro (by decide +kernel) rfl)))))) ?_
  refine xa_cons 17 (xc_getf (A := A) (own := "ExpressHouse$Tokens") (index := 58) hx hb htsB xC_1 hown rfl (by decide) xw_471 (And.intro (by decide +kernel) rfl)) ?_
  refine xa_cons 18 ((And.intro (by decide) (Exists.intro (7) (And.intro (by decide +kernel) (And.intro (by decide +kernel) rfl))))) ?_
  refine xa_cons 19 ((And.intro (by decide) (Or.inl (Exists.intro (3) (And.intro rfl (And.intro (by decide +kernel) rfl)))))) ?_
  refine xa_cons 20 ((And.intro (by decide) (Exists.intro (13) (And.intro (by decide +kernel) (And.intro (by decide +kernel) rfl))))) ?_
  refine xa_cons 21 ((And.intro (by decide) (Or.inl (Exists.intro (0) (And.intro rfl (And.intro (by decide +kernel) rfl)))))) ?_
  refine xa_cons 22 ((And.intro (by decide) (Or.inl (Exists.intro (1) (And.intro rfl (And.intro (by decide +kernel) rfl)))))) ?_
  refine xa_cons 23 (xc_putf (own := "ExpressHouse$Tokens") (index := 58) hx hb htsB xC_1 hown rfl (by decide) xw_471 rfl (rfl) (And.intro (by decide +kernel) rfl)) ?_
  refine xa_cons 24 ((And.intro (by decide) (Or.inl (Exists.intro (0) (And.intro rfl (And.intro (by decide +kernel) rfl)))))) ?_
  refine xa_cons 25 ((And.intro (by decide) (Or.inl (Exists.intro (2) (And.intro rfl (And.intro (by decide +kernel) rfl)))))) ?_
  refine xa_cons 26 (xc_putf (own := "ExpressHouse$Tokens") (index := 143) hx hb htsB xC_1 hown rfl (by decide) xw_527 rfl (rfl) (And.intro (by decide +kernel) rfl)) ?_
  refine xa_cons 27 ((And.intro hr (by decide +kernel))) ?_
  exact xa_nil
def xrp_154 : Nat → Nat := fun k => ([0, 1, 4, 5, 8, 9, 12, 13] : List Nat).getD k 0
set_option maxRecDepth 20000 in
set_option maxHeartbeats 4000000 in
theorem xz_154 {l : Launch} {D : va_G} {en : XE} : x_Ok xT l D xcl en xrn (xG en) 154 xc_154 := by
  refine ⟨prog_12_method_18_code, (some .boolean), xBIG, xrp_154, by decide +kernel, rfl, rfl, ?_⟩
  intro p e R s m args below meth c s₁ A Q pc i f1 f2 B hml hA hg hi
  obtain ⟨hx, hb, hr, hown, hlocks, hin, htsB, S⟩ := xb_all (C := "ExpressHouse$Tokens") B hml rfl rfl
  obtain ⟨hgN, hgZ, hgS, hgS2⟩ := xG_all hg
  refine xa_at (i := i) (pc := pc) ?_ hi
  refine xa_cons 0 ((And.intro (by decide) (Or.inl (Exists.intro (0) (And.intro rfl (And.intro (by decide +kernel) rfl)))))) ?_
  refine xa_cons 1 (xc_getf (A := A) (own := "ExpressHouse$Tokens") (index := 123) hx hb htsB xC_1 hown rfl (by decide) xw_720 (And.intro (by decide +kernel) rfl)) ?_
  refine xa_cons 2 ((And.intro (by decide) (Or.inl (Exists.intro (1) (And.intro rfl (And.intro (by decide +kernel) rfl)))))) ?_
  refine xa_cons 3 ((And.intro (by decide) (Exists.intro (7) (And.intro (by decide +kernel) (And.intro (by decide +kernel) rfl))))) ?_
  refine xa_cons 4 (xc_iconst hx hb (z := 1) (b := 1) (And.intro (by decide +kernel) rfl) (by decide +kernel) ⟨rfl, rfl⟩) ?_
  refine xa_cons 5 ((Exists.intro (4) (And.intro (by decide +kernel) (by decide +kernel)))) ?_
  refine xa_cons 6 (xc_iconst hx hb (z := 0) (b := 0) (And.intro (by decide +kernel) rfl) (by decide +kernel) ⟨rfl, rfl⟩) ?_
  refine xa_cons 7 ((And.intro hr (by decide +kernel))) ?_
  exact xa_nil
end AMM9
