section AMM18
def xrp_272 : Nat → Nat := fun k => ([0, 1, 4, 6, 9, 10, 13, 14, 17, 18, 21, 22, 23, 26, 27, 30, 31, 32, 34, 35, 38, 41, 43, 45, 48, 50, 51, 54, 55, 57, 60, 62, 64, 65, 66, 69, 71, 72, 75, 76, 77, 78, 81, 82, 85, 87, 89, 92, 94, 97, 100, 103, 104, 107, 108, 110, 111, 113, 115, 118, 121, 122, 125, 128, 129, 132, 135, 138, 139, 140, 143, 144, 147, 148, 151, 152, 155, 156, 158, 159, 160, 161, 164, 167, 168, 169, 172, 175, 176, 179, 181, 184, 187, 188, 191, 192, 193, 195, 197, 198, 201, 202, 205, 206, 209, 210, 213, 215, 217, 220, 221, 224, 226, 229, 231, 234, 235, 237, 240, 241, 244, 246, 247, 250, 253, 254, 257, 258, 261, 264, 265, 268, 271, 274, 276, 278, 280, 282, 285, 286, 289, 290, 291, 294, 295, 298, 300, 303, 304, 307, 308, 310, 311, 312, 313, 314, 316, 319] : List Nat).getD k 0
set_option maxRecDepth 20000 in
set_option maxHeartbeats 4000000 in
theorem xz_272 {l : Launch} {D : va_G} {en : XE} : x_Ok xT l D xcl en xrn (xG en) 272 xc_272 := by
  refine ⟨prog_7_method_14_code, (some (.object "ExpressHouse$Value")), xBIG, xrp_272, by decide +kernel, rfl, rfl, ?_⟩
  intro p e R s m args below meth c s₁ A Q pc i f1 f2 B hml hA hg hi
  obtain ⟨hx, hb, hr, hown, hlocks, hin, htsB, S⟩ := xb_all (C := "ExpressHouse$Operators") B hml rfl rfl
  obtain ⟨hgN, hgZ, hgS, hgS2⟩ := xG_all hg
  refine xa_at (i := i) (pc := pc) ?_ hi
  refine xa_cons 0 ((And.intro (by decide) (Or.inl (Exists.intro (1) (And.intro rfl (And.intro (by decide +kernel) rfl)))))) ?_
  refine xa_cons 1 (xc_getf (A := A) (own := "ExpressHouse$Operators") (index := 33) hx hb htsB xC_10 hown rfl (by decide) xw_1110 (And.intro (by decide +kernel) rfl)) ?_
  refine xa_cons 2 (xc_bipush hx hb (z := 6) (b := 6) (And.intro (by decide +kernel) rfl) (by decide +kernel) ⟨rfl, rfl⟩) ?_
  refine xa_cons 3 ((And.intro (by decide) (Exists.intro (11) (And.intro (by decide +kernel) (And.intro (by decide +kernel) rfl))))) ?_
  refine xa_cons 4 ((And.intro (by decide) (Or.inl (Exists.intro (2) (And.intro rfl (And.intro (by decide +kernel) rfl)))))) ?_
  refine xa_cons 5 (xc_getf (A := A) (own := "ExpressHouse$Operators") (index := 33) hx hb htsB xC_10 hown rfl (by decide) xw_1110 (And.intro (by decide +kernel) rfl)) ?_
  refine xa_cons 6 (xc_iconst hx hb (z := 1) (b := 1) (And.intro (by decide +kernel) rfl) (by decide +kernel) ⟨rfl, rfl⟩) ?_
  refine xa_cons 7 ((And.intro (by decide) (Exists.intro (8) (And.intro (by decide +kernel) (And.intro (by decide +kernel) rfl))))) ?_
  refine xa_cons 8 ((And.intro (by decide) (Or.inl (Exists.intro (0) (And.intro rfl (And.intro (by decide +kernel) rfl)))))) ?_
  refine xa_cons 9 (xc_getf (A := A) (own := "ExpressHouse$Operators") (index := 25) hx hb htsB xC_11 hown rfl (by decide) xw_468 (And.intro (by decide +kernel) rfl)) ?_
  refine xa_cons 10 ((And.intro (Exists.intro (_) (And.intro hr (Or.inl ⟨_, rfl⟩))) (by decide +kernel))) ?_
  refine xa_cons 11 ((And.intro (by decide) (Or.inl (Exists.intro (2) (And.intro rfl (And.intro (by decide +kernel) rfl)))))) ?_
  refine xa_cons 12 (xc_getf (A := A) (own := "ExpressHouse$Operators") (index := 39) hx hb htsB xC_10 hown rfl (by decide) xw_1111 (And.intro (by decide +kernel) rfl)) ?_
  refine xa_cons 13 ((And.intro (by decide) (Or.inl (Exists.intro (1) (And.intro rfl (And.intro (by decide +kernel) rfl)))))) ?_
  refine xa_cons 14 (xc_getf (A := A) (own := "ExpressHouse$Operators") (index := 143) hx hb htsB xC_10 hown rfl (by decide) xw_1133 (And.intro (by decide +kernel) rfl)) ?_
  refine xa_cons 15 ((And.intro (by decide +kernel) rfl)) ?_
  refine xa_cons 16 ((And.intro (by decide) (And.intro (by decide +kernel) rfl))) ?_
  refine xa_cons 17 ((And.intro (Or.inl rfl) (Or.inr (And.intro (by decide +kernel) rfl)))) ?_
  refine xa_cons 18 ((And.intro (by decide) (Or.inl (Exists.intro (0) (And.intro rfl (And.intro (by decide +kernel) rfl)))))) ?_
  refine xa_cons 19 (xc_getf (A := A) (own := "ExpressHouse$Operators") (index := 15) hx hb htsB xC_11 hown rfl (by decide) xw_466 (And.intro (by decide +kernel) rfl)) ?_
  refine xa_cons 20 (xc_getf (A := A) (own := "ExpressHouse$Operators") (index := 133) hx hb htsB xC_2 hown rfl (by decide) xw_1302 (And.intro (by decide +kernel) rfl)) ?_
  refine xa_cons 21 ((And.intro (by decide) (Or.inr (And.intro (by decide +kernel) rfl)))) ?_
  refine xa_cons 22 (xc_bipush hx hb (z := 7) (b := 7) (And.intro (by decide +kernel) rfl) (by decide +kernel) ⟨rfl, rfl⟩) ?_
  refine xa_cons 23 ((And.intro (xc_callV (index := 153) (n := 2) (ci := 3) S xg_174 rfl xw_15 xw_1313 xw_815 xw_816 rfl rfl rfl ⟨by decide, by decide, by decide +kernel⟩ rfl (And.intro (by decide +kernel) rfl)) (by decide +kernel))) ?_
  refine xa_cons 24 ((And.intro (Or.inl rfl) (Or.inr (And.intro (by decide +kernel) rfl)))) ?_
  refine xa_cons 25 ((And.intro (by decide) (Or.inl (Exists.intro (0) (And.intro rfl (And.intro (by decide +kernel) rfl)))))) ?_
  refine xa_cons 26 (xc_getf (A := A) (own := "ExpressHouse$Operators") (index := 15) hx hb htsB xC_11 hown rfl (by decide) xw_466 (And.intro (by decide +kernel) rfl)) ?_
  refine xa_cons 27 ((And.intro (by decide) (Or.inl (Exists.intro (3) (And.intro rfl (And.intro (by decide +kernel) rfl)))))) ?_
  refine xa_cons 28 ((And.intro (by decide) (Or.inr (And.intro (by decide +kernel) rfl)))) ?_
  refine xa_cons 29 ((And.intro (xc_callV (index := 157) (n := 2) (ci := 2) S xg_113 rfl xw_12 xw_1314 xw_578 xw_579 rfl rfl rfl ⟨by decide, by decide, by decide +kernel⟩ rfl (And.intro (by decide +kernel) rfl)) (by decide +kernel))) ?_
  refine xa_cons 30 ((And.intro (Or.inr rfl) (Or.inr (And.intro (by decide +kernel) rfl)))) ?_
  refine xa_cons 31 ((And.intro (by decide) (Or.inr (And.intro (by decide +kernel) rfl)))) ?_
  refine xa_cons 32 (xc_lconst hx hb (z := 0) (And.intro (by decide +kernel) rfl) ⟨rfl, rfl⟩) ?_
  refine xa_cons 33 ((And.intro (by decide +kernel) rfl)) ?_
  refine xa_cons 34 ((And.intro (by decide) (Exists.intro (37) (And.intro (by decide +kernel) (And.intro (by decide +kernel) rfl))))) ?_
  refine xa_cons 35 ((And.intro (by decide) (Or.inr (And.intro (by decide +kernel) rfl)))) ?_
  refine xa_cons 36 ((And.intro (by decide) (Or.inl (Exists.intro (1) (And.intro rfl (And.intro (by decide +kernel) rfl)))))) ?_
  refine xa_cons 37 (xc_getf (A := A) (own := "ExpressHouse$Operators") (index := 75) hx hb htsB xC_10 hown rfl (by decide) xw_1129 (And.intro (by decide +kernel) rfl)) ?_
  refine xa_cons 38 ((And.intro (by decide +kernel) rfl)) ?_
  refine xa_cons 39 ((And.intro (by decide +kernel) rfl)) ?_
  refine xa_cons 40 ((And.intro (by decide +kernel) rfl)) ?_
  refine xa_cons 41 ((And.intro (by decide) (Exists.intro (25) (And.intro (by decide +kernel) (And.intro (by decide +kernel) rfl))))) ?_
  refine xa_cons 42 ((And.intro (by decide) (Or.inl (Exists.intro (0) (And.intro rfl (And.intro (by decide +kernel) rfl)))))) ?_
  refine xa_cons 43 (xc_getf (A := A) (own := "ExpressHouse$Operators") (index := 15) hx hb htsB xC_11 hown rfl (by decide) xw_466 (And.intro (by decide +kernel) rfl)) ?_
  refine xa_cons 44 ((And.intro (by decide) (Or.inr (And.intro (by decide +kernel) rfl)))) ?_
  refine xa_cons 45 ((And.intro (by decide) (Or.inr (And.intro (by decide +kernel) rfl)))) ?_
  refine xa_cons 46 (xc_getf (A := A) (own := "ExpressHouse$Operators") (index := 33) hx hb htsB xC_10 hown rfl (by decide) xw_1110 (And.intro (by decide +kernel) rfl)) ?_
  refine xa_cons 47 ((And.intro (by decide) (Or.inr (And.intro (by decide +kernel) rfl)))) ?_
  refine xa_cons 48 (xc_getf (A := A) (own := "ExpressHouse$Operators") (index := 39) hx hb htsB xC_10 hown rfl (by decide) xw_1111 (And.intro (by decide +kernel) rfl)) ?_
  refine xa_cons 49 ((And.intro (xc_callV (index := 161) (n := 3) (ci := 2) S xg_116 rfl xw_12 xw_1315 xw_591 xw_592 rfl rfl rfl ⟨by decide, by decide, by decide +kernel⟩ rfl (And.intro (by decide +kernel) rfl)) (by decide +kernel))) ?_
  refine xa_cons 50 ((And.intro (by decide) (Exists.intro (8) (And.intro (by decide +kernel) (And.intro (by decide +kernel) rfl))))) ?_
  refine xa_cons 51 ((And.intro (by decide) (Or.inl (Exists.intro (0) (And.intro rfl (And.intro (by decide +kernel) rfl)))))) ?_
  refine xa_cons 52 (xc_getf (A := A) (own := "ExpressHouse$Operators") (index := 25) hx hb htsB xC_11 hown rfl (by decide) xw_468 (And.intro (by decide +kernel) rfl)) ?_
  refine xa_cons 53 ((And.intro (Exists.intro (_) (And.intro hr (Or.inl ⟨_, rfl⟩))) (by decide +kernel))) ?_
  refine xa_cons 54 ((And.intro (by decide) (Or.inr (And.intro (by decide +kernel) rfl)))) ?_
  refine xa_cons 55 ((And.intro (by decide +kernel) rfl)) ?_
  refine xa_cons 56 ((And.intro (Or.inl rfl) (Or.inr (And.intro (by decide +kernel) rfl)))) ?_
  refine xa_cons 57 ((And.intro (by decide) (Or.inr (And.intro (by decide +kernel) rfl)))) ?_
  refine xa_cons 58 (xc_getf (A := A) (own := "ExpressHouse$Operators") (index := 33) hx hb htsB xC_10 hown rfl (by decide) xw_1110 (And.intro (by decide +kernel) rfl)) ?_
  refine xa_cons 59 ((And.intro (by decide) (Exists.intro (50) (And.intro (by decide +kernel) (And.intro (by decide +kernel) rfl))))) ?_
  refine xa_cons 60 ((And.intro (by decide) (Or.inl (Exists.intro (1) (And.intro rfl (And.intro (by decide +kernel) rfl)))))) ?_
  refine xa_cons 61 (xc_getf (A := A) (own := "ExpressHouse$Operators") (index := 69) hx hb htsB xC_10 hown rfl (by decide) xw_1158 (And.intro (by decide +kernel) rfl)) ?_
  refine xa_cons 62 ((And.intro (by decide) (Exists.intro (10) (And.intro (by decide +kernel) (And.intro (by decide +kernel) rfl))))) ?_
  refine xa_cons 63 ((And.intro (by decide) (Or.inl (Exists.intro (0) (And.intro rfl (And.intro (by decide +kernel) rfl)))))) ?_
  refine xa_cons 64 (xc_getf (A := A) (own := "ExpressHouse$Operators") (index := 25) hx hb htsB xC_11 hown rfl (by decide) xw_468 (And.intro (by decide +kernel) rfl)) ?_
  refine xa_cons 65 ((Exists.intro (35) (And.intro (by decide +kernel) (by decide +kernel)))) ?_
  refine xa_cons 66 (xc_new (own := "ExpressHouse$Operators") (index := 7) hx hb htsB xC_10 hown hA rfl rfl xw_1115 xw_58 xw_59 (by decide) (by decide +kernel) (And.intro (by decide +kernel) rfl)) ?_
  refine xa_cons 67 ((And.intro (by decide +kernel) rfl)) ?_
  refine xa_cons 68 ((And.intro (by decide) (Or.inl (Exists.intro (1) (And.intro rfl (And.intro (by decide +kernel) rfl)))))) ?_
  refine xa_cons 69 (xc_getf (A := A) (own := "ExpressHouse$Operators") (index := 69) hx hb htsB xC_10 hown rfl (by decide) xw_1158 (And.intro (by decide +kernel) rfl)) ?_
  refine xa_cons 70 ((And.intro (by decide) (Or.inl (Exists.intro (1) (And.intro rfl (And.intro (by decide +kernel) rfl)))))) ?_
  refine xa_cons 71 (xc_getf (A := A) (own := "ExpressHouse$Operators") (index := 143) hx hb htsB xC_10 hown rfl (by decide) xw_1133 (And.intro (by decide +kernel) rfl)) ?_
  refine xa_cons 72 ((And.intro (by decide) (Or.inl (Exists.intro (1) (And.intro rfl (And.intro (by decide +kernel) rfl)))))) ?_
  refine xa_cons 73 (xc_getf (A := A) (own := "ExpressHouse$Operators") (index := 72) hx hb htsB xC_10 hown rfl (by decide) xw_1159 (And.intro (by decide +kernel) rfl)) ?_
  refine xa_cons 74 ((And.intro (by decide) (Or.inl (Exists.intro (1) (And.intro rfl (And.intro (by decide +kernel) rfl)))))) ?_
  refine xa_cons 75 (xc_getf (A := A) (own := "ExpressHouse$Operators") (index := 165) hx hb htsB xC_10 hown rfl (by decide) xw_1316 (And.intro (by decide +kernel) rfl)) ?_
  refine xa_cons 76 (xc_iconst hx hb (z := 1) (b := 1) (And.intro (by decide +kernel) rfl) (by decide +kernel) ⟨rfl, rfl⟩) ?_
  refine xa_cons 77 ((And.intro (by decide) (Or.inr (And.intro (by decide +kernel) rfl)))) ?_
  refine xa_cons 78 ((And.intro (by decide) (And.intro (by decide +kernel) rfl))) ?_
  refine xa_cons 79 ((And.intro (by decide) (And.intro (by decide +kernel) rfl))) ?_
  refine xa_cons 80 ((And.intro (by decide) (Or.inl (Exists.intro (1) (And.intro rfl (And.intro (by decide +kernel) rfl)))))) ?_
  refine xa_cons 81 (xc_getf (A := A) (own := "ExpressHouse$Operators") (index := 75) hx hb htsB xC_10 hown rfl (by decide) xw_1129 (And.intro (by decide +kernel) rfl)) ?_
  refine xa_cons 82 ((And.intro (xc_callIN (index := 88) (n := 5) (ci := 10) S xg_79 rfl xw_59 (hgN.1 _ (List.mem_of_getElem? (i := 12) rfl)) xw_439 rfl rfl rfl ⟨by decide, by decide, by decide +kernel⟩ rfl (And.intro (by decide +kernel) rfl)) (by decide +kernel))) ?_
  refine xa_cons 83 ((And.intro (Exists.intro (_) (And.intro hr (Or.inl ⟨_, rfl⟩))) (by decide +kernel))) ?_
  refine xa_cons 84 ((And.intro (by decide) (Or.inl (Exists.intro (1) (And.intro rfl (And.intro (by decide +kernel) rfl)))))) ?_
  refine xa_cons 85 (xc_getf (A := A) (own := "ExpressHouse$Operators") (index := 72) hx hb htsB xC_10 hown rfl (by decide) xw_1159 (And.intro (by decide +kernel) rfl)) ?_
  refine xa_cons 86 ((And.intro (by decide) (Exists.intro (20) (And.intro (by decide +kernel) (And.intro (by decide +kernel) rfl))))) ?_
  refine xa_cons 87 ((And.intro (by decide) (Or.inl (Exists.intro (1) (And.intro rfl (And.intro (by decide +kernel) rfl)))))) ?_
  refine xa_cons 88 (xc_getf (A := A) (own := "ExpressHouse$Operators") (index := 72) hx hb htsB xC_10 hown rfl (by decide) xw_1159 (And.intro (by decide +kernel) rfl)) ?_
  refine xa_cons 89 ((And.intro (by decide) (Or.inr (And.intro (by decide +kernel) rfl)))) ?_
  refine xa_cons 90 (xc_getf (A := A) (own := "ExpressHouse$Operators") (index := 33) hx hb htsB xC_10 hown rfl (by decide) xw_1110 (And.intro (by decide +kernel) rfl)) ?_
  refine xa_cons 91 ((And.intro (by decide) (Exists.intro (8) (And.intro (by decide +kernel) (And.intro (by decide +kernel) rfl))))) ?_
  refine xa_cons 92 ((And.intro (by decide) (Or.inl (Exists.intro (0) (And.intro rfl (And.intro (by decide +kernel) rfl)))))) ?_
  refine xa_cons 93 (xc_getf (A := A) (own := "ExpressHouse$Operators") (index := 25) hx hb htsB xC_11 hown rfl (by decide) xw_468 (And.intro (by decide +kernel) rfl)) ?_
  refine xa_cons 94 ((And.intro (Exists.intro (_) (And.intro hr (Or.inl ⟨_, rfl⟩))) (by decide +kernel))) ?_
  refine xa_cons 95 (xc_iconst hx hb (z := 0) (b := 0) (And.intro (by decide +kernel) rfl) (by decide +kernel) ⟨rfl, rfl⟩) ?_
  refine xa_cons 96 ((And.intro (Or.inl rfl) (Or.inr (And.intro (by decide +kernel) rfl)))) ?_
  refine xa_cons 97 ((And.intro (by decide) (Or.inr (And.intro (by decide +kernel) rfl)))) ?_
  refine xa_cons 98 ((And.intro (by decide) (Or.inl (Exists.intro (1) (And.intro rfl (And.intro (by decide +kernel) rfl)))))) ?_
  refine xa_cons 99 (xc_getf (A := A) (own := "ExpressHouse$Operators") (index := 75) hx hb htsB xC_10 hown rfl (by decide) xw_1129 (And.intro (by decide +kernel) rfl)) ?_
  refine xa_cons 100 ((And.intro (by decide +kernel) rfl)) ?_
  refine xa_cons 101 ((And.intro (by decide) (Exists.intro (62) (And.intro (by decide +kernel) (And.intro (by decide +kernel) rfl))))) ?_
  refine xa_cons 102 ((And.intro (by decide) (Or.inl (Exists.intro (1) (And.intro rfl (And.intro (by decide +kernel) rfl)))))) ?_
  refine xa_cons 103 (xc_getf (A := A) (own := "ExpressHouse$Operators") (index := 69) hx hb htsB xC_10 hown rfl (by decide) xw_1158 (And.intro (by decide +kernel) rfl)) ?_
  refine xa_cons 104 (xc_iconst hx hb (z := 3) (b := 3) (And.intro (by decide +kernel) rfl) (by decide +kernel) ⟨rfl, rfl⟩) ?_
  refine xa_cons 105 ((And.intro (by decide) (Exists.intro (54) (And.intro (by decide +kernel) (And.intro (by decide +kernel) rfl))))) ?_
  refine xa_cons 106 ((And.intro (by decide) (Or.inr (And.intro (by decide +kernel) rfl)))) ?_
  refine xa_cons 107 ((And.intro (by decide) (Or.inr (And.intro (by decide +kernel) rfl)))) ?_
  refine xa_cons 108 ((And.intro (by decide) (Exists.intro (41) (And.intro (by decide +kernel) (And.intro (by decide +kernel) rfl))))) ?_
  refine xa_cons 109 ((And.intro (by decide) (Or.inl (Exists.intro (0) (And.intro rfl (And.intro (by decide +kernel) rfl)))))) ?_
  refine xa_cons 110 (xc_getf (A := A) (own := "ExpressHouse$Operators") (index := 15) hx hb htsB xC_11 hown rfl (by decide) xw_466 (And.intro (by decide +kernel) rfl)) ?_
  refine xa_cons 111 ((And.intro (by decide) (Or.inr (And.intro (by decide +kernel) rfl)))) ?_
  refine xa_cons 112 (xc_getf (A := A) (own := "ExpressHouse$Operators") (index := 33) hx hb htsB xC_10 hown rfl (by decide) xw_1110 (And.intro (by decide +kernel) rfl)) ?_
  refine xa_cons 113 ((And.intro (by decide) (Or.inr (And.intro (by decide +kernel) rfl)))) ?_
  refine xa_cons 114 (xc_getf (A := A) (own := "ExpressHouse$Operators") (index := 39) hx hb htsB xC_10 hown rfl (by decide) xw_1111 (And.intro (by decide +kernel) rfl)) ?_
  refine xa_cons 115 ((And.intro (by decide) (Or.inl (Exists.intro (1) (And.intro rfl (And.intro (by decide +kernel) rfl)))))) ?_
  refine xa_cons 116 ((And.intro (by decide) (Or.inr (And.intro (by decide +kernel) rfl)))) ?_
  refine xa_cons 117 ((And.intro (xc_callV (index := 146) (n := 1) (ci := 10) S xg_261 rfl xw_59 xw_1144 xw_1142 xw_1143 rfl rfl rfl ⟨by decide, by decide, by decide +kernel⟩ rfl (And.intro (by decide +kernel) rfl)) (by decide +kernel))) ?_
  refine xa_cons 118 ((And.intro (by decide) (Or.inl (Exists.intro (1) (And.intro rfl (And.intro (by decide +kernel) rfl)))))) ?_
  refine xa_cons 119 (xc_getf (A := A) (own := "ExpressHouse$Operators") (index := 75) hx hb htsB xC_10 hown rfl (by decide) xw_1129 (And.intro (by decide +kernel) rfl)) ?_
  refine xa_cons 120 ((And.intro (by decide) (Or.inr (And.intro (by decide +kernel) rfl)))) ?_
  refine xa_cons 121 ((And.intro (by decide) (And.intro (by decide +kernel) rfl))) ?_
  refine xa_cons 122 ((And.intro (xc_callV (index := 95) (n := 4) (ci := 2) S xg_114 rfl xw_12 xw_1298 xw_585 xw_586 rfl rfl rfl ⟨by decide, by decide, by decide +kernel⟩ rfl (And.intro (by decide +kernel) rfl)) (by decide +kernel))) ?_
  refine xa_cons 123 ((And.intro (by decide) (Exists.intro (8) (And.intro (by decide +kernel) (And.intro (by decide +kernel) rfl))))) ?_
  refine xa_cons 124 ((And.intro (by decide) (Or.inl (Exists.intro (0) (And.intro rfl (And.intro (by decide +kernel) rfl)))))) ?_
  refine xa_cons 125 (xc_getf (A := A) (own := "ExpressHouse$Operators") (index := 25) hx hb htsB xC_11 hown rfl (by decide) xw_468 (And.intro (by decide +kernel) rfl)) ?_
  refine xa_cons 126 ((And.intro (Exists.intro (_) (And.intro hr (Or.inl ⟨_, rfl⟩))) (by decide +kernel))) ?_
  refine xa_cons 127 ((Exists.intro (1) (And.intro (And.intro (by decide +kernel) rfl) (by decide +kernel)))) ?_
  refine xa_cons 128 ((Exists.intro (-66) (And.intro (by decide +kernel) (by decide +kernel)))) ?_
  refine xa_cons 129 ((And.intro (by decide) (Or.inl (Exists.intro (1) (And.intro rfl (And.intro (by decide +kernel) rfl)))))) ?_
  refine xa_cons 130 (xc_getf (A := A) (own := "ExpressHouse$Operators") (index := 75) hx hb htsB xC_10 hown rfl (by decide) xw_1129 (And.intro (by decide +kernel) rfl)) ?_
  refine xa_cons 131 ((Exists.intro ("ExpressHouse$Operators") (Exists.intro (168) (And.intro hown (And.intro (htsB _ xw_1317) (And.intro (htsB _ xw_918) (And.intro (htsB _ xw_919) (And.intro (htsB _ xw_920) (And.intro (htsB _ xw_921) (And.intro hgN.2.2.2.2 (And.intro (And.intro (by decide +kernel) rfl) (And.intro hml (And.intro (by omega) (And.intro (by omega) hA)))))))))))))) ?_
  refine xa_cons 132 ((Exists.intro ("ExpressHouse$Operators") (Exists.intro (169) (And.intro hown (And.intro (htsB _ xw_1318) (And.intro (by decide +kernel) rfl)))))) ?_
  refine xa_cons 133 ((And.intro (Or.inr rfl) (Or.inr (And.intro (by decide +kernel) rfl)))) ?_
  refine xa_cons 134 ((And.intro (by decide) (Or.inr (And.intro (by decide +kernel) rfl)))) ?_
  refine xa_cons 135 ((And.intro (by decide) (Or.inr (And.intro (by decide +kernel) rfl)))) ?_
  refine xa_cons 136 ((And.intro (by decide) (Or.inr (And.intro (by decide +kernel) rfl)))) ?_
  refine xa_cons 137 (xc_getf (A := A) (own := "ExpressHouse$Operators") (index := 39) hx hb htsB xC_10 hown rfl (by decide) xw_1111 (And.intro (by decide +kernel) rfl)) ?_
  refine xa_cons 138 ((And.intro (by decide) (And.intro (by decide +kernel) rfl))) ?_
  refine xa_cons 139 (xc_new (own := "ExpressHouse$Operators") (index := 7) hx hb htsB xC_10 hown hA rfl rfl xw_1115 xw_58 xw_59 (by decide) (by decide +kernel) (And.intro (by decide +kernel) rfl)) ?_
  refine xa_cons 140 ((And.intro (by decide +kernel) rfl)) ?_
  refine xa_cons 141 ((And.intro (by decide) (Or.inl (Exists.intro (1) (And.intro rfl (And.intro (by decide +kernel) rfl)))))) ?_
  refine xa_cons 142 (xc_getf (A := A) (own := "ExpressHouse$Operators") (index := 69) hx hb htsB xC_10 hown rfl (by decide) xw_1158 (And.intro (by decide +kernel) rfl)) ?_
  refine xa_cons 143 ((And.intro (by decide) (Or.inl (Exists.intro (1) (And.intro rfl (And.intro (by decide +kernel) rfl)))))) ?_
  refine xa_cons 144 (xc_getf (A := A) (own := "ExpressHouse$Operators") (index := 143) hx hb htsB xC_10 hown rfl (by decide) xw_1133 (And.intro (by decide +kernel) rfl)) ?_
  refine xa_cons 145 ((And.intro (by decide) (Or.inr (And.intro (by decide +kernel) rfl)))) ?_
  refine xa_cons 146 (xc_getf (A := A) (own := "ExpressHouse$Operators") (index := 33) hx hb htsB xC_10 hown rfl (by decide) xw_1110 (And.intro (by decide +kernel) rfl)) ?_
  refine xa_cons 147 ((And.intro (by decide) (Or.inl (Exists.intro (1) (And.intro rfl (And.intro (by decide +kernel) rfl)))))) ?_
  refine xa_cons 148 (xc_getf (A := A) (own := "ExpressHouse$Operators") (index := 165) hx hb htsB xC_10 hown rfl (by decide) xw_1316 (And.intro (by decide +kernel) rfl)) ?_
  refine xa_cons 149 (xc_iconst hx hb (z := 1) (b := 1) (And.intro (by decide +kernel) rfl) (by decide +kernel) ⟨rfl, rfl⟩) ?_
  refine xa_cons 150 ((And.intro (by decide) (Or.inr (And.intro (by decide +kernel) rfl)))) ?_
  refine xa_cons 151 ((And.intro (by decide) (And.intro (by decide +kernel) rfl))) ?_
  refine xa_cons 152 (xc_iconst hx hb (z := -1) (b := 4294967295) (And.intro (by decide +kernel) rfl) (by decide +kernel) ⟨rfl, rfl⟩) ?_
  refine xa_cons 153 ((And.intro (by decide) (And.intro (by decide +kernel) rfl))) ?_
  refine xa_cons 154 ((And.intro (by decide) (And.intro (by decide +kernel) rfl))) ?_
  refine xa_cons 155 ((And.intro (by decide) (Or.inr (And.intro (by decide +kernel) rfl)))) ?_
  refine xa_cons 156 ((And.intro (xc_callIN (index := 88) (n := 5) (ci := 10) S xg_79 rfl xw_59 (hgN.1 _ (List.mem_of_getElem? (i := 12) rfl)) xw_439 rfl rfl rfl ⟨by decide, by decide, by decide +kernel⟩ rfl (And.intro (by decide +kernel) rfl)) (by decide +kernel))) ?_
  refine xa_cons 157 ((And.intro (Exists.intro (_) (And.intro hr (Or.inl ⟨_, rfl⟩))) (by decide +kernel))) ?_
  exact xa_nil
def xrp_273 : Nat → Nat := fun k => ([0, 1, 4, 5, 6, 9, 10, 11, 14, 16, 18, 21, 22, 25, 26, 29, 30, 33, 34, 37, 38, 41, 42, 45, 46, 48, 50, 53, 54, 57, 58, 59, 62, 63, 64, 67, 70, 71, 72, 75, 76, 78, 81, 82, 83, 84, 87, 88, 89, 92, 93, 94, 95, 98, 99, 100, 103, 104, 105] : List Nat).getD k 0
set_option maxRecDepth 20000 in
set_option maxHeartbeats 4000000 in
theorem xz_273 {l : Launch} {D : va_G} {en : XE} : x_Ok xT l D xcl en xrn (xG en) 273 xc_273 := by
  refine ⟨prog_6_method_23_code, none, xBIG, xrp_273, by decide +kernel, rfl, rfl, ?_⟩
  intro p e R s m args below meth c s₁ A Q pc i f1 f2 B hml hA hg hi
  obtain ⟨hx, hb, hr, hown, hlocks, hin, htsB, S⟩ := xb_all (C := "ExpressHouse$Machine") B hml rfl rfl
  obtain ⟨hgN, hgZ, hgS, hgS2⟩ := xG_all hg
  refine xa_at (i := i) (pc := pc) ?_ hi
  refine xa_cons 0 ((And.intro (by decide) (Or.inl (Exists.intro (0) (And.intro rfl (And.intro (by decide +kernel) rfl)))))) ?_
  refine xa_cons 1 ((And.intro (xc_callV (index := 101) (n := 0) (ci := 6) S xg_112 rfl xw_35 xw_576 xw_574 xw_575 rfl rfl rfl ⟨by decide, by decide, by decide +kernel⟩ rfl (And.intro (by decide +kernel) rfl)) (by decide +kernel))) ?_
  refine xa_cons 2 ((And.intro (Or.inr rfl) (Or.inl (Exists.intro (2) (And.intro rfl (And.intro (by decide +kernel) rfl)))))) ?_
  refine xa_cons 3 ((And.intro (by decide) (Or.inl (Exists.intro (0) (And.intro rfl (And.intro (by decide +kernel) rfl)))))) ?_
  refine xa_cons 4 ((And.intro (xc_callV (index := 101) (n := 0) (ci := 6) S xg_112 rfl xw_35 xw_576 xw_574 xw_575 rfl rfl rfl ⟨by decide, by decide, by decide +kernel⟩ rfl (And.intro (by decide +kernel) rfl)) (by decide +kernel))) ?_
  refine xa_cons 5 ((And.intro (Or.inr rfl) (Or.inl (Exists.intro (3) (And.intro rfl (And.intro (by decide +kernel) rfl)))))) ?_
  refine xa_cons 6 ((And.intro (by decide) (Or.inl (Exists.intro (0) (And.intro rfl (And.intro (by decide +kernel) rfl)))))) ?_
  refine xa_cons 7 ((And.intro (xc_callV (index := 101) (n := 0) (ci := 6) S xg_112 rfl xw_35 xw_576 xw_574 xw_575 rfl rfl rfl ⟨by decide, by decide, by decide +kernel⟩ rfl (And.intro (by decide +kernel) rfl)) (by decide +kernel))) ?_
  refine xa_cons 8 ((And.intro (Or.inr rfl) (Or.inr (And.intro (by decide +kernel) rfl)))) ?_
  refine xa_cons 9 ((And.intro (by decide) (Or.inr (And.intro (by decide +kernel) rfl)))) ?_
  refine xa_cons 10 (xc_getf (A := A) (own := "ExpressHouse$Machine") (index := 188) hx hb htsB xC_10 hown rfl (by decide) xw_874 (And.intro (by decide +kernel) rfl)) ?_
  refine xa_cons 11 (xc_iconst hx hb (z := 1) (b := 1) (And.intro (by decide +kernel) rfl) (by decide +kernel) ⟨rfl, rfl⟩) ?_
  refine xa_cons 12 ((And.intro (by decide) (Exists.intro (23) (And.intro (by decide +kernel) (And.intro (by decide +kernel) rfl))))) ?_
  refine xa_cons 13 ((And.intro (by decide) (Or.inl (Exists.intro (3) (And.intro rfl (And.intro (by decide +kernel) rfl)))))) ?_
  refine xa_cons 14 (xc_getf (A := A) (own := "ExpressHouse$Machine") (index := 188) hx hb htsB xC_10 hown rfl (by decide) xw_874 (And.intro (by decide +kernel) rfl)) ?_
  refine xa_cons 15 (xc_iconst hx hb (z := 1) (b := 1) (And.intro (by decide +kernel) rfl) (by decide +kernel) ⟨rfl, rfl⟩) ?_
  refine xa_cons 16 ((And.intro (by decide) (Exists.intro (15) (And.intro (by decide +kernel) (And.intro (by decide +kernel) rfl))))) ?_
  refine xa_cons 17 ((And.intro (by decide) (Or.inl (Exists.intro (2) (And.intro rfl (And.intro (by decide +kernel) rfl)))))) ?_
  refine xa_cons 18 (xc_getf (A := A) (own := "ExpressHouse$Machine") (index := 188) hx hb htsB xC_10 hown rfl (by decide) xw_874 (And.intro (by decide +kernel) rfl)) ?_
  refine xa_cons 19 (xc_iconst hx hb (z := 1) (b := 1) (And.intro (by decide +kernel) rfl) (by decide +kernel) ⟨rfl, rfl⟩) ?_
  refine xa_cons 20 ((And.intro (by decide) (Exists.intro (7) (And.intro (by decide +kernel) (And.intro (by decide +kernel) rfl))))) ?_
  refine xa_cons 21 (xc_iconst hx hb (z := 1) (b := 1) (And.intro (by decide +kernel) rfl) (by decide +kernel) ⟨rfl, rfl⟩) ?_
  refine xa_cons 22 ((Exists.intro (4) (And.intro (by decide +kernel) (by decide +kernel)))) ?_
  refine xa_cons 23 (xc_iconst hx hb (z := 0) (b := 0) (And.intro (by decide +kernel) rfl) (by decide +kernel) ⟨rfl, rfl⟩) ?_
  refine xa_cons 24 ((And.intro (Or.inl rfl) (Or.inr (And.intro (by decide +kernel) rfl)))) ?_
  refine xa_cons 25 ((And.intro (by decide) (Or.inr (And.intro (by decide +kernel) rfl)))) ?_
  refine xa_cons 26 ((And.intro (by decide) (Exists.intro (12) (And.intro (by decide +kernel) (And.intro (by decide +kernel) rfl))))) ?_
  refine xa_cons 27 ((And.intro (by decide) (Or.inl (Exists.intro (2) (And.intro rfl (And.intro (by decide +kernel) rfl)))))) ?_
  refine xa_cons 28 (xc_getf (A := A) (own := "ExpressHouse$Machine") (index := 197) hx hb htsB xC_10 hown rfl (by decide) xw_1096 (And.intro (by decide +kernel) rfl)) ?_
  refine xa_cons 29 (xc_lconst hx hb (z := 0) (And.intro (by decide +kernel) rfl) ⟨rfl, rfl⟩) ?_
  refine xa_cons 30 ((And.intro (by decide +kernel) rfl)) ?_
  refine xa_cons 31 ((And.intro (by decide) (Exists.intro (12) (And.intro (by decide +kernel) (And.intro (by decide +kernel) rfl))))) ?_
  refine xa_cons 32 ((And.intro (by decide) (Or.inl (Exists.intro (0) (And.intro rfl (And.intro (by decide +kernel) rfl)))))) ?_
  refine xa_cons 33 ((And.intro (by decide) (Or.inl (Exists.intro (0) (And.intro rfl (And.intro (by decide +kernel) rfl)))))) ?_
  refine xa_cons 34 (xc_getf (A := A) (own := "ExpressHouse$Machine") (index := 68) hx hb htsB xC_6 hown rfl (by decide) xw_281 (And.intro (by decide +kernel) rfl)) ?_
  refine xa_cons 35 ((And.intro (xc_callV (index := 134) (n := 1) (ci := 6) S xg_200 rfl xw_35 xw_904 xw_902 xw_903 rfl rfl rfl ⟨by decide, by decide, by decide +kernel⟩ rfl (And.intro (by decide +kernel) rfl)) (by decide +kernel))) ?_
  refine xa_cons 36 ((And.intro hr (by decide +kernel))) ?_
  refine xa_cons 37 ((And.intro (by decide) (Or.inl (Exists.intro (0) (And.intro rfl (And.intro (by decide +kernel) rfl)))))) ?_
  refine xa_cons 38 (xc_getf (A := A) (own := "ExpressHouse$Machine") (index := 23) hx hb htsB xC_6 hown rfl (by decide) xw_265 (And.intro (by decide +kernel) rfl)) ?_
  refine xa_cons 39 ((And.intro (by decide) (Or.inl (Exists.intro (1) (And.intro rfl (And.intro (by decide +kernel) rfl)))))) ?_
  refine xa_cons 40 ((And.intro (by decide) (Or.inr (And.intro (by decide +kernel) rfl)))) ?_
  refine xa_cons 41 (xc_getf (A := A) (own := "ExpressHouse$Machine") (index := 197) hx hb htsB xC_10 hown rfl (by decide) xw_1096 (And.intro (by decide +kernel) rfl)) ?_
  refine xa_cons 42 ((And.intro (by decide +kernel) rfl)) ?_
  refine xa_cons 43 ((And.intro (by decide) (And.intro (by decide +kernel) rfl))) ?_
  refine xa_cons 44 ((And.intro (by decide) (Or.inl (Exists.intro (0) (And.intro rfl (And.intro (by decide +kernel) rfl)))))) ?_
  refine xa_cons 45 (xc_getf (A := A) (own := "ExpressHouse$Machine") (index := 27) hx hb htsB xC_6 hown rfl (by decide) xw_266 (And.intro (by decide +kernel) rfl)) ?_
  refine xa_cons 46 ((And.intro (by decide) (Or.inl (Exists.intro (1) (And.intro rfl (And.intro (by decide +kernel) rfl)))))) ?_
  refine xa_cons 47 ((And.intro (by decide) (Or.inl (Exists.intro (3) (And.intro rfl (And.intro (by decide +kernel) rfl)))))) ?_
  refine xa_cons 48 (xc_getf (A := A) (own := "ExpressHouse$Machine") (index := 197) hx hb htsB xC_10 hown rfl (by decide) xw_1096 (And.intro (by decide +kernel) rfl)) ?_
  refine xa_cons 49 ((And.intro (by decide +kernel) rfl)) ?_
  refine xa_cons 50 ((And.intro (by decide) (And.intro (by decide +kernel) rfl))) ?_
  refine xa_cons 51 ((And.intro (by decide) (Or.inl (Exists.intro (0) (And.intro rfl (And.intro (by decide +kernel) rfl)))))) ?_
  refine xa_cons 52 (xc_getf (A := A) (own := "ExpressHouse$Machine") (index := 30) hx hb htsB xC_6 hown rfl (by decide) xw_267 (And.intro (by decide +kernel) rfl)) ?_
  refine xa_cons 53 ((And.intro (by decide) (Or.inl (Exists.intro (1) (And.intro rfl (And.intro (by decide +kernel) rfl)))))) ?_
  refine xa_cons 54 ((And.intro (by decide) (Or.inl (Exists.intro (2) (And.intro rfl (And.intro (by decide +kernel) rfl)))))) ?_
  refine xa_cons 55 (xc_getf (A := A) (own := "ExpressHouse$Machine") (index := 197) hx hb htsB xC_10 hown rfl (by decide) xw_1096 (And.intro (by decide +kernel) rfl)) ?_
  refine xa_cons 56 ((And.intro (by decide +kernel) rfl)) ?_
  refine xa_cons 57 ((And.intro (by decide) (And.intro (by decide +kernel) rfl))) ?_
  refine xa_cons 58 ((And.intro hr (by decide +kernel))) ?_
  exact xa_nil
def xrp_274 : Nat → Nat := fun k => ([0, 1, 2, 3, 4, 5, 6, 7, 10, 13, 14, 17, 18, 19, 22, 23] : List Nat).getD k 0
set_option maxRecDepth 20000 in
set_option maxHeartbeats 4000000 in
theorem xz_274 {l : Launch} {D : va_G} {en : XE} : x_Ok xT l D xcl en xrn (xG en) 274 xc_274 := by
  refine ⟨prog_12_method_7_code, (some .int), xBIG, xrp_274, by decide +kernel, rfl, rfl, ?_⟩
  intro p e R s m args below meth c s₁ A Q pc i f1 f2 B hml hA hg hi
  obtain ⟨hx, hb, hr, hown, hlocks, hin, htsB, S⟩ := xb_all (C := "ExpressHouse$Tokens") B hml rfl rfl
  obtain ⟨hgN, hgZ, hgS, hgS2⟩ := xG_all hg
  refine xa_at (i := i) (pc := pc) ?_ hi
  refine xa_cons 0 (xc_iconst hx hb (z := 0) (b := 0) (And.intro (by decide +kernel) rfl) (by decide +kernel) ⟨rfl, rfl⟩) ?_
  refine xa_cons 1 ((And.intro (Or.inl rfl) (Or.inl (Exists.intro (2) (And.intro rfl (And.intro (by decide +kernel) rfl)))))) ?_
  refine xa_cons 2 ((And.intro (by decide) (Or.inl (Exists.intro (0) (And.intro rfl (And.intro (by decide +kernel) rfl)))))) ?_
  refine xa_cons 3 ((And.intro (Or.inl rfl) (Or.inl (Exists.intro (3) (And.intro rfl (And.intro (by decide +kernel) rfl)))))) ?_
  refine xa_cons 4 ((And.intro (by decide) (Or.inl (Exists.intro (3) (And.intro rfl (And.intro (by decide +kernel) rfl)))))) ?_
  refine xa_cons 5 (xc_lconst hx hb (z := 0) (And.intro (by decide +kernel) rfl) ⟨rfl, rfl⟩) ?_
  refine xa_cons 6 ((And.intro (by decide +kernel) rfl)) ?_
  refine xa_cons 7 ((And.intro (by decide) (Exists.intro (15) (And.intro (by decide +kernel) (And.intro (by decide +kernel) rfl))))) ?_
  refine xa_cons 8 ((Exists.intro (1) (And.intro (And.intro (by decide +kernel) rfl) (by decide +kernel)))) ?_
  refine xa_cons 9 ((And.intro (by decide) (Or.inl (Exists.intro (3) (And.intro rfl (And.intro (by decide +kernel) rfl)))))) ?_
  refine xa_cons 10 (xc_ldc2 (own := "ExpressHouse$Tokens") (index := 41) (b := 38) hx hb hown (htsB _ xw_461) (And.intro (by decide +kernel) rfl) ⟨rfl, rfl⟩) ?_
  refine xa_cons 11 ((And.intro (by decide) (And.intro (by decide +kernel) rfl))) ?_
  refine xa_cons 12 ((And.intro (Or.inl rfl) (Or.inl (Exists.intro (3) (And.intro rfl (And.intro (by decide +kernel) rfl)))))) ?_
  refine xa_cons 13 ((Exists.intro (-15) (And.intro (by decide +kernel) (by decide +kernel)))) ?_
  refine xa_cons 14 ((And.intro (by decide) (Or.inl (Exists.intro (2) (And.intro rfl (And.intro (by decide +kernel) rfl)))))) ?_
  refine xa_cons 15 ((And.intro hr (by decide +kernel))) ?_
  exact xa_nil
def xrp_275 : Nat → Nat := fun k => ([0, 1, 2, 3, 6, 7, 8, 9, 10, 12, 14, 17, 18, 21, 22, 23, 26, 29, 30, 33, 34, 35, 37, 39, 41, 44, 46, 48, 49, 50, 51, 52, 54, 56, 59, 61, 64, 66, 68, 69, 71, 72] : List Nat).getD k 0
set_option maxRecDepth 20000 in
set_option maxHeartbeats 4000000 in
theorem xz_275 {l : Launch} {D : va_G} {en : XE} : x_Ok xT l D xcl en xrn (xG en) 275 xc_275 := by
  refine ⟨prog_12_method_8_code, (some .int), xBIG, xrp_275, by decide +kernel, rfl, rfl, ?_⟩
  intro p e R s m args below meth c s₁ A Q pc i f1 f2 B hml hA hg hi
  obtain ⟨hx, hb, hr, hown, hlocks, hin, htsB, S⟩ := xb_all (C := "ExpressHouse$Tokens") B hml rfl rfl
  obtain ⟨hgN, hgZ, hgS, hgS2⟩ := xG_all hg
  refine xa_at (i := i) (pc := pc) ?_ hi
  refine xa_cons 0 ((And.intro (by decide) (Or.inl (Exists.intro (0) (And.intro rfl (And.intro (by decide +kernel) rfl)))))) ?_
  refine xa_cons 1 ((And.intro (Or.inl rfl) (Or.inl (Exists.intro (3) (And.intro rfl (And.intro (by decide +kernel) rfl)))))) ?_
  refine xa_cons 2 ((And.intro (by decide) (Or.inl (Exists.intro (0) (And.intro rfl (And.intro (by decide +kernel) rfl)))))) ?_
  refine xa_cons 3 ((And.intro (xc_callS (index := 47) S xg_274 rfl xw_7 xw_1319 xw_1197 ⟨by decide, by decide, by decide +kernel⟩ rfl (And.intro (by decide +kernel) rfl)) (by decide +kernel))) ?_
  refine xa_cons 4 (xc_iconst hx hb (z := 1) (b := 1) (And.intro (by decide +kernel) rfl) (by decide +kernel) ⟨rfl, rfl⟩) ?_
  refine xa_cons 5 ((And.intro (by decide) (And.intro (by decide +kernel) rfl))) ?_
  refine xa_cons 6 ((And.intro (by decide) (Or.inl (Exists.intro (2) (And.intro rfl (And.intro (by decide +kernel) rfl)))))) ?_
  refine xa_cons 7 ((And.intro (by decide) (And.intro (by decide +kernel) rfl))) ?_
  refine xa_cons 8 ((And.intro (Or.inl rfl) (Or.inr (And.intro (by decide +kernel) rfl)))) ?_
  refine xa_cons 9 ((And.intro (by decide) (Or.inr (And.intro (by decide +kernel) rfl)))) ?_
  refine xa_cons 10 ((And.intro (by decide) (Exists.intro (15) (And.intro (by decide +kernel) (And.intro (by decide +kernel) rfl))))) ?_
  refine xa_cons 11 ((And.intro (by decide) (Or.inl (Exists.intro (3) (And.intro rfl (And.intro (by decide +kernel) rfl)))))) ?_
  refine xa_cons 12 (xc_ldc2 (own := "ExpressHouse$Tokens") (index := 41) (b := 38) hx hb hown (htsB _ xw_461) (And.intro (by decide +kernel) rfl) ⟨rfl, rfl⟩) ?_
  refine xa_cons 13 ((And.intro (by decide) (And.intro (by decide +kernel) rfl))) ?_
  refine xa_cons 14 ((And.intro (Or.inl rfl) (Or.inl (Exists.intro (3) (And.intro rfl (And.intro (by decide +kernel) rfl)))))) ?_
  refine xa_cons 15 ((Exists.intro (-1) (And.intro (And.intro (by decide +kernel) rfl) (by decide +kernel)))) ?_
  refine xa_cons 16 ((Exists.intro (-14) (And.intro (by decide +kernel) (by decide +kernel)))) ?_
  refine xa_cons 17 ((And.intro (by decide) (Or.inl (Exists.intro (3) (And.intro rfl (And.intro (by decide +kernel) rfl)))))) ?_
  refine xa_cons 18 (xc_ldc2 (own := "ExpressHouse$Tokens") (index := 41) (b := 38) hx hb hown (htsB _ xw_461) (And.intro (by decide +kernel) rfl) ⟨rfl, rfl⟩) ?_
  refine xa_cons 19 ((And.intro (by decide) (And.intro (by decide +kernel) rfl))) ?_
  refine xa_cons 20 ((And.intro (by decide +kernel) rfl)) ?_
  refine xa_cons 21 ((And.intro (Or.inl rfl) (Or.inr (And.intro (by decide +kernel) rfl)))) ?_
  refine xa_cons 22 ((And.intro (by decide) (Or.inr (And.intro (by decide +kernel) rfl)))) ?_
  refine xa_cons 23 (xc_bipush hx hb (z := 26) (b := 26) (And.intro (by decide +kernel) rfl) (by decide +kernel) ⟨rfl, rfl⟩) ?_
  refine xa_cons 24 ((And.intro (by decide) (Exists.intro (11) (And.intro (by decide +kernel) (And.intro (by decide +kernel) rfl))))) ?_
  refine xa_cons 25 (xc_bipush hx hb (z := 97) (b := 97) (And.intro (by decide +kernel) rfl) (by decide +kernel) ⟨rfl, rfl⟩) ?_
  refine xa_cons 26 ((And.intro (by decide) (Or.inr (And.intro (by decide +kernel) rfl)))) ?_
  refine xa_cons 27 ((And.intro (by decide) (And.intro (by decide +kernel) rfl))) ?_
  refine xa_cons 28 (xc_iconst hx hb (z := 1) (b := 1) (And.intro (by decide +kernel) rfl) (by decide +kernel) ⟨rfl, rfl⟩) ?_
  refine xa_cons 29 ((And.intro (by decide) (And.intro (by decide +kernel) rfl))) ?_
  refine xa_cons 30 ((And.intro hr (by decide +kernel))) ?_
  refine xa_cons 31 ((And.intro (by decide) (Or.inr (And.intro (by decide +kernel) rfl)))) ?_
  refine xa_cons 32 (xc_bipush hx hb (z := 37) (b := 37) (And.intro (by decide +kernel) rfl) (by decide +kernel) ⟨rfl, rfl⟩) ?_
  refine xa_cons 33 ((And.intro (by decide) (Exists.intro (8) (And.intro (by decide +kernel) (And.intro (by decide +kernel) rfl))))) ?_
  refine xa_cons 34 (xc_bipush hx hb (z := 95) (b := 95) (And.intro (by decide +kernel) rfl) (by decide +kernel) ⟨rfl, rfl⟩) ?_
  refine xa_cons 35 ((Exists.intro (11) (And.intro (by decide +kernel) (by decide +kernel)))) ?_
  refine xa_cons 36 (xc_bipush hx hb (z := 48) (b := 48) (And.intro (by decide +kernel) rfl) (by decide +kernel) ⟨rfl, rfl⟩) ?_
  refine xa_cons 37 ((And.intro (by decide) (Or.inr (And.intro (by decide +kernel) rfl)))) ?_
  refine xa_cons 38 ((And.intro (by decide) (And.intro (by decide +kernel) rfl))) ?_
  refine xa_cons 39 (xc_bipush hx hb (z := 27) (b := 27) (And.intro (by decide +kernel) rfl) (by decide +kernel) ⟨rfl, rfl⟩) ?_
  refine xa_cons 40 ((And.intro (by decide) (And.intro (by decide +kernel) rfl))) ?_
  refine xa_cons 41 ((And.intro hr (by decide +kernel))) ?_
  exact xa_nil
def xrp_276 : Nat → Nat := fun k => ([0, 1, 4, 7, 10, 11, 12, 14, 15, 48, 49, 50, 53, 56, 57, 58, 61, 64, 65, 67, 70, 71, 72, 75, 76, 79, 81, 84, 85, 86, 87, 90, 92, 95, 97, 100, 101, 103, 106, 109, 110, 112, 115, 116, 117, 118, 119, 122, 123, 125, 126, 127, 128, 131, 132, 135, 137, 138, 139, 140, 143, 144, 146, 149, 152, 153, 155, 158, 159, 160, 163, 166, 167, 169, 172] : List Nat).getD k 0
set_option maxRecDepth 20000 in
set_option maxHeartbeats 4000000 in
theorem xz_276 {l : Launch} {D : va_G} {en : XE} : x_Ok xT l D xcl en xrn (xG en) 276 xc_276 := by
  refine ⟨prog_4_method_9_code, none, xBIG, xrp_276, by decide +kernel, rfl, rfl, ?_⟩
  intro p e R s m args below meth c s₁ A Q pc i f1 f2 B hml hA hg hi
  obtain ⟨hx, hb, hr, hown, hlocks, hin, htsB, S⟩ := xb_all (C := "ExpressHouse$FileWriter") B hml rfl rfl
  obtain ⟨hgN, hgZ, hgS, hgS2⟩ := xG_all hg
  refine xa_at (i := i) (pc := pc) ?_ hi
  refine xa_cons 0 ((And.intro (by decide) (Or.inl (Exists.intro (0) (And.intro rfl (And.intro (by decide +kernel) rfl)))))) ?_
  refine xa_cons 1 (xc_getf (A := A) (own := "ExpressHouse$FileWriter") (index := 18) hx hb htsB xC_9 hown rfl (by decide) xw_299 (And.intro (by decide +kernel) rfl)) ?_
  refine xa_cons 2 (xc_getf (A := A) (own := "ExpressHouse$FileWriter") (index := 37) hx hb htsB xC_2 hown rfl (by decide) xw_647 (And.intro (by decide +kernel) rfl)) ?_
  refine xa_cons 3 (xc_getf (A := A) (own := "ExpressHouse$FileWriter") (index := 57) hx hb htsB xC_3 hown rfl (by decide) xw_953 (And.intro (by decide +kernel) rfl)) ?_
  refine xa_cons 4 (xc_iconst hx hb (z := 1) (b := 1) (And.intro (by decide +kernel) rfl) (by decide +kernel) ⟨rfl, rfl⟩) ?_
  refine xa_cons 5 ((And.intro (by decide) (And.intro (by decide +kernel) rfl))) ?_
  refine xa_cons 6 ((And.intro (Or.inr rfl) (Or.inr (And.intro (by decide +kernel) rfl)))) ?_
  refine xa_cons 7 ((And.intro (by decide) (Or.inl (Exists.intro (1) (And.intro rfl (And.intro (by decide +kernel) rfl)))))) ?_
  refine xa_cons 8 (xc_table hx hb (by decide +kernel : decode prog_4_method_9_code 15 = .ok (.tableswitch 151 1 5 #[33, 41, 49, 94, 137], 33)) (by decide +kernel) (by decide) (by decide +kernel) (by decide) (by decide +kernel)) ?_
  refine xa_cons 9 ((And.intro (by decide) (Or.inl (Exists.intro (0) (And.intro rfl (And.intro (by decide +kernel) rfl)))))) ?_
  refine xa_cons 10 ((And.intro (by decide) (Or.inl (Exists.intro (2) (And.intro rfl (And.intro (by decide +kernel) rfl)))))) ?_
  refine xa_cons 11 ((And.intro (xc_callV (index := 33) (n := 1) (ci := 9) S xg_129 rfl xw_53 xw_646 xw_644 xw_645 rfl rfl rfl ⟨by decide, by decide, by decide +kernel⟩ rfl (And.intro (by decide +kernel) rfl)) (by decide +kernel))) ?_
  refine xa_cons 12 ((Exists.intro (119) (And.intro (by decide +kernel) (by decide +kernel)))) ?_
  refine xa_cons 13 ((And.intro (by decide) (Or.inl (Exists.intro (0) (And.intro rfl (And.intro (by decide +kernel) rfl)))))) ?_
  refine xa_cons 14 ((And.intro (by decide) (Or.inl (Exists.intro (2) (And.intro rfl (And.intro (by decide +kernel) rfl)))))) ?_
  refine xa_cons 15 ((And.intro (xc_callV (index := 114) (n := 1) (ci := 9) S xg_303 rfl xw_53 xw_1322 xw_1320 xw_1321 rfl rfl rfl ⟨by decide, by decide, by decide +kernel⟩ rfl (And.intro (by decide +kernel) rfl)) (by decide +kernel))) ?_
  refine xa_cons 16 ((Exists.intro (111) (And.intro (by decide +kernel) (by decide +kernel)))) ?_
  refine xa_cons 17 ((And.intro (by decide) (Or.inl (Exists.intro (0) (And.intro rfl (And.intro (by decide +kernel) rfl)))))) ?_
  refine xa_cons 18 (xc_bipush hx hb (z := 46) (b := 46) (And.intro (by decide +kernel) rfl) (by decide +kernel) ⟨rfl, rfl⟩) ?_
  refine xa_cons 19 ((And.intro (xc_callV (index := 29) (n := 1) (ci := 9) S xg_128 rfl xw_53 xw_643 xw_641 xw_642 rfl rfl rfl ⟨by decide, by decide, by decide +kernel⟩ rfl (And.intro (by decide +kernel) rfl)) (by decide +kernel))) ?_
  refine xa_cons 20 ((And.intro (by decide) (Or.inl (Exists.intro (0) (And.intro rfl (And.intro (by decide +kernel) rfl)))))) ?_
  refine xa_cons 21 ((And.intro (by decide) (Or.inl (Exists.intro (2) (And.intro rfl (And.intro (by decide +kernel) rfl)))))) ?_
  refine xa_cons 22 (xc_ldc2 (own := "ExpressHouse$FileWriter") (index := 117) (b := 2) hx hb hown (htsB _ xw_1323) (And.intro (by decide +kernel) rfl) ⟨rfl, rfl⟩) ?_
  refine xa_cons 23 ((And.intro (by decide +kernel) rfl)) ?_
  refine xa_cons 24 ((And.intro (by decide) (Exists.intro (8) (And.intro (by decide +kernel) (And.intro (by decide +kernel) rfl))))) ?_
  refine xa_cons 25 (xc_bipush hx hb (z := 116) (b := 116) (And.intro (by decide +kernel) rfl) (by decide +kernel) ⟨rfl, rfl⟩) ?_
  refine xa_cons 26 ((Exists.intro (16) (And.intro (by decide +kernel) (by decide +kernel)))) ?_
  refine xa_cons 27 ((And.intro (by decide) (Or.inl (Exists.intro (2) (And.intro rfl (And.intro (by decide +kernel) rfl)))))) ?_
  refine xa_cons 28 (xc_lconst hx hb (z := 0) (And.intro (by decide +kernel) rfl) ⟨rfl, rfl⟩) ?_
  refine xa_cons 29 ((And.intro (by decide +kernel) rfl)) ?_
  refine xa_cons 30 ((And.intro (by decide) (Exists.intro (8) (And.intro (by decide +kernel) (And.intro (by decide +kernel) rfl))))) ?_
  refine xa_cons 31 (xc_bipush hx hb (z := 102) (b := 102) (And.intro (by decide +kernel) rfl) (by decide +kernel) ⟨rfl, rfl⟩) ?_
  refine xa_cons 32 ((Exists.intro (5) (And.intro (by decide +kernel) (by decide +kernel)))) ?_
  refine xa_cons 33 (xc_bipush hx hb (z := 117) (b := 117) (And.intro (by decide +kernel) rfl) (by decide +kernel) ⟨rfl, rfl⟩) ?_
  refine xa_cons 34 ((And.intro (xc_callV (index := 29) (n := 1) (ci := 9) S xg_128 rfl xw_53 xw_643 xw_641 xw_642 rfl rfl rfl ⟨by decide, by decide, by decide +kernel⟩ rfl (And.intro (by decide +kernel) rfl)) (by decide +kernel))) ?_
  refine xa_cons 35 ((And.intro (by decide) (Or.inl (Exists.intro (0) (And.intro rfl (And.intro (by decide +kernel) rfl)))))) ?_
  refine xa_cons 36 (xc_bipush hx hb (z := 46) (b := 46) (And.intro (by decide +kernel) rfl) (by decide +kernel) ⟨rfl, rfl⟩) ?_
  refine xa_cons 37 ((And.intro (xc_callV (index := 29) (n := 1) (ci := 9) S xg_128 rfl xw_53 xw_643 xw_641 xw_642 rfl rfl rfl ⟨by decide, by decide, by decide +kernel⟩ rfl (And.intro (by decide +kernel) rfl)) (by decide +kernel))) ?_
  refine xa_cons 38 ((Exists.intro (66) (And.intro (by decide +kernel) (by decide +kernel)))) ?_
  refine xa_cons 39 ((And.intro (by decide) (Or.inl (Exists.intro (0) (And.intro rfl (And.intro (by decide +kernel) rfl)))))) ?_
  refine xa_cons 40 (xc_bipush hx hb (z := 46) (b := 46) (And.intro (by decide +kernel) rfl) (by decide +kernel) ⟨rfl, rfl⟩) ?_
  refine xa_cons 41 ((And.intro (xc_callV (index := 29) (n := 1) (ci := 9) S xg_128 rfl xw_53 xw_643 xw_641 xw_642 rfl rfl rfl ⟨by decide, by decide, by decide +kernel⟩ rfl (And.intro (by decide +kernel) rfl)) (by decide +kernel))) ?_
  refine xa_cons 42 ((And.intro (by decide) (Or.inl (Exists.intro (0) (And.intro rfl (And.intro (by decide +kernel) rfl)))))) ?_
  refine xa_cons 43 ((And.intro (by decide) (Or.inl (Exists.intro (2) (And.intro rfl (And.intro (by decide +kernel) rfl)))))) ?_
  refine xa_cons 44 (xc_lconst hx hb (z := 0) (And.intro (by decide +kernel) rfl) ⟨rfl, rfl⟩) ?_
  refine xa_cons 45 ((And.intro (by decide +kernel) rfl)) ?_
  refine xa_cons 46 ((And.intro (by decide) (Exists.intro (12) (And.intro (by decide +kernel) (And.intro (by decide +kernel) rfl))))) ?_
  refine xa_cons 47 ((And.intro (by decide) (Or.inl (Exists.intro (2) (And.intro rfl (And.intro (by decide +kernel) rfl)))))) ?_
  refine xa_cons 48 ((And.intro (by decide) (Or.inr (And.intro (by decide +kernel) rfl)))) ?_
  refine xa_cons 49 ((And.intro (by decide +kernel) rfl)) ?_
  refine xa_cons 50 ((And.intro (by decide +kernel) rfl)) ?_
  refine xa_cons 51 ((And.intro (by decide +kernel) rfl)) ?_
  refine xa_cons 52 ((And.intro (by decide) (Exists.intro (7) (And.intro (by decide +kernel) (And.intro (by decide +kernel) rfl))))) ?_
  refine xa_cons 53 (xc_lconst hx hb (z := 0) (And.intro (by decide +kernel) rfl) ⟨rfl, rfl⟩) ?_
  refine xa_cons 54 ((Exists.intro (8) (And.intro (by decide +kernel) (by decide +kernel)))) ?_
  refine xa_cons 55 ((And.intro (by decide) (Or.inr (And.intro (by decide +kernel) rfl)))) ?_
  refine xa_cons 56 ((And.intro (by decide) (Or.inl (Exists.intro (2) (And.intro rfl (And.intro (by decide +kernel) rfl)))))) ?_
  refine xa_cons 57 ((And.intro (by decide +kernel) rfl)) ?_
  refine xa_cons 58 ((And.intro (by decide) (And.intro (by decide +kernel) rfl))) ?_
  refine xa_cons 59 ((And.intro (xc_callV (index := 61) (n := 1) (ci := 9) S xg_211 rfl xw_53 xw_956 xw_954 xw_955 rfl rfl rfl ⟨by decide, by decide, by decide +kernel⟩ rfl (And.intro (by decide +kernel) rfl)) (by decide +kernel))) ?_
  refine xa_cons 60 ((And.intro (by decide) (Or.inl (Exists.intro (0) (And.intro rfl (And.intro (by decide +kernel) rfl)))))) ?_
  refine xa_cons 61 (xc_bipush hx hb (z := 46) (b := 46) (And.intro (by decide +kernel) rfl) (by decide +kernel) ⟨rfl, rfl⟩) ?_
  refine xa_cons 62 ((And.intro (xc_callV (index := 29) (n := 1) (ci := 9) S xg_128 rfl xw_53 xw_643 xw_641 xw_642 rfl rfl rfl ⟨by decide, by decide, by decide +kernel⟩ rfl (And.intro (by decide +kernel) rfl)) (by decide +kernel))) ?_
  refine xa_cons 63 ((Exists.intro (23) (And.intro (by decide +kernel) (by decide +kernel)))) ?_
  refine xa_cons 64 ((And.intro (by decide) (Or.inl (Exists.intro (0) (And.intro rfl (And.intro (by decide +kernel) rfl)))))) ?_
  refine xa_cons 65 (xc_bipush hx hb (z := 35) (b := 35) (And.intro (by decide +kernel) rfl) (by decide +kernel) ⟨rfl, rfl⟩) ?_
  refine xa_cons 66 ((And.intro (xc_callV (index := 29) (n := 1) (ci := 9) S xg_128 rfl xw_53 xw_643 xw_641 xw_642 rfl rfl rfl ⟨by decide, by decide, by decide +kernel⟩ rfl (And.intro (by decide +kernel) rfl)) (by decide +kernel))) ?_
  refine xa_cons 67 ((And.intro (by decide) (Or.inl (Exists.intro (0) (And.intro rfl (And.intro (by decide +kernel) rfl)))))) ?_
  refine xa_cons 68 ((And.intro (by decide) (Or.inl (Exists.intro (2) (And.intro rfl (And.intro (by decide +kernel) rfl)))))) ?_
  refine xa_cons 69 ((And.intro (xc_callV (index := 33) (n := 1) (ci := 9) S xg_129 rfl xw_53 xw_646 xw_644 xw_645 rfl rfl rfl ⟨by decide, by decide, by decide +kernel⟩ rfl (And.intro (by decide +kernel) rfl)) (by decide +kernel))) ?_
  refine xa_cons 70 ((Exists.intro (9) (And.intro (by decide +kernel) (by decide +kernel)))) ?_
  refine xa_cons 71 ((And.intro (by decide) (Or.inl (Exists.intro (0) (And.intro rfl (And.intro (by decide +kernel) rfl)))))) ?_
  refine xa_cons 72 (xc_bipush hx hb (z := 36) (b := 36) (And.intro (by decide +kernel) rfl) (by decide +kernel) ⟨rfl, rfl⟩) ?_
  refine xa_cons 73 ((And.intro (xc_callV (index := 29) (n := 1) (ci := 9) S xg_128 rfl xw_53 xw_643 xw_641 xw_642 rfl rfl rfl ⟨by decide, by decide, by decide +kernel⟩ rfl (And.intro (by decide +kernel) rfl)) (by decide +kernel))) ?_
  refine xa_cons 74 ((And.intro hr (by decide +kernel))) ?_
  exact xa_nil
def xrp_277 : Nat → Nat := fun k => ([0, 1, 4, 5, 6, 7, 10, 11, 12, 15, 16, 18, 21, 22, 23, 26, 27, 28, 31, 34, 35, 37, 40, 41, 44, 47, 48, 50, 53, 54, 57, 60, 61, 63, 66, 67, 70, 71, 72, 73, 76, 79, 80, 81, 82, 85, 86, 87, 90, 93, 94, 95, 96, 99, 100, 103, 106, 107, 110, 111, 112, 113, 116, 119, 120, 122, 125, 126, 129, 132, 133, 136, 139, 140, 141, 142, 145, 148] : List Nat).getD k 0
set_option maxRecDepth 20000 in
set_option maxHeartbeats 4000000 in
theorem xz_277 {l : Launch} {D : va_G} {en : XE} : x_Ok xT l D xcl en xrn (xG en) 277 xc_277 := by
  refine ⟨prog_3_method_24_code, none, xBIG, xrp_277, by decide +kernel, rfl, rfl, ?_⟩
  intro p e R s m args below meth c s₁ A Q pc i f1 f2 B hml hA hg hi
  obtain ⟨hx, hb, hr, hown, hlocks, hin, htsB, S⟩ := xb_all (C := "ExpressHouse$FileReader") B hml rfl rfl
  obtain ⟨hgN, hgZ, hgS, hgS2⟩ := xG_all hg
  refine xa_at (i := i) (pc := pc) ?_ hi
  refine xa_cons 0 ((And.intro (by decide) (Or.inl (Exists.intro (0) (And.intro rfl (And.intro (by decide +kernel) rfl)))))) ?_
  refine xa_cons 1 ((And.intro (xc_callV (index := 100) (n := 0) (ci := 8) S xg_138 rfl xw_47 xw_692 xw_690 xw_691 rfl rfl rfl ⟨by decide, by decide, by decide +kernel⟩ rfl (And.intro (by decide +kernel) rfl)) (by decide +kernel))) ?_
  refine xa_cons 2 ((And.intro (Or.inl rfl) (Or.inl (Exists.intro (1) (And.intro rfl (And.intro (by decide +kernel) rfl)))))) ?_
  refine xa_cons 3 ((And.intro (by decide) (Or.inl (Exists.intro (0) (And.intro rfl (And.intro (by decide +kernel) rfl)))))) ?_
  refine xa_cons 4 (xc_iconst hx hb (z := 0) (b := 0) (And.intro (by decide +kernel) rfl) (by decide +kernel) ⟨rfl, rfl⟩) ?_
  refine xa_cons 5 (xc_putf (own := "ExpressHouse$FileReader") (index := 190) hx hb htsB xC_8 hown rfl (by decide) xw_1217 rfl (rfl) (And.intro (by decide +kernel) rfl)) ?_
  refine xa_cons 6 ((And.intro (by decide) (Or.inl (Exists.intro (0) (And.intro rfl (And.intro (by decide +kernel) rfl)))))) ?_
  refine xa_cons 7 (xc_lconst hx hb (z := 0) (And.intro (by decide +kernel) rfl) ⟨rfl, rfl⟩) ?_
  refine xa_cons 8 (xc_putf (own := "ExpressHouse$FileReader") (index := 193) hx hb htsB xC_8 hown rfl (by decide) xw_1218 rfl (rfl) (And.intro (by decide +kernel) rfl)) ?_
  refine xa_cons 9 ((And.intro (by decide) (Or.inl (Exists.intro (1) (And.intro rfl (And.intro (by decide +kernel) rfl)))))) ?_
  refine xa_cons 10 (xc_bipush hx hb (z := 36) (b := 36) (And.intro (by decide +kernel) rfl) (by decide +kernel) ⟨rfl, rfl⟩) ?_
  refine xa_cons 11 ((And.intro (by decide) (Exists.intro (16) (And.intro (by decide +kernel) (And.intro (by decide +kernel) rfl))))) ?_
  refine xa_cons 12 ((And.intro (by decide) (Or.inl (Exists.intro (0) (And.intro rfl (And.intro (by decide +kernel) rfl)))))) ?_
  refine xa_cons 13 ((And.intro (by decide +kernel) rfl)) ?_
  refine xa_cons 14 (xc_getf (A := A) (own := "ExpressHouse$FileReader") (index := 65) hx hb htsB xC_8 hown rfl (by decide) xw_668 (And.intro (by decide +kernel) rfl)) ?_
  refine xa_cons 15 (xc_iconst hx hb (z := 1) (b := 1) (And.intro (by decide +kernel) rfl) (by decide +kernel) ⟨rfl, rfl⟩) ?_
  refine xa_cons 16 ((And.intro (by decide) (And.intro (by decide +kernel) rfl))) ?_
  refine xa_cons 17 (xc_putf (own := "ExpressHouse$FileReader") (index := 65) hx hb htsB xC_8 hown rfl (by decide) xw_668 rfl (rfl) (And.intro (by decide +kernel) rfl)) ?_
  refine xa_cons 18 ((Exists.intro (117) (And.intro (by decide +kernel) (by decide +kernel)))) ?_
  refine xa_cons 19 ((And.intro (by decide) (Or.inl (Exists.intro (1) (And.intro rfl (And.intro (by decide +kernel) rfl)))))) ?_
  refine xa_cons 20 (xc_bipush hx hb (z := 37) (b := 37) (And.intro (by decide +kernel) rfl) (by decide +kernel) ⟨rfl, rfl⟩) ?_
  refine xa_cons 21 ((And.intro (by decide) (Exists.intro (10) (And.intro (by decide +kernel) (And.intro (by decide +kernel) rfl))))) ?_
  refine xa_cons 22 ((And.intro (by decide) (Or.inl (Exists.intro (0) (And.intro rfl (And.intro (by decide +kernel) rfl)))))) ?_
  refine xa_cons 23 ((And.intro (xc_callV (index := 239) (n := 0) (ci := 8) S xg_304 rfl xw_47 xw_1326 xw_1324 xw_1325 rfl rfl rfl ⟨by decide, by decide, by decide +kernel⟩ rfl (And.intro (by decide +kernel) rfl)) (by decide +kernel))) ?_
  refine xa_cons 24 ((Exists.intro (104) (And.intro (by decide +kernel) (by decide +kernel)))) ?_
  refine xa_cons 25 ((And.intro (by decide) (Or.inl (Exists.intro (1) (And.intro rfl (And.intro (by decide +kernel) rfl)))))) ?_
  refine xa_cons 26 (xc_bipush hx hb (z := 46) (b := 46) (And.intro (by decide +kernel) rfl) (by decide +kernel) ⟨rfl, rfl⟩) ?_
  refine xa_cons 27 ((And.intro (by decide) (Exists.intro (10) (And.intro (by decide +kernel) (And.intro (by decide +kernel) rfl))))) ?_
  refine xa_cons 28 ((And.intro (by decide) (Or.inl (Exists.intro (0) (And.intro rfl (And.intro (by decide +kernel) rfl)))))) ?_
  refine xa_cons 29 ((And.intro (xc_callV (index := 242) (n := 0) (ci := 8) S xg_305 rfl xw_47 xw_1329 xw_1327 xw_1328 rfl rfl rfl ⟨by decide, by decide, by decide +kernel⟩ rfl (And.intro (by decide +kernel) rfl)) (by decide +kernel))) ?_
  refine xa_cons 30 ((Exists.intro (91) (And.intro (by decide +kernel) (by decide +kernel)))) ?_
  refine xa_cons 31 ((And.intro (by decide) (Or.inl (Exists.intro (1) (And.intro rfl (And.intro (by decide +kernel) rfl)))))) ?_
  refine xa_cons 32 (xc_bipush hx hb (z := 35) (b := 35) (And.intro (by decide +kernel) rfl) (by decide +kernel) ⟨rfl, rfl⟩) ?_
  refine xa_cons 33 ((And.intro (by decide) (Exists.intro (56) (And.intro (by decide +kernel) (And.intro (by decide +kernel) rfl))))) ?_
  refine xa_cons 34 ((And.intro (by decide) (Or.inl (Exists.intro (0) (And.intro rfl (And.intro (by decide +kernel) rfl)))))) ?_
  refine xa_cons 35 (xc_getf (A := A) (own := "ExpressHouse$FileReader") (index := 65) hx hb htsB xC_8 hown rfl (by decide) xw_668 (And.intro (by decide +kernel) rfl)) ?_
  refine xa_cons 36 ((And.intro (Or.inl rfl) (Or.inl (Exists.intro (2) (And.intro rfl (And.intro (by decide +kernel) rfl)))))) ?_
  refine xa_cons 37 ((And.intro (by decide) (Or.inl (Exists.intro (0) (And.intro rfl (And.intro (by decide +kernel) rfl)))))) ?_
  refine xa_cons 38 ((And.intro (by decide) (Or.inl (Exists.intro (0) (And.intro rfl (And.intro (by decide +kernel) rfl)))))) ?_
  refine xa_cons 39 ((And.intro (xc_callV (index := 113) (n := 0) (ci := 8) S xg_134 rfl xw_47 xw_679 xw_677 xw_678 rfl rfl rfl ⟨by decide, by decide, by decide +kernel⟩ rfl (And.intro (by decide +kernel) rfl)) (by decide +kernel))) ?_
  refine xa_cons 40 ((And.intro (xc_callV (index := 148) (n := 1) (ci := 8) S xg_215 rfl xw_47 xw_976 xw_974 xw_975 rfl rfl rfl ⟨by decide, by decide, by decide +kernel⟩ rfl (And.intro (by decide +kernel) rfl)) (by decide +kernel))) ?_
  refine xa_cons 41 ((And.intro (Or.inl rfl) (Or.inl (Exists.intro (3) (And.intro rfl (And.intro (by decide +kernel) rfl)))))) ?_
  refine xa_cons 42 ((And.intro (by decide) (Or.inl (Exists.intro (0) (And.intro rfl (And.intro (by decide +kernel) rfl)))))) ?_
  refine xa_cons 43 (xc_iconst hx hb (z := 5) (b := 5) (And.intro (by decide +kernel) rfl) (by decide +kernel) ⟨rfl, rfl⟩) ?_
  refine xa_cons 44 (xc_putf (own := "ExpressHouse$FileReader") (index := 190) hx hb htsB xC_8 hown rfl (by decide) xw_1217 rfl (rfl) (And.intro (by decide +kernel) rfl)) ?_
  refine xa_cons 45 ((And.intro (by decide) (Or.inl (Exists.intro (0) (And.intro rfl (And.intro (by decide +kernel) rfl)))))) ?_
  refine xa_cons 46 ((And.intro (by decide) (Or.inl (Exists.intro (0) (And.intro rfl (And.intro (by decide +kernel) rfl)))))) ?_
  refine xa_cons 47 (xc_getf (A := A) (own := "ExpressHouse$FileReader") (index := 37) hx hb htsB xC_8 hown rfl (by decide) xw_294 (And.intro (by decide +kernel) rfl)) ?_
  refine xa_cons 48 (xc_getf (A := A) (own := "ExpressHouse$FileReader") (index := 71) hx hb htsB xC_2 hown rfl (by decide) xw_670 (And.intro (by decide +kernel) rfl)) ?_
  refine xa_cons 49 ((And.intro (by decide) (Or.inl (Exists.intro (3) (And.intro rfl (And.intro (by decide +kernel) rfl)))))) ?_
  refine xa_cons 50 ((And.intro (by decide) (And.intro (by decide +kernel) rfl))) ?_
  refine xa_cons 51 ((And.intro (by decide +kernel) rfl)) ?_
  refine xa_cons 52 (xc_putf (own := "ExpressHouse$FileReader") (index := 193) hx hb htsB xC_8 hown rfl (by decide) xw_1218 rfl (rfl) (And.intro (by decide +kernel) rfl)) ?_
  refine xa_cons 53 ((And.intro (by decide) (Or.inl (Exists.intro (0) (And.intro rfl (And.intro (by decide +kernel) rfl)))))) ?_
  refine xa_cons 54 (xc_getf (A := A) (own := "ExpressHouse$FileReader") (index := 61) hx hb htsB xC_8 hown rfl (by decide) xw_667 (And.intro (by decide +kernel) rfl)) ?_
  refine xa_cons 55 ((And.intro (by decide) (Exists.intro (13) (And.intro (by decide +kernel) (And.intro (by decide +kernel) rfl))))) ?_
  refine xa_cons 56 ((And.intro (by decide) (Or.inl (Exists.intro (3) (And.intro rfl (And.intro (by decide +kernel) rfl)))))) ?_
  refine xa_cons 57 ((And.intro (by decide) (Exists.intro (9) (And.intro (by decide +kernel) (And.intro (by decide +kernel) rfl))))) ?_
  refine xa_cons 58 ((And.intro (by decide) (Or.inl (Exists.intro (0) (And.intro rfl (And.intro (by decide +kernel) rfl)))))) ?_
  refine xa_cons 59 (xc_iconst hx hb (z := 2) (b := 2) (And.intro (by decide +kernel) rfl) (by decide +kernel) ⟨rfl, rfl⟩) ?_
  refine xa_cons 60 ((And.intro (by decide) (Or.inl (Exists.intro (2) (And.intro rfl (And.intro (by decide +kernel) rfl)))))) ?_
  refine xa_cons 61 ((And.intro (xc_callV (index := 110) (n := 2) (ci := 8) S xg_214 rfl xw_47 xw_971 xw_969 xw_970 rfl rfl rfl ⟨by decide, by decide, by decide +kernel⟩ rfl (And.intro (by decide +kernel) rfl)) (by decide +kernel))) ?_
  refine xa_cons 62 ((Exists.intro (32) (And.intro (by decide +kernel) (by decide +kernel)))) ?_
  refine xa_cons 63 ((And.intro (by decide) (Or.inl (Exists.intro (1) (And.intro rfl (And.intro (by decide +kernel) rfl)))))) ?_
  refine xa_cons 64 (xc_bipush hx hb (z := 45) (b := 45) (And.intro (by decide +kernel) rfl) (by decide +kernel) ⟨rfl, rfl⟩) ?_
  refine xa_cons 65 ((And.intro (by decide) (Exists.intro (10) (And.intro (by decide +kernel) (And.intro (by decide +kernel) rfl))))) ?_
  refine xa_cons 66 ((And.intro (by decide) (Or.inl (Exists.intro (1) (And.intro rfl (And.intro (by decide +kernel) rfl)))))) ?_
  refine xa_cons 67 ((And.intro (xc_callS (index := 135) S xg_143 rfl xw_7 xw_968 xw_709 ⟨by decide, by decide, by decide +kernel⟩ rfl (And.intro (by decide +kernel) rfl)) (by decide +kernel))) ?_
  refine xa_cons 68 ((And.intro (by decide) (Exists.intro (10) (And.intro (by decide +kernel) (And.intro (by decide +kernel) rfl))))) ?_
  refine xa_cons 69 ((And.intro (by decide) (Or.inl (Exists.intro (0) (And.intro rfl (And.intro (by decide +kernel) rfl)))))) ?_
  refine xa_cons 70 ((And.intro (xc_callV (index := 245) (n := 0) (ci := 8) S xg_306 rfl xw_47 xw_1332 xw_1330 xw_1331 rfl rfl rfl ⟨by decide, by decide, by decide +kernel⟩ rfl (And.intro (by decide +kernel) rfl)) (by decide +kernel))) ?_
  refine xa_cons 71 ((Exists.intro (12) (And.intro (by decide +kernel) (by decide +kernel)))) ?_
  refine xa_cons 72 ((And.intro (by decide) (Or.inl (Exists.intro (0) (And.intro rfl (And.intro (by decide +kernel) rfl)))))) ?_
  refine xa_cons 73 (xc_iconst hx hb (z := 1) (b := 1) (And.intro (by decide +kernel) rfl) (by decide +kernel) ⟨rfl, rfl⟩) ?_
  refine xa_cons 74 ((And.intro (by decide) (Or.inl (Exists.intro (0) (And.intro rfl (And.intro (by decide +kernel) rfl)))))) ?_
  refine xa_cons 75 (xc_getf (A := A) (own := "ExpressHouse$FileReader") (index := 65) hx hb htsB xC_8 hown rfl (by decide) xw_668 (And.intro (by decide +kernel) rfl)) ?_
  refine xa_cons 76 ((And.intro (xc_callV (index := 110) (n := 2) (ci := 8) S xg_214 rfl xw_47 xw_971 xw_969 xw_970 rfl rfl rfl ⟨by decide, by decide, by decide +kernel⟩ rfl (And.intro (by decide +kernel) rfl)) (by decide +kernel))) ?_
  refine xa_cons 77 ((And.intro hr (by decide +kernel))) ?_
  exact xa_nil
def xrp_278 : Nat → Nat := fun k => ([0, 1, 4, 5, 7, 10, 13, 14, 17, 18, 21, 24, 25, 28, 29, 30, 31, 34, 37, 38, 39, 40, 43] : List Nat).getD k 0
set_option maxRecDepth 20000 in
set_option maxHeartbeats 4000000 in
theorem xz_278 {l : Launch} {D : va_G} {en : XE} : x_Ok xT l D xcl en xrn (xG en) 278 xc_278 := by
  refine ⟨prog_3_method_23_code, none, xBIG, xrp_278, by decide +kernel, rfl, rfl, ?_⟩
  intro p e R s m args below meth c s₁ A Q pc i f1 f2 B hml hA hg hi
  obtain ⟨hx, hb, hr, hown, hlocks, hin, htsB, S⟩ := xb_all (C := "ExpressHouse$FileReader") B hml rfl rfl
  obtain ⟨hgN, hgZ, hgS, hgS2⟩ := xG_all hg
  refine xa_at (i := i) (pc := pc) ?_ hi
  refine xa_cons 0 ((And.intro (by decide) (Or.inl (Exists.intro (0) (And.intro rfl (And.intro (by decide +kernel) rfl)))))) ?_
  refine xa_cons 1 (xc_getf (A := A) (own := "ExpressHouse$FileReader") (index := 37) hx hb htsB xC_8 hown rfl (by decide) xw_294 (And.intro (by decide +kernel) rfl)) ?_
  refine xa_cons 2 ((And.intro (by decide) (Or.inl (Exists.intro (3) (And.intro rfl (And.intro (by decide +kernel) rfl)))))) ?_
  refine xa_cons 3 ((And.intro (by decide) (Or.inr (And.intro (by decide +kernel) rfl)))) ?_
  refine xa_cons 4 ((And.intro (xc_callV (index := 231) (n := 2) (ci := 2) S xg_58 rfl xw_12 xw_1333 xw_368 xw_369 rfl rfl rfl ⟨by decide, by decide, by decide +kernel⟩ rfl (And.intro (by decide +kernel) rfl)) (by decide +kernel))) ?_
  refine xa_cons 5 ((And.intro (by decide) (Exists.intro (27) (And.intro (by decide +kernel) (And.intro (by decide +kernel) rfl))))) ?_
  refine xa_cons 6 ((And.intro (by decide) (Or.inl (Exists.intro (0) (And.intro rfl (And.intro (by decide +kernel) rfl)))))) ?_
  refine xa_cons 7 (xc_getf (A := A) (own := "ExpressHouse$FileReader") (index := 37) hx hb htsB xC_8 hown rfl (by decide) xw_294 (And.intro (by decide +kernel) rfl)) ?_
  refine xa_cons 8 ((And.intro (by decide) (Or.inl (Exists.intro (0) (And.intro rfl (And.intro (by decide +kernel) rfl)))))) ?_
  refine xa_cons 9 (xc_getf (A := A) (own := "ExpressHouse$FileReader") (index := 37) hx hb htsB xC_8 hown rfl (by decide) xw_294 (And.intro (by decide +kernel) rfl)) ?_
  refine xa_cons 10 (xc_getf (A := A) (own := "ExpressHouse$FileReader") (index := 71) hx hb htsB xC_2 hown rfl (by decide) xw_670 (And.intro (by decide +kernel) rfl)) ?_
  refine xa_cons 11 ((And.intro (by decide) (Or.inl (Exists.intro (0) (And.intro rfl (And.intro (by decide +kernel) rfl)))))) ?_
  refine xa_cons 12 (xc_getf (A := A) (own := "ExpressHouse$FileReader") (index := 68) hx hb htsB xC_8 hown rfl (by decide) xw_669 (And.intro (by decide +kernel) rfl)) ?_
  refine xa_cons 13 ((And.intro (by decide) (And.intro (by decide +kernel) rfl))) ?_
  refine xa_cons 14 ((And.intro (by decide) (Or.inl (Exists.intro (2) (And.intro rfl (And.intro (by decide +kernel) rfl)))))) ?_
  refine xa_cons 15 ((And.intro (by decide) (Or.inl (Exists.intro (3) (And.intro rfl (And.intro (by decide +kernel) rfl)))))) ?_
  refine xa_cons 16 ((And.intro (xc_callV (index := 235) (n := 3) (ci := 2) S xg_59 rfl xw_12 xw_1334 xw_371 xw_372 rfl rfl rfl ⟨by decide, by decide, by decide +kernel⟩ rfl (And.intro (by decide +kernel) rfl)) (by decide +kernel))) ?_
  refine xa_cons 17 ((Exists.intro (9) (And.intro (by decide +kernel) (by decide +kernel)))) ?_
  refine xa_cons 18 ((And.intro (by decide) (Or.inl (Exists.intro (0) (And.intro rfl (And.intro (by decide +kernel) rfl)))))) ?_
  refine xa_cons 19 (xc_iconst hx hb (z := 2) (b := 2) (And.intro (by decide +kernel) rfl) (by decide +kernel) ⟨rfl, rfl⟩) ?_
  refine xa_cons 20 ((And.intro (by decide) (Or.inl (Exists.intro (1) (And.intro rfl (And.intro (by decide +kernel) rfl)))))) ?_
  refine xa_cons 21 ((And.intro (xc_callV (index := 110) (n := 2) (ci := 8) S xg_214 rfl xw_47 xw_971 xw_969 xw_970 rfl rfl rfl ⟨by decide, by decide, by decide +kernel⟩ rfl (And.intro (by decide +kernel) rfl)) (by decide +kernel))) ?_
  refine xa_cons 22 ((And.intro hr (by decide +kernel))) ?_
  exact xa_nil
def xrp_279 : Nat → Nat := fun k => ([0, 1, 4, 7, 10, 11, 12, 13, 14, 16, 17, 20, 23, 25, 26, 29, 31, 33, 36, 38, 41, 43, 46, 48, 49, 52, 53, 54, 56, 59, 62, 63, 64, 65, 68, 69, 71, 74, 75, 78, 81, 83, 84, 87, 90, 91, 93, 94, 95, 96, 99, 100, 102, 104, 105, 107, 109, 112, 114, 117] : List Nat).getD k 0
set_option maxRecDepth 20000 in
set_option maxHeartbeats 4000000 in
theorem xz_279 {l : Launch} {D : va_G} {en : XE} : x_Ok xT l D xcl en xrn (xG en) 279 xc_279 := by
  refine ⟨prog_3_method_21_code, none, xBIG, xrp_279, by decide +kernel, rfl, rfl, ?_⟩
  intro p e R s m args below meth c s₁ A Q pc i f1 f2 B hml hA hg hi
  obtain ⟨hx, hb, hr, hown, hlocks, hin, htsB, S⟩ := xb_all (C := "ExpressHouse$FileReader") B hml rfl rfl
  obtain ⟨hgN, hgZ, hgS, hgS2⟩ := xG_all hg
  refine xa_at (i := i) (pc := pc) ?_ hi
  refine xa_cons 0 ((And.intro (by decide) (Or.inl (Exists.intro (0) (And.intro rfl (And.intro (by decide +kernel) rfl)))))) ?_
  refine xa_cons 1 (xc_getf (A := A) (own := "ExpressHouse$FileReader") (index := 37) hx hb htsB xC_8 hown rfl (by decide) xw_294 (And.intro (by decide +kernel) rfl)) ?_
  refine xa_cons 2 (xc_getf (A := A) (own := "ExpressHouse$FileReader") (index := 138) hx hb htsB xC_2 hown rfl (by decide) xw_972 (And.intro (by decide +kernel) rfl)) ?_
  refine xa_cons 3 (xc_getf (A := A) (own := "ExpressHouse$FileReader") (index := 187) hx hb htsB xC_3 hown rfl (by decide) xw_1215 (And.intro (by decide +kernel) rfl)) ?_
  refine xa_cons 4 ((And.intro (by decide) (Or.inl (Exists.intro (2) (And.intro rfl (And.intro (by decide +kernel) rfl)))))) ?_
  refine xa_cons 5 ((And.intro (by decide) (And.intro (by decide +kernel) rfl))) ?_
  refine xa_cons 6 (xc_iconst hx hb (z := 3) (b := 3) (And.intro (by decide +kernel) rfl) (by decide +kernel) ⟨rfl, rfl⟩) ?_
  refine xa_cons 7 ((And.intro (by decide) (And.intro (by decide +kernel) rfl))) ?_
  refine xa_cons 8 ((And.intro (Or.inl rfl) (Or.inr (And.intro (by decide +kernel) rfl)))) ?_
  refine xa_cons 9 ((And.intro (by decide) (Or.inl (Exists.intro (0) (And.intro rfl (And.intro (by decide +kernel) rfl)))))) ?_
  refine xa_cons 10 (xc_getf (A := A) (own := "ExpressHouse$FileReader") (index := 37) hx hb htsB xC_8 hown rfl (by decide) xw_294 (And.intro (by decide +kernel) rfl)) ?_
  refine xa_cons 11 (xc_getf (A := A) (own := "ExpressHouse$FileReader") (index := 138) hx hb htsB xC_2 hown rfl (by decide) xw_972 (And.intro (by decide +kernel) rfl)) ?_
  refine xa_cons 12 ((And.intro (by decide) (Or.inr (And.intro (by decide +kernel) rfl)))) ?_
  refine xa_cons 13 (xc_iconst hx hb (z := 4) (b := 4) (And.intro (by decide +kernel) rfl) (by decide +kernel) ⟨rfl, rfl⟩) ?_
  refine xa_cons 14 ((And.intro (xc_callV (index := 218) (n := 2) (ci := 3) S xg_174 rfl xw_15 xw_1335 xw_815 xw_816 rfl rfl rfl ⟨by decide, by decide, by decide +kernel⟩ rfl (And.intro (by decide +kernel) rfl)) (by decide +kernel))) ?_
  refine xa_cons 15 ((And.intro (Or.inl rfl) (Or.inr (And.intro (by decide +kernel) rfl)))) ?_
  refine xa_cons 16 ((And.intro (by decide) (Or.inr (And.intro (by decide +kernel) rfl)))) ?_
  refine xa_cons 17 ((And.intro (by decide) (Exists.intro (29) (And.intro (by decide +kernel) (And.intro (by decide +kernel) rfl))))) ?_
  refine xa_cons 18 ((And.intro (by decide) (Or.inr (And.intro (by decide +kernel) rfl)))) ?_
  refine xa_cons 19 ((And.intro (by decide) (Exists.intro (8) (And.intro (by decide +kernel) (And.intro (by decide +kernel) rfl))))) ?_
  refine xa_cons 20 ((And.intro (by decide) (Or.inr (And.intro (by decide +kernel) rfl)))) ?_
  refine xa_cons 21 ((And.intro (by decide) (Exists.intro (19) (And.intro (by decide +kernel) (And.intro (by decide +kernel) rfl))))) ?_
  refine xa_cons 22 ((And.intro (by decide) (Or.inr (And.intro (by decide +kernel) rfl)))) ?_
  refine xa_cons 23 (xc_iconst hx hb (z := 3) (b := 3) (And.intro (by decide +kernel) rfl) (by decide +kernel) ⟨rfl, rfl⟩) ?_
  refine xa_cons 24 ((And.intro (by decide) (Exists.intro (20) (And.intro (by decide +kernel) (And.intro (by decide +kernel) rfl))))) ?_
  refine xa_cons 25 ((And.intro (by decide) (Or.inl (Exists.intro (0) (And.intro rfl (And.intro (by decide +kernel) rfl)))))) ?_
  refine xa_cons 26 ((And.intro (by decide) (Or.inl (Exists.intro (3) (And.intro rfl (And.intro (by decide +kernel) rfl)))))) ?_
  refine xa_cons 27 ((And.intro (by decide) (Or.inr (And.intro (by decide +kernel) rfl)))) ?_
  refine xa_cons 28 ((And.intro (xc_callV (index := 221) (n := 2) (ci := 8) S xg_307 rfl xw_47 xw_1338 xw_1336 xw_1337 rfl rfl rfl ⟨by decide, by decide, by decide +kernel⟩ rfl (And.intro (by decide +kernel) rfl)) (by decide +kernel))) ?_
  refine xa_cons 29 ((And.intro (by decide) (Exists.intro (10) (And.intro (by decide +kernel) (And.intro (by decide +kernel) rfl))))) ?_
  refine xa_cons 30 ((And.intro (by decide) (Or.inl (Exists.intro (0) (And.intro rfl (And.intro (by decide +kernel) rfl)))))) ?_
  refine xa_cons 31 (xc_iconst hx hb (z := 2) (b := 2) (And.intro (by decide +kernel) rfl) (by decide +kernel) ⟨rfl, rfl⟩) ?_
  refine xa_cons 32 ((And.intro (by decide) (Or.inl (Exists.intro (1) (And.intro rfl (And.intro (by decide +kernel) rfl)))))) ?_
  refine xa_cons 33 ((And.intro (xc_callV (index := 110) (n := 2) (ci := 8) S xg_214 rfl xw_47 xw_971 xw_969 xw_970 rfl rfl rfl ⟨by decide, by decide, by decide +kernel⟩ rfl (And.intro (by decide +kernel) rfl)) (by decide +kernel))) ?_
  refine xa_cons 34 ((And.intro hr (by decide +kernel))) ?_
  refine xa_cons 35 ((And.intro (by decide) (Or.inr (And.intro (by decide +kernel) rfl)))) ?_
  refine xa_cons 36 ((And.intro (by decide) (Exists.intro (19) (And.intro (by decide +kernel) (And.intro (by decide +kernel) rfl))))) ?_
  refine xa_cons 37 ((And.intro (by decide) (Or.inl (Exists.intro (0) (And.intro rfl (And.intro (by decide +kernel) rfl)))))) ?_
  refine xa_cons 38 (xc_getf (A := A) (own := "ExpressHouse$FileReader") (index := 37) hx hb htsB xC_8 hown rfl (by decide) xw_294 (And.intro (by decide +kernel) rfl)) ?_
  refine xa_cons 39 (xc_getf (A := A) (own := "ExpressHouse$FileReader") (index := 138) hx hb htsB xC_2 hown rfl (by decide) xw_972 (And.intro (by decide +kernel) rfl)) ?_
  refine xa_cons 40 ((And.intro (by decide) (Or.inr (And.intro (by decide +kernel) rfl)))) ?_
  refine xa_cons 41 (xc_iconst hx hb (z := 5) (b := 5) (And.intro (by decide +kernel) rfl) (by decide +kernel) ⟨rfl, rfl⟩) ?_
  refine xa_cons 42 ((And.intro (xc_callV (index := 218) (n := 2) (ci := 3) S xg_174 rfl xw_15 xw_1335 xw_815 xw_816 rfl rfl rfl ⟨by decide, by decide, by decide +kernel⟩ rfl (And.intro (by decide +kernel) rfl)) (by decide +kernel))) ?_
  refine xa_cons 43 ((Exists.intro (4) (And.intro (by decide +kernel) (by decide +kernel)))) ?_
  refine xa_cons 44 (xc_iconst hx hb (z := 1) (b := 1) (And.intro (by decide +kernel) rfl) (by decide +kernel) ⟨rfl, rfl⟩) ?_
  refine xa_cons 45 ((And.intro (Or.inl rfl) (Or.inr (And.intro (by decide +kernel) rfl)))) ?_
  refine xa_cons 46 ((And.intro (by decide) (Or.inl (Exists.intro (0) (And.intro rfl (And.intro (by decide +kernel) rfl)))))) ?_
  refine xa_cons 47 ((And.intro (by decide) (Or.inl (Exists.intro (1) (And.intro rfl (And.intro (by decide +kernel) rfl)))))) ?_
  refine xa_cons 48 ((And.intro (by decide) (Or.inl (Exists.intro (2) (And.intro rfl (And.intro (by decide +kernel) rfl)))))) ?_
  refine xa_cons 49 (xc_new (own := "ExpressHouse$FileReader") (index := 26) hx hb htsB xC_10 hown hA rfl rfl xw_1216 xw_58 xw_59 (by decide) (by decide +kernel) (And.intro (by decide +kernel) rfl)) ?_
  refine xa_cons 50 ((And.intro (by decide +kernel) rfl)) ?_
  refine xa_cons 51 ((And.intro (by decide) (Or.inr (And.intro (by decide +kernel) rfl)))) ?_
  refine xa_cons 52 ((And.intro (by decide) (Or.inr (And.intro (by decide +kernel) rfl)))) ?_
  refine xa_cons 53 ((And.intro (by decide) (Or.inl (Exists.intro (3) (And.intro rfl (And.intro (by decide +kernel) rfl)))))) ?_
  refine xa_cons 54 ((And.intro (by decide) (Or.inr (And.intro (by decide +kernel) rfl)))) ?_
  refine xa_cons 55 ((And.intro (by decide) (Or.inr (And.intro (by decide +kernel) rfl)))) ?_
  refine xa_cons 56 ((And.intro (xc_callIN (index := 225) (n := 5) (ci := 10) S xg_79 rfl xw_59 (hgN.1 _ (List.mem_of_getElem? (i := 14) rfl)) xw_439 rfl rfl rfl ⟨by decide, by decide, by decide +kernel⟩ rfl (And.intro (by decide +kernel) rfl)) (by decide +kernel))) ?_
  refine xa_cons 57 ((And.intro (by decide) (Or.inr (And.intro (by decide +kernel) rfl)))) ?_
  refine xa_cons 58 ((And.intro (xc_callV (index := 204) (n := 4) (ci := 8) S xg_278 rfl xw_47 xw_1222 xw_1220 xw_1221 rfl rfl rfl ⟨by decide, by decide, by decide +kernel⟩ rfl (And.intro (by decide +kernel) rfl)) (by decide +kernel))) ?_
  refine xa_cons 59 ((And.intro hr (by decide +kernel))) ?_
  exact xa_nil
def xrp_280 : Nat → Nat := fun k => ([0, 1, 2, 3, 4, 7, 8, 11, 12, 15, 16, 17, 18, 19, 22, 23, 24, 27, 30, 32] : List Nat).getD k 0
set_option maxRecDepth 20000 in
set_option maxHeartbeats 4000000 in
theorem xz_280 {l : Launch} {D : va_G} {en : XE} : x_Ok xT l D xcl en xrn (xG en) 280 xc_280 := by
  refine ⟨prog_10_method_8_code, (some .int), xBIG, xrp_280, by decide +kernel, rfl, rfl, ?_⟩
  intro p e R s m args below meth c s₁ A Q pc i f1 f2 B hml hA hg hi
  obtain ⟨hx, hb, hr, hown, hlocks, hin, htsB, S⟩ := xb_all (C := "ExpressHouse$Schema") B hml rfl rfl
  obtain ⟨hgN, hgZ, hgS, hgS2⟩ := xG_all hg
  refine xa_at (i := i) (pc := pc) ?_ hi
  refine xa_cons 0 (xc_iconst hx hb (z := 0) (b := 0) (And.intro (by decide +kernel) rfl) (by decide +kernel) ⟨rfl, rfl⟩) ?_
  refine xa_cons 1 ((And.intro (Or.inl rfl) (Or.inl (Exists.intro (3) (And.intro rfl (And.intro (by decide +kernel) rfl)))))) ?_
  refine xa_cons 2 ((And.intro (by decide) (Or.inl (Exists.intro (3) (And.intro rfl (And.intro (by decide +kernel) rfl)))))) ?_
  refine xa_cons 3 ((And.intro (by decide) (Or.inl (Exists.intro (0) (And.intro rfl (And.intro (by decide +kernel) rfl)))))) ?_
  refine xa_cons 4 (xc_getf (A := A) (own := "ExpressHouse$Schema") (index := 19) hx hb htsB xC_3 hown rfl (by decide) xw_218 (And.intro (by decide +kernel) rfl)) ?_
  refine xa_cons 5 ((And.intro (by decide +kernel) rfl)) ?_
  refine xa_cons 6 ((And.intro (by decide) (Exists.intro (22) (And.intro (by decide +kernel) (And.intro (by decide +kernel) rfl))))) ?_
  refine xa_cons 7 ((And.intro (by decide) (Or.inl (Exists.intro (0) (And.intro rfl (And.intro (by decide +kernel) rfl)))))) ?_
  refine xa_cons 8 (xc_getf (A := A) (own := "ExpressHouse$Schema") (index := 19) hx hb htsB xC_3 hown rfl (by decide) xw_218 (And.intro (by decide +kernel) rfl)) ?_
  refine xa_cons 9 ((And.intro (by decide) (Or.inl (Exists.intro (3) (And.intro rfl (And.intro (by decide +kernel) rfl)))))) ?_
  refine xa_cons 10 ((And.intro (by decide) (And.intro (by decide +kernel) rfl))) ?_
  refine xa_cons 11 ((And.intro (by decide) (Or.inl (Exists.intro (1) (And.intro rfl (And.intro (by decide +kernel) rfl)))))) ?_
  refine xa_cons 12 ((And.intro (by decide +kernel) rfl)) ?_
  refine xa_cons 13 ((And.intro (by decide) (Exists.intro (5) (And.intro (by decide +kernel) (And.intro (by decide +kernel) rfl))))) ?_
  refine xa_cons 14 ((And.intro (by decide) (Or.inl (Exists.intro (3) (And.intro rfl (And.intro (by decide +kernel) rfl)))))) ?_
  refine xa_cons 15 ((And.intro hr (by decide +kernel))) ?_
  refine xa_cons 16 ((Exists.intro (1) (And.intro (And.intro (by decide +kernel) rfl) (by decide +kernel)))) ?_
  refine xa_cons 17 ((Exists.intro (-25) (And.intro (by decide +kernel) (by decide +kernel)))) ?_
  refine xa_cons 18 (xc_bipush hx hb (z := -3) (b := 4294967293) (And.intro (by decide +kernel) rfl) (by decide +kernel) ⟨rfl, rfl⟩) ?_
  refine xa_cons 19 ((And.intro hr (by decide +kernel))) ?_
  exact xa_nil
def xrp_281 : Nat → Nat := fun k => ([0, 1, 2, 5, 6, 7, 8, 11, 12, 13, 16, 17, 20, 21, 22, 23, 24, 25, 26, 27, 30, 31, 34, 35] : List Nat).getD k 0
set_option maxRecDepth 20000 in
set_option maxHeartbeats 4000000 in
theorem xz_281 {l : Launch} {D : va_G} {en : XE} : x_Ok xT l D xcl en xrn (xG en) 281 xc_281 := by
  refine ⟨prog_10_method_18_code, (some .boolean), xBIG, xrp_281, by decide +kernel, rfl, rfl, ?_⟩
  intro p e R s m args below meth c s₁ A Q pc i f1 f2 B hml hA hg hi
  obtain ⟨hx, hb, hr, hown, hlocks, hin, htsB, S⟩ := xb_all (C := "ExpressHouse$Schema") B hml rfl rfl
  obtain ⟨hgN, hgZ, hgS, hgS2⟩ := xG_all hg
  refine xa_at (i := i) (pc := pc) ?_ hi
  refine xa_cons 0 ((And.intro (by decide) (Or.inl (Exists.intro (1) (And.intro rfl (And.intro (by decide +kernel) rfl)))))) ?_
  refine xa_cons 1 (xc_iconst hx hb (z := 3) (b := 3) (And.intro (by decide +kernel) rfl) (by decide +kernel) ⟨rfl, rfl⟩) ?_
  refine xa_cons 2 ((And.intro (by decide) (Exists.intro (32) (And.intro (by decide +kernel) (And.intro (by decide +kernel) rfl))))) ?_
  refine xa_cons 3 ((And.intro (by decide) (Or.inl (Exists.intro (1) (And.intro rfl (And.intro (by decide +kernel) rfl)))))) ?_
  refine xa_cons 4 (xc_iconst hx hb (z := 3) (b := 3) (And.intro (by decide +kernel) rfl) (by decide +kernel) ⟨rfl, rfl⟩) ?_
  refine xa_cons 5 ((And.intro (by decide) (Or.inl (Exists.intro (0) (And.intro rfl (And.intro (by decide +kernel) rfl)))))) ?_
  refine xa_cons 6 (xc_getf (A := A) (own := "ExpressHouse$Schema") (index := 37) hx hb htsB xC_3 hown rfl (by decide) xw_224 (And.intro (by decide +kernel) rfl)) ?_
  refine xa_cons 7 ((And.intro (by decide +kernel) rfl)) ?_
  refine xa_cons 8 ((And.intro (by decide) (And.intro (by decide +kernel) rfl))) ?_
  refine xa_cons 9 ((And.intro (by decide) (Exists.intro (21) (And.intro (by decide +kernel) (And.intro (by decide +kernel) rfl))))) ?_
  refine xa_cons 10 ((And.intro (by decide) (Or.inl (Exists.intro (0) (And.intro rfl (And.intro (by decide +kernel) rfl)))))) ?_
  refine xa_cons 11 (xc_getf (A := A) (own := "ExpressHouse$Schema") (index := 37) hx hb htsB xC_3 hown rfl (by decide) xw_224 (And.intro (by decide +kernel) rfl)) ?_
  refine xa_cons 12 ((And.intro (by decide) (Or.inl (Exists.intro (1) (And.intro rfl (And.intro (by decide +kernel) rfl)))))) ?_
  refine xa_cons 13 (xc_iconst hx hb (z := 3) (b := 3) (And.intro (by decide +kernel) rfl) (by decide +kernel) ⟨rfl, rfl⟩) ?_
  refine xa_cons 14 ((And.intro (by decide) (And.intro (by decide +kernel) rfl))) ?_
  refine xa_cons 15 ((And.intro (by decide) (And.intro (by decide +kernel) rfl))) ?_
  refine xa_cons 16 (xc_iconst hx hb (z := 4) (b := 4) (And.intro (by decide +kernel) rfl) (by decide +kernel) ⟨rfl, rfl⟩) ?_
  refine xa_cons 17 ((And.intro (by decide) (And.intro (by decide +kernel) rfl))) ?_
  refine xa_cons 18 (xc_iconst hx hb (z := 1) (b := 1) (And.intro (by decide +kernel) rfl) (by decide +kernel) ⟨rfl, rfl⟩) ?_
  refine xa_cons 19 ((And.intro (by decide) (Exists.intro (7) (And.intro (by decide +kernel) (And.intro (by decide +kernel) rfl))))) ?_
  refine xa_cons 20 (xc_iconst hx hb (z := 1) (b := 1) (And.intro (by decide +kernel) rfl) (by decide +kernel) ⟨rfl, rfl⟩) ?_
  refine xa_cons 21 ((Exists.intro (4) (And.intro (by decide +kernel) (by decide +kernel)))) ?_
  refine xa_cons 22 (xc_iconst hx hb (z := 0) (b := 0) (And.intro (by decide +kernel) rfl) (by decide +kernel) ⟨rfl, rfl⟩) ?_
  refine xa_cons 23 ((And.intro hr (by decide +kernel))) ?_
  exact xa_nil
def xrp_282 : Nat → Nat := fun k => ([0, 1, 4, 6, 9, 10, 11, 14, 15, 18, 20, 23, 26, 27, 28, 31, 32, 33, 36, 37, 40, 43, 44, 47, 49, 52, 55, 56, 59, 62, 63, 66, 68, 71, 72, 73, 76, 77, 78, 79, 81, 84, 85, 88, 89, 92, 94, 97, 100, 101, 104, 107, 108, 109, 112, 113, 116, 117, 118, 121, 124, 127, 128, 131, 133, 136, 137, 140, 143] : List Nat).getD k 0
set_option maxRecDepth 20000 in
set_option maxHeartbeats 4000000 in
theorem xz_282 {l : Launch} {D : va_G} {en : XE} : x_Ok xT l D xcl en xrn (xG en) 282 xc_282 := by
  refine ⟨prog_11_method_23_code, none, xBIG, xrp_282, by decide +kernel, rfl, rfl, ?_⟩
  intro p e R s m args below meth c s₁ A Q pc i f1 f2 B hml hA hg hi
  obtain ⟨hx, hb, hr, hown, hlocks, hin, htsB, S⟩ := xb_all (C := "ExpressHouse$SchemaReader") B hml rfl rfl
  obtain ⟨hgN, hgZ, hgS, hgS2⟩ := xG_all hg
  refine xa_at (i := i) (pc := pc) ?_ hi
  refine xa_cons 0 ((And.intro (by decide) (Or.inl (Exists.intro (0) (And.intro rfl (And.intro (by decide +kernel) rfl)))))) ?_
  refine xa_cons 1 (xc_getf (A := A) (own := "ExpressHouse$SchemaReader") (index := 22) hx hb htsB xC_5 hown rfl (by decide) xw_258 (And.intro (by decide +kernel) rfl)) ?_
  refine xa_cons 2 (xc_bipush hx hb (z := 18) (b := 18) (And.intro (by decide +kernel) rfl) (by decide +kernel) ⟨rfl, rfl⟩) ?_
  refine xa_cons 3 ((And.intro (xc_callV (index := 100) (n := 1) (ci := 1) S xg_154 rfl xw_7 xw_750 xw_748 xw_749 rfl rfl rfl ⟨by decide, by decide, by decide +kernel⟩ rfl (And.intro (by decide +kernel) rfl)) (by decide +kernel))) ?_
  refine xa_cons 4 ((And.intro (Or.inl rfl) (Or.inl (Exists.intro (2) (And.intro rfl (And.intro (by decide +kernel) rfl)))))) ?_
  refine xa_cons 5 ((And.intro (by decide) (Or.inl (Exists.intro (2) (And.intro rfl (And.intro (by decide +kernel) rfl)))))) ?_
  refine xa_cons 6 ((And.intro (by decide) (Exists.intro (21) (And.intro (by decide +kernel) (And.intro (by decide +kernel) rfl))))) ?_
  refine xa_cons 7 ((And.intro (by decide) (Or.inl (Exists.intro (0) (And.intro rfl (And.intro (by decide +kernel) rfl)))))) ?_
  refine xa_cons 8 (xc_getf (A := A) (own := "ExpressHouse$SchemaReader") (index := 22) hx hb htsB xC_5 hown rfl (by decide) xw_258 (And.intro (by decide +kernel) rfl)) ?_
  refine xa_cons 9 (xc_bipush hx hb (z := 73) (b := 73) (And.intro (by decide +kernel) rfl) (by decide +kernel) ⟨rfl, rfl⟩) ?_
  refine xa_cons 10 ((And.intro (xc_callV (index := 100) (n := 1) (ci := 1) S xg_154 rfl xw_7 xw_750 xw_748 xw_749 rfl rfl rfl ⟨by decide, by decide, by decide +kernel⟩ rfl (And.intro (by decide +kernel) rfl)) (by decide +kernel))) ?_
  refine xa_cons 11 ((And.intro (by decide) (Exists.intro (9) (And.intro (by decide +kernel) (And.intro (by decide +kernel) rfl))))) ?_
  refine xa_cons 12 ((And.intro (by decide) (Or.inl (Exists.intro (0) (And.intro rfl (And.intro (by decide +kernel) rfl)))))) ?_
  refine xa_cons 13 ((And.intro (by decide) (Or.inl (Exists.intro (1) (And.intro rfl (And.intro (by decide +kernel) rfl)))))) ?_
  refine xa_cons 14 ((And.intro (xc_callV (index := 247) (n := 1) (ci := 5) S xg_308 rfl xw_29 xw_1341 xw_1339 xw_1340 rfl rfl rfl ⟨by decide, by decide, by decide +kernel⟩ rfl (And.intro (by decide +kernel) rfl)) (by decide +kernel))) ?_
  refine xa_cons 15 ((And.intro hr (by decide +kernel))) ?_
  refine xa_cons 16 ((And.intro (by decide) (Or.inl (Exists.intro (2) (And.intro rfl (And.intro (by decide +kernel) rfl)))))) ?_
  refine xa_cons 17 ((And.intro (by decide) (Exists.intro (10) (And.intro (by decide +kernel) (And.intro (by decide +kernel) rfl))))) ?_
  refine xa_cons 18 ((And.intro (by decide) (Or.inl (Exists.intro (0) (And.intro rfl (And.intro (by decide +kernel) rfl)))))) ?_
  refine xa_cons 19 (xc_getf (A := A) (own := "ExpressHouse$SchemaReader") (index := 22) hx hb htsB xC_5 hown rfl (by decide) xw_258 (And.intro (by decide +kernel) rfl)) ?_
  refine xa_cons 20 ((And.intro (xc_callV (index := 126) (n := 0) (ci := 1) S xg_147 rfl xw_7 xw_737 xw_721 xw_722 rfl rfl rfl ⟨by decide, by decide, by decide +kernel⟩ rfl (And.intro (by decide +kernel) rfl)) (by decide +kernel))) ?_
  refine xa_cons 21 ((And.intro (by decide) (Or.inl (Exists.intro (0) (And.intro rfl (And.intro (by decide +kernel) rfl)))))) ?_
  refine xa_cons 22 (xc_getf (A := A) (own := "ExpressHouse$SchemaReader") (index := 22) hx hb htsB xC_5 hown rfl (by decide) xw_258 (And.intro (by decide +kernel) rfl)) ?_
  refine xa_cons 23 (xc_bipush hx hb (z := 73) (b := 73) (And.intro (by decide +kernel) rfl) (by decide +kernel) ⟨rfl, rfl⟩) ?_
  refine xa_cons 24 ((And.intro (xc_callV (index := 100) (n := 1) (ci := 1) S xg_154 rfl xw_7 xw_750 xw_748 xw_749 rfl rfl rfl ⟨by decide, by decide, by decide +kernel⟩ rfl (And.intro (by decide +kernel) rfl)) (by decide +kernel))) ?_
  refine xa_cons 25 ((And.intro (by decide) (Exists.intro (10) (And.intro (by decide +kernel) (And.intro (by decide +kernel) rfl))))) ?_
  refine xa_cons 26 ((And.intro (by decide) (Or.inl (Exists.intro (0) (And.intro rfl (And.intro (by decide +kernel) rfl)))))) ?_
  refine xa_cons 27 (xc_getf (A := A) (own := "ExpressHouse$SchemaReader") (index := 22) hx hb htsB xC_5 hown rfl (by decide) xw_258 (And.intro (by decide +kernel) rfl)) ?_
  refine xa_cons 28 ((And.intro (xc_callV (index := 250) (n := 0) (ci := 1) S xg_309 rfl xw_7 xw_1344 xw_1342 xw_1343 rfl rfl rfl ⟨by decide, by decide, by decide +kernel⟩ rfl (And.intro (by decide +kernel) rfl)) (by decide +kernel))) ?_
  refine xa_cons 29 ((And.intro (by decide) (Or.inl (Exists.intro (0) (And.intro rfl (And.intro (by decide +kernel) rfl)))))) ?_
  refine xa_cons 30 (xc_getf (A := A) (own := "ExpressHouse$SchemaReader") (index := 22) hx hb htsB xC_5 hown rfl (by decide) xw_258 (And.intro (by decide +kernel) rfl)) ?_
  refine xa_cons 31 (xc_bipush hx hb (z := 73) (b := 73) (And.intro (by decide +kernel) rfl) (by decide +kernel) ⟨rfl, rfl⟩) ?_
  refine xa_cons 32 ((And.intro (xc_callV (index := 60) (n := 1) (ci := 1) S xg_94 rfl xw_7 xw_502 xw_500 xw_501 rfl rfl rfl ⟨by decide, by decide, by decide +kernel⟩ rfl (And.intro (by decide +kernel) rfl)) (by decide +kernel))) ?_
  refine xa_cons 33 ((And.intro (by decide) (Or.inl (Exists.intro (0) (And.intro rfl (And.intro (by decide +kernel) rfl)))))) ?_
  refine xa_cons 34 ((And.intro (by decide) (Or.inl (Exists.intro (1) (And.intro rfl (And.intro (by decide +kernel) rfl)))))) ?_
  refine xa_cons 35 ((And.intro (xc_callV (index := 227) (n := 1) (ci := 5) S xg_160 rfl xw_29 xw_771 xw_769 xw_770 rfl rfl rfl ⟨by decide, by decide, by decide +kernel⟩ rfl (And.intro (by decide +kernel) rfl)) (by decide +kernel))) ?_
  refine xa_cons 36 (xc_iconst hx hb (z := 0) (b := 0) (And.intro (by decide +kernel) rfl) (by decide +kernel) ⟨rfl, rfl⟩) ?_
  refine xa_cons 37 ((And.intro (Or.inl rfl) (Or.inl (Exists.intro (3) (And.intro rfl (And.intro (by decide +kernel) rfl)))))) ?_
  refine xa_cons 38 ((And.intro (by decide) (Or.inl (Exists.intro (3) (And.intro rfl (And.intro (by decide +kernel) rfl)))))) ?_
  refine xa_cons 39 (xc_ldc (own := "ExpressHouse$SchemaReader") (index := 64) (b := 1000000) hx hb hown (htsB _ xw_503) (And.intro (by decide +kernel) rfl) ⟨rfl, rfl⟩) ?_
  refine xa_cons 40 ((And.intro (by decide) (Exists.intro (46) (And.intro (by decide +kernel) (And.intro (by decide +kernel) rfl))))) ?_
  refine xa_cons 41 ((And.intro (by decide) (Or.inl (Exists.intro (2) (And.intro rfl (And.intro (by decide +kernel) rfl)))))) ?_
  refine xa_cons 42 ((And.intro (by decide) (Exists.intro (42) (And.intro (by decide +kernel) (And.intro (by decide +kernel) rfl))))) ?_
  refine xa_cons 43 ((And.intro (by decide) (Or.inl (Exists.intro (0) (And.intro rfl (And.intro (by decide +kernel) rfl)))))) ?_
  refine xa_cons 44 (xc_getf (A := A) (own := "ExpressHouse$SchemaReader") (index := 22) hx hb htsB xC_5 hown rfl (by decide) xw_258 (And.intro (by decide +kernel) rfl)) ?_
  refine xa_cons 45 (xc_bipush hx hb (z := 77) (b := 77) (And.intro (by decide +kernel) rfl) (by decide +kernel) ⟨rfl, rfl⟩) ?_
  refine xa_cons 46 ((And.intro (xc_callV (index := 100) (n := 1) (ci := 1) S xg_154 rfl xw_7 xw_750 xw_748 xw_749 rfl rfl rfl ⟨by decide, by decide, by decide +kernel⟩ rfl (And.intro (by decide +kernel) rfl)) (by decide +kernel))) ?_
  refine xa_cons 47 ((And.intro (by decide) (Exists.intro (30) (And.intro (by decide +kernel) (And.intro (by decide +kernel) rfl))))) ?_
  refine xa_cons 48 ((And.intro (by decide) (Or.inl (Exists.intro (0) (And.intro rfl (And.intro (by decide +kernel) rfl)))))) ?_
  refine xa_cons 49 (xc_getf (A := A) (own := "ExpressHouse$SchemaReader") (index := 22) hx hb htsB xC_5 hown rfl (by decide) xw_258 (And.intro (by decide +kernel) rfl)) ?_
  refine xa_cons 50 ((And.intro (xc_callV (index := 126) (n := 0) (ci := 1) S xg_147 rfl xw_7 xw_737 xw_721 xw_722 rfl rfl rfl ⟨by decide, by decide, by decide +kernel⟩ rfl (And.intro (by decide +kernel) rfl)) (by decide +kernel))) ?_
  refine xa_cons 51 ((And.intro (by decide) (Or.inl (Exists.intro (0) (And.intro rfl (And.intro (by decide +kernel) rfl)))))) ?_
  refine xa_cons 52 ((And.intro (by decide) (Or.inl (Exists.intro (1) (And.intro rfl (And.intro (by decide +kernel) rfl)))))) ?_
  refine xa_cons 53 ((And.intro (xc_callV (index := 227) (n := 1) (ci := 5) S xg_160 rfl xw_29 xw_771 xw_769 xw_770 rfl rfl rfl ⟨by decide, by decide, by decide +kernel⟩ rfl (And.intro (by decide +kernel) rfl)) (by decide +kernel))) ?_
  refine xa_cons 54 ((And.intro (by decide) (Or.inl (Exists.intro (0) (And.intro rfl (And.intro (by decide +kernel) rfl)))))) ?_
  refine xa_cons 55 (xc_getf (A := A) (own := "ExpressHouse$SchemaReader") (index := 26) hx hb htsB xC_5 hown rfl (by decide) xw_259 (And.intro (by decide +kernel) rfl)) ?_
  refine xa_cons 56 (xc_iconst hx hb (z := 2) (b := 2) (And.intro (by decide +kernel) rfl) (by decide +kernel) ⟨rfl, rfl⟩) ?_
  refine xa_cons 57 (xc_iconst hx hb (z := 0) (b := 0) (And.intro (by decide +kernel) rfl) (by decide +kernel) ⟨rfl, rfl⟩) ?_
  refine xa_cons 58 ((And.intro (xc_callV (index := 230) (n := 2) (ci := 4) S xg_161 rfl xw_22 xw_774 xw_772 xw_773 rfl rfl rfl ⟨by decide, by decide, by decide +kernel⟩ rfl (And.intro (by decide +kernel) rfl)) (by decide +kernel))) ?_
  refine xa_cons 59 ((Exists.intro (1) (And.intro (And.intro (by decide +kernel) rfl) (by decide +kernel)))) ?_
  refine xa_cons 60 ((Exists.intro (-46) (And.intro (by decide +kernel) (by decide +kernel)))) ?_
  refine xa_cons 61 ((And.intro (by decide) (Or.inl (Exists.intro (0) (And.intro rfl (And.intro (by decide +kernel) rfl)))))) ?_
  refine xa_cons 62 (xc_getf (A := A) (own := "ExpressHouse$SchemaReader") (index := 22) hx hb htsB xC_5 hown rfl (by decide) xw_258 (And.intro (by decide +kernel) rfl)) ?_
  refine xa_cons 63 (xc_bipush hx hb (z := 74) (b := 74) (And.intro (by decide +kernel) rfl) (by decide +kernel) ⟨rfl, rfl⟩) ?_
  refine xa_cons 64 ((And.intro (xc_callV (index := 60) (n := 1) (ci := 1) S xg_94 rfl xw_7 xw_502 xw_500 xw_501 rfl rfl rfl ⟨by decide, by decide, by decide +kernel⟩ rfl (And.intro (by decide +kernel) rfl)) (by decide +kernel))) ?_
  refine xa_cons 65 ((And.intro (by decide) (Or.inl (Exists.intro (0) (And.intro rfl (And.intro (by decide +kernel) rfl)))))) ?_
  refine xa_cons 66 (xc_getf (A := A) (own := "ExpressHouse$SchemaReader") (index := 22) hx hb htsB xC_5 hown rfl (by decide) xw_258 (And.intro (by decide +kernel) rfl)) ?_
  refine xa_cons 67 ((And.intro (xc_callV (index := 253) (n := 0) (ci := 1) S xg_310 rfl xw_7 xw_1347 xw_1345 xw_1346 rfl rfl rfl ⟨by decide, by decide, by decide +kernel⟩ rfl (And.intro (by decide +kernel) rfl)) (by decide +kernel))) ?_
  refine xa_cons 68 ((And.intro hr (by decide +kernel))) ?_
  exact xa_nil
def xrp_283 : Nat → Nat := fun k => ([0, 1, 4, 7, 8, 9, 11, 13, 14, 15, 16, 18, 19, 20, 21, 23] : List Nat).getD k 0
set_option maxRecDepth 20000 in
set_option maxHeartbeats 4000000 in
theorem xz_283 {l : Launch} {D : va_G} {en : XE} : x_Ok xT l D xcl en xrn (xG en) 283 xc_283 := by
  refine ⟨prog_11_method_26_code, (some (.array (.int))), xBIG, xrp_283, by decide +kernel, rfl, rfl, ?_⟩
  intro p e R s m args below meth c s₁ A Q pc i f1 f2 B hml hA hg hi
  obtain ⟨hx, hb, hr, hown, hlocks, hin, htsB, S⟩ := xb_all (C := "ExpressHouse$SchemaReader") B hml rfl rfl
  obtain ⟨hgN, hgZ, hgS, hgS2⟩ := xG_all hg
  refine xa_at (i := i) (pc := pc) ?_ hi
  refine xa_cons 0 ((And.intro (by decide) (Or.inl (Exists.intro (0) (And.intro rfl (And.intro (by decide +kernel) rfl)))))) ?_
  refine xa_cons 1 (xc_getf (A := A) (own := "ExpressHouse$SchemaReader") (index := 12) hx hb htsB xC_5 hown rfl (by decide) xw_256 (And.intro (by decide +kernel) rfl)) ?_
  refine xa_cons 2 (xc_getf (A := A) (own := "ExpressHouse$SchemaReader") (index := 265) hx hb htsB xC_3 hown rfl (by decide) xw_1245 (And.intro (by decide +kernel) rfl)) ?_
  refine xa_cons 3 ((And.intro (by decide) (Or.inl (Exists.intro (1) (And.intro rfl (And.intro (by decide +kernel) rfl)))))) ?_
  refine xa_cons 4 ((And.intro (by decide) (And.intro (by decide +kernel) rfl))) ?_
  refine xa_cons 5 ((And.intro (Or.inr rfl) (Or.inr (And.intro (by decide +kernel) rfl)))) ?_
  refine xa_cons 6 ((And.intro (by decide) (Or.inr (And.intro (by decide +kernel) rfl)))) ?_
  refine xa_cons 7 (xc_iconst hx hb (z := 0) (b := 0) (And.intro (by decide +kernel) rfl) (by decide +kernel) ⟨rfl, rfl⟩) ?_
  refine xa_cons 8 ((And.intro (by decide) (Or.inl (Exists.intro (2) (And.intro rfl (And.intro (by decide +kernel) rfl)))))) ?_
  refine xa_cons 9 ((And.intro (by decide) (And.intro (by decide +kernel) rfl))) ?_
  refine xa_cons 10 ((And.intro (by decide) (Or.inr (And.intro (by decide +kernel) rfl)))) ?_
  refine xa_cons 11 (xc_iconst hx hb (z := 1) (b := 1) (And.intro (by decide +kernel) rfl) (by decide +kernel) ⟨rfl, rfl⟩) ?_
  refine xa_cons 12 ((And.intro (by decide) (Or.inl (Exists.intro (3) (And.intro rfl (And.intro (by decide +kernel) rfl)))))) ?_
  refine xa_cons 13 ((And.intro (by decide) (And.intro (by decide +kernel) rfl))) ?_
  refine xa_cons 14 ((And.intro (by decide) (Or.inr (And.intro (by decide +kernel) rfl)))) ?_
  refine xa_cons 15 ((And.intro (Exists.intro (_) (And.intro hr (Or.inr ⟨_, rfl⟩))) (by decide +kernel))) ?_
  exact xa_nil
def xrp_284 : Nat → Nat := fun k => ([0, 1, 4, 5, 8, 9, 12, 13, 16, 19, 20, 23, 24, 25, 28, 31, 34] : List Nat).getD k 0
set_option maxRecDepth 20000 in
set_option maxHeartbeats 4000000 in
theorem xz_284 {l : Launch} {D : va_G} {en : XE} : x_Ok xT l D xcl en xrn (xG en) 284 xc_284 := by
  refine ⟨prog_11_method_30_code, none, xBIG, xrp_284, by decide +kernel, rfl, rfl, ?_⟩
  intro p e R s m args below meth c s₁ A Q pc i f1 f2 B hml hA hg hi
  obtain ⟨hx, hb, hr, hown, hlocks, hin, htsB, S⟩ := xb_all (C := "ExpressHouse$SchemaReader") B hml rfl rfl
  obtain ⟨hgN, hgZ, hgS, hgS2⟩ := xG_all hg
  refine xa_at (i := i) (pc := pc) ?_ hi
  refine xa_cons 0 ((And.intro (by decide) (Or.inl (Exists.intro (0) (And.intro rfl (And.intro (by decide +kernel) rfl)))))) ?_
  refine xa_cons 1 (xc_getf (A := A) (own := "ExpressHouse$SchemaReader") (index := 33) hx hb htsB xC_5 hown rfl (by decide) xw_490 (And.intro (by decide +kernel) rfl)) ?_
  refine xa_cons 2 (xc_iconst hx hb (z := 3) (b := 3) (And.intro (by decide +kernel) rfl) (by decide +kernel) ⟨rfl, rfl⟩) ?_
  refine xa_cons 3 ((And.intro (by decide) (Exists.intro (29) (And.intro (by decide +kernel) (And.intro (by decide +kernel) rfl))))) ?_
  refine xa_cons 4 ((And.intro (by decide) (Or.inl (Exists.intro (0) (And.intro rfl (And.intro (by decide +kernel) rfl)))))) ?_
  refine xa_cons 5 (xc_getf (A := A) (own := "ExpressHouse$SchemaReader") (index := 22) hx hb htsB xC_5 hown rfl (by decide) xw_258 (And.intro (by decide +kernel) rfl)) ?_
  refine xa_cons 6 (xc_iconst hx hb (z := 1) (b := 1) (And.intro (by decide +kernel) rfl) (by decide +kernel) ⟨rfl, rfl⟩) ?_
  refine xa_cons 7 ((And.intro (xc_callV (index := 100) (n := 1) (ci := 1) S xg_154 rfl xw_7 xw_750 xw_748 xw_749 rfl rfl rfl ⟨by decide, by decide, by decide +kernel⟩ rfl (And.intro (by decide +kernel) rfl)) (by decide +kernel))) ?_
  refine xa_cons 8 ((And.intro (by decide) (Exists.intro (18) (And.intro (by decide +kernel) (And.intro (by decide +kernel) rfl))))) ?_
  refine xa_cons 9 ((And.intro (by decide) (Or.inl (Exists.intro (0) (And.intro rfl (And.intro (by decide +kernel) rfl)))))) ?_
  refine xa_cons 10 (xc_getf (A := A) (own := "ExpressHouse$SchemaReader") (index := 22) hx hb htsB xC_5 hown rfl (by decide) xw_258 (And.intro (by decide +kernel) rfl)) ?_
  refine xa_cons 11 (xc_iconst hx hb (z := 4) (b := 4) (And.intro (by decide +kernel) rfl) (by decide +kernel) ⟨rfl, rfl⟩) ?_
  refine xa_cons 12 ((And.intro (by decide) (Or.inl (Exists.intro (0) (And.intro rfl (And.intro (by decide +kernel) rfl)))))) ?_
  refine xa_cons 13 (xc_getf (A := A) (own := "ExpressHouse$SchemaReader") (index := 22) hx hb htsB xC_5 hown rfl (by decide) xw_258 (And.intro (by decide +kernel) rfl)) ?_
  refine xa_cons 14 (xc_getf (A := A) (own := "ExpressHouse$SchemaReader") (index := 119) hx hb htsB xC_1 hown rfl (by decide) xw_738 (And.intro (by decide +kernel) rfl)) ?_
  refine xa_cons 15 ((And.intro (xc_callV (index := 122) (n := 2) (ci := 1) S xg_153 rfl xw_7 xw_747 xw_745 xw_746 rfl rfl rfl ⟨by decide, by decide, by decide +kernel⟩ rfl (And.intro (by decide +kernel) rfl)) (by decide +kernel))) ?_
  refine xa_cons 16 ((And.intro hr (by decide +kernel))) ?_
  exact xa_nil
def xrp_285 : Nat → Nat := fun k => ([0, 1, 4, 5, 6, 9, 12, 15, 16, 17, 20, 21, 24, 27, 28, 31, 32, 33, 36, 39, 40, 43, 44, 45, 46, 49, 50, 53, 54, 57, 58, 61, 62, 65, 66, 67, 68, 71, 72] : List Nat).getD k 0
set_option maxRecDepth 20000 in
set_option maxHeartbeats 4000000 in
theorem xz_285 {l : Launch} {D : va_G} {en : XE} : x_Ok xT l D xcl en xrn (xG en) 285 xc_285 := by
  refine ⟨prog_11_method_33_code, (some .long), xBIG, xrp_285, by decide +kernel, rfl, rfl, ?_⟩
  intro p e R s m args below meth c s₁ A Q pc i f1 f2 B hml hA hg hi
  obtain ⟨hx, hb, hr, hown, hlocks, hin, htsB, S⟩ := xb_all (C := "ExpressHouse$SchemaReader") B hml rfl rfl
  obtain ⟨hgN, hgZ, hgS, hgS2⟩ := xG_all hg
  refine xa_at (i := i) (pc := pc) ?_ hi
  refine xa_cons 0 ((And.intro (by decide) (Or.inl (Exists.intro (0) (And.intro rfl (And.intro (by decide +kernel) rfl)))))) ?_
  refine xa_cons 1 (xc_getf (A := A) (own := "ExpressHouse$SchemaReader") (index := 12) hx hb htsB xC_5 hown rfl (by decide) xw_256 (And.intro (by decide +kernel) rfl)) ?_
  refine xa_cons 2 (xc_iconst hx hb (z := 3) (b := 3) (And.intro (by decide +kernel) rfl) (by decide +kernel) ⟨rfl, rfl⟩) ?_
  refine xa_cons 3 ((And.intro (by decide) (Or.inl (Exists.intro (0) (And.intro rfl (And.intro (by decide +kernel) rfl)))))) ?_
  refine xa_cons 4 (xc_getf (A := A) (own := "ExpressHouse$SchemaReader") (index := 22) hx hb htsB xC_5 hown rfl (by decide) xw_258 (And.intro (by decide +kernel) rfl)) ?_
  refine xa_cons 5 (xc_getf (A := A) (own := "ExpressHouse$SchemaReader") (index := 104) hx hb htsB xC_1 hown rfl (by decide) xw_1005 (And.intro (by decide +kernel) rfl)) ?_
  refine xa_cons 6 ((And.intro (xc_callV (index := 180) (n := 2) (ci := 3) S xg_217 rfl xw_15 xw_1027 xw_981 xw_982 rfl rfl rfl ⟨by decide, by decide, by decide +kernel⟩ rfl (And.intro (by decide +kernel) rfl)) (by decide +kernel))) ?_
  refine xa_cons 7 ((And.intro (Or.inl rfl) (Or.inl (Exists.intro (2) (And.intro rfl (And.intro (by decide +kernel) rfl)))))) ?_
  refine xa_cons 8 ((And.intro (by decide) (Or.inl (Exists.intro (0) (And.intro rfl (And.intro (by decide +kernel) rfl)))))) ?_
  refine xa_cons 9 (xc_getf (A := A) (own := "ExpressHouse$SchemaReader") (index := 12) hx hb htsB xC_5 hown rfl (by decide) xw_256 (And.intro (by decide +kernel) rfl)) ?_
  refine xa_cons 10 ((And.intro (by decide) (Or.inl (Exists.intro (2) (And.intro rfl (And.intro (by decide +kernel) rfl)))))) ?_
  refine xa_cons 11 ((And.intro (xc_callV (index := 271) (n := 1) (ci := 3) S xg_210 rfl xw_15 xw_1244 xw_947 xw_948 rfl rfl rfl ⟨by decide, by decide, by decide +kernel⟩ rfl (And.intro (by decide +kernel) rfl)) (by decide +kernel))) ?_
  refine xa_cons 12 ((And.intro (by decide) (Exists.intro (19) (And.intro (by decide +kernel) (And.intro (by decide +kernel) rfl))))) ?_
  refine xa_cons 13 ((And.intro (by decide) (Or.inl (Exists.intro (0) (And.intro rfl (And.intro (by decide +kernel) rfl)))))) ?_
  refine xa_cons 14 (xc_getf (A := A) (own := "ExpressHouse$SchemaReader") (index := 26) hx hb htsB xC_5 hown rfl (by decide) xw_259 (And.intro (by decide +kernel) rfl)) ?_
  refine xa_cons 15 ((And.intro (by decide) (Or.inl (Exists.intro (1) (And.intro rfl (And.intro (by decide +kernel) rfl)))))) ?_
  refine xa_cons 16 ((And.intro (by decide) (Or.inl (Exists.intro (2) (And.intro rfl (And.intro (by decide +kernel) rfl)))))) ?_
  refine xa_cons 17 ((And.intro (xc_callV (index := 289) (n := 2) (ci := 4) S xg_311 rfl xw_22 xw_1350 xw_1348 xw_1349 rfl rfl rfl ⟨by decide, by decide, by decide +kernel⟩ rfl (And.intro (by decide +kernel) rfl)) (by decide +kernel))) ?_
  refine xa_cons 18 ((And.intro (by decide) (Exists.intro (7) (And.intro (by decide +kernel) (And.intro (by decide +kernel) rfl))))) ?_
  refine xa_cons 19 (xc_iconst hx hb (z := 1) (b := 1) (And.intro (by decide +kernel) rfl) (by decide +kernel) ⟨rfl, rfl⟩) ?_
  refine xa_cons 20 ((Exists.intro (4) (And.intro (by decide +kernel) (by decide +kernel)))) ?_
  refine xa_cons 21 (xc_iconst hx hb (z := 0) (b := 0) (And.intro (by decide +kernel) rfl) (by decide +kernel) ⟨rfl, rfl⟩) ?_
  refine xa_cons 22 ((And.intro (Or.inl rfl) (Or.inl (Exists.intro (3) (And.intro rfl (And.intro (by decide +kernel) rfl)))))) ?_
  refine xa_cons 23 ((And.intro (by decide) (Or.inl (Exists.intro (3) (And.intro rfl (And.intro (by decide +kernel) rfl)))))) ?_
  refine xa_cons 24 ((And.intro (by decide) (Exists.intro (7) (And.intro (by decide +kernel) (And.intro (by decide +kernel) rfl))))) ?_
  refine xa_cons 25 ((And.intro (by decide) (Or.inl (Exists.intro (0) (And.intro rfl (And.intro (by decide +kernel) rfl)))))) ?_
  refine xa_cons 26 ((And.intro (xc_callV (index := 274) (n := 0) (ci := 5) S xg_284 rfl xw_29 xw_1248 xw_1246 xw_1247 rfl rfl rfl ⟨by decide, by decide, by decide +kernel⟩ rfl (And.intro (by decide +kernel) rfl)) (by decide +kernel))) ?_
  refine xa_cons 27 ((And.intro (by decide) (Or.inl (Exists.intro (0) (And.intro rfl (And.intro (by decide +kernel) rfl)))))) ?_
  refine xa_cons 28 (xc_getf (A := A) (own := "ExpressHouse$SchemaReader") (index := 22) hx hb htsB xC_5 hown rfl (by decide) xw_258 (And.intro (by decide +kernel) rfl)) ?_
  refine xa_cons 29 (xc_iconst hx hb (z := 1) (b := 1) (And.intro (by decide +kernel) rfl) (by decide +kernel) ⟨rfl, rfl⟩) ?_
  refine xa_cons 30 ((And.intro (xc_callV (index := 60) (n := 1) (ci := 1) S xg_94 rfl xw_7 xw_502 xw_500 xw_501 rfl rfl rfl ⟨by decide, by decide, by decide +kernel⟩ rfl (And.intro (by decide +kernel) rfl)) (by decide +kernel))) ?_
  refine xa_cons 31 ((And.intro (by decide) (Or.inl (Exists.intro (3) (And.intro rfl (And.intro (by decide +kernel) rfl)))))) ?_
  refine xa_cons 32 ((And.intro (by decide) (Exists.intro (9) (And.intro (by decide +kernel) (And.intro (by decide +kernel) rfl))))) ?_
  refine xa_cons 33 (xc_lconst hx hb (z := 1) (And.intro (by decide +kernel) rfl) ⟨rfl, rfl⟩) ?_
  refine xa_cons 34 ((And.intro (by decide) (Or.inl (Exists.intro (2) (And.intro rfl (And.intro (by decide +kernel) rfl)))))) ?_
  refine xa_cons 35 ((And.intro (by decide) (And.intro (by decide +kernel) rfl))) ?_
  refine xa_cons 36 ((Exists.intro (4) (And.intro (by decide +kernel) (by decide +kernel)))) ?_
  refine xa_cons 37 (xc_lconst hx hb (z := 0) (And.intro (by decide +kernel) rfl) ⟨rfl, rfl⟩) ?_
  refine xa_cons 38 ((And.intro hr (by decide +kernel))) ?_
  exact xa_nil
end AMM18
