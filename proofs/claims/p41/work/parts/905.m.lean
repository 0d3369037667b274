section AMM5
def xrp_86 : Nat → Nat := fun k => ([0, 1, 3, 6, 7, 9, 12, 13, 15, 16, 17, 18, 19, 20, 22, 25, 26, 28, 31, 32, 34, 35, 37, 38, 39, 40, 42, 45, 47, 50, 51] : List Nat).getD k 0
set_option maxRecDepth 20000 in
set_option maxHeartbeats 4000000 in
theorem xz_86 {l : Launch} {D : va_G} {en : XE} : x_Ok xT l D xcl en xrn (xG en) 86 xc_86 := by
  refine ⟨prog_12_method_3_code, (some .int), xBIG, xrp_86, by decide +kernel, rfl, rfl, ?_⟩
  intro p e R s m args below meth c s₁ A Q pc i f1 f2 B hml hA hg hi
  obtain ⟨hx, hb, hr, hown, hlocks, hin, htsB, S⟩ := xb_all (C := "ExpressHouse$Tokens") B hml rfl rfl
  obtain ⟨hgN, hgZ, hgS, hgS2⟩ := xG_all hg
  refine xa_at (i := i) (pc := pc) ?_ hi
  refine xa_cons 0 ((And.intro (by decide) (Or.inl (Exists.intro (0) (And.intro rfl (And.intro (by decide +kernel) rfl)))))) ?_
  refine xa_cons 1 (xc_bipush hx hb (z := 97) (b := 97) (And.intro (by decide +kernel) rfl) (by decide +kernel) ⟨rfl, rfl⟩) ?_
  refine xa_cons 2 ((And.intro (by decide) (Exists.intro (16) (And.intro (by decide +kernel) (And.intro (by decide +kernel) rfl))))) ?_
  refine xa_cons 3 ((And.intro (by decide) (Or.inl (Exists.intro (0) (And.intro rfl (And.intro (by decide +kernel) rfl)))))) ?_
  refine xa_cons 4 (xc_bipush hx hb (z := 122) (b := 122) (And.intro (by decide +kernel) rfl) (by decide +kernel) ⟨rfl, rfl⟩) ?_
  refine xa_cons 5 ((And.intro (by decide) (Exists.intro (10) (And.intro (by decide +kernel) (And.intro (by decide +kernel) rfl))))) ?_
  refine xa_cons 6 ((And.intro (by decide) (Or.inl (Exists.intro (0) (And.intro rfl (And.intro (by decide +kernel) rfl)))))) ?_
  refine xa_cons 7 (xc_bipush hx hb (z := 97) (b := 97) (And.intro (by decide +kernel) rfl) (by decide +kernel) ⟨rfl, rfl⟩) ?_
  refine xa_cons 8 ((And.intro (by decide) (And.intro (by decide +kernel) rfl))) ?_
  refine xa_cons 9 (xc_iconst hx hb (z := 1) (b := 1) (And.intro (by decide +kernel) rfl) (by decide +kernel) ⟨rfl, rfl⟩) ?_
  refine xa_cons 10 ((And.intro (by decide) (And.intro (by decide +kernel) rfl))) ?_
  refine xa_cons 11 ((And.intro hr (by decide +kernel))) ?_
  refine xa_cons 12 ((And.intro (by decide) (Or.inl (Exists.intro (0) (And.intro rfl (And.intro (by decide +kernel) rfl)))))) ?_
  refine xa_cons 13 (xc_bipush hx hb (z := 48) (b := 48) (And.intro (by decide +kernel) rfl) (by decide +kernel) ⟨rfl, rfl⟩) ?_
  refine xa_cons 14 ((And.intro (by decide) (Exists.intro (17) (And.intro (by decide +kernel) (And.intro (by decide +kernel) rfl))))) ?_
  refine xa_cons 15 ((And.intro (by decide) (Or.inl (Exists.intro (0) (And.intro rfl (And.intro (by decide +kernel) rfl)))))) ?_
  refine xa_cons 16 (xc_bipush hx hb (z := 57) (b := 57) (And.intro (by decide +kernel) rfl) (by decide +kernel) ⟨rfl, rfl⟩) ?_
  refine xa_cons 17 ((And.intro (by decide) (Exists.intro (11) (And.intro (by decide +kernel) (And.intro (by decide +kernel) rfl))))) ?_
  refine xa_cons 18 ((And.intro (by decide) (Or.inl (Exists.intro (0) (And.intro rfl (And.intro (by decide +kernel) rfl)))))) ?_
  refine xa_cons 19 (xc_bipush hx hb (z := 48) (b := 48) (And.intro (by decide +kernel) rfl) (by decide +kernel) ⟨rfl, rfl⟩) ?_
  refine xa_cons 20 ((And.intro (by decide) (And.intro (by decide +kernel) rfl))) ?_
  refine xa_cons 21 (xc_bipush hx hb (z := 27) (b := 27) (And.intro (by decide +kernel) rfl) (by decide +kernel) ⟨rfl, rfl⟩) ?_
  refine xa_cons 22 ((And.intro (by decide) (And.intro (by decide +kernel) rfl))) ?_
  refine xa_cons 23 ((And.intro hr (by decide +kernel))) ?_
  refine xa_cons 24 ((And.intro (by decide) (Or.inl (Exists.intro (0) (And.intro rfl (And.intro (by decide +kernel) rfl)))))) ?_
  refine xa_cons 25 (xc_bipush hx hb (z := 95) (b := 95) (And.intro (by decide +kernel) rfl) (by decide +kernel) ⟨rfl, rfl⟩) ?_
  refine xa_cons 26 ((And.intro (by decide) (Exists.intro (8) (And.intro (by decide +kernel) (And.intro (by decide +kernel) rfl))))) ?_
  refine xa_cons 27 (xc_bipush hx hb (z := 37) (b := 37) (And.intro (by decide +kernel) rfl) (by decide +kernel) ⟨rfl, rfl⟩) ?_
  refine xa_cons 28 ((Exists.intro (4) (And.intro (by decide +kernel) (by decide +kernel)))) ?_
  refine xa_cons 29 (xc_iconst hx hb (z := 0) (b := 0) (And.intro (by decide +kernel) rfl) (by decide +kernel) ⟨rfl, rfl⟩) ?_
  refine xa_cons 30 ((And.intro hr (by decide +kernel))) ?_
  exact xa_nil
def xrp_87 : Nat → Nat := fun k => ([0, 1, 3, 6, 7, 9, 12, 13, 16, 17] : List Nat).getD k 0
set_option maxRecDepth 20000 in
set_option maxHeartbeats 4000000 in
theorem xz_87 {l : Launch} {D : va_G} {en : XE} : x_Ok xT l D xcl en xrn (xG en) 87 xc_87 := by
  refine ⟨prog_12_method_6_code, (some .boolean), xBIG, xrp_87, by decide +kernel, rfl, rfl, ?_⟩
  intro p e R s m args below meth c s₁ A Q pc i f1 f2 B hml hA hg hi
  obtain ⟨hx, hb, hr, hown, hlocks, hin, htsB, S⟩ := xb_all (C := "ExpressHouse$Tokens") B hml rfl rfl
  obtain ⟨hgN, hgZ, hgS, hgS2⟩ := xG_all hg
  refine xa_at (i := i) (pc := pc) ?_ hi
  refine xa_cons 0 ((And.intro (by decide) (Or.inl (Exists.intro (0) (And.intro rfl (And.intro (by decide +kernel) rfl)))))) ?_
  refine xa_cons 1 (xc_bipush hx hb (z := 32) (b := 32) (And.intro (by decide +kernel) rfl) (by decide +kernel) ⟨rfl, rfl⟩) ?_
  refine xa_cons 2 ((And.intro (by decide) (Exists.intro (9) (And.intro (by decide +kernel) (And.intro (by decide +kernel) rfl))))) ?_
  refine xa_cons 3 ((And.intro (by decide) (Or.inl (Exists.intro (0) (And.intro rfl (And.intro (by decide +kernel) rfl)))))) ?_
  refine xa_cons 4 (xc_bipush hx hb (z := 10) (b := 10) (And.intro (by decide +kernel) rfl) (by decide +kernel) ⟨rfl, rfl⟩) ?_
  refine xa_cons 5 ((And.intro (by decide) (Exists.intro (7) (And.intro (by decide +kernel) (And.intro (by decide +kernel) rfl))))) ?_
  refine xa_cons 6 (xc_iconst hx hb (z := 1) (b := 1) (And.intro (by decide +kernel) rfl) (by decide +kernel) ⟨rfl, rfl⟩) ?_
  refine xa_cons 7 ((Exists.intro (4) (And.intro (by decide +kernel) (by decide +kernel)))) ?_
  refine xa_cons 8 (xc_iconst hx hb (z := 0) (b := 0) (And.intro (by decide +kernel) rfl) (by decide +kernel) ⟨rfl, rfl⟩) ?_
  refine xa_cons 9 ((And.intro hr (by decide +kernel))) ?_
  exact xa_nil
def xrp_88 : Nat → Nat := fun k => ([0, 1, 2, 3, 6, 9, 10, 11, 12, 13, 16, 17, 18, 19, 20, 23, 26, 27, 28, 29, 30, 33, 34, 35, 36, 37, 38, 41, 42, 43, 44, 45, 46, 49, 50, 52, 53, 54, 55, 56, 59, 60, 61, 62, 63, 64, 67, 68, 70, 71, 72, 73, 75, 77, 80, 82, 84, 85, 88, 89, 91, 92, 93, 96, 98, 100, 103, 104, 107, 108, 109, 110, 111, 112, 115, 117, 119, 120, 123, 124, 125, 126, 128, 129, 130, 133, 134] : List Nat).getD k 0
set_option maxRecDepth 20000 in
set_option maxHeartbeats 4000000 in
theorem xz_88 {l : Launch} {D : va_G} {en : XE} : x_Ok xT l D xcl en xrn (xG en) 88 xc_88 := by
  refine ⟨prog_12_method_11_code, (some .int), xBIG, xrp_88, by decide +kernel, rfl, rfl, ?_⟩
  intro p e R s m args below meth c s₁ A Q pc i f1 f2 B hml hA hg hi
  obtain ⟨hx, hb, hr, hown, hlocks, hin, htsB, S⟩ := xb_all (C := "ExpressHouse$Tokens") B hml rfl rfl
  obtain ⟨hgN, hgZ, hgS, hgS2⟩ := xG_all hg
  refine xa_at (i := i) (pc := pc) ?_ hi
  refine xa_cons 0 ((And.intro (by decide) (Or.inl (Exists.intro (1) (And.intro rfl (And.intro (by decide +kernel) rfl)))))) ?_
  refine xa_cons 1 ((And.intro (by decide) (Or.inl (Exists.intro (3) (And.intro rfl (And.intro (by decide +kernel) rfl)))))) ?_
  refine xa_cons 2 ((And.intro (by decide) (And.intro (by decide +kernel) rfl))) ?_
  refine xa_cons 3 ((And.intro (xc_callS (index := 82) S xg_141 rfl xw_7 xw_703 xw_704 ⟨by decide, by decide, by decide +kernel⟩ rfl (And.intro (by decide +kernel) rfl)) (by decide +kernel))) ?_
  refine xa_cons 4 ((And.intro (by decide) (Exists.intro (11) (And.intro (by decide +kernel) (And.intro (by decide +kernel) rfl))))) ?_
  refine xa_cons 5 ((And.intro (by decide) (Or.inl (Exists.intro (0) (And.intro rfl (And.intro (by decide +kernel) rfl)))))) ?_
  refine xa_cons 6 ((And.intro (by decide) (Or.inl (Exists.intro (1) (And.intro rfl (And.intro (by decide +kernel) rfl)))))) ?_
  refine xa_cons 7 ((And.intro (by decide) (Or.inl (Exists.intro (2) (And.intro rfl (And.intro (by decide +kernel) rfl)))))) ?_
  refine xa_cons 8 ((And.intro (by decide) (Or.inl (Exists.intro (3) (And.intro rfl (And.intro (by decide +kernel) rfl)))))) ?_
  refine xa_cons 9 ((And.intro (xc_callV (index := 85) (n := 3) (ci := 1) S xg_142 rfl xw_7 xw_707 xw_705 xw_706 rfl rfl rfl ⟨by decide, by decide, by decide +kernel⟩ rfl (And.intro (by decide +kernel) rfl)) (by decide +kernel))) ?_
  refine xa_cons 10 ((And.intro hr (by decide +kernel))) ?_
  refine xa_cons 11 ((And.intro (by decide) (Or.inl (Exists.intro (1) (And.intro rfl (And.intro (by decide +kernel) rfl)))))) ?_
  refine xa_cons 12 ((And.intro (by decide) (Or.inl (Exists.intro (3) (And.intro rfl (And.intro (by decide +kernel) rfl)))))) ?_
  refine xa_cons 13 ((And.intro (by decide) (And.intro (by decide +kernel) rfl))) ?_
  refine xa_cons 14 ((And.intro (xc_callS (index := 88) S xg_143 rfl xw_7 xw_708 xw_709 ⟨by decide, by decide, by decide +kernel⟩ rfl (And.intro (by decide +kernel) rfl)) (by decide +kernel))) ?_
  refine xa_cons 15 ((And.intro (by decide) (Exists.intro (11) (And.intro (by decide +kernel) (And.intro (by decide +kernel) rfl))))) ?_
  refine xa_cons 16 ((And.intro (by decide) (Or.inl (Exists.intro (0) (And.intro rfl (And.intro (by decide +kernel) rfl)))))) ?_
  refine xa_cons 17 ((And.intro (by decide) (Or.inl (Exists.intro (1) (And.intro rfl (And.intro (by decide +kernel) rfl)))))) ?_
  refine xa_cons 18 ((And.intro (by decide) (Or.inl (Exists.intro (2) (And.intro rfl (And.intro (by decide +kernel) rfl)))))) ?_
  refine xa_cons 19 ((And.intro (by decide) (Or.inl (Exists.intro (3) (And.intro rfl (And.intro (by decide +kernel) rfl)))))) ?_
  refine xa_cons 20 ((And.intro (xc_callV (index := 91) (n := 3) (ci := 1) S xg_144 rfl xw_7 xw_712 xw_710 xw_711 rfl rfl rfl ⟨by decide, by decide, by decide +kernel⟩ rfl (And.intro (by decide +kernel) rfl)) (by decide +kernel))) ?_
  refine xa_cons 21 ((And.intro hr (by decide +kernel))) ?_
  refine xa_cons 22 ((And.intro (by decide) (Or.inl (Exists.intro (3) (And.intro rfl (And.intro (by decide +kernel) rfl)))))) ?_
  refine xa_cons 23 (xc_iconst hx hb (z := 1) (b := 1) (And.intro (by decide +kernel) rfl) (by decide +kernel) ⟨rfl, rfl⟩) ?_
  refine xa_cons 24 ((And.intro (by decide) (And.intro (by decide +kernel) rfl))) ?_
  refine xa_cons 25 ((And.intro (by decide) (Or.inl (Exists.intro (2) (And.intro rfl (And.intro (by decide +kernel) rfl)))))) ?_
  refine xa_cons 26 ((And.intro (by decide) (Exists.intro (11) (And.intro (by decide +kernel) (And.intro (by decide +kernel) rfl))))) ?_
  refine xa_cons 27 ((And.intro (by decide) (Or.inl (Exists.intro (1) (And.intro rfl (And.intro (by decide +kernel) rfl)))))) ?_
  refine xa_cons 28 ((And.intro (by decide) (Or.inl (Exists.intro (3) (And.intro rfl (And.intro (by decide +kernel) rfl)))))) ?_
  refine xa_cons 29 (xc_iconst hx hb (z := 1) (b := 1) (And.intro (by decide +kernel) rfl) (by decide +kernel) ⟨rfl, rfl⟩) ?_
  refine xa_cons 30 ((And.intro (by decide) (And.intro (by decide +kernel) rfl))) ?_
  refine xa_cons 31 ((And.intro (by decide) (And.intro (by decide +kernel) rfl))) ?_
  refine xa_cons 32 ((Exists.intro (4) (And.intro (by decide +kernel) (by decide +kernel)))) ?_
  refine xa_cons 33 (xc_iconst hx hb (z := 0) (b := 0) (And.intro (by decide +kernel) rfl) (by decide +kernel) ⟨rfl, rfl⟩) ?_
  refine xa_cons 34 ((And.intro (Or.inl rfl) (Or.inr (And.intro (by decide +kernel) rfl)))) ?_
  refine xa_cons 35 ((And.intro (by decide) (Or.inl (Exists.intro (3) (And.intro rfl (And.intro (by decide +kernel) rfl)))))) ?_
  refine xa_cons 36 (xc_iconst hx hb (z := 2) (b := 2) (And.intro (by decide +kernel) rfl) (by decide +kernel) ⟨rfl, rfl⟩) ?_
  refine xa_cons 37 ((And.intro (by decide) (And.intro (by decide +kernel) rfl))) ?_
  refine xa_cons 38 ((And.intro (by decide) (Or.inl (Exists.intro (2) (And.intro rfl (And.intro (by decide +kernel) rfl)))))) ?_
  refine xa_cons 39 ((And.intro (by decide) (Exists.intro (11) (And.intro (by decide +kernel) (And.intro (by decide +kernel) rfl))))) ?_
  refine xa_cons 40 ((And.intro (by decide) (Or.inl (Exists.intro (1) (And.intro rfl (And.intro (by decide +kernel) rfl)))))) ?_
  refine xa_cons 41 ((And.intro (by decide) (Or.inl (Exists.intro (3) (And.intro rfl (And.intro (by decide +kernel) rfl)))))) ?_
  refine xa_cons 42 (xc_iconst hx hb (z := 2) (b := 2) (And.intro (by decide +kernel) rfl) (by decide +kernel) ⟨rfl, rfl⟩) ?_
  refine xa_cons 43 ((And.intro (by decide) (And.intro (by decide +kernel) rfl))) ?_
  refine xa_cons 44 ((And.intro (by decide) (And.intro (by decide +kernel) rfl))) ?_
  refine xa_cons 45 ((Exists.intro (4) (And.intro (by decide +kernel) (by decide +kernel)))) ?_
  refine xa_cons 46 (xc_iconst hx hb (z := 0) (b := 0) (And.intro (by decide +kernel) rfl) (by decide +kernel) ⟨rfl, rfl⟩) ?_
  refine xa_cons 47 ((And.intro (Or.inl rfl) (Or.inr (And.intro (by decide +kernel) rfl)))) ?_
  refine xa_cons 48 ((And.intro (by decide) (Or.inl (Exists.intro (1) (And.intro rfl (And.intro (by decide +kernel) rfl)))))) ?_
  refine xa_cons 49 ((And.intro (by decide) (Or.inl (Exists.intro (3) (And.intro rfl (And.intro (by decide +kernel) rfl)))))) ?_
  refine xa_cons 50 ((And.intro (by decide) (And.intro (by decide +kernel) rfl))) ?_
  refine xa_cons 51 ((And.intro (by decide) (Or.inr (And.intro (by decide +kernel) rfl)))) ?_
  refine xa_cons 52 ((And.intro (by decide) (Or.inr (And.intro (by decide +kernel) rfl)))) ?_
  refine xa_cons 53 ((And.intro (xc_callS (index := 94) S xg_145 rfl xw_7 xw_713 xw_714 ⟨by decide, by decide, by decide +kernel⟩ rfl (And.intro (by decide +kernel) rfl)) (by decide +kernel))) ?_
  refine xa_cons 54 ((And.intro (Or.inl rfl) (Or.inr (And.intro (by decide +kernel) rfl)))) ?_
  refine xa_cons 55 ((And.intro (by decide) (Or.inr (And.intro (by decide +kernel) rfl)))) ?_
  refine xa_cons 56 (xc_iconst hx hb (z := 4) (b := 4) (And.intro (by decide +kernel) rfl) (by decide +kernel) ⟨rfl, rfl⟩) ?_
  refine xa_cons 57 ((And.intro (by decide) (Exists.intro (24) (And.intro (by decide +kernel) (And.intro (by decide +kernel) rfl))))) ?_
  refine xa_cons 58 ((And.intro (by decide) (Or.inl (Exists.intro (0) (And.intro rfl (And.intro (by decide +kernel) rfl)))))) ?_
  refine xa_cons 59 ((And.intro (by decide) (Or.inr (And.intro (by decide +kernel) rfl)))) ?_
  refine xa_cons 60 ((And.intro (by decide) (Or.inl (Exists.intro (3) (And.intro rfl (And.intro (by decide +kernel) rfl)))))) ?_
  refine xa_cons 61 (xc_lconst hx hb (z := 0) (And.intro (by decide +kernel) rfl) ⟨rfl, rfl⟩) ?_
  refine xa_cons 62 ((And.intro (xc_callV (index := 75) (n := 3) (ci := 1) S xg_89 rfl xw_7 xw_483 xw_481 xw_482 rfl rfl rfl ⟨by decide, by decide, by decide +kernel⟩ rfl (And.intro (by decide +kernel) rfl)) (by decide +kernel))) ?_
  refine xa_cons 63 ((And.intro (by decide) (Or.inr (And.intro (by decide +kernel) rfl)))) ?_
  refine xa_cons 64 (xc_bipush hx hb (z := 66) (b := 66) (And.intro (by decide +kernel) rfl) (by decide +kernel) ⟨rfl, rfl⟩) ?_
  refine xa_cons 65 ((And.intro (by decide) (Exists.intro (7) (And.intro (by decide +kernel) (And.intro (by decide +kernel) rfl))))) ?_
  refine xa_cons 66 (xc_iconst hx hb (z := 3) (b := 3) (And.intro (by decide +kernel) rfl) (by decide +kernel) ⟨rfl, rfl⟩) ?_
  refine xa_cons 67 ((Exists.intro (4) (And.intro (by decide +kernel) (by decide +kernel)))) ?_
  refine xa_cons 68 (xc_iconst hx hb (z := 2) (b := 2) (And.intro (by decide +kernel) rfl) (by decide +kernel) ⟨rfl, rfl⟩) ?_
  refine xa_cons 69 ((And.intro hr (by decide +kernel))) ?_
  refine xa_cons 70 ((And.intro (by decide) (Or.inl (Exists.intro (1) (And.intro rfl (And.intro (by decide +kernel) rfl)))))) ?_
  refine xa_cons 71 ((And.intro (by decide) (Or.inl (Exists.intro (3) (And.intro rfl (And.intro (by decide +kernel) rfl)))))) ?_
  refine xa_cons 72 ((And.intro (by decide) (And.intro (by decide +kernel) rfl))) ?_
  refine xa_cons 73 ((And.intro (xc_callS (index := 98) S xg_146 rfl xw_7 xw_715 xw_716 ⟨by decide, by decide, by decide +kernel⟩ rfl (And.intro (by decide +kernel) rfl)) (by decide +kernel))) ?_
  refine xa_cons 74 ((And.intro (Or.inl rfl) (Or.inr (And.intro (by decide +kernel) rfl)))) ?_
  refine xa_cons 75 ((And.intro (by decide) (Or.inr (And.intro (by decide +kernel) rfl)))) ?_
  refine xa_cons 76 (xc_iconst hx hb (z := 4) (b := 4) (And.intro (by decide +kernel) rfl) (by decide +kernel) ⟨rfl, rfl⟩) ?_
  refine xa_cons 77 ((And.intro (by decide) (Exists.intro (5) (And.intro (by decide +kernel) (And.intro (by decide +kernel) rfl))))) ?_
  refine xa_cons 78 (xc_iconst hx hb (z := 0) (b := 0) (And.intro (by decide +kernel) rfl) (by decide +kernel) ⟨rfl, rfl⟩) ?_
  refine xa_cons 79 ((And.intro hr (by decide +kernel))) ?_
  refine xa_cons 80 ((And.intro (by decide) (Or.inl (Exists.intro (0) (And.intro rfl (And.intro (by decide +kernel) rfl)))))) ?_
  refine xa_cons 81 ((And.intro (by decide) (Or.inr (And.intro (by decide +kernel) rfl)))) ?_
  refine xa_cons 82 ((And.intro (by decide) (Or.inl (Exists.intro (3) (And.intro rfl (And.intro (by decide +kernel) rfl)))))) ?_
  refine xa_cons 83 (xc_lconst hx hb (z := 0) (And.intro (by decide +kernel) rfl) ⟨rfl, rfl⟩) ?_
  refine xa_cons 84 ((And.intro (xc_callV (index := 75) (n := 3) (ci := 1) S xg_89 rfl xw_7 xw_483 xw_481 xw_482 rfl rfl rfl ⟨by decide, by decide, by decide +kernel⟩ rfl (And.intro (by decide +kernel) rfl)) (by decide +kernel))) ?_
  refine xa_cons 85 (xc_iconst hx hb (z := 1) (b := 1) (And.intro (by decide +kernel) rfl) (by decide +kernel) ⟨rfl, rfl⟩) ?_
  refine xa_cons 86 ((And.intro hr (by decide +kernel))) ?_
  exact xa_nil
def xrp_89 : Nat → Nat := fun k => ([0, 1, 4, 5, 8, 9, 12, 13, 16, 17, 20, 21, 22, 23, 26, 27, 30, 31, 32, 33, 36, 37, 40, 41, 42, 43, 44, 47, 48, 49, 52] : List Nat).getD k 0
set_option maxRecDepth 20000 in
set_option maxHeartbeats 4000000 in
theorem xz_89 {l : Launch} {D : va_G} {en : XE} : x_Ok xT l D xcl en xrn (xG en) 89 xc_89 := by
  refine ⟨prog_12_method_10_code, none, xBIG, xrp_89, by decide +kernel, rfl, rfl, ?_⟩
  intro p e R s m args below meth c s₁ A Q pc i f1 f2 B hml hA hg hi
  obtain ⟨hx, hb, hr, hown, hlocks, hin, htsB, S⟩ := xb_all (C := "ExpressHouse$Tokens") B hml rfl rfl
  obtain ⟨hgN, hgZ, hgS, hgS2⟩ := xG_all hg
  refine xa_at (i := i) (pc := pc) ?_ hi
  refine xa_cons 0 ((And.intro (by decide) (Or.inl (Exists.intro (0) (And.intro rfl (And.intro (by decide +kernel) rfl)))))) ?_
  refine xa_cons 1 (xc_getf (A := A) (own := "ExpressHouse$Tokens") (index := 51) hx hb htsB xC_1 hown rfl (by decide) xw_469 (And.intro (by decide +kernel) rfl)) ?_
  refine xa_cons 2 ((And.intro (by decide) (Or.inl (Exists.intro (0) (And.intro rfl (And.intro (by decide +kernel) rfl)))))) ?_
  refine xa_cons 3 (xc_getf (A := A) (own := "ExpressHouse$Tokens") (index := 21) hx hb htsB xC_1 hown rfl (by decide) xw_212 (And.intro (by decide +kernel) rfl)) ?_
  refine xa_cons 4 ((And.intro (by decide +kernel) rfl)) ?_
  refine xa_cons 5 ((And.intro (by decide) (Exists.intro (43) (And.intro (by decide +kernel) (And.intro (by decide +kernel) rfl))))) ?_
  refine xa_cons 6 ((And.intro (by decide) (Or.inl (Exists.intro (0) (And.intro rfl (And.intro (by decide +kernel) rfl)))))) ?_
  refine xa_cons 7 (xc_getf (A := A) (own := "ExpressHouse$Tokens") (index := 21) hx hb htsB xC_1 hown rfl (by decide) xw_212 (And.intro (by decide +kernel) rfl)) ?_
  refine xa_cons 8 ((And.intro (by decide) (Or.inl (Exists.intro (0) (And.intro rfl (And.intro (by decide +kernel) rfl)))))) ?_
  refine xa_cons 9 (xc_getf (A := A) (own := "ExpressHouse$Tokens") (index := 51) hx hb htsB xC_1 hown rfl (by decide) xw_469 (And.intro (by decide +kernel) rfl)) ?_
  refine xa_cons 10 ((And.intro (by decide) (Or.inl (Exists.intro (1) (And.intro rfl (And.intro (by decide +kernel) rfl)))))) ?_
  refine xa_cons 11 ((And.intro (by decide) (And.intro (by decide +kernel) rfl))) ?_
  refine xa_cons 12 ((And.intro (by decide) (Or.inl (Exists.intro (0) (And.intro rfl (And.intro (by decide +kernel) rfl)))))) ?_
  refine xa_cons 13 (xc_getf (A := A) (own := "ExpressHouse$Tokens") (index := 25) hx hb htsB xC_1 hown rfl (by decide) xw_213 (And.intro (by decide +kernel) rfl)) ?_
  refine xa_cons 14 ((And.intro (by decide) (Or.inl (Exists.intro (0) (And.intro rfl (And.intro (by decide +kernel) rfl)))))) ?_
  refine xa_cons 15 (xc_getf (A := A) (own := "ExpressHouse$Tokens") (index := 51) hx hb htsB xC_1 hown rfl (by decide) xw_469 (And.intro (by decide +kernel) rfl)) ?_
  refine xa_cons 16 ((And.intro (by decide) (Or.inl (Exists.intro (2) (And.intro rfl (And.intro (by decide +kernel) rfl)))))) ?_
  refine xa_cons 17 ((And.intro (by decide) (And.intro (by decide +kernel) rfl))) ?_
  refine xa_cons 18 ((And.intro (by decide) (Or.inl (Exists.intro (0) (And.intro rfl (And.intro (by decide +kernel) rfl)))))) ?_
  refine xa_cons 19 (xc_getf (A := A) (own := "ExpressHouse$Tokens") (index := 28) hx hb htsB xC_1 hown rfl (by decide) xw_215 (And.intro (by decide +kernel) rfl)) ?_
  refine xa_cons 20 ((And.intro (by decide) (Or.inl (Exists.intro (0) (And.intro rfl (And.intro (by decide +kernel) rfl)))))) ?_
  refine xa_cons 21 (xc_getf (A := A) (own := "ExpressHouse$Tokens") (index := 51) hx hb htsB xC_1 hown rfl (by decide) xw_469 (And.intro (by decide +kernel) rfl)) ?_
  refine xa_cons 22 ((And.intro (by decide) (Or.inl (Exists.intro (3) (And.intro rfl (And.intro (by decide +kernel) rfl)))))) ?_
  refine xa_cons 23 ((And.intro (by decide) (And.intro (by decide +kernel) rfl))) ?_
  refine xa_cons 24 ((And.intro (by decide) (Or.inl (Exists.intro (0) (And.intro rfl (And.intro (by decide +kernel) rfl)))))) ?_
  refine xa_cons 25 ((And.intro (by decide +kernel) rfl)) ?_
  refine xa_cons 26 (xc_getf (A := A) (own := "ExpressHouse$Tokens") (index := 51) hx hb htsB xC_1 hown rfl (by decide) xw_469 (And.intro (by decide +kernel) rfl)) ?_
  refine xa_cons 27 (xc_iconst hx hb (z := 1) (b := 1) (And.intro (by decide +kernel) rfl) (by decide +kernel) ⟨rfl, rfl⟩) ?_
  refine xa_cons 28 ((And.intro (by decide) (And.intro (by decide +kernel) rfl))) ?_
  refine xa_cons 29 (xc_putf (own := "ExpressHouse$Tokens") (index := 51) hx hb htsB xC_1 hown rfl (by decide) xw_469 rfl (rfl) (And.intro (by decide +kernel) rfl)) ?_
  refine xa_cons 30 ((And.intro hr (by decide +kernel))) ?_
  exact xa_nil
def xrp_90 : Nat → Nat := fun k => ([0, 1, 2, 5, 6, 7, 10, 11, 12, 15, 16, 17, 20, 23, 24, 27, 28, 31, 32, 35] : List Nat).getD k 0
set_option maxRecDepth 20000 in
set_option maxHeartbeats 4000000 in
theorem xz_90 {l : Launch} {D : va_G} {en : XE} : x_Ok xT l D xcl en xrn (xG en) 90 xc_90 := by
  refine ⟨prog_12_method_17_code, none, xBIG, xrp_90, by decide +kernel, rfl, rfl, ?_⟩
  intro p e R s m args below meth c s₁ A Q pc i f1 f2 B hml hA hg hi
  obtain ⟨hx, hb, hr, hown, hlocks, hin, htsB, S⟩ := xb_all (C := "ExpressHouse$Tokens") B hml rfl rfl
  obtain ⟨hgN, hgZ, hgS, hgS2⟩ := xG_all hg
  refine xa_at (i := i) (pc := pc) ?_ hi
  refine xa_cons 0 ((And.intro (by decide) (Or.inl (Exists.intro (0) (And.intro rfl (And.intro (by decide +kernel) rfl)))))) ?_
  refine xa_cons 1 (xc_iconst hx hb (z := -1) (b := 4294967295) (And.intro (by decide +kernel) rfl) (by decide +kernel) ⟨rfl, rfl⟩) ?_
  refine xa_cons 2 (xc_putf (own := "ExpressHouse$Tokens") (index := 114) hx hb htsB xC_1 hown rfl (by decide) xw_717 rfl (rfl) (And.intro (by decide +kernel) rfl)) ?_
  refine xa_cons 3 ((And.intro (by decide) (Or.inl (Exists.intro (0) (And.intro rfl (And.intro (by decide +kernel) rfl)))))) ?_
  refine xa_cons 4 (xc_iconst hx hb (z := 0) (b := 0) (And.intro (by decide +kernel) rfl) (by decide +kernel) ⟨rfl, rfl⟩) ?_
  refine xa_cons 5 (xc_putf (own := "ExpressHouse$Tokens") (index := 117) hx hb htsB xC_1 hown rfl (by decide) xw_718 rfl (rfl) (And.intro (by decide +kernel) rfl)) ?_
  refine xa_cons 6 ((And.intro (by decide) (Or.inl (Exists.intro (0) (And.intro rfl (And.intro (by decide +kernel) rfl)))))) ?_
  refine xa_cons 7 (xc_iconst hx hb (z := 0) (b := 0) (And.intro (by decide +kernel) rfl) (by decide +kernel) ⟨rfl, rfl⟩) ?_
  refine xa_cons 8 (xc_putf (own := "ExpressHouse$Tokens") (index := 120) hx hb htsB xC_1 hown rfl (by decide) xw_719 rfl (rfl) (And.intro (by decide +kernel) rfl)) ?_
  refine xa_cons 9 ((And.intro (by decide) (Or.inl (Exists.intro (0) (And.intro rfl (And.intro (by decide +kernel) rfl)))))) ?_
  refine xa_cons 10 ((And.intro (by decide) (Or.inl (Exists.intro (0) (And.intro rfl (And.intro (by decide +kernel) rfl)))))) ?_
  refine xa_cons 11 (xc_getf (A := A) (own := "ExpressHouse$Tokens") (index := 55) hx hb htsB xC_1 hown rfl (by decide) xw_470 (And.intro (by decide +kernel) rfl)) ?_
  refine xa_cons 12 ((And.intro (by decide) (Exists.intro (7) (And.intro (by decide +kernel) (And.intro (by decide +kernel) rfl))))) ?_
  refine xa_cons 13 (xc_iconst hx hb (z := 1) (b := 1) (And.intro (by decide +kernel) rfl) (by decide +kernel) ⟨rfl, rfl⟩) ?_
  refine xa_cons 14 ((Exists.intro (4) (And.intro (by decide +kernel) (by decide +kernel)))) ?_
  refine xa_cons 15 (xc_iconst hx hb (z := 5) (b := 5) (And.intro (by decide +kernel) rfl) (by decide +kernel) ⟨rfl, rfl⟩) ?_
  refine xa_cons 16 (xc_putf (own := "ExpressHouse$Tokens") (index := 123) hx hb htsB xC_1 hown rfl (by decide) xw_720 rfl (rfl) (And.intro (by decide +kernel) rfl)) ?_
  refine xa_cons 17 ((And.intro (by decide) (Or.inl (Exists.intro (0) (And.intro rfl (And.intro (by decide +kernel) rfl)))))) ?_
  refine xa_cons 18 ((And.intro (xc_callV (index := 126) (n := 0) (ci := 1) S xg_147 rfl xw_7 xw_723 xw_721 xw_722 rfl rfl rfl ⟨by decide, by decide, by decide +kernel⟩ rfl (And.intro (by decide +kernel) rfl)) (by decide +kernel))) ?_
  refine xa_cons 19 ((And.intro hr (by decide +kernel))) ?_
  exact xa_nil
def xrp_91 : Nat → Nat := fun k => ([0, 1, 4, 5, 8, 9, 12, 13, 16, 17, 20, 21, 24, 25, 28, 29, 32, 33, 36, 39, 40, 43, 46, 47, 50, 53, 54, 57, 60, 61, 64, 67, 68, 69, 70, 71, 74, 75, 78, 79, 82, 83, 84, 86, 88, 89, 92, 95, 96, 97, 100, 101, 102, 105, 106, 107, 110] : List Nat).getD k 0
set_option maxRecDepth 20000 in
set_option maxHeartbeats 4000000 in
theorem xz_91 {l : Launch} {D : va_G} {en : XE} : x_Ok xT l D xcl en xrn (xG en) 91 xc_91 := by
  refine ⟨prog_10_method_3_code, none, xBIG, xrp_91, by decide +kernel, rfl, rfl, ?_⟩
  intro p e R s m args below meth c s₁ A Q pc i f1 f2 B hml hA hg hi
  obtain ⟨hx, hb, hr, hown, hlocks, hin, htsB, S⟩ := xb_all (C := "ExpressHouse$Schema") B hml rfl rfl
  obtain ⟨hgN, hgZ, hgS, hgS2⟩ := xG_all hg
  refine xa_at (i := i) (pc := pc) ?_ hi
  refine xa_cons 0 ((And.intro (by decide) (Or.inl (Exists.intro (0) (And.intro rfl (And.intro (by decide +kernel) rfl)))))) ?_
  refine xa_cons 1 (xc_getf (A := A) (own := "ExpressHouse$Schema") (index := 28) hx hb htsB xC_3 hown rfl (by decide) xw_221 (And.intro (by decide +kernel) rfl)) ?_
  refine xa_cons 2 (xc_iconst hx hb (z := 0) (b := 0) (And.intro (by decide +kernel) rfl) (by decide +kernel) ⟨rfl, rfl⟩) ?_
  refine xa_cons 3 ((And.intro (xc_callS (index := 74) S xg_93 rfl xw_495 xw_724 xw_497 ⟨by decide, by decide, by decide +kernel⟩ rfl (And.intro (by decide +kernel) rfl)) (by decide +kernel))) ?_
  refine xa_cons 4 ((And.intro (by decide) (Or.inl (Exists.intro (0) (And.intro rfl (And.intro (by decide +kernel) rfl)))))) ?_
  refine xa_cons 5 (xc_getf (A := A) (own := "ExpressHouse$Schema") (index := 43) hx hb htsB xC_3 hown rfl (by decide) xw_226 (And.intro (by decide +kernel) rfl)) ?_
  refine xa_cons 6 (xc_lconst hx hb (z := 0) (And.intro (by decide +kernel) rfl) ⟨rfl, rfl⟩) ?_
  refine xa_cons 7 ((And.intro (xc_callS (index := 80) S xg_148 rfl xw_495 xw_725 xw_726 ⟨by decide, by decide, by decide +kernel⟩ rfl (And.intro (by decide +kernel) rfl)) (by decide +kernel))) ?_
  refine xa_cons 8 ((And.intro (by decide) (Or.inl (Exists.intro (0) (And.intro rfl (And.intro (by decide +kernel) rfl)))))) ?_
  refine xa_cons 9 (xc_getf (A := A) (own := "ExpressHouse$Schema") (index := 55) hx hb htsB xC_3 hown rfl (by decide) xw_230 (And.intro (by decide +kernel) rfl)) ?_
  refine xa_cons 10 (xc_iconst hx hb (z := 0) (b := 0) (And.intro (by decide +kernel) rfl) (by decide +kernel) ⟨rfl, rfl⟩) ?_
  refine xa_cons 11 ((And.intro (xc_callS (index := 74) S xg_93 rfl xw_495 xw_724 xw_497 ⟨by decide, by decide, by decide +kernel⟩ rfl (And.intro (by decide +kernel) rfl)) (by decide +kernel))) ?_
  refine xa_cons 12 ((And.intro (by decide) (Or.inl (Exists.intro (0) (And.intro rfl (And.intro (by decide +kernel) rfl)))))) ?_
  refine xa_cons 13 (xc_getf (A := A) (own := "ExpressHouse$Schema") (index := 32) hx hb htsB xC_3 hown rfl (by decide) xw_222 (And.intro (by decide +kernel) rfl)) ?_
  refine xa_cons 14 (xc_iconst hx hb (z := 0) (b := 0) (And.intro (by decide +kernel) rfl) (by decide +kernel) ⟨rfl, rfl⟩) ?_
  refine xa_cons 15 ((And.intro (xc_callS (index := 74) S xg_93 rfl xw_495 xw_724 xw_497 ⟨by decide, by decide, by decide +kernel⟩ rfl (And.intro (by decide +kernel) rfl)) (by decide +kernel))) ?_
  refine xa_cons 16 ((And.intro (by decide) (Or.inl (Exists.intro (0) (And.intro rfl (And.intro (by decide +kernel) rfl)))))) ?_
  refine xa_cons 17 (xc_getf (A := A) (own := "ExpressHouse$Schema") (index := 37) hx hb htsB xC_3 hown rfl (by decide) xw_224 (And.intro (by decide +kernel) rfl)) ?_
  refine xa_cons 18 ((And.intro (xc_callS (index := 83) S xg_149 rfl xw_15 xw_727 xw_728 ⟨by decide, by decide, by decide +kernel⟩ rfl (And.intro (by decide +kernel) rfl)) (by decide +kernel))) ?_
  refine xa_cons 19 ((And.intro (by decide) (Or.inl (Exists.intro (0) (And.intro rfl (And.intro (by decide +kernel) rfl)))))) ?_
  refine xa_cons 20 (xc_getf (A := A) (own := "ExpressHouse$Schema") (index := 40) hx hb htsB xC_3 hown rfl (by decide) xw_225 (And.intro (by decide +kernel) rfl)) ?_
  refine xa_cons 21 ((And.intro (xc_callS (index := 83) S xg_149 rfl xw_15 xw_727 xw_728 ⟨by decide, by decide, by decide +kernel⟩ rfl (And.intro (by decide +kernel) rfl)) (by decide +kernel))) ?_
  refine xa_cons 22 ((And.intro (by decide) (Or.inl (Exists.intro (0) (And.intro rfl (And.intro (by decide +kernel) rfl)))))) ?_
  refine xa_cons 23 (xc_getf (A := A) (own := "ExpressHouse$Schema") (index := 46) hx hb htsB xC_3 hown rfl (by decide) xw_227 (And.intro (by decide +kernel) rfl)) ?_
  refine xa_cons 24 ((And.intro (xc_callS (index := 83) S xg_149 rfl xw_15 xw_727 xw_728 ⟨by decide, by decide, by decide +kernel⟩ rfl (And.intro (by decide +kernel) rfl)) (by decide +kernel))) ?_
  refine xa_cons 25 ((And.intro (by decide) (Or.inl (Exists.intro (0) (And.intro rfl (And.intro (by decide +kernel) rfl)))))) ?_
  refine xa_cons 26 (xc_getf (A := A) (own := "ExpressHouse$Schema") (index := 49) hx hb htsB xC_3 hown rfl (by decide) xw_228 (And.intro (by decide +kernel) rfl)) ?_
  refine xa_cons 27 ((And.intro (xc_callS (index := 83) S xg_149 rfl xw_15 xw_727 xw_728 ⟨by decide, by decide, by decide +kernel⟩ rfl (And.intro (by decide +kernel) rfl)) (by decide +kernel))) ?_
  refine xa_cons 28 ((And.intro (by decide) (Or.inl (Exists.intro (0) (And.intro rfl (And.intro (by decide +kernel) rfl)))))) ?_
  refine xa_cons 29 (xc_getf (A := A) (own := "ExpressHouse$Schema") (index := 52) hx hb htsB xC_3 hown rfl (by decide) xw_229 (And.intro (by decide +kernel) rfl)) ?_
  refine xa_cons 30 ((And.intro (xc_callS (index := 83) S xg_149 rfl xw_15 xw_727 xw_728 ⟨by decide, by decide, by decide +kernel⟩ rfl (And.intro (by decide +kernel) rfl)) (by decide +kernel))) ?_
  refine xa_cons 31 (xc_iconst hx hb (z := 0) (b := 0) (And.intro (by decide +kernel) rfl) (by decide +kernel) ⟨rfl, rfl⟩) ?_
  refine xa_cons 32 ((And.intro (Or.inl rfl) (Or.inl (Exists.intro (1) (And.intro rfl (And.intro (by decide +kernel) rfl)))))) ?_
  refine xa_cons 33 ((And.intro (by decide) (Or.inl (Exists.intro (1) (And.intro rfl (And.intro (by decide +kernel) rfl)))))) ?_
  refine xa_cons 34 ((And.intro (by decide) (Or.inl (Exists.intro (0) (And.intro rfl (And.intro (by decide +kernel) rfl)))))) ?_
  refine xa_cons 35 (xc_getf (A := A) (own := "ExpressHouse$Schema") (index := 40) hx hb htsB xC_3 hown rfl (by decide) xw_225 (And.intro (by decide +kernel) rfl)) ?_
  refine xa_cons 36 ((And.intro (by decide +kernel) rfl)) ?_
  refine xa_cons 37 ((And.intro (by decide) (Exists.intro (20) (And.intro (by decide +kernel) (And.intro (by decide +kernel) rfl))))) ?_
  refine xa_cons 38 ((And.intro (by decide) (Or.inl (Exists.intro (0) (And.intro rfl (And.intro (by decide +kernel) rfl)))))) ?_
  refine xa_cons 39 (xc_getf (A := A) (own := "ExpressHouse$Schema") (index := 40) hx hb htsB xC_3 hown rfl (by decide) xw_225 (And.intro (by decide +kernel) rfl)) ?_
  refine xa_cons 40 ((And.intro (by decide) (Or.inl (Exists.intro (1) (And.intro rfl (And.intro (by decide +kernel) rfl)))))) ?_
  refine xa_cons 41 ((And.intro (by decide) (And.intro (by decide +kernel) rfl))) ?_
  refine xa_cons 42 (xc_bipush hx hb (z := 8) (b := 8) (And.intro (by decide +kernel) rfl) (by decide +kernel) ⟨rfl, rfl⟩) ?_
  refine xa_cons 43 (xc_bipush hx hb (z := -3) (b := 4294967293) (And.intro (by decide +kernel) rfl) (by decide +kernel) ⟨rfl, rfl⟩) ?_
  refine xa_cons 44 ((And.intro (by decide) (And.intro (by decide +kernel) rfl))) ?_
  refine xa_cons 45 ((Exists.intro (1) (And.intro (And.intro (by decide +kernel) rfl) (by decide +kernel)))) ?_
  refine xa_cons 46 ((Exists.intro (-23) (And.intro (by decide +kernel) (by decide +kernel)))) ?_
  refine xa_cons 47 ((And.intro (by decide) (Or.inl (Exists.intro (0) (And.intro rfl (And.intro (by decide +kernel) rfl)))))) ?_
  refine xa_cons 48 (xc_iconst hx hb (z := 0) (b := 0) (And.intro (by decide +kernel) rfl) (by decide +kernel) ⟨rfl, rfl⟩) ?_
  refine xa_cons 49 (xc_putf (own := "ExpressHouse$Schema") (index := 87) hx hb htsB xC_3 hown rfl (by decide) xw_607 rfl (rfl) (And.intro (by decide +kernel) rfl)) ?_
  refine xa_cons 50 ((And.intro (by decide) (Or.inl (Exists.intro (0) (And.intro rfl (And.intro (by decide +kernel) rfl)))))) ?_
  refine xa_cons 51 (xc_iconst hx hb (z := 0) (b := 0) (And.intro (by decide +kernel) rfl) (by decide +kernel) ⟨rfl, rfl⟩) ?_
  refine xa_cons 52 (xc_putf (own := "ExpressHouse$Schema") (index := 91) hx hb htsB xC_3 hown rfl (by decide) xw_729 rfl (rfl) (And.intro (by decide +kernel) rfl)) ?_
  refine xa_cons 53 ((And.intro (by decide) (Or.inl (Exists.intro (0) (And.intro rfl (And.intro (by decide +kernel) rfl)))))) ?_
  refine xa_cons 54 (xc_iconst hx hb (z := 0) (b := 0) (And.intro (by decide +kernel) rfl) (by decide +kernel) ⟨rfl, rfl⟩) ?_
  refine xa_cons 55 (xc_putf (own := "ExpressHouse$Schema") (index := 94) hx hb htsB xC_3 hown rfl (by decide) xw_660 rfl (rfl) (And.intro (by decide +kernel) rfl)) ?_
  refine xa_cons 56 ((And.intro hr (by decide +kernel))) ?_
  exact xa_nil
def xrp_92 : Nat → Nat := fun k => ([0, 1, 2, 5, 6, 7, 10, 11, 12, 15, 16, 18, 19, 22] : List Nat).getD k 0
set_option maxRecDepth 20000 in
set_option maxHeartbeats 4000000 in
theorem xz_92 {l : Launch} {D : va_G} {en : XE} : x_Ok xT l D xcl en xrn (xG en) 92 xc_92 := by
  refine ⟨prog_2_method_2_code, none, xBIG, xrp_92, by decide +kernel, rfl, rfl, ?_⟩
  intro p e R s m args below meth c s₁ A Q pc i f1 f2 B hml hA hg hi
  obtain ⟨hx, hb, hr, hown, hlocks, hin, htsB, S⟩ := xb_all (C := "ExpressHouse$Expressions") B hml rfl rfl
  obtain ⟨hgN, hgZ, hgS, hgS2⟩ := xG_all hg
  refine xa_at (i := i) (pc := pc) ?_ hi
  refine xa_cons 0 ((And.intro (by decide) (Or.inl (Exists.intro (0) (And.intro rfl (And.intro (by decide +kernel) rfl)))))) ?_
  refine xa_cons 1 ((And.intro (by decide) (Or.inl (Exists.intro (1) (And.intro rfl (And.intro (by decide +kernel) rfl)))))) ?_
  refine xa_cons 2 (xc_putf (own := "ExpressHouse$Expressions") (index := 28) hx hb htsB xC_4 hown rfl (by decide) xw_253 rfl (Or.inl ⟨_, rfl⟩) (And.intro (by decide +kernel) rfl)) ?_
  refine xa_cons 3 ((And.intro (by decide) (Or.inl (Exists.intro (0) (And.intro rfl (And.intro (by decide +kernel) rfl)))))) ?_
  refine xa_cons 4 ((And.intro (by decide) (Or.inl (Exists.intro (2) (And.intro rfl (And.intro (by decide +kernel) rfl)))))) ?_
  refine xa_cons 5 (xc_putf (own := "ExpressHouse$Expressions") (index := 32) hx hb htsB xC_4 hown rfl (by decide) xw_730 rfl (rfl) (And.intro (by decide +kernel) rfl)) ?_
  refine xa_cons 6 ((And.intro (by decide) (Or.inl (Exists.intro (0) (And.intro rfl (And.intro (by decide +kernel) rfl)))))) ?_
  refine xa_cons 7 (xc_iconst hx hb (z := 0) (b := 0) (And.intro (by decide +kernel) rfl) (by decide +kernel) ⟨rfl, rfl⟩) ?_
  refine xa_cons 8 (xc_putf (own := "ExpressHouse$Expressions") (index := 36) hx hb htsB xC_4 hown rfl (by decide) xw_731 rfl (rfl) (And.intro (by decide +kernel) rfl)) ?_
  refine xa_cons 9 ((And.intro (by decide) (Or.inl (Exists.intro (0) (And.intro rfl (And.intro (by decide +kernel) rfl)))))) ?_
  refine xa_cons 10 (xc_bipush hx hb (z := -3) (b := 4294967293) (And.intro (by decide +kernel) rfl) (by decide +kernel) ⟨rfl, rfl⟩) ?_
  refine xa_cons 11 (xc_iconst hx hb (z := 0) (b := 0) (And.intro (by decide +kernel) rfl) (by decide +kernel) ⟨rfl, rfl⟩) ?_
  refine xa_cons 12 ((And.intro (xc_callV (index := 40) (n := 2) (ci := 4) S xg_150 rfl xw_22 xw_734 xw_732 xw_733 rfl rfl rfl ⟨by decide, by decide, by decide +kernel⟩ rfl (And.intro (by decide +kernel) rfl)) (by decide +kernel))) ?_
  refine xa_cons 13 ((And.intro hr (by decide +kernel))) ?_
  exact xa_nil
def xrp_93 : Nat → Nat := fun k => ([0, 1, 2, 3, 4, 5, 6, 7, 10, 11, 12, 13, 14, 17, 20] : List Nat).getD k 0
set_option maxRecDepth 20000 in
set_option maxHeartbeats 4000000 in
theorem xz_93 {l : Launch} {D : va_G} {en : XE} : x_Ok xT l D xcl en xrn (xG en) 93 xc_93 := by
  refine ⟨prog_46_method_103_code, none, xBIG, xrp_93, by decide +kernel, rfl, rfl, ?_⟩
  intro p e R s m args below meth c s₁ A Q pc i f1 f2 B hml hA hg hi
  obtain ⟨hx, hb, hr, hown, hlocks, hin, htsB, S⟩ := xb_all (C := "java/util/Arrays") B hml rfl rfl
  obtain ⟨hgN, hgZ, hgS, hgS2⟩ := xG_all hg
  refine xa_at (i := i) (pc := pc) ?_ hi
  refine xa_cons 0 (xc_iconst hx hb (z := 0) (b := 0) (And.intro (by decide +kernel) rfl) (by decide +kernel) ⟨rfl, rfl⟩) ?_
  refine xa_cons 1 ((And.intro (Or.inl rfl) (Or.inl (Exists.intro (2) (And.intro rfl (And.intro (by decide +kernel) rfl)))))) ?_
  refine xa_cons 2 ((And.intro (by decide) (Or.inl (Exists.intro (0) (And.intro rfl (And.intro (by decide +kernel) rfl)))))) ?_
  refine xa_cons 3 ((And.intro (by decide +kernel) rfl)) ?_
  refine xa_cons 4 ((And.intro (Or.inl rfl) (Or.inl (Exists.intro (3) (And.intro rfl (And.intro (by decide +kernel) rfl)))))) ?_
  refine xa_cons 5 ((And.intro (by decide) (Or.inl (Exists.intro (2) (And.intro rfl (And.intro (by decide +kernel) rfl)))))) ?_
  refine xa_cons 6 ((And.intro (by decide) (Or.inl (Exists.intro (3) (And.intro rfl (And.intro (by decide +kernel) rfl)))))) ?_
  refine xa_cons 7 ((And.intro (by decide) (Exists.intro (13) (And.intro (by decide +kernel) (And.intro (by decide +kernel) rfl))))) ?_
  refine xa_cons 8 ((And.intro (by decide) (Or.inl (Exists.intro (0) (And.intro rfl (And.intro (by decide +kernel) rfl)))))) ?_
  refine xa_cons 9 ((And.intro (by decide) (Or.inl (Exists.intro (2) (And.intro rfl (And.intro (by decide +kernel) rfl)))))) ?_
  refine xa_cons 10 ((And.intro (by decide) (Or.inl (Exists.intro (1) (And.intro rfl (And.intro (by decide +kernel) rfl)))))) ?_
  refine xa_cons 11 ((And.intro (by decide) (And.intro (by decide +kernel) rfl))) ?_
  refine xa_cons 12 ((Exists.intro (1) (And.intro (And.intro (by decide +kernel) rfl) (by decide +kernel)))) ?_
  refine xa_cons 13 ((Exists.intro (-12) (And.intro (by decide +kernel) (by decide +kernel)))) ?_
  refine xa_cons 14 ((And.intro hr (by decide +kernel))) ?_
  exact xa_nil
def xrp_94 : Nat → Nat := fun k => ([0, 1, 4, 5, 8, 9, 10, 13, 14, 17, 18, 21, 24, 25, 28, 29, 32, 33, 36, 37, 40, 41, 42, 45, 46, 49, 50, 53, 56, 57, 60, 63, 64, 65, 68, 71, 72, 75, 76, 77, 78, 81, 84, 85, 88, 89, 90, 91, 94, 95, 98, 99, 100, 103, 104, 105, 108, 109, 110, 113, 114, 117, 118, 121, 122, 123, 126, 127, 130, 131, 134, 135, 136, 139, 140, 143, 144, 147] : List Nat).getD k 0
set_option maxRecDepth 20000 in
set_option maxHeartbeats 4000000 in
theorem xz_94 {l : Launch} {D : va_G} {en : XE} : x_Ok xT l D xcl en xrn (xG en) 94 xc_94 := by
  refine ⟨prog_12_method_20_code, none, xBIG, xrp_94, by decide +kernel, rfl, rfl, ?_⟩
  intro p e R s m args below meth c s₁ A Q pc i f1 f2 B hml hA hg hi
  obtain ⟨hx, hb, hr, hown, hlocks, hin, htsB, S⟩ := xb_all (C := "ExpressHouse$Tokens") B hml rfl rfl
  obtain ⟨hgN, hgZ, hgS, hgS2⟩ := xG_all hg
  refine xa_at (i := i) (pc := pc) ?_ hi
  refine xa_cons 0 ((And.intro (by decide) (Or.inl (Exists.intro (0) (And.intro rfl (And.intro (by decide +kernel) rfl)))))) ?_
  refine xa_cons 1 (xc_getf (A := A) (own := "ExpressHouse$Tokens") (index := 123) hx hb htsB xC_1 hown rfl (by decide) xw_720 (And.intro (by decide +kernel) rfl)) ?_
  refine xa_cons 2 ((And.intro (by decide) (Or.inl (Exists.intro (1) (And.intro rfl (And.intro (by decide +kernel) rfl)))))) ?_
  refine xa_cons 3 ((And.intro (by decide) (Exists.intro (66) (And.intro (by decide +kernel) (And.intro (by decide +kernel) rfl))))) ?_
  refine xa_cons 4 ((And.intro (by decide) (Or.inl (Exists.intro (0) (And.intro rfl (And.intro (by decide +kernel) rfl)))))) ?_
  refine xa_cons 5 ((And.intro (by decide) (Or.inl (Exists.intro (0) (And.intro rfl (And.intro (by decide +kernel) rfl)))))) ?_
  refine xa_cons 6 (xc_getf (A := A) (own := "ExpressHouse$Tokens") (index := 123) hx hb htsB xC_1 hown rfl (by decide) xw_720 (And.intro (by decide +kernel) rfl)) ?_
  refine xa_cons 7 (xc_iconst hx hb (z := 5) (b := 5) (And.intro (by decide +kernel) rfl) (by decide +kernel) ⟨rfl, rfl⟩) ?_
  refine xa_cons 8 ((And.intro (by decide) (Exists.intro (10) (And.intro (by decide +kernel) (And.intro (by decide +kernel) rfl))))) ?_
  refine xa_cons 9 ((And.intro (by decide) (Or.inl (Exists.intro (0) (And.intro rfl (And.intro (by decide +kernel) rfl)))))) ?_
  refine xa_cons 10 (xc_getf (A := A) (own := "ExpressHouse$Tokens") (index := 55) hx hb htsB xC_1 hown rfl (by decide) xw_470 (And.intro (by decide +kernel) rfl)) ?_
  refine xa_cons 11 ((Exists.intro (16) (And.intro (by decide +kernel) (by decide +kernel)))) ?_
  refine xa_cons 12 ((And.intro (by decide) (Or.inl (Exists.intro (0) (And.intro rfl (And.intro (by decide +kernel) rfl)))))) ?_
  refine xa_cons 13 (xc_getf (A := A) (own := "ExpressHouse$Tokens") (index := 123) hx hb htsB xC_1 hown rfl (by decide) xw_720 (And.intro (by decide +kernel) rfl)) ?_
  refine xa_cons 14 (xc_iconst hx hb (z := 4) (b := 4) (And.intro (by decide +kernel) rfl) (by decide +kernel) ⟨rfl, rfl⟩) ?_
  refine xa_cons 15 ((And.intro (by decide) (Exists.intro (7) (And.intro (by decide +kernel) (And.intro (by decide +kernel) rfl))))) ?_
  refine xa_cons 16 (xc_iconst hx hb (z := 1) (b := 1) (And.intro (by decide +kernel) rfl) (by decide +kernel) ⟨rfl, rfl⟩) ?_
  refine xa_cons 17 ((Exists.intro (4) (And.intro (by decide +kernel) (by decide +kernel)))) ?_
  refine xa_cons 18 (xc_iconst hx hb (z := 2) (b := 2) (And.intro (by decide +kernel) rfl) (by decide +kernel) ⟨rfl, rfl⟩) ?_
  refine xa_cons 19 (xc_putf (own := "ExpressHouse$Tokens") (index := 55) hx hb htsB xC_1 hown rfl (by decide) xw_470 rfl (rfl) (And.intro (by decide +kernel) rfl)) ?_
  refine xa_cons 20 ((And.intro (by decide) (Or.inl (Exists.intro (0) (And.intro rfl (And.intro (by decide +kernel) rfl)))))) ?_
  refine xa_cons 21 ((And.intro (by decide) (Or.inl (Exists.intro (0) (And.intro rfl (And.intro (by decide +kernel) rfl)))))) ?_
  refine xa_cons 22 (xc_getf (A := A) (own := "ExpressHouse$Tokens") (index := 123) hx hb htsB xC_1 hown rfl (by decide) xw_720 (And.intro (by decide +kernel) rfl)) ?_
  refine xa_cons 23 (xc_iconst hx hb (z := 5) (b := 5) (And.intro (by decide +kernel) rfl) (by decide +kernel) ⟨rfl, rfl⟩) ?_
  refine xa_cons 24 ((And.intro (by decide) (Exists.intro (10) (And.intro (by decide +kernel) (And.intro (by decide +kernel) rfl))))) ?_
  refine xa_cons 25 ((And.intro (by decide) (Or.inl (Exists.intro (0) (And.intro rfl (And.intro (by decide +kernel) rfl)))))) ?_
  refine xa_cons 26 (xc_getf (A := A) (own := "ExpressHouse$Tokens") (index := 136) hx hb htsB xC_1 hown rfl (by decide) xw_528 (And.intro (by decide +kernel) rfl)) ?_
  refine xa_cons 27 ((Exists.intro (7) (And.intro (by decide +kernel) (by decide +kernel)))) ?_
  refine xa_cons 28 ((And.intro (by decide) (Or.inl (Exists.intro (0) (And.intro rfl (And.intro (by decide +kernel) rfl)))))) ?_
  refine xa_cons 29 (xc_getf (A := A) (own := "ExpressHouse$Tokens") (index := 129) hx hb htsB xC_1 hown rfl (by decide) xw_735 (And.intro (by decide +kernel) rfl)) ?_
  refine xa_cons 30 (xc_putf (own := "ExpressHouse$Tokens") (index := 136) hx hb htsB xC_1 hown rfl (by decide) xw_528 rfl (rfl) (And.intro (by decide +kernel) rfl)) ?_
  refine xa_cons 31 ((And.intro (by decide) (Or.inl (Exists.intro (0) (And.intro rfl (And.intro (by decide +kernel) rfl)))))) ?_
  refine xa_cons 32 (xc_iconst hx hb (z := 5) (b := 5) (And.intro (by decide +kernel) rfl) (by decide +kernel) ⟨rfl, rfl⟩) ?_
  refine xa_cons 33 (xc_putf (own := "ExpressHouse$Tokens") (index := 123) hx hb htsB xC_1 hown rfl (by decide) xw_720 rfl (rfl) (And.intro (by decide +kernel) rfl)) ?_
  refine xa_cons 34 ((Exists.intro (79) (And.intro (by decide +kernel) (by decide +kernel)))) ?_
  refine xa_cons 35 ((And.intro (by decide) (Or.inl (Exists.intro (0) (And.intro rfl (And.intro (by decide +kernel) rfl)))))) ?_
  refine xa_cons 36 (xc_getf (A := A) (own := "ExpressHouse$Tokens") (index := 114) hx hb htsB xC_1 hown rfl (by decide) xw_717 (And.intro (by decide +kernel) rfl)) ?_
  refine xa_cons 37 (xc_iconst hx hb (z := 1) (b := 1) (And.intro (by decide +kernel) rfl) (by decide +kernel) ⟨rfl, rfl⟩) ?_
  refine xa_cons 38 ((And.intro (by decide) (And.intro (by decide +kernel) rfl))) ?_
  refine xa_cons 39 ((And.intro (by decide) (Or.inl (Exists.intro (0) (And.intro rfl (And.intro (by decide +kernel) rfl)))))) ?_
  refine xa_cons 40 (xc_getf (A := A) (own := "ExpressHouse$Tokens") (index := 51) hx hb htsB xC_1 hown rfl (by decide) xw_469 (And.intro (by decide +kernel) rfl)) ?_
  refine xa_cons 41 ((And.intro (by decide) (Exists.intro (66) (And.intro (by decide +kernel) (And.intro (by decide +kernel) rfl))))) ?_
  refine xa_cons 42 ((And.intro (by decide) (Or.inl (Exists.intro (0) (And.intro rfl (And.intro (by decide +kernel) rfl)))))) ?_
  refine xa_cons 43 (xc_getf (A := A) (own := "ExpressHouse$Tokens") (index := 114) hx hb htsB xC_1 hown rfl (by decide) xw_717 (And.intro (by decide +kernel) rfl)) ?_
  refine xa_cons 44 (xc_iconst hx hb (z := 1) (b := 1) (And.intro (by decide +kernel) rfl) (by decide +kernel) ⟨rfl, rfl⟩) ?_
  refine xa_cons 45 ((And.intro (by decide) (And.intro (by decide +kernel) rfl))) ?_
  refine xa_cons 46 ((And.intro (by decide) (Or.inl (Exists.intro (0) (And.intro rfl (And.intro (by decide +kernel) rfl)))))) ?_
  refine xa_cons 47 (xc_getf (A := A) (own := "ExpressHouse$Tokens") (index := 21) hx hb htsB xC_1 hown rfl (by decide) xw_212 (And.intro (by decide +kernel) rfl)) ?_
  refine xa_cons 48 ((And.intro (by decide +kernel) rfl)) ?_
  refine xa_cons 49 ((And.intro (by decide) (Exists.intro (52) (And.intro (by decide +kernel) (And.intro (by decide +kernel) rfl))))) ?_
  refine xa_cons 50 ((And.intro (by decide) (Or.inl (Exists.intro (0) (And.intro rfl (And.intro (by decide +kernel) rfl)))))) ?_
  refine xa_cons 51 ((And.intro (by decide +kernel) rfl)) ?_
  refine xa_cons 52 (xc_getf (A := A) (own := "ExpressHouse$Tokens") (index := 114) hx hb htsB xC_1 hown rfl (by decide) xw_717 (And.intro (by decide +kernel) rfl)) ?_
  refine xa_cons 53 (xc_iconst hx hb (z := 1) (b := 1) (And.intro (by decide +kernel) rfl) (by decide +kernel) ⟨rfl, rfl⟩) ?_
  refine xa_cons 54 ((And.intro (by decide) (And.intro (by decide +kernel) rfl))) ?_
  refine xa_cons 55 (xc_putf (own := "ExpressHouse$Tokens") (index := 114) hx hb htsB xC_1 hown rfl (by decide) xw_717 rfl (rfl) (And.intro (by decide +kernel) rfl)) ?_
  refine xa_cons 56 ((And.intro (by decide) (Or.inl (Exists.intro (0) (And.intro rfl (And.intro (by decide +kernel) rfl)))))) ?_
  refine xa_cons 57 ((And.intro (by decide) (Or.inl (Exists.intro (0) (And.intro rfl (And.intro (by decide +kernel) rfl)))))) ?_
  refine xa_cons 58 (xc_getf (A := A) (own := "ExpressHouse$Tokens") (index := 21) hx hb htsB xC_1 hown rfl (by decide) xw_212 (And.intro (by decide +kernel) rfl)) ?_
  refine xa_cons 59 ((And.intro (by decide) (Or.inl (Exists.intro (0) (And.intro rfl (And.intro (by decide +kernel) rfl)))))) ?_
  refine xa_cons 60 (xc_getf (A := A) (own := "ExpressHouse$Tokens") (index := 114) hx hb htsB xC_1 hown rfl (by decide) xw_717 (And.intro (by decide +kernel) rfl)) ?_
  refine xa_cons 61 ((And.intro (by decide) (And.intro (by decide +kernel) rfl))) ?_
  refine xa_cons 62 (xc_putf (own := "ExpressHouse$Tokens") (index := 123) hx hb htsB xC_1 hown rfl (by decide) xw_720 rfl (rfl) (And.intro (by decide +kernel) rfl)) ?_
  refine xa_cons 63 ((And.intro (by decide) (Or.inl (Exists.intro (0) (And.intro rfl (And.intro (by decide +kernel) rfl)))))) ?_
  refine xa_cons 64 ((And.intro (by decide) (Or.inl (Exists.intro (0) (And.intro rfl (And.intro (by decide +kernel) rfl)))))) ?_
  refine xa_cons 65 (xc_getf (A := A) (own := "ExpressHouse$Tokens") (index := 25) hx hb htsB xC_1 hown rfl (by decide) xw_213 (And.intro (by decide +kernel) rfl)) ?_
  refine xa_cons 66 ((And.intro (by decide) (Or.inl (Exists.intro (0) (And.intro rfl (And.intro (by decide +kernel) rfl)))))) ?_
  refine xa_cons 67 (xc_getf (A := A) (own := "ExpressHouse$Tokens") (index := 114) hx hb htsB xC_1 hown rfl (by decide) xw_717 (And.intro (by decide +kernel) rfl)) ?_
  refine xa_cons 68 ((And.intro (by decide) (And.intro (by decide +kernel) rfl))) ?_
  refine xa_cons 69 (xc_putf (own := "ExpressHouse$Tokens") (index := 129) hx hb htsB xC_1 hown rfl (by decide) xw_735 rfl (rfl) (And.intro (by decide +kernel) rfl)) ?_
  refine xa_cons 70 ((And.intro (by decide) (Or.inl (Exists.intro (0) (And.intro rfl (And.intro (by decide +kernel) rfl)))))) ?_
  refine xa_cons 71 ((And.intro (by decide) (Or.inl (Exists.intro (0) (And.intro rfl (And.intro (by decide +kernel) rfl)))))) ?_
  refine xa_cons 72 (xc_getf (A := A) (own := "ExpressHouse$Tokens") (index := 28) hx hb htsB xC_1 hown rfl (by decide) xw_215 (And.intro (by decide +kernel) rfl)) ?_
  refine xa_cons 73 ((And.intro (by decide) (Or.inl (Exists.intro (0) (And.intro rfl (And.intro (by decide +kernel) rfl)))))) ?_
  refine xa_cons 74 (xc_getf (A := A) (own := "ExpressHouse$Tokens") (index := 114) hx hb htsB xC_1 hown rfl (by decide) xw_717 (And.intro (by decide +kernel) rfl)) ?_
  refine xa_cons 75 ((And.intro (by decide) (And.intro (by decide +kernel) rfl))) ?_
  refine xa_cons 76 (xc_putf (own := "ExpressHouse$Tokens") (index := 132) hx hb htsB xC_1 hown rfl (by decide) xw_736 rfl (rfl) (And.intro (by decide +kernel) rfl)) ?_
  refine xa_cons 77 ((And.intro hr (by decide +kernel))) ?_
  exact xa_nil
def xrp_95 : Nat → Nat := fun k => ([0, 1, 4, 7, 8, 11, 14, 15, 16, 17, 20, 21, 22, 25, 26, 29, 30, 33, 34, 37, 40, 41, 44, 46, 47, 50, 51, 54, 56, 59, 60, 63, 65, 68, 71, 72, 73, 76, 79, 80, 83, 85, 88, 91, 92, 93, 96, 99, 100, 101, 104, 105, 108, 110, 113, 114, 117, 119, 122, 125, 126, 129, 131, 132, 135, 136, 138, 139, 140, 143, 144, 147] : List Nat).getD k 0
set_option maxRecDepth 20000 in
set_option maxHeartbeats 4000000 in
theorem xz_95 {l : Launch} {D : va_G} {en : XE} : x_Ok xT l D xcl en xrn (xG en) 95 xc_95 := by
  refine ⟨prog_11_method_8_code, none, xBIG, xrp_95, by decide +kernel, rfl, rfl, ?_⟩
  intro p e R s m args below meth c s₁ A Q pc i f1 f2 B hml hA hg hi
  obtain ⟨hx, hb, hr, hown, hlocks, hin, htsB, S⟩ := xb_all (C := "ExpressHouse$SchemaReader") B hml rfl rfl
  obtain ⟨hgN, hgZ, hgS, hgS2⟩ := xG_all hg
  refine xa_at (i := i) (pc := pc) ?_ hi
  refine xa_cons 0 ((And.intro (by decide) (Or.inl (Exists.intro (0) (And.intro rfl (And.intro (by decide +kernel) rfl)))))) ?_
  refine xa_cons 1 (xc_getf (A := A) (own := "ExpressHouse$SchemaReader") (index := 22) hx hb htsB xC_5 hown rfl (by decide) xw_258 (And.intro (by decide +kernel) rfl)) ?_
  refine xa_cons 2 ((And.intro (xc_callV (index := 126) (n := 0) (ci := 1) S xg_147 rfl xw_7 xw_737 xw_721 xw_722 rfl rfl rfl ⟨by decide, by decide, by decide +kernel⟩ rfl (And.intro (by decide +kernel) rfl)) (by decide +kernel))) ?_
  refine xa_cons 3 ((And.intro (by decide) (Or.inl (Exists.intro (0) (And.intro rfl (And.intro (by decide +kernel) rfl)))))) ?_
  refine xa_cons 4 (xc_getf (A := A) (own := "ExpressHouse$SchemaReader") (index := 22) hx hb htsB xC_5 hown rfl (by decide) xw_258 (And.intro (by decide +kernel) rfl)) ?_
  refine xa_cons 5 (xc_getf (A := A) (own := "ExpressHouse$SchemaReader") (index := 119) hx hb htsB xC_1 hown rfl (by decide) xw_738 (And.intro (by decide +kernel) rfl)) ?_
  refine xa_cons 6 ((And.intro (Or.inl rfl) (Or.inl (Exists.intro (1) (And.intro rfl (And.intro (by decide +kernel) rfl)))))) ?_
  refine xa_cons 7 ((And.intro (by decide) (Or.inl (Exists.intro (0) (And.intro rfl (And.intro (by decide +kernel) rfl)))))) ?_
  refine xa_cons 8 (xc_iconst hx hb (z := 0) (b := 0) (And.intro (by decide +kernel) rfl) (by decide +kernel) ⟨rfl, rfl⟩) ?_
  refine xa_cons 9 ((And.intro (xc_callV (index := 129) (n := 1) (ci := 5) S xg_151 rfl xw_29 xw_741 xw_739 xw_740 rfl rfl rfl ⟨by decide, by decide, by decide +kernel⟩ rfl (And.intro (by decide +kernel) rfl)) (by decide +kernel))) ?_
  refine xa_cons 10 ((And.intro (Or.inl rfl) (Or.inl (Exists.intro (2) (And.intro rfl (And.intro (by decide +kernel) rfl)))))) ?_
  refine xa_cons 11 ((And.intro (by decide) (Or.inl (Exists.intro (0) (And.intro rfl (And.intro (by decide +kernel) rfl)))))) ?_
  refine xa_cons 12 (xc_getf (A := A) (own := "ExpressHouse$SchemaReader") (index := 33) hx hb htsB xC_5 hown rfl (by decide) xw_490 (And.intro (by decide +kernel) rfl)) ?_
  refine xa_cons 13 (xc_iconst hx hb (z := 3) (b := 3) (And.intro (by decide +kernel) rfl) (by decide +kernel) ⟨rfl, rfl⟩) ?_
  refine xa_cons 14 ((And.intro (by decide) (Exists.intro (24) (And.intro (by decide +kernel) (And.intro (by decide +kernel) rfl))))) ?_
  refine xa_cons 15 ((And.intro (by decide) (Or.inl (Exists.intro (0) (And.intro rfl (And.intro (by decide +kernel) rfl)))))) ?_
  refine xa_cons 16 (xc_getf (A := A) (own := "ExpressHouse$SchemaReader") (index := 12) hx hb htsB xC_5 hown rfl (by decide) xw_256 (And.intro (by decide +kernel) rfl)) ?_
  refine xa_cons 17 ((And.intro (by decide) (Or.inl (Exists.intro (2) (And.intro rfl (And.intro (by decide +kernel) rfl)))))) ?_
  refine xa_cons 18 ((And.intro (xc_callV (index := 132) (n := 1) (ci := 3) S xg_152 rfl xw_15 xw_744 xw_742 xw_743 rfl rfl rfl ⟨by decide, by decide, by decide +kernel⟩ rfl (And.intro (by decide +kernel) rfl)) (by decide +kernel))) ?_
  refine xa_cons 19 ((And.intro (by decide) (Exists.intro (13) (And.intro (by decide +kernel) (And.intro (by decide +kernel) rfl))))) ?_
  refine xa_cons 20 ((And.intro (by decide) (Or.inl (Exists.intro (0) (And.intro rfl (And.intro (by decide +kernel) rfl)))))) ?_
  refine xa_cons 21 (xc_getf (A := A) (own := "ExpressHouse$SchemaReader") (index := 22) hx hb htsB xC_5 hown rfl (by decide) xw_258 (And.intro (by decide +kernel) rfl)) ?_
  refine xa_cons 22 (xc_bipush hx hb (z := 6) (b := 6) (And.intro (by decide +kernel) rfl) (by decide +kernel) ⟨rfl, rfl⟩) ?_
  refine xa_cons 23 ((And.intro (by decide) (Or.inl (Exists.intro (1) (And.intro rfl (And.intro (by decide +kernel) rfl)))))) ?_
  refine xa_cons 24 ((And.intro (xc_callV (index := 122) (n := 2) (ci := 1) S xg_153 rfl xw_7 xw_747 xw_745 xw_746 rfl rfl rfl ⟨by decide, by decide, by decide +kernel⟩ rfl (And.intro (by decide +kernel) rfl)) (by decide +kernel))) ?_
  refine xa_cons 25 ((And.intro (by decide) (Or.inl (Exists.intro (0) (And.intro rfl (And.intro (by decide +kernel) rfl)))))) ?_
  refine xa_cons 26 (xc_getf (A := A) (own := "ExpressHouse$SchemaReader") (index := 22) hx hb htsB xC_5 hown rfl (by decide) xw_258 (And.intro (by decide +kernel) rfl)) ?_
  refine xa_cons 27 (xc_bipush hx hb (z := 64) (b := 64) (And.intro (by decide +kernel) rfl) (by decide +kernel) ⟨rfl, rfl⟩) ?_
  refine xa_cons 28 ((And.intro (xc_callV (index := 60) (n := 1) (ci := 1) S xg_94 rfl xw_7 xw_502 xw_500 xw_501 rfl rfl rfl ⟨by decide, by decide, by decide +kernel⟩ rfl (And.intro (by decide +kernel) rfl)) (by decide +kernel))) ?_
  refine xa_cons 29 ((And.intro (by decide) (Or.inl (Exists.intro (0) (And.intro rfl (And.intro (by decide +kernel) rfl)))))) ?_
  refine xa_cons 30 (xc_getf (A := A) (own := "ExpressHouse$SchemaReader") (index := 22) hx hb htsB xC_5 hown rfl (by decide) xw_258 (And.intro (by decide +kernel) rfl)) ?_
  refine xa_cons 31 (xc_bipush hx hb (z := 12) (b := 12) (And.intro (by decide +kernel) rfl) (by decide +kernel) ⟨rfl, rfl⟩) ?_
  refine xa_cons 32 ((And.intro (xc_callV (index := 100) (n := 1) (ci := 1) S xg_154 rfl xw_7 xw_750 xw_748 xw_749 rfl rfl rfl ⟨by decide, by decide, by decide +kernel⟩ rfl (And.intro (by decide +kernel) rfl)) (by decide +kernel))) ?_
  refine xa_cons 33 ((And.intro (by decide) (Exists.intro (11) (And.intro (by decide +kernel) (And.intro (by decide +kernel) rfl))))) ?_
  refine xa_cons 34 ((And.intro (by decide) (Or.inl (Exists.intro (0) (And.intro rfl (And.intro (by decide +kernel) rfl)))))) ?_
  refine xa_cons 35 ((And.intro (by decide) (Or.inl (Exists.intro (2) (And.intro rfl (And.intro (by decide +kernel) rfl)))))) ?_
  refine xa_cons 36 ((And.intro (xc_callV (index := 135) (n := 1) (ci := 5) S xg_155 rfl xw_29 xw_753 xw_751 xw_752 rfl rfl rfl ⟨by decide, by decide, by decide +kernel⟩ rfl (And.intro (by decide +kernel) rfl)) (by decide +kernel))) ?_
  refine xa_cons 37 ((Exists.intro (28) (And.intro (by decide +kernel) (by decide +kernel)))) ?_
  refine xa_cons 38 ((And.intro (by decide) (Or.inl (Exists.intro (0) (And.intro rfl (And.intro (by decide +kernel) rfl)))))) ?_
  refine xa_cons 39 (xc_getf (A := A) (own := "ExpressHouse$SchemaReader") (index := 22) hx hb htsB xC_5 hown rfl (by decide) xw_258 (And.intro (by decide +kernel) rfl)) ?_
  refine xa_cons 40 (xc_bipush hx hb (z := 13) (b := 13) (And.intro (by decide +kernel) rfl) (by decide +kernel) ⟨rfl, rfl⟩) ?_
  refine xa_cons 41 ((And.intro (xc_callV (index := 100) (n := 1) (ci := 1) S xg_154 rfl xw_7 xw_750 xw_748 xw_749 rfl rfl rfl ⟨by decide, by decide, by decide +kernel⟩ rfl (And.intro (by decide +kernel) rfl)) (by decide +kernel))) ?_
  refine xa_cons 42 ((And.intro (by decide) (Exists.intro (11) (And.intro (by decide +kernel) (And.intro (by decide +kernel) rfl))))) ?_
  refine xa_cons 43 ((And.intro (by decide) (Or.inl (Exists.intro (0) (And.intro rfl (And.intro (by decide +kernel) rfl)))))) ?_
  refine xa_cons 44 ((And.intro (by decide) (Or.inl (Exists.intro (2) (And.intro rfl (And.intro (by decide +kernel) rfl)))))) ?_
  refine xa_cons 45 ((And.intro (xc_callV (index := 138) (n := 1) (ci := 5) S xg_156 rfl xw_29 xw_756 xw_754 xw_755 rfl rfl rfl ⟨by decide, by decide, by decide +kernel⟩ rfl (And.intro (by decide +kernel) rfl)) (by decide +kernel))) ?_
  refine xa_cons 46 ((Exists.intro (8) (And.intro (by decide +kernel) (by decide +kernel)))) ?_
  refine xa_cons 47 ((And.intro (by decide) (Or.inl (Exists.intro (0) (And.intro rfl (And.intro (by decide +kernel) rfl)))))) ?_
  refine xa_cons 48 ((And.intro (by decide) (Or.inl (Exists.intro (2) (And.intro rfl (And.intro (by decide +kernel) rfl)))))) ?_
  refine xa_cons 49 ((And.intro (xc_callV (index := 141) (n := 1) (ci := 5) S xg_157 rfl xw_29 xw_759 xw_757 xw_758 rfl rfl rfl ⟨by decide, by decide, by decide +kernel⟩ rfl (And.intro (by decide +kernel) rfl)) (by decide +kernel))) ?_
  refine xa_cons 50 ((And.intro (by decide) (Or.inl (Exists.intro (0) (And.intro rfl (And.intro (by decide +kernel) rfl)))))) ?_
  refine xa_cons 51 (xc_getf (A := A) (own := "ExpressHouse$SchemaReader") (index := 22) hx hb htsB xC_5 hown rfl (by decide) xw_258 (And.intro (by decide +kernel) rfl)) ?_
  refine xa_cons 52 (xc_bipush hx hb (z := 78) (b := 78) (And.intro (by decide +kernel) rfl) (by decide +kernel) ⟨rfl, rfl⟩) ?_
  refine xa_cons 53 ((And.intro (xc_callV (index := 60) (n := 1) (ci := 1) S xg_94 rfl xw_7 xw_502 xw_500 xw_501 rfl rfl rfl ⟨by decide, by decide, by decide +kernel⟩ rfl (And.intro (by decide +kernel) rfl)) (by decide +kernel))) ?_
  refine xa_cons 54 ((And.intro (by decide) (Or.inl (Exists.intro (0) (And.intro rfl (And.intro (by decide +kernel) rfl)))))) ?_
  refine xa_cons 55 (xc_getf (A := A) (own := "ExpressHouse$SchemaReader") (index := 22) hx hb htsB xC_5 hown rfl (by decide) xw_258 (And.intro (by decide +kernel) rfl)) ?_
  refine xa_cons 56 (xc_bipush hx hb (z := 25) (b := 25) (And.intro (by decide +kernel) rfl) (by decide +kernel) ⟨rfl, rfl⟩) ?_
  refine xa_cons 57 ((And.intro (xc_callV (index := 100) (n := 1) (ci := 1) S xg_154 rfl xw_7 xw_750 xw_748 xw_749 rfl rfl rfl ⟨by decide, by decide, by decide +kernel⟩ rfl (And.intro (by decide +kernel) rfl)) (by decide +kernel))) ?_
  refine xa_cons 58 ((And.intro (by decide) (Exists.intro (21) (And.intro (by decide +kernel) (And.intro (by decide +kernel) rfl))))) ?_
  refine xa_cons 59 ((And.intro (by decide) (Or.inl (Exists.intro (0) (And.intro rfl (And.intro (by decide +kernel) rfl)))))) ?_
  refine xa_cons 60 (xc_getf (A := A) (own := "ExpressHouse$SchemaReader") (index := 26) hx hb htsB xC_5 hown rfl (by decide) xw_259 (And.intro (by decide +kernel) rfl)) ?_
  refine xa_cons 61 (xc_bipush hx hb (z := -3) (b := 4294967293) (And.intro (by decide +kernel) rfl) (by decide +kernel) ⟨rfl, rfl⟩) ?_
  refine xa_cons 62 (xc_iconst hx hb (z := 1) (b := 1) (And.intro (by decide +kernel) rfl) (by decide +kernel) ⟨rfl, rfl⟩) ?_
  refine xa_cons 63 ((And.intro (xc_callV (index := 144) (n := 2) (ci := 4) S xg_150 rfl xw_22 xw_760 xw_732 xw_733 rfl rfl rfl ⟨by decide, by decide, by decide +kernel⟩ rfl (And.intro (by decide +kernel) rfl)) (by decide +kernel))) ?_
  refine xa_cons 64 ((And.intro (by decide) (Or.inl (Exists.intro (0) (And.intro rfl (And.intro (by decide +kernel) rfl)))))) ?_
  refine xa_cons 65 (xc_bipush hx hb (z := 12) (b := 12) (And.intro (by decide +kernel) rfl) (by decide +kernel) ⟨rfl, rfl⟩) ?_
  refine xa_cons 66 ((And.intro (by decide) (Or.inl (Exists.intro (2) (And.intro rfl (And.intro (by decide +kernel) rfl)))))) ?_
  refine xa_cons 67 ((And.intro (by decide) (And.intro (by decide +kernel) rfl))) ?_
  refine xa_cons 68 ((And.intro (xc_callV (index := 148) (n := 1) (ci := 5) S xg_158 rfl xw_29 xw_763 xw_761 xw_762 rfl rfl rfl ⟨by decide, by decide, by decide +kernel⟩ rfl (And.intro (by decide +kernel) rfl)) (by decide +kernel))) ?_
  refine xa_cons 69 ((And.intro (by decide) (Or.inl (Exists.intro (0) (And.intro rfl (And.intro (by decide +kernel) rfl)))))) ?_
  refine xa_cons 70 ((And.intro (xc_callV (index := 80) (n := 0) (ci := 5) S xg_99 rfl xw_29 xw_519 xw_517 xw_518 rfl rfl rfl ⟨by decide, by decide, by decide +kernel⟩ rfl (And.intro (by decide +kernel) rfl)) (by decide +kernel))) ?_
  refine xa_cons 71 ((And.intro hr (by decide +kernel))) ?_
  exact xa_nil
def xrp_96 : Nat → Nat := fun k => ([0, 1, 4, 7, 8, 11, 14, 15, 16, 17, 20, 21, 22, 25, 28, 29, 30, 31, 32, 35, 36, 39, 40, 41, 42, 43, 44, 45, 46, 47, 50, 51, 54, 56, 57, 60, 61, 64, 66, 69, 72, 73, 76, 79, 80, 81, 82, 83, 84, 87, 89, 92, 95, 96, 97, 100, 101, 104, 106, 109, 112, 113, 116, 119, 120, 121, 124, 125, 127, 128, 131, 134, 135, 136, 137, 140, 141, 144, 145, 146, 149, 150, 153, 155, 158, 159, 160, 163, 164, 167, 169, 172, 175, 176, 177, 180, 181, 184, 186, 189, 192, 193, 196, 197, 198, 201, 202, 203, 206, 207, 209, 210, 213, 216, 217, 218, 219, 220, 223] : List Nat).getD k 0
set_option maxRecDepth 20000 in
set_option maxHeartbeats 4000000 in
theorem xz_96 {l : Launch} {D : va_G} {en : XE} : x_Ok xT l D xcl en xrn (xG en) 96 xc_96 := by
  refine ⟨prog_11_method_19_code, none, xBIG, xrp_96, by decide +kernel, rfl, rfl, ?_⟩
  intro p e R s m args below meth c s₁ A Q pc i f1 f2 B hml hA hg hi
  obtain ⟨hx, hb, hr, hown, hlocks, hin, htsB, S⟩ := xb_all (C := "ExpressHouse$SchemaReader") B hml rfl rfl
  obtain ⟨hgN, hgZ, hgS, hgS2⟩ := xG_all hg
  refine xa_at (i := i) (pc := pc) ?_ hi
  refine xa_cons 0 ((And.intro (by decide) (Or.inl (Exists.intro (0) (And.intro rfl (And.intro (by decide +kernel) rfl)))))) ?_
  refine xa_cons 1 (xc_getf (A := A) (own := "ExpressHouse$SchemaReader") (index := 22) hx hb htsB xC_5 hown rfl (by decide) xw_258 (And.intro (by decide +kernel) rfl)) ?_
  refine xa_cons 2 ((And.intro (xc_callV (index := 126) (n := 0) (ci := 1) S xg_147 rfl xw_7 xw_737 xw_721 xw_722 rfl rfl rfl ⟨by decide, by decide, by decide +kernel⟩ rfl (And.intro (by decide +kernel) rfl)) (by decide +kernel))) ?_
  refine xa_cons 3 ((And.intro (by decide) (Or.inl (Exists.intro (0) (And.intro rfl (And.intro (by decide +kernel) rfl)))))) ?_
  refine xa_cons 4 (xc_getf (A := A) (own := "ExpressHouse$SchemaReader") (index := 22) hx hb htsB xC_5 hown rfl (by decide) xw_258 (And.intro (by decide +kernel) rfl)) ?_
  refine xa_cons 5 (xc_getf (A := A) (own := "ExpressHouse$SchemaReader") (index := 119) hx hb htsB xC_1 hown rfl (by decide) xw_738 (And.intro (by decide +kernel) rfl)) ?_
  refine xa_cons 6 ((And.intro (Or.inl rfl) (Or.inl (Exists.intro (1) (And.intro rfl (And.intro (by decide +kernel) rfl)))))) ?_
  refine xa_cons 7 ((And.intro (by decide) (Or.inl (Exists.intro (0) (And.intro rfl (And.intro (by decide +kernel) rfl)))))) ?_
  refine xa_cons 8 (xc_iconst hx hb (z := 2) (b := 2) (And.intro (by decide +kernel) rfl) (by decide +kernel) ⟨rfl, rfl⟩) ?_
  refine xa_cons 9 ((And.intro (xc_callV (index := 129) (n := 1) (ci := 5) S xg_151 rfl xw_29 xw_741 xw_739 xw_740 rfl rfl rfl ⟨by decide, by decide, by decide +kernel⟩ rfl (And.intro (by decide +kernel) rfl)) (by decide +kernel))) ?_
  refine xa_cons 10 ((And.intro (Or.inl rfl) (Or.inl (Exists.intro (2) (And.intro rfl (And.intro (by decide +kernel) rfl)))))) ?_
  refine xa_cons 11 ((And.intro (by decide) (Or.inl (Exists.intro (0) (And.intro rfl (And.intro (by decide +kernel) rfl)))))) ?_
  refine xa_cons 12 (xc_getf (A := A) (own := "ExpressHouse$SchemaReader") (index := 12) hx hb htsB xC_5 hown rfl (by decide) xw_256 (And.intro (by decide +kernel) rfl)) ?_
  refine xa_cons 13 (xc_getf (A := A) (own := "ExpressHouse$SchemaReader") (index := 218) hx hb htsB xC_3 hown rfl (by decide) xw_764 (And.intro (by decide +kernel) rfl)) ?_
  refine xa_cons 14 ((And.intro (by decide) (Or.inl (Exists.intro (2) (And.intro rfl (And.intro (by decide +kernel) rfl)))))) ?_
  refine xa_cons 15 ((And.intro (by decide) (And.intro (by decide +kernel) rfl))) ?_
  refine xa_cons 16 ((And.intro (Or.inr rfl) (Or.inl (Exists.intro (3) (And.intro rfl (And.intro (by decide +kernel) rfl)))))) ?_
  refine xa_cons 17 ((And.intro (by decide) (Or.inl (Exists.intro (0) (And.intro rfl (And.intro (by decide +kernel) rfl)))))) ?_
  refine xa_cons 18 (xc_getf (A := A) (own := "ExpressHouse$SchemaReader") (index := 33) hx hb htsB xC_5 hown rfl (by decide) xw_490 (And.intro (by decide +kernel) rfl)) ?_
  refine xa_cons 19 (xc_iconst hx hb (z := 3) (b := 3) (And.intro (by decide +kernel) rfl) (by decide +kernel) ⟨rfl, rfl⟩) ?_
  refine xa_cons 20 ((And.intro (by decide) (Exists.intro (24) (And.intro (by decide +kernel) (And.intro (by decide +kernel) rfl))))) ?_
  refine xa_cons 21 ((And.intro (by decide) (Or.inl (Exists.intro (3) (And.intro rfl (And.intro (by decide +kernel) rfl)))))) ?_
  refine xa_cons 22 (xc_iconst hx hb (z := 2) (b := 2) (And.intro (by decide +kernel) rfl) (by decide +kernel) ⟨rfl, rfl⟩) ?_
  refine xa_cons 23 ((And.intro (by decide) (And.intro (by decide +kernel) rfl))) ?_
  refine xa_cons 24 ((And.intro (by decide) (Or.inl (Exists.intro (2) (And.intro rfl (And.intro (by decide +kernel) rfl)))))) ?_
  refine xa_cons 25 ((And.intro (by decide) (And.intro (by decide +kernel) rfl))) ?_
  refine xa_cons 26 (xc_iconst hx hb (z := 1) (b := 1) (And.intro (by decide +kernel) rfl) (by decide +kernel) ⟨rfl, rfl⟩) ?_
  refine xa_cons 27 ((And.intro (by decide) (And.intro (by decide +kernel) rfl))) ?_
  refine xa_cons 28 (xc_iconst hx hb (z := 1) (b := 1) (And.intro (by decide +kernel) rfl) (by decide +kernel) ⟨rfl, rfl⟩) ?_
  refine xa_cons 29 ((And.intro (by decide) (Exists.intro (13) (And.intro (by decide +kernel) (And.intro (by decide +kernel) rfl))))) ?_
  refine xa_cons 30 ((And.intro (by decide) (Or.inl (Exists.intro (0) (And.intro rfl (And.intro (by decide +kernel) rfl)))))) ?_
  refine xa_cons 31 (xc_getf (A := A) (own := "ExpressHouse$SchemaReader") (index := 22) hx hb htsB xC_5 hown rfl (by decide) xw_258 (And.intro (by decide +kernel) rfl)) ?_
  refine xa_cons 32 (xc_bipush hx hb (z := 6) (b := 6) (And.intro (by decide +kernel) rfl) (by decide +kernel) ⟨rfl, rfl⟩) ?_
  refine xa_cons 33 ((And.intro (by decide) (Or.inl (Exists.intro (1) (And.intro rfl (And.intro (by decide +kernel) rfl)))))) ?_
  refine xa_cons 34 ((And.intro (xc_callV (index := 122) (n := 2) (ci := 1) S xg_153 rfl xw_7 xw_747 xw_745 xw_746 rfl rfl rfl ⟨by decide, by decide, by decide +kernel⟩ rfl (And.intro (by decide +kernel) rfl)) (by decide +kernel))) ?_
  refine xa_cons 35 ((And.intro (by decide) (Or.inl (Exists.intro (0) (And.intro rfl (And.intro (by decide +kernel) rfl)))))) ?_
  refine xa_cons 36 (xc_getf (A := A) (own := "ExpressHouse$SchemaReader") (index := 22) hx hb htsB xC_5 hown rfl (by decide) xw_258 (And.intro (by decide +kernel) rfl)) ?_
  refine xa_cons 37 (xc_bipush hx hb (z := 15) (b := 15) (And.intro (by decide +kernel) rfl) (by decide +kernel) ⟨rfl, rfl⟩) ?_
  refine xa_cons 38 ((And.intro (xc_callV (index := 100) (n := 1) (ci := 1) S xg_154 rfl xw_7 xw_750 xw_748 xw_749 rfl rfl rfl ⟨by decide, by decide, by decide +kernel⟩ rfl (And.intro (by decide +kernel) rfl)) (by decide +kernel))) ?_
  refine xa_cons 39 ((And.intro (by decide) (Exists.intro (14) (And.intro (by decide +kernel) (And.intro (by decide +kernel) rfl))))) ?_
  refine xa_cons 40 ((And.intro (by decide) (Or.inl (Exists.intro (0) (And.intro rfl (And.intro (by decide +kernel) rfl)))))) ?_
  refine xa_cons 41 (xc_getf (A := A) (own := "ExpressHouse$SchemaReader") (index := 22) hx hb htsB xC_5 hown rfl (by decide) xw_258 (And.intro (by decide +kernel) rfl)) ?_
  refine xa_cons 42 ((And.intro (xc_callV (index := 126) (n := 0) (ci := 1) S xg_147 rfl xw_7 xw_737 xw_721 xw_722 rfl rfl rfl ⟨by decide, by decide, by decide +kernel⟩ rfl (And.intro (by decide +kernel) rfl)) (by decide +kernel))) ?_
  refine xa_cons 43 ((And.intro (by decide) (Or.inl (Exists.intro (3) (And.intro rfl (And.intro (by decide +kernel) rfl)))))) ?_
  refine xa_cons 44 (xc_iconst hx hb (z := 0) (b := 0) (And.intro (by decide +kernel) rfl) (by decide +kernel) ⟨rfl, rfl⟩) ?_
  refine xa_cons 45 (xc_iconst hx hb (z := 1) (b := 1) (And.intro (by decide +kernel) rfl) (by decide +kernel) ⟨rfl, rfl⟩) ?_
  refine xa_cons 46 ((And.intro (by decide) (And.intro (by decide +kernel) rfl))) ?_
  refine xa_cons 47 ((And.intro (by decide) (Or.inl (Exists.intro (0) (And.intro rfl (And.intro (by decide +kernel) rfl)))))) ?_
  refine xa_cons 48 (xc_getf (A := A) (own := "ExpressHouse$SchemaReader") (index := 22) hx hb htsB xC_5 hown rfl (by decide) xw_258 (And.intro (by decide +kernel) rfl)) ?_
  refine xa_cons 49 (xc_bipush hx hb (z := 16) (b := 16) (And.intro (by decide +kernel) rfl) (by decide +kernel) ⟨rfl, rfl⟩) ?_
  refine xa_cons 50 ((And.intro (xc_callV (index := 100) (n := 1) (ci := 1) S xg_154 rfl xw_7 xw_750 xw_748 xw_749 rfl rfl rfl ⟨by decide, by decide, by decide +kernel⟩ rfl (And.intro (by decide +kernel) rfl)) (by decide +kernel))) ?_
  refine xa_cons 51 ((And.intro (by decide) (Exists.intro (8) (And.intro (by decide +kernel) (And.intro (by decide +kernel) rfl))))) ?_
  refine xa_cons 52 ((And.intro (by decide) (Or.inl (Exists.intro (0) (And.intro rfl (And.intro (by decide +kernel) rfl)))))) ?_
  refine xa_cons 53 ((And.intro (by decide) (Or.inl (Exists.intro (2) (And.intro rfl (And.intro (by decide +kernel) rfl)))))) ?_
  refine xa_cons 54 ((And.intro (xc_callV (index := 221) (n := 1) (ci := 5) S xg_159 rfl xw_29 xw_767 xw_765 xw_766 rfl rfl rfl ⟨by decide, by decide, by decide +kernel⟩ rfl (And.intro (by decide +kernel) rfl)) (by decide +kernel))) ?_
  refine xa_cons 55 ((And.intro (by decide) (Or.inl (Exists.intro (0) (And.intro rfl (And.intro (by decide +kernel) rfl)))))) ?_
  refine xa_cons 56 (xc_getf (A := A) (own := "ExpressHouse$SchemaReader") (index := 22) hx hb htsB xC_5 hown rfl (by decide) xw_258 (And.intro (by decide +kernel) rfl)) ?_
  refine xa_cons 57 (xc_bipush hx hb (z := 17) (b := 17) (And.intro (by decide +kernel) rfl) (by decide +kernel) ⟨rfl, rfl⟩) ?_
  refine xa_cons 58 ((And.intro (xc_callV (index := 100) (n := 1) (ci := 1) S xg_154 rfl xw_7 xw_750 xw_748 xw_749 rfl rfl rfl ⟨by decide, by decide, by decide +kernel⟩ rfl (And.intro (by decide +kernel) rfl)) (by decide +kernel))) ?_
  refine xa_cons 59 ((And.intro (by decide) (Exists.intro (40) (And.intro (by decide +kernel) (And.intro (by decide +kernel) rfl))))) ?_
  refine xa_cons 60 ((And.intro (by decide) (Or.inl (Exists.intro (0) (And.intro rfl (And.intro (by decide +kernel) rfl)))))) ?_
  refine xa_cons 61 (xc_getf (A := A) (own := "ExpressHouse$SchemaReader") (index := 22) hx hb htsB xC_5 hown rfl (by decide) xw_258 (And.intro (by decide +kernel) rfl)) ?_
  refine xa_cons 62 ((And.intro (xc_callV (index := 126) (n := 0) (ci := 1) S xg_147 rfl xw_7 xw_737 xw_721 xw_722 rfl rfl rfl ⟨by decide, by decide, by decide +kernel⟩ rfl (And.intro (by decide +kernel) rfl)) (by decide +kernel))) ?_
  refine xa_cons 63 ((And.intro (by decide) (Or.inl (Exists.intro (0) (And.intro rfl (And.intro (by decide +kernel) rfl)))))) ?_
  refine xa_cons 64 (xc_iconst hx hb (z := 0) (b := 0) (And.intro (by decide +kernel) rfl) (by decide +kernel) ⟨rfl, rfl⟩) ?_
  refine xa_cons 65 (xc_putf (own := "ExpressHouse$SchemaReader") (index := 224) hx hb htsB xC_5 hown rfl (by decide) xw_768 rfl (rfl) (And.intro (by decide +kernel) rfl)) ?_
  refine xa_cons 66 ((And.intro (by decide) (Or.inl (Exists.intro (3) (And.intro rfl (And.intro (by decide +kernel) rfl)))))) ?_
  refine xa_cons 67 (xc_bipush hx hb (z := 8) (b := 8) (And.intro (by decide +kernel) rfl) (by decide +kernel) ⟨rfl, rfl⟩) ?_
  refine xa_cons 68 ((And.intro (by decide) (Or.inl (Exists.intro (0) (And.intro rfl (And.intro (by decide +kernel) rfl)))))) ?_
  refine xa_cons 69 (xc_getf (A := A) (own := "ExpressHouse$SchemaReader") (index := 26) hx hb htsB xC_5 hown rfl (by decide) xw_259 (And.intro (by decide +kernel) rfl)) ?_
  refine xa_cons 70 (xc_getf (A := A) (own := "ExpressHouse$SchemaReader") (index := 83) hx hb htsB xC_4 hown rfl (by decide) xw_520 (And.intro (by decide +kernel) rfl)) ?_
  refine xa_cons 71 ((And.intro (by decide) (And.intro (by decide +kernel) rfl))) ?_
  refine xa_cons 72 ((And.intro (by decide) (Or.inl (Exists.intro (0) (And.intro rfl (And.intro (by decide +kernel) rfl)))))) ?_
  refine xa_cons 73 ((And.intro (by decide) (Or.inl (Exists.intro (2) (And.intro rfl (And.intro (by decide +kernel) rfl)))))) ?_
  refine xa_cons 74 ((And.intro (xc_callV (index := 227) (n := 1) (ci := 5) S xg_160 rfl xw_29 xw_771 xw_769 xw_770 rfl rfl rfl ⟨by decide, by decide, by decide +kernel⟩ rfl (And.intro (by decide +kernel) rfl)) (by decide +kernel))) ?_
  refine xa_cons 75 ((And.intro (by decide) (Or.inl (Exists.intro (0) (And.intro rfl (And.intro (by decide +kernel) rfl)))))) ?_
  refine xa_cons 76 (xc_getf (A := A) (own := "ExpressHouse$SchemaReader") (index := 26) hx hb htsB xC_5 hown rfl (by decide) xw_259 (And.intro (by decide +kernel) rfl)) ?_
  refine xa_cons 77 (xc_iconst hx hb (z := 0) (b := 0) (And.intro (by decide +kernel) rfl) (by decide +kernel) ⟨rfl, rfl⟩) ?_
  refine xa_cons 78 (xc_iconst hx hb (z := 0) (b := 0) (And.intro (by decide +kernel) rfl) (by decide +kernel) ⟨rfl, rfl⟩) ?_
  refine xa_cons 79 ((And.intro (xc_callV (index := 230) (n := 2) (ci := 4) S xg_161 rfl xw_22 xw_774 xw_772 xw_773 rfl rfl rfl ⟨by decide, by decide, by decide +kernel⟩ rfl (And.intro (by decide +kernel) rfl)) (by decide +kernel))) ?_
  refine xa_cons 80 ((And.intro (by decide) (Or.inl (Exists.intro (0) (And.intro rfl (And.intro (by decide +kernel) rfl)))))) ?_
  refine xa_cons 81 (xc_getf (A := A) (own := "ExpressHouse$SchemaReader") (index := 22) hx hb htsB xC_5 hown rfl (by decide) xw_258 (And.intro (by decide +kernel) rfl)) ?_
  refine xa_cons 82 (xc_bipush hx hb (z := 78) (b := 78) (And.intro (by decide +kernel) rfl) (by decide +kernel) ⟨rfl, rfl⟩) ?_
  refine xa_cons 83 ((And.intro (xc_callV (index := 60) (n := 1) (ci := 1) S xg_94 rfl xw_7 xw_502 xw_500 xw_501 rfl rfl rfl ⟨by decide, by decide, by decide +kernel⟩ rfl (And.intro (by decide +kernel) rfl)) (by decide +kernel))) ?_
  refine xa_cons 84 ((And.intro (by decide) (Or.inl (Exists.intro (0) (And.intro rfl (And.intro (by decide +kernel) rfl)))))) ?_
  refine xa_cons 85 ((And.intro (by decide) (Or.inl (Exists.intro (2) (And.intro rfl (And.intro (by decide +kernel) rfl)))))) ?_
  refine xa_cons 86 ((And.intro (xc_callV (index := 232) (n := 1) (ci := 5) S xg_162 rfl xw_29 xw_777 xw_775 xw_776 rfl rfl rfl ⟨by decide, by decide, by decide +kernel⟩ rfl (And.intro (by decide +kernel) rfl)) (by decide +kernel))) ?_
  refine xa_cons 87 ((And.intro (by decide) (Or.inl (Exists.intro (0) (And.intro rfl (And.intro (by decide +kernel) rfl)))))) ?_
  refine xa_cons 88 (xc_getf (A := A) (own := "ExpressHouse$SchemaReader") (index := 22) hx hb htsB xC_5 hown rfl (by decide) xw_258 (And.intro (by decide +kernel) rfl)) ?_
  refine xa_cons 89 (xc_bipush hx hb (z := 24) (b := 24) (And.intro (by decide +kernel) rfl) (by decide +kernel) ⟨rfl, rfl⟩) ?_
  refine xa_cons 90 ((And.intro (xc_callV (index := 100) (n := 1) (ci := 1) S xg_154 rfl xw_7 xw_750 xw_748 xw_749 rfl rfl rfl ⟨by decide, by decide, by decide +kernel⟩ rfl (And.intro (by decide +kernel) rfl)) (by decide +kernel))) ?_
  refine xa_cons 91 ((And.intro (by decide) (Exists.intro (8) (And.intro (by decide +kernel) (And.intro (by decide +kernel) rfl))))) ?_
  refine xa_cons 92 ((And.intro (by decide) (Or.inl (Exists.intro (0) (And.intro rfl (And.intro (by decide +kernel) rfl)))))) ?_
  refine xa_cons 93 ((And.intro (by decide) (Or.inl (Exists.intro (2) (And.intro rfl (And.intro (by decide +kernel) rfl)))))) ?_
  refine xa_cons 94 ((And.intro (xc_callV (index := 235) (n := 1) (ci := 5) S xg_163 rfl xw_29 xw_780 xw_778 xw_779 rfl rfl rfl ⟨by decide, by decide, by decide +kernel⟩ rfl (And.intro (by decide +kernel) rfl)) (by decide +kernel))) ?_
  refine xa_cons 95 ((And.intro (by decide) (Or.inl (Exists.intro (0) (And.intro rfl (And.intro (by decide +kernel) rfl)))))) ?_
  refine xa_cons 96 (xc_getf (A := A) (own := "ExpressHouse$SchemaReader") (index := 22) hx hb htsB xC_5 hown rfl (by decide) xw_258 (And.intro (by decide +kernel) rfl)) ?_
  refine xa_cons 97 (xc_bipush hx hb (z := 25) (b := 25) (And.intro (by decide +kernel) rfl) (by decide +kernel) ⟨rfl, rfl⟩) ?_
  refine xa_cons 98 ((And.intro (xc_callV (index := 100) (n := 1) (ci := 1) S xg_154 rfl xw_7 xw_750 xw_748 xw_749 rfl rfl rfl ⟨by decide, by decide, by decide +kernel⟩ rfl (And.intro (by decide +kernel) rfl)) (by decide +kernel))) ?_
  refine xa_cons 99 ((And.intro (by decide) (Exists.intro (30) (And.intro (by decide +kernel) (And.intro (by decide +kernel) rfl))))) ?_
  refine xa_cons 100 ((And.intro (by decide) (Or.inl (Exists.intro (0) (And.intro rfl (And.intro (by decide +kernel) rfl)))))) ?_
  refine xa_cons 101 (xc_getf (A := A) (own := "ExpressHouse$SchemaReader") (index := 26) hx hb htsB xC_5 hown rfl (by decide) xw_259 (And.intro (by decide +kernel) rfl)) ?_
  refine xa_cons 102 ((And.intro (by decide) (Or.inl (Exists.intro (2) (And.intro rfl (And.intro (by decide +kernel) rfl)))))) ?_
  refine xa_cons 103 (xc_iconst hx hb (z := 1) (b := 1) (And.intro (by decide +kernel) rfl) (by decide +kernel) ⟨rfl, rfl⟩) ?_
  refine xa_cons 104 ((And.intro (xc_callV (index := 144) (n := 2) (ci := 4) S xg_150 rfl xw_22 xw_760 xw_732 xw_733 rfl rfl rfl ⟨by decide, by decide, by decide +kernel⟩ rfl (And.intro (by decide +kernel) rfl)) (by decide +kernel))) ?_
  refine xa_cons 105 ((And.intro (by decide) (Or.inl (Exists.intro (0) (And.intro rfl (And.intro (by decide +kernel) rfl)))))) ?_
  refine xa_cons 106 ((And.intro (by decide) (Or.inl (Exists.intro (2) (And.intro rfl (And.intro (by decide +kernel) rfl)))))) ?_
  refine xa_cons 107 ((And.intro (xc_callV (index := 148) (n := 1) (ci := 5) S xg_158 rfl xw_29 xw_763 xw_761 xw_762 rfl rfl rfl ⟨by decide, by decide, by decide +kernel⟩ rfl (And.intro (by decide +kernel) rfl)) (by decide +kernel))) ?_
  refine xa_cons 108 ((And.intro (by decide) (Or.inl (Exists.intro (3) (And.intro rfl (And.intro (by decide +kernel) rfl)))))) ?_
  refine xa_cons 109 (xc_bipush hx hb (z := 7) (b := 7) (And.intro (by decide +kernel) rfl) (by decide +kernel) ⟨rfl, rfl⟩) ?_
  refine xa_cons 110 ((And.intro (by decide) (Or.inl (Exists.intro (0) (And.intro rfl (And.intro (by decide +kernel) rfl)))))) ?_
  refine xa_cons 111 (xc_getf (A := A) (own := "ExpressHouse$SchemaReader") (index := 12) hx hb htsB xC_5 hown rfl (by decide) xw_256 (And.intro (by decide +kernel) rfl)) ?_
  refine xa_cons 112 (xc_getf (A := A) (own := "ExpressHouse$SchemaReader") (index := 212) hx hb htsB xC_3 hown rfl (by decide) xw_781 (And.intro (by decide +kernel) rfl)) ?_
  refine xa_cons 113 ((And.intro (by decide) (Or.inl (Exists.intro (2) (And.intro rfl (And.intro (by decide +kernel) rfl)))))) ?_
  refine xa_cons 114 ((And.intro (by decide) (And.intro (by decide +kernel) rfl))) ?_
  refine xa_cons 115 ((And.intro (by decide) (And.intro (by decide +kernel) rfl))) ?_
  refine xa_cons 116 ((And.intro (by decide) (Or.inl (Exists.intro (0) (And.intro rfl (And.intro (by decide +kernel) rfl)))))) ?_
  refine xa_cons 117 ((And.intro (xc_callV (index := 80) (n := 0) (ci := 5) S xg_99 rfl xw_29 xw_519 xw_517 xw_518 rfl rfl rfl ⟨by decide, by decide, by decide +kernel⟩ rfl (And.intro (by decide +kernel) rfl)) (by decide +kernel))) ?_
  refine xa_cons 118 ((And.intro hr (by decide +kernel))) ?_
  exact xa_nil
def xrp_97 : Nat → Nat := fun k => ([0, 1, 4, 7, 8, 11, 14, 15, 16, 19, 20, 21, 22, 25, 27, 28, 31, 32, 35, 37, 40, 41, 44, 46, 49, 52, 53, 54, 55, 58, 59, 60, 61, 63, 66, 67, 70, 72, 75, 78, 79, 82, 85, 86, 87, 88, 91, 94, 97, 98, 101, 104, 105, 106, 107, 108, 109, 110, 113, 115, 118, 119, 122, 124, 127, 128, 129, 130, 133, 134, 135, 138, 140, 143, 144, 145, 146, 148, 151, 152, 155, 157, 160, 163, 164, 167, 170, 171, 172, 173, 175, 176, 179, 180, 183, 185, 188, 191, 194, 195, 196, 197, 200, 203, 204, 205, 207, 210, 211, 213, 216, 217, 218, 219, 222, 223, 226, 228, 231, 232, 235] : List Nat).getD k 0
set_option maxRecDepth 20000 in
set_option maxHeartbeats 4000000 in
theorem xz_97 {l : Launch} {D : va_G} {en : XE} : x_Ok xT l D xcl en xrn (xG en) 97 xc_97 := by
  refine ⟨prog_11_method_34_code, none, xBIG, xrp_97, by decide +kernel, rfl, rfl, ?_⟩
  intro p e R s m args below meth c s₁ A Q pc i f1 f2 B hml hA hg hi
  obtain ⟨hx, hb, hr, hown, hlocks, hin, htsB, S⟩ := xb_all (C := "ExpressHouse$SchemaReader") B hml rfl rfl
  obtain ⟨hgN, hgZ, hgS, hgS2⟩ := xG_all hg
  refine xa_at (i := i) (pc := pc) ?_ hi
  refine xa_cons 0 ((And.intro (by decide) (Or.inl (Exists.intro (0) (And.intro rfl (And.intro (by decide +kernel) rfl)))))) ?_
  refine xa_cons 1 (xc_getf (A := A) (own := "ExpressHouse$SchemaReader") (index := 22) hx hb htsB xC_5 hown rfl (by decide) xw_258 (And.intro (by decide +kernel) rfl)) ?_
  refine xa_cons 2 ((And.intro (xc_callV (index := 126) (n := 0) (ci := 1) S xg_147 rfl xw_7 xw_737 xw_721 xw_722 rfl rfl rfl ⟨by decide, by decide, by decide +kernel⟩ rfl (And.intro (by decide +kernel) rfl)) (by decide +kernel))) ?_
  refine xa_cons 3 ((And.intro (by decide) (Or.inl (Exists.intro (0) (And.intro rfl (And.intro (by decide +kernel) rfl)))))) ?_
  refine xa_cons 4 (xc_getf (A := A) (own := "ExpressHouse$SchemaReader") (index := 12) hx hb htsB xC_5 hown rfl (by decide) xw_256 (And.intro (by decide +kernel) rfl)) ?_
  refine xa_cons 5 (xc_getf (A := A) (own := "ExpressHouse$SchemaReader") (index := 293) hx hb htsB xC_3 hown rfl (by decide) xw_782 (And.intro (by decide +kernel) rfl)) ?_
  refine xa_cons 6 ((And.intro (by decide) (Or.inl (Exists.intro (0) (And.intro rfl (And.intro (by decide +kernel) rfl)))))) ?_
  refine xa_cons 7 (xc_iconst hx hb (z := 4) (b := 4) (And.intro (by decide +kernel) rfl) (by decide +kernel) ⟨rfl, rfl⟩) ?_
  refine xa_cons 8 ((And.intro (xc_callV (index := 129) (n := 1) (ci := 5) S xg_151 rfl xw_29 xw_741 xw_739 xw_740 rfl rfl rfl ⟨by decide, by decide, by decide +kernel⟩ rfl (And.intro (by decide +kernel) rfl)) (by decide +kernel))) ?_
  refine xa_cons 9 ((And.intro (by decide) (And.intro (by decide +kernel) rfl))) ?_
  refine xa_cons 10 ((And.intro (Or.inr rfl) (Or.inl (Exists.intro (1) (And.intro rfl (And.intro (by decide +kernel) rfl)))))) ?_
  refine xa_cons 11 ((And.intro (by decide) (Or.inl (Exists.intro (0) (And.intro rfl (And.intro (by decide +kernel) rfl)))))) ?_
  refine xa_cons 12 (xc_getf (A := A) (own := "ExpressHouse$SchemaReader") (index := 26) hx hb htsB xC_5 hown rfl (by decide) xw_259 (And.intro (by decide +kernel) rfl)) ?_
  refine xa_cons 13 (xc_bipush hx hb (z := -3) (b := 4294967293) (And.intro (by decide +kernel) rfl) (by decide +kernel) ⟨rfl, rfl⟩) ?_
  refine xa_cons 14 (xc_iconst hx hb (z := 0) (b := 0) (And.intro (by decide +kernel) rfl) (by decide +kernel) ⟨rfl, rfl⟩) ?_
  refine xa_cons 15 ((And.intro (xc_callV (index := 144) (n := 2) (ci := 4) S xg_150 rfl xw_22 xw_760 xw_732 xw_733 rfl rfl rfl ⟨by decide, by decide, by decide +kernel⟩ rfl (And.intro (by decide +kernel) rfl)) (by decide +kernel))) ?_
  refine xa_cons 16 ((And.intro (by decide) (Or.inl (Exists.intro (0) (And.intro rfl (And.intro (by decide +kernel) rfl)))))) ?_
  refine xa_cons 17 (xc_getf (A := A) (own := "ExpressHouse$SchemaReader") (index := 22) hx hb htsB xC_5 hown rfl (by decide) xw_258 (And.intro (by decide +kernel) rfl)) ?_
  refine xa_cons 18 (xc_bipush hx hb (z := 73) (b := 73) (And.intro (by decide +kernel) rfl) (by decide +kernel) ⟨rfl, rfl⟩) ?_
  refine xa_cons 19 ((And.intro (xc_callV (index := 60) (n := 1) (ci := 1) S xg_94 rfl xw_7 xw_502 xw_500 xw_501 rfl rfl rfl ⟨by decide, by decide, by decide +kernel⟩ rfl (And.intro (by decide +kernel) rfl)) (by decide +kernel))) ?_
  refine xa_cons 20 ((And.intro (by decide) (Or.inl (Exists.intro (0) (And.intro rfl (And.intro (by decide +kernel) rfl)))))) ?_
  refine xa_cons 21 (xc_getf (A := A) (own := "ExpressHouse$SchemaReader") (index := 22) hx hb htsB xC_5 hown rfl (by decide) xw_258 (And.intro (by decide +kernel) rfl)) ?_
  refine xa_cons 22 (xc_bipush hx hb (z := 74) (b := 74) (And.intro (by decide +kernel) rfl) (by decide +kernel) ⟨rfl, rfl⟩) ?_
  refine xa_cons 23 ((And.intro (xc_callV (index := 100) (n := 1) (ci := 1) S xg_154 rfl xw_7 xw_750 xw_748 xw_749 rfl rfl rfl ⟨by decide, by decide, by decide +kernel⟩ rfl (And.intro (by decide +kernel) rfl)) (by decide +kernel))) ?_
  refine xa_cons 24 ((And.intro (by decide) (Exists.intro (48) (And.intro (by decide +kernel) (And.intro (by decide +kernel) rfl))))) ?_
  refine xa_cons 25 ((And.intro (by decide) (Or.inl (Exists.intro (0) (And.intro rfl (And.intro (by decide +kernel) rfl)))))) ?_
  refine xa_cons 26 ((And.intro (by decide) (Or.inl (Exists.intro (1) (And.intro rfl (And.intro (by decide +kernel) rfl)))))) ?_
  refine xa_cons 27 (xc_iconst hx hb (z := 4) (b := 4) (And.intro (by decide +kernel) rfl) (by decide +kernel) ⟨rfl, rfl⟩) ?_
  refine xa_cons 28 ((And.intro (xc_callV (index := 296) (n := 2) (ci := 5) S xg_164 rfl xw_29 xw_785 xw_783 xw_784 rfl rfl rfl ⟨by decide, by decide, by decide +kernel⟩ rfl (And.intro (by decide +kernel) rfl)) (by decide +kernel))) ?_
  refine xa_cons 29 (xc_iconst hx hb (z := 0) (b := 0) (And.intro (by decide +kernel) rfl) (by decide +kernel) ⟨rfl, rfl⟩) ?_
  refine xa_cons 30 ((And.intro (Or.inl rfl) (Or.inl (Exists.intro (2) (And.intro rfl (And.intro (by decide +kernel) rfl)))))) ?_
  refine xa_cons 31 ((And.intro (by decide) (Or.inl (Exists.intro (2) (And.intro rfl (And.intro (by decide +kernel) rfl)))))) ?_
  refine xa_cons 32 (xc_ldc (own := "ExpressHouse$SchemaReader") (index := 64) (b := 1000000) hx hb hown (htsB _ xw_503) (And.intro (by decide +kernel) rfl) ⟨rfl, rfl⟩) ?_
  refine xa_cons 33 ((And.intro (by decide) (Exists.intro (34) (And.intro (by decide +kernel) (And.intro (by decide +kernel) rfl))))) ?_
  refine xa_cons 34 ((And.intro (by decide) (Or.inl (Exists.intro (0) (And.intro rfl (And.intro (by decide +kernel) rfl)))))) ?_
  refine xa_cons 35 (xc_getf (A := A) (own := "ExpressHouse$SchemaReader") (index := 22) hx hb htsB xC_5 hown rfl (by decide) xw_258 (And.intro (by decide +kernel) rfl)) ?_
  refine xa_cons 36 (xc_bipush hx hb (z := 77) (b := 77) (And.intro (by decide +kernel) rfl) (by decide +kernel) ⟨rfl, rfl⟩) ?_
  refine xa_cons 37 ((And.intro (xc_callV (index := 100) (n := 1) (ci := 1) S xg_154 rfl xw_7 xw_750 xw_748 xw_749 rfl rfl rfl ⟨by decide, by decide, by decide +kernel⟩ rfl (And.intro (by decide +kernel) rfl)) (by decide +kernel))) ?_
  refine xa_cons 38 ((And.intro (by decide) (Exists.intro (22) (And.intro (by decide +kernel) (And.intro (by decide +kernel) rfl))))) ?_
  refine xa_cons 39 ((And.intro (by decide) (Or.inl (Exists.intro (0) (And.intro rfl (And.intro (by decide +kernel) rfl)))))) ?_
  refine xa_cons 40 (xc_getf (A := A) (own := "ExpressHouse$SchemaReader") (index := 22) hx hb htsB xC_5 hown rfl (by decide) xw_258 (And.intro (by decide +kernel) rfl)) ?_
  refine xa_cons 41 ((And.intro (xc_callV (index := 126) (n := 0) (ci := 1) S xg_147 rfl xw_7 xw_737 xw_721 xw_722 rfl rfl rfl ⟨by decide, by decide, by decide +kernel⟩ rfl (And.intro (by decide +kernel) rfl)) (by decide +kernel))) ?_
  refine xa_cons 42 ((And.intro (by decide) (Or.inl (Exists.intro (0) (And.intro rfl (And.intro (by decide +kernel) rfl)))))) ?_
  refine xa_cons 43 ((And.intro (by decide) (Or.inl (Exists.intro (1) (And.intro rfl (And.intro (by decide +kernel) rfl)))))) ?_
  refine xa_cons 44 (xc_iconst hx hb (z := 4) (b := 4) (And.intro (by decide +kernel) rfl) (by decide +kernel) ⟨rfl, rfl⟩) ?_
  refine xa_cons 45 ((And.intro (xc_callV (index := 296) (n := 2) (ci := 5) S xg_164 rfl xw_29 xw_785 xw_783 xw_784 rfl rfl rfl ⟨by decide, by decide, by decide +kernel⟩ rfl (And.intro (by decide +kernel) rfl)) (by decide +kernel))) ?_
  refine xa_cons 46 ((Exists.intro (1) (And.intro (And.intro (by decide +kernel) rfl) (by decide +kernel)))) ?_
  refine xa_cons 47 ((Exists.intro (-34) (And.intro (by decide +kernel) (by decide +kernel)))) ?_
  refine xa_cons 48 ((And.intro (by decide) (Or.inl (Exists.intro (0) (And.intro rfl (And.intro (by decide +kernel) rfl)))))) ?_
  refine xa_cons 49 (xc_getf (A := A) (own := "ExpressHouse$SchemaReader") (index := 26) hx hb htsB xC_5 hown rfl (by decide) xw_259 (And.intro (by decide +kernel) rfl)) ?_
  refine xa_cons 50 (xc_getf (A := A) (own := "ExpressHouse$SchemaReader") (index := 299) hx hb htsB xC_4 hown rfl (by decide) xw_786 (And.intro (by decide +kernel) rfl)) ?_
  refine xa_cons 51 ((And.intro (Or.inl rfl) (Or.inl (Exists.intro (2) (And.intro rfl (And.intro (by decide +kernel) rfl)))))) ?_
  refine xa_cons 52 ((And.intro (by decide) (Or.inl (Exists.intro (1) (And.intro rfl (And.intro (by decide +kernel) rfl)))))) ?_
  refine xa_cons 53 (xc_iconst hx hb (z := 0) (b := 0) (And.intro (by decide +kernel) rfl) (by decide +kernel) ⟨rfl, rfl⟩) ?_
  refine xa_cons 54 ((And.intro (by decide) (Or.inl (Exists.intro (2) (And.intro rfl (And.intro (by decide +kernel) rfl)))))) ?_
  refine xa_cons 55 ((And.intro (by decide) (And.intro (by decide +kernel) rfl))) ?_
  refine xa_cons 56 ((And.intro (by decide) (Or.inl (Exists.intro (0) (And.intro rfl (And.intro (by decide +kernel) rfl)))))) ?_
  refine xa_cons 57 (xc_getf (A := A) (own := "ExpressHouse$SchemaReader") (index := 22) hx hb htsB xC_5 hown rfl (by decide) xw_258 (And.intro (by decide +kernel) rfl)) ?_
  refine xa_cons 58 (xc_bipush hx hb (z := 74) (b := 74) (And.intro (by decide +kernel) rfl) (by decide +kernel) ⟨rfl, rfl⟩) ?_
  refine xa_cons 59 ((And.intro (xc_callV (index := 60) (n := 1) (ci := 1) S xg_94 rfl xw_7 xw_502 xw_500 xw_501 rfl rfl rfl ⟨by decide, by decide, by decide +kernel⟩ rfl (And.intro (by decide +kernel) rfl)) (by decide +kernel))) ?_
  refine xa_cons 60 ((And.intro (by decide) (Or.inl (Exists.intro (0) (And.intro rfl (And.intro (by decide +kernel) rfl)))))) ?_
  refine xa_cons 61 (xc_getf (A := A) (own := "ExpressHouse$SchemaReader") (index := 22) hx hb htsB xC_5 hown rfl (by decide) xw_258 (And.intro (by decide +kernel) rfl)) ?_
  refine xa_cons 62 (xc_bipush hx hb (z := 79) (b := 79) (And.intro (by decide +kernel) rfl) (by decide +kernel) ⟨rfl, rfl⟩) ?_
  refine xa_cons 63 ((And.intro (xc_callV (index := 60) (n := 1) (ci := 1) S xg_94 rfl xw_7 xw_502 xw_500 xw_501 rfl rfl rfl ⟨by decide, by decide, by decide +kernel⟩ rfl (And.intro (by decide +kernel) rfl)) (by decide +kernel))) ?_
  refine xa_cons 64 ((And.intro (by decide) (Or.inl (Exists.intro (1) (And.intro rfl (And.intro (by decide +kernel) rfl)))))) ?_
  refine xa_cons 65 (xc_iconst hx hb (z := 1) (b := 1) (And.intro (by decide +kernel) rfl) (by decide +kernel) ⟨rfl, rfl⟩) ?_
  refine xa_cons 66 ((And.intro (by decide) (Or.inl (Exists.intro (0) (And.intro rfl (And.intro (by decide +kernel) rfl)))))) ?_
  refine xa_cons 67 ((And.intro (xc_callV (index := 166) (n := 0) (ci := 5) S xg_165 rfl xw_29 xw_789 xw_787 xw_788 rfl rfl rfl ⟨by decide, by decide, by decide +kernel⟩ rfl (And.intro (by decide +kernel) rfl)) (by decide +kernel))) ?_
  refine xa_cons 68 ((And.intro (by decide) (And.intro (by decide +kernel) rfl))) ?_
  refine xa_cons 69 ((And.intro (by decide) (Or.inl (Exists.intro (0) (And.intro rfl (And.intro (by decide +kernel) rfl)))))) ?_
  refine xa_cons 70 (xc_getf (A := A) (own := "ExpressHouse$SchemaReader") (index := 22) hx hb htsB xC_5 hown rfl (by decide) xw_258 (And.intro (by decide +kernel) rfl)) ?_
  refine xa_cons 71 (xc_bipush hx hb (z := 78) (b := 78) (And.intro (by decide +kernel) rfl) (by decide +kernel) ⟨rfl, rfl⟩) ?_
  refine xa_cons 72 ((And.intro (xc_callV (index := 60) (n := 1) (ci := 1) S xg_94 rfl xw_7 xw_502 xw_500 xw_501 rfl rfl rfl ⟨by decide, by decide, by decide +kernel⟩ rfl (And.intro (by decide +kernel) rfl)) (by decide +kernel))) ?_
  refine xa_cons 73 (xc_iconst hx hb (z := 0) (b := 0) (And.intro (by decide +kernel) rfl) (by decide +kernel) ⟨rfl, rfl⟩) ?_
  refine xa_cons 74 ((And.intro (Or.inl rfl) (Or.inl (Exists.intro (3) (And.intro rfl (And.intro (by decide +kernel) rfl)))))) ?_
  refine xa_cons 75 ((And.intro (by decide) (Or.inl (Exists.intro (3) (And.intro rfl (And.intro (by decide +kernel) rfl)))))) ?_
  refine xa_cons 76 (xc_ldc (own := "ExpressHouse$SchemaReader") (index := 64) (b := 1000000) hx hb hown (htsB _ xw_503) (And.intro (by decide +kernel) rfl) ⟨rfl, rfl⟩) ?_
  refine xa_cons 77 ((And.intro (by decide) (Exists.intro (46) (And.intro (by decide +kernel) (And.intro (by decide +kernel) rfl))))) ?_
  refine xa_cons 78 ((And.intro (by decide) (Or.inl (Exists.intro (0) (And.intro rfl (And.intro (by decide +kernel) rfl)))))) ?_
  refine xa_cons 79 (xc_getf (A := A) (own := "ExpressHouse$SchemaReader") (index := 22) hx hb htsB xC_5 hown rfl (by decide) xw_258 (And.intro (by decide +kernel) rfl)) ?_
  refine xa_cons 80 (xc_bipush hx hb (z := 27) (b := 27) (And.intro (by decide +kernel) rfl) (by decide +kernel) ⟨rfl, rfl⟩) ?_
  refine xa_cons 81 ((And.intro (xc_callV (index := 100) (n := 1) (ci := 1) S xg_154 rfl xw_7 xw_750 xw_748 xw_749 rfl rfl rfl ⟨by decide, by decide, by decide +kernel⟩ rfl (And.intro (by decide +kernel) rfl)) (by decide +kernel))) ?_
  refine xa_cons 82 ((And.intro (by decide) (Exists.intro (34) (And.intro (by decide +kernel) (And.intro (by decide +kernel) rfl))))) ?_
  refine xa_cons 83 ((And.intro (by decide) (Or.inl (Exists.intro (0) (And.intro rfl (And.intro (by decide +kernel) rfl)))))) ?_
  refine xa_cons 84 (xc_getf (A := A) (own := "ExpressHouse$SchemaReader") (index := 22) hx hb htsB xC_5 hown rfl (by decide) xw_258 (And.intro (by decide +kernel) rfl)) ?_
  refine xa_cons 85 ((And.intro (xc_callV (index := 126) (n := 0) (ci := 1) S xg_147 rfl xw_7 xw_737 xw_721 xw_722 rfl rfl rfl ⟨by decide, by decide, by decide +kernel⟩ rfl (And.intro (by decide +kernel) rfl)) (by decide +kernel))) ?_
  refine xa_cons 86 ((And.intro (by decide) (Or.inl (Exists.intro (0) (And.intro rfl (And.intro (by decide +kernel) rfl)))))) ?_
  refine xa_cons 87 ((And.intro (by decide) (Or.inl (Exists.intro (1) (And.intro rfl (And.intro (by decide +kernel) rfl)))))) ?_
  refine xa_cons 88 ((And.intro (by decide) (Or.inl (Exists.intro (2) (And.intro rfl (And.intro (by decide +kernel) rfl)))))) ?_
  refine xa_cons 89 (xc_bipush hx hb (z := 6) (b := 6) (And.intro (by decide +kernel) rfl) (by decide +kernel) ⟨rfl, rfl⟩) ?_
  refine xa_cons 90 ((And.intro (by decide) (And.intro (by decide +kernel) rfl))) ?_
  refine xa_cons 91 ((And.intro (xc_callV (index := 296) (n := 2) (ci := 5) S xg_164 rfl xw_29 xw_785 xw_783 xw_784 rfl rfl rfl ⟨by decide, by decide, by decide +kernel⟩ rfl (And.intro (by decide +kernel) rfl)) (by decide +kernel))) ?_
  refine xa_cons 92 ((And.intro (by decide) (Or.inl (Exists.intro (0) (And.intro rfl (And.intro (by decide +kernel) rfl)))))) ?_
  refine xa_cons 93 (xc_getf (A := A) (own := "ExpressHouse$SchemaReader") (index := 22) hx hb htsB xC_5 hown rfl (by decide) xw_258 (And.intro (by decide +kernel) rfl)) ?_
  refine xa_cons 94 (xc_bipush hx hb (z := 78) (b := 78) (And.intro (by decide +kernel) rfl) (by decide +kernel) ⟨rfl, rfl⟩) ?_
  refine xa_cons 95 ((And.intro (xc_callV (index := 60) (n := 1) (ci := 1) S xg_94 rfl xw_7 xw_502 xw_500 xw_501 rfl rfl rfl ⟨by decide, by decide, by decide +kernel⟩ rfl (And.intro (by decide +kernel) rfl)) (by decide +kernel))) ?_
  refine xa_cons 96 ((Exists.intro (1) (And.intro (And.intro (by decide +kernel) rfl) (by decide +kernel)))) ?_
  refine xa_cons 97 ((Exists.intro (-46) (And.intro (by decide +kernel) (by decide +kernel)))) ?_
  refine xa_cons 98 ((And.intro (by decide) (Or.inl (Exists.intro (1) (And.intro rfl (And.intro (by decide +kernel) rfl)))))) ?_
  refine xa_cons 99 (xc_iconst hx hb (z := 2) (b := 2) (And.intro (by decide +kernel) rfl) (by decide +kernel) ⟨rfl, rfl⟩) ?_
  refine xa_cons 100 ((And.intro (by decide) (Or.inl (Exists.intro (0) (And.intro rfl (And.intro (by decide +kernel) rfl)))))) ?_
  refine xa_cons 101 (xc_getf (A := A) (own := "ExpressHouse$SchemaReader") (index := 26) hx hb htsB xC_5 hown rfl (by decide) xw_259 (And.intro (by decide +kernel) rfl)) ?_
  refine xa_cons 102 (xc_getf (A := A) (own := "ExpressHouse$SchemaReader") (index := 83) hx hb htsB xC_4 hown rfl (by decide) xw_520 (And.intro (by decide +kernel) rfl)) ?_
  refine xa_cons 103 ((And.intro (by decide) (And.intro (by decide +kernel) rfl))) ?_
  refine xa_cons 104 ((And.intro (by decide) (Or.inl (Exists.intro (0) (And.intro rfl (And.intro (by decide +kernel) rfl)))))) ?_
  refine xa_cons 105 (xc_bipush hx hb (z := -3) (b := 4294967293) (And.intro (by decide +kernel) rfl) (by decide +kernel) ⟨rfl, rfl⟩) ?_
  refine xa_cons 106 (xc_putf (own := "ExpressHouse$SchemaReader") (index := 302) hx hb htsB xC_5 hown rfl (by decide) xw_790 rfl (rfl) (And.intro (by decide +kernel) rfl)) ?_
  refine xa_cons 107 ((And.intro (by decide) (Or.inl (Exists.intro (0) (And.intro rfl (And.intro (by decide +kernel) rfl)))))) ?_
  refine xa_cons 108 (xc_bipush hx hb (z := -3) (b := 4294967293) (And.intro (by decide +kernel) rfl) (by decide +kernel) ⟨rfl, rfl⟩) ?_
  refine xa_cons 109 (xc_putf (own := "ExpressHouse$SchemaReader") (index := 305) hx hb htsB xC_5 hown rfl (by decide) xw_791 rfl (rfl) (And.intro (by decide +kernel) rfl)) ?_
  refine xa_cons 110 ((And.intro (by decide) (Or.inl (Exists.intro (0) (And.intro rfl (And.intro (by decide +kernel) rfl)))))) ?_
  refine xa_cons 111 ((And.intro (by decide) (Or.inl (Exists.intro (1) (And.intro rfl (And.intro (by decide +kernel) rfl)))))) ?_
  refine xa_cons 112 (xc_iconst hx hb (z := 0) (b := 0) (And.intro (by decide +kernel) rfl) (by decide +kernel) ⟨rfl, rfl⟩) ?_
  refine xa_cons 113 ((And.intro (xc_callV (index := 308) (n := 2) (ci := 5) S xg_166 rfl xw_29 xw_794 xw_792 xw_793 rfl rfl rfl ⟨by decide, by decide, by decide +kernel⟩ rfl (And.intro (by decide +kernel) rfl)) (by decide +kernel))) ?_
  refine xa_cons 114 ((And.intro (by decide) (Or.inl (Exists.intro (0) (And.intro rfl (And.intro (by decide +kernel) rfl)))))) ?_
  refine xa_cons 115 (xc_getf (A := A) (own := "ExpressHouse$SchemaReader") (index := 26) hx hb htsB xC_5 hown rfl (by decide) xw_259 (And.intro (by decide +kernel) rfl)) ?_
  refine xa_cons 116 (xc_bipush hx hb (z := 32) (b := 32) (And.intro (by decide +kernel) rfl) (by decide +kernel) ⟨rfl, rfl⟩) ?_
  refine xa_cons 117 ((And.intro (xc_callV (index := 209) (n := 1) (ci := 4) S xg_167 rfl xw_22 xw_797 xw_795 xw_796 rfl rfl rfl ⟨by decide, by decide, by decide +kernel⟩ rfl (And.intro (by decide +kernel) rfl)) (by decide +kernel))) ?_
  refine xa_cons 118 ((And.intro (by decide) (Or.inl (Exists.intro (0) (And.intro rfl (And.intro (by decide +kernel) rfl)))))) ?_
  refine xa_cons 119 ((And.intro (xc_callV (index := 80) (n := 0) (ci := 5) S xg_99 rfl xw_29 xw_519 xw_517 xw_518 rfl rfl rfl ⟨by decide, by decide, by decide +kernel⟩ rfl (And.intro (by decide +kernel) rfl)) (by decide +kernel))) ?_
  refine xa_cons 120 ((And.intro hr (by decide +kernel))) ?_
  exact xa_nil
def xrp_98 : Nat → Nat := fun k => ([0, 1, 4, 7, 8, 9, 12, 13, 14, 17, 19, 22, 23, 26, 28, 29, 32, 33, 36, 38, 41, 44, 45, 47, 48, 49, 52, 55, 56, 59, 62, 63, 66] : List Nat).getD k 0
set_option maxRecDepth 20000 in
set_option maxHeartbeats 4000000 in
theorem xz_98 {l : Launch} {D : va_G} {en : XE} : x_Ok xT l D xcl en xrn (xG en) 98 xc_98 := by
  refine ⟨prog_11_method_18_code, none, xBIG, xrp_98, by decide +kernel, rfl, rfl, ?_⟩
  intro p e R s m args below meth c s₁ A Q pc i f1 f2 B hml hA hg hi
  obtain ⟨hx, hb, hr, hown, hlocks, hin, htsB, S⟩ := xb_all (C := "ExpressHouse$SchemaReader") B hml rfl rfl
  obtain ⟨hgN, hgZ, hgS, hgS2⟩ := xG_all hg
  refine xa_at (i := i) (pc := pc) ?_ hi
  refine xa_cons 0 ((And.intro (by decide) (Or.inl (Exists.intro (0) (And.intro rfl (And.intro (by decide +kernel) rfl)))))) ?_
  refine xa_cons 1 (xc_getf (A := A) (own := "ExpressHouse$SchemaReader") (index := 22) hx hb htsB xC_5 hown rfl (by decide) xw_258 (And.intro (by decide +kernel) rfl)) ?_
  refine xa_cons 2 ((And.intro (xc_callV (index := 126) (n := 0) (ci := 1) S xg_147 rfl xw_7 xw_737 xw_721 xw_722 rfl rfl rfl ⟨by decide, by decide, by decide +kernel⟩ rfl (And.intro (by decide +kernel) rfl)) (by decide +kernel))) ?_
  refine xa_cons 3 ((And.intro (by decide) (Or.inl (Exists.intro (0) (And.intro rfl (And.intro (by decide +kernel) rfl)))))) ?_
  refine xa_cons 4 (xc_iconst hx hb (z := 5) (b := 5) (And.intro (by decide +kernel) rfl) (by decide +kernel) ⟨rfl, rfl⟩) ?_
  refine xa_cons 5 ((And.intro (xc_callV (index := 129) (n := 1) (ci := 5) S xg_151 rfl xw_29 xw_741 xw_739 xw_740 rfl rfl rfl ⟨by decide, by decide, by decide +kernel⟩ rfl (And.intro (by decide +kernel) rfl)) (by decide +kernel))) ?_
  refine xa_cons 6 ((And.intro (Or.inl rfl) (Or.inl (Exists.intro (1) (And.intro rfl (And.intro (by decide +kernel) rfl)))))) ?_
  refine xa_cons 7 ((And.intro (by decide) (Or.inl (Exists.intro (0) (And.intro rfl (And.intro (by decide +kernel) rfl)))))) ?_
  refine xa_cons 8 (xc_getf (A := A) (own := "ExpressHouse$SchemaReader") (index := 22) hx hb htsB xC_5 hown rfl (by decide) xw_258 (And.intro (by decide +kernel) rfl)) ?_
  refine xa_cons 9 (xc_bipush hx hb (z := 78) (b := 78) (And.intro (by decide +kernel) rfl) (by decide +kernel) ⟨rfl, rfl⟩) ?_
  refine xa_cons 10 ((And.intro (xc_callV (index := 60) (n := 1) (ci := 1) S xg_94 rfl xw_7 xw_502 xw_500 xw_501 rfl rfl rfl ⟨by decide, by decide, by decide +kernel⟩ rfl (And.intro (by decide +kernel) rfl)) (by decide +kernel))) ?_
  refine xa_cons 11 ((And.intro (by decide) (Or.inl (Exists.intro (0) (And.intro rfl (And.intro (by decide +kernel) rfl)))))) ?_
  refine xa_cons 12 (xc_getf (A := A) (own := "ExpressHouse$SchemaReader") (index := 26) hx hb htsB xC_5 hown rfl (by decide) xw_259 (And.intro (by decide +kernel) rfl)) ?_
  refine xa_cons 13 (xc_bipush hx hb (z := -3) (b := 4294967293) (And.intro (by decide +kernel) rfl) (by decide +kernel) ⟨rfl, rfl⟩) ?_
  refine xa_cons 14 (xc_iconst hx hb (z := 0) (b := 0) (And.intro (by decide +kernel) rfl) (by decide +kernel) ⟨rfl, rfl⟩) ?_
  refine xa_cons 15 ((And.intro (xc_callV (index := 144) (n := 2) (ci := 4) S xg_150 rfl xw_22 xw_760 xw_732 xw_733 rfl rfl rfl ⟨by decide, by decide, by decide +kernel⟩ rfl (And.intro (by decide +kernel) rfl)) (by decide +kernel))) ?_
  refine xa_cons 16 ((And.intro (by decide) (Or.inl (Exists.intro (0) (And.intro rfl (And.intro (by decide +kernel) rfl)))))) ?_
  refine xa_cons 17 (xc_getf (A := A) (own := "ExpressHouse$SchemaReader") (index := 22) hx hb htsB xC_5 hown rfl (by decide) xw_258 (And.intro (by decide +kernel) rfl)) ?_
  refine xa_cons 18 (xc_bipush hx hb (z := 25) (b := 25) (And.intro (by decide +kernel) rfl) (by decide +kernel) ⟨rfl, rfl⟩) ?_
  refine xa_cons 19 ((And.intro (xc_callV (index := 100) (n := 1) (ci := 1) S xg_154 rfl xw_7 xw_750 xw_748 xw_749 rfl rfl rfl ⟨by decide, by decide, by decide +kernel⟩ rfl (And.intro (by decide +kernel) rfl)) (by decide +kernel))) ?_
  refine xa_cons 20 ((And.intro (by decide) (Exists.intro (14) (And.intro (by decide +kernel) (And.intro (by decide +kernel) rfl))))) ?_
  refine xa_cons 21 ((And.intro (by decide) (Or.inl (Exists.intro (0) (And.intro rfl (And.intro (by decide +kernel) rfl)))))) ?_
  refine xa_cons 22 (xc_bipush hx hb (z := 20) (b := 20) (And.intro (by decide +kernel) rfl) (by decide +kernel) ⟨rfl, rfl⟩) ?_
  refine xa_cons 23 ((And.intro (by decide) (Or.inl (Exists.intro (1) (And.intro rfl (And.intro (by decide +kernel) rfl)))))) ?_
  refine xa_cons 24 ((And.intro (by decide) (And.intro (by decide +kernel) rfl))) ?_
  refine xa_cons 25 ((And.intro (xc_callV (index := 148) (n := 1) (ci := 5) S xg_158 rfl xw_29 xw_763 xw_761 xw_762 rfl rfl rfl ⟨by decide, by decide, by decide +kernel⟩ rfl (And.intro (by decide +kernel) rfl)) (by decide +kernel))) ?_
  refine xa_cons 26 ((Exists.intro (10) (And.intro (by decide +kernel) (by decide +kernel)))) ?_
  refine xa_cons 27 ((And.intro (by decide) (Or.inl (Exists.intro (0) (And.intro rfl (And.intro (by decide +kernel) rfl)))))) ?_
  refine xa_cons 28 (xc_getf (A := A) (own := "ExpressHouse$SchemaReader") (index := 22) hx hb htsB xC_5 hown rfl (by decide) xw_258 (And.intro (by decide +kernel) rfl)) ?_
  refine xa_cons 29 ((And.intro (xc_callV (index := 215) (n := 0) (ci := 1) S xg_168 rfl xw_7 xw_800 xw_798 xw_799 rfl rfl rfl ⟨by decide, by decide, by decide +kernel⟩ rfl (And.intro (by decide +kernel) rfl)) (by decide +kernel))) ?_
  refine xa_cons 30 ((And.intro (by decide) (Or.inl (Exists.intro (0) (And.intro rfl (And.intro (by decide +kernel) rfl)))))) ?_
  refine xa_cons 31 ((And.intro (xc_callV (index := 80) (n := 0) (ci := 5) S xg_99 rfl xw_29 xw_519 xw_517 xw_518 rfl rfl rfl ⟨by decide, by decide, by decide +kernel⟩ rfl (And.intro (by decide +kernel) rfl)) (by decide +kernel))) ?_
  refine xa_cons 32 ((And.intro hr (by decide +kernel))) ?_
  exact xa_nil
def xrp_99 : Nat → Nat := fun k => ([0, 1, 4, 6, 9, 10, 13, 15, 18] : List Nat).getD k 0
set_option maxRecDepth 20000 in
set_option maxHeartbeats 4000000 in
theorem xz_99 {l : Launch} {D : va_G} {en : XE} : x_Ok xT l D xcl en xrn (xG en) 99 xc_99 := by
  refine ⟨prog_11_method_5_code, none, xBIG, xrp_99, by decide +kernel, rfl, rfl, ?_⟩
  intro p e R s m args below meth c s₁ A Q pc i f1 f2 B hml hA hg hi
  obtain ⟨hx, hb, hr, hown, hlocks, hin, htsB, S⟩ := xb_all (C := "ExpressHouse$SchemaReader") B hml rfl rfl
  obtain ⟨hgN, hgZ, hgS, hgS2⟩ := xG_all hg
  refine xa_at (i := i) (pc := pc) ?_ hi
  refine xa_cons 0 ((And.intro (by decide) (Or.inl (Exists.intro (0) (And.intro rfl (And.intro (by decide +kernel) rfl)))))) ?_
  refine xa_cons 1 (xc_getf (A := A) (own := "ExpressHouse$SchemaReader") (index := 22) hx hb htsB xC_5 hown rfl (by decide) xw_258 (And.intro (by decide +kernel) rfl)) ?_
  refine xa_cons 2 (xc_bipush hx hb (z := 39) (b := 39) (And.intro (by decide +kernel) rfl) (by decide +kernel) ⟨rfl, rfl⟩) ?_
  refine xa_cons 3 ((And.intro (xc_callV (index := 60) (n := 1) (ci := 1) S xg_94 rfl xw_7 xw_502 xw_500 xw_501 rfl rfl rfl ⟨by decide, by decide, by decide +kernel⟩ rfl (And.intro (by decide +kernel) rfl)) (by decide +kernel))) ?_
  refine xa_cons 4 ((And.intro (by decide) (Or.inl (Exists.intro (0) (And.intro rfl (And.intro (by decide +kernel) rfl)))))) ?_
  refine xa_cons 5 (xc_getf (A := A) (own := "ExpressHouse$SchemaReader") (index := 22) hx hb htsB xC_5 hown rfl (by decide) xw_258 (And.intro (by decide +kernel) rfl)) ?_
  refine xa_cons 6 (xc_bipush hx hb (z := 78) (b := 78) (And.intro (by decide +kernel) rfl) (by decide +kernel) ⟨rfl, rfl⟩) ?_
  refine xa_cons 7 ((And.intro (xc_callV (index := 60) (n := 1) (ci := 1) S xg_94 rfl xw_7 xw_502 xw_500 xw_501 rfl rfl rfl ⟨by decide, by decide, by decide +kernel⟩ rfl (And.intro (by decide +kernel) rfl)) (by decide +kernel))) ?_
  refine xa_cons 8 ((And.intro hr (by decide +kernel))) ?_
  exact xa_nil
end AMM5
