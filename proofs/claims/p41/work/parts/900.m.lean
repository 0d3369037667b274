section AMM0
def xrp_0 : Nat → Nat := fun k => ([0, 1, 4, 5, 8, 10, 13, 14, 17, 18, 21, 24, 25, 28, 29, 32, 33, 36, 39, 42, 43, 46, 47, 48, 51, 52, 55, 58, 61, 64, 65, 68, 69, 70, 73, 74, 77, 80, 83, 84, 87, 88, 89, 92, 95, 98, 99, 102, 103, 104, 107, 108, 111, 114, 117, 118, 121, 122, 123, 126, 127, 130, 133, 136, 137, 140, 141, 142, 145, 148, 151, 152, 155, 156, 157, 158, 161, 164, 165, 166, 169, 172, 173, 174, 177, 180, 181, 184] : List Nat).getD k 0
set_option maxRecDepth 20000 in
set_option maxHeartbeats 4000000 in
theorem xz_0 {l : Launch} {D : va_G} {en : XE} : x_Ok xT l D xcl en xrn (xG en) 0 xc_0 := by
  refine ⟨prog_1_method_1_code, none, xBIG, xrp_0, by decide +kernel, rfl, rfl, ?_⟩
  intro p e R s m args below meth c s₁ A Q pc i f1 f2 B hml hA hg hi
  obtain ⟨hx, hb, hr, hown, hlocks, hin, htsB, S⟩ := xb_all (C := "ExpressHouse") B hml rfl rfl
  obtain ⟨hgN, hgZ, hgS, hgS2⟩ := xG_all hg
  refine xa_at (i := i) (pc := pc) ?_ hi
  refine xa_cons 0 ((And.intro (by decide) (Or.inl (Exists.intro (0) (And.intro rfl (And.intro (by decide +kernel) rfl)))))) ?_
  refine xa_cons 1 (xc_objinit (own := "ExpressHouse") (index := 1) hx hb hml hown htsB xw_0 xw_1 xw_2 (by omega) (by omega) (And.intro (by decide +kernel) rfl)) ?_
  refine xa_cons 2 ((And.intro (by decide) (Or.inl (Exists.intro (0) (And.intro rfl (And.intro (by decide +kernel) rfl)))))) ?_
  refine xa_cons 3 (xc_sipush hx hb (z := 3000) (b := 3000) (And.intro (by decide +kernel) rfl) (by decide +kernel) ⟨rfl, rfl⟩) ?_
  refine xa_cons 4 (xc_newa hx hb hA (htsB _ xw_3) (Or.inl ⟨by decide, by decide, rfl⟩) (And.intro (by decide +kernel) rfl)) ?_
  refine xa_cons 5 (xc_putfF (index := 9) hx hb htsB xC_0 hown rfl (by decide) hin xw_4 rfl (Or.inr ⟨_, rfl⟩) (And.intro (by decide +kernel) rfl)) ?_
  refine xa_cons 6 ((And.intro (by decide) (Or.inl (Exists.intro (0) (And.intro rfl (And.intro (by decide +kernel) rfl)))))) ?_
  refine xa_cons 7 (xc_new (own := "ExpressHouse") (index := 13) hx hb htsB xC_1 hown hA rfl rfl xw_5 xw_6 xw_7 (by decide) (by decide +kernel) (And.intro (by decide +kernel) rfl)) ?_
  refine xa_cons 8 ((And.intro (by decide +kernel) rfl)) ?_
  refine xa_cons 9 ((And.intro (xc_callIN (index := 15) (n := 0) (ci := 1) S xg_9 rfl xw_7 (hgN.1 _ (List.mem_of_getElem? (i := 0) rfl)) xw_8 rfl rfl rfl ⟨by decide, by decide, by decide +kernel⟩ rfl (And.intro (by decide +kernel) rfl)) (by decide +kernel))) ?_
  refine xa_cons 10 (xc_putfF (index := 16) hx hb htsB xC_0 hown rfl (by decide) hin xw_9 rfl (Or.inl ⟨_, rfl⟩) (And.intro (by decide +kernel) rfl)) ?_
  refine xa_cons 11 ((And.intro (by decide) (Or.inl (Exists.intro (0) (And.intro rfl (And.intro (by decide +kernel) rfl)))))) ?_
  refine xa_cons 12 (xc_new (own := "ExpressHouse") (index := 20) hx hb htsB xC_2 hown hA rfl rfl xw_10 xw_11 xw_12 (by decide) (by decide +kernel) (And.intro (by decide +kernel) rfl)) ?_
  refine xa_cons 13 ((And.intro (by decide +kernel) rfl)) ?_
  refine xa_cons 14 (xc_new (own := "ExpressHouse") (index := 22) hx hb htsB xC_3 hown hA rfl rfl xw_13 xw_14 xw_15 (by decide) (by decide +kernel) (And.intro (by decide +kernel) rfl)) ?_
  refine xa_cons 15 ((And.intro (by decide +kernel) rfl)) ?_
  refine xa_cons 16 ((And.intro (xc_callIN (index := 24) (n := 0) (ci := 3) S xg_10 rfl xw_15 (hgN.1 _ (List.mem_of_getElem? (i := 1) rfl)) xw_16 rfl rfl rfl ⟨by decide, by decide, by decide +kernel⟩ rfl (And.intro (by decide +kernel) rfl)) (by decide +kernel))) ?_
  refine xa_cons 17 ((And.intro (xc_callI (index := 25) (n := 1) (ci := 2) S xg_11 rfl xw_12 xw_18 xw_17 rfl rfl rfl ⟨by decide, by decide, by decide +kernel⟩ rfl (And.intro (by decide +kernel) rfl)) (by decide +kernel))) ?_
  refine xa_cons 18 (xc_putfF (index := 28) hx hb htsB xC_0 hown rfl (by decide) hin xw_19 rfl (Or.inl ⟨_, rfl⟩) (And.intro (by decide +kernel) rfl)) ?_
  refine xa_cons 19 ((And.intro (by decide) (Or.inl (Exists.intro (0) (And.intro rfl (And.intro (by decide +kernel) rfl)))))) ?_
  refine xa_cons 20 (xc_new (own := "ExpressHouse") (index := 32) hx hb htsB xC_4 hown hA rfl rfl xw_20 xw_21 xw_22 (by decide) (by decide +kernel) (And.intro (by decide +kernel) rfl)) ?_
  refine xa_cons 21 ((And.intro (by decide +kernel) rfl)) ?_
  refine xa_cons 22 ((And.intro (by decide) (Or.inl (Exists.intro (0) (And.intro rfl (And.intro (by decide +kernel) rfl)))))) ?_
  refine xa_cons 23 (xc_getf (A := A) (own := "ExpressHouse") (index := 16) hx hb htsB xC_0 hown rfl (by decide) xw_9 (And.intro (by decide +kernel) rfl)) ?_
  refine xa_cons 24 ((And.intro (by decide) (Or.inl (Exists.intro (0) (And.intro rfl (And.intro (by decide +kernel) rfl)))))) ?_
  refine xa_cons 25 (xc_getf (A := A) (own := "ExpressHouse") (index := 28) hx hb htsB xC_0 hown rfl (by decide) xw_19 (And.intro (by decide +kernel) rfl)) ?_
  refine xa_cons 26 (xc_getf (A := A) (own := "ExpressHouse") (index := 34) hx hb htsB xC_2 hown rfl (by decide) xw_23 (And.intro (by decide +kernel) rfl)) ?_
  refine xa_cons 27 ((And.intro (xc_callI (index := 38) (n := 2) (ci := 4) S xg_12 rfl xw_22 xw_25 xw_24 rfl rfl rfl ⟨by decide, by decide, by decide +kernel⟩ rfl (And.intro (by decide +kernel) rfl)) (by decide +kernel))) ?_
  refine xa_cons 28 (xc_putfF (index := 41) hx hb htsB xC_0 hown rfl (by decide) hin xw_26 rfl (Or.inl ⟨_, rfl⟩) (And.intro (by decide +kernel) rfl)) ?_
  refine xa_cons 29 ((And.intro (by decide) (Or.inl (Exists.intro (0) (And.intro rfl (And.intro (by decide +kernel) rfl)))))) ?_
  refine xa_cons 30 (xc_new (own := "ExpressHouse") (index := 45) hx hb htsB xC_5 hown hA rfl rfl xw_27 xw_28 xw_29 (by decide) (by decide +kernel) (And.intro (by decide +kernel) rfl)) ?_
  refine xa_cons 31 ((And.intro (by decide +kernel) rfl)) ?_
  refine xa_cons 32 ((And.intro (by decide) (Or.inl (Exists.intro (0) (And.intro rfl (And.intro (by decide +kernel) rfl)))))) ?_
  refine xa_cons 33 (xc_getf (A := A) (own := "ExpressHouse") (index := 16) hx hb htsB xC_0 hown rfl (by decide) xw_9 (And.intro (by decide +kernel) rfl)) ?_
  refine xa_cons 34 ((And.intro (by decide) (Or.inl (Exists.intro (0) (And.intro rfl (And.intro (by decide +kernel) rfl)))))) ?_
  refine xa_cons 35 (xc_getf (A := A) (own := "ExpressHouse") (index := 41) hx hb htsB xC_0 hown rfl (by decide) xw_26 (And.intro (by decide +kernel) rfl)) ?_
  refine xa_cons 36 ((And.intro (xc_callI (index := 47) (n := 2) (ci := 5) S xg_13 rfl xw_29 xw_31 xw_30 rfl rfl rfl ⟨by decide, by decide, by decide +kernel⟩ rfl (And.intro (by decide +kernel) rfl)) (by decide +kernel))) ?_
  refine xa_cons 37 (xc_putfF (index := 50) hx hb htsB xC_0 hown rfl (by decide) hin xw_32 rfl (Or.inl ⟨_, rfl⟩) (And.intro (by decide +kernel) rfl)) ?_
  refine xa_cons 38 ((And.intro (by decide) (Or.inl (Exists.intro (0) (And.intro rfl (And.intro (by decide +kernel) rfl)))))) ?_
  refine xa_cons 39 (xc_new (own := "ExpressHouse") (index := 54) hx hb htsB xC_6 hown hA rfl rfl xw_33 xw_34 xw_35 (by decide) (by decide +kernel) (And.intro (by decide +kernel) rfl)) ?_
  refine xa_cons 40 ((And.intro (by decide +kernel) rfl)) ?_
  refine xa_cons 41 ((And.intro (by decide) (Or.inl (Exists.intro (0) (And.intro rfl (And.intro (by decide +kernel) rfl)))))) ?_
  refine xa_cons 42 (xc_getf (A := A) (own := "ExpressHouse") (index := 28) hx hb htsB xC_0 hown rfl (by decide) xw_19 (And.intro (by decide +kernel) rfl)) ?_
  refine xa_cons 43 ((And.intro (xc_callI (index := 56) (n := 1) (ci := 6) S xg_14 rfl xw_35 xw_37 xw_36 rfl rfl rfl ⟨by decide, by decide, by decide +kernel⟩ rfl (And.intro (by decide +kernel) rfl)) (by decide +kernel))) ?_
  refine xa_cons 44 (xc_putfF (index := 59) hx hb htsB xC_0 hown rfl (by decide) hin xw_38 rfl (Or.inl ⟨_, rfl⟩) (And.intro (by decide +kernel) rfl)) ?_
  refine xa_cons 45 ((And.intro (by decide) (Or.inl (Exists.intro (0) (And.intro rfl (And.intro (by decide +kernel) rfl)))))) ?_
  refine xa_cons 46 (xc_new (own := "ExpressHouse") (index := 63) hx hb htsB xC_7 hown hA rfl rfl xw_39 xw_40 xw_41 (by decide) (by decide +kernel) (And.intro (by decide +kernel) rfl)) ?_
  refine xa_cons 47 ((And.intro (by decide +kernel) rfl)) ?_
  refine xa_cons 48 ((And.intro (by decide) (Or.inl (Exists.intro (0) (And.intro rfl (And.intro (by decide +kernel) rfl)))))) ?_
  refine xa_cons 49 (xc_getf (A := A) (own := "ExpressHouse") (index := 28) hx hb htsB xC_0 hown rfl (by decide) xw_19 (And.intro (by decide +kernel) rfl)) ?_
  refine xa_cons 50 ((And.intro (by decide) (Or.inl (Exists.intro (0) (And.intro rfl (And.intro (by decide +kernel) rfl)))))) ?_
  refine xa_cons 51 (xc_getf (A := A) (own := "ExpressHouse") (index := 59) hx hb htsB xC_0 hown rfl (by decide) xw_38 (And.intro (by decide +kernel) rfl)) ?_
  refine xa_cons 52 ((And.intro (xc_callI (index := 65) (n := 2) (ci := 7) S xg_15 rfl xw_41 xw_43 xw_42 rfl rfl rfl ⟨by decide, by decide, by decide +kernel⟩ rfl (And.intro (by decide +kernel) rfl)) (by decide +kernel))) ?_
  refine xa_cons 53 (xc_putfF (index := 68) hx hb htsB xC_0 hown rfl (by decide) hin xw_44 rfl (Or.inl ⟨_, rfl⟩) (And.intro (by decide +kernel) rfl)) ?_
  refine xa_cons 54 ((And.intro (by decide) (Or.inl (Exists.intro (0) (And.intro rfl (And.intro (by decide +kernel) rfl)))))) ?_
  refine xa_cons 55 (xc_new (own := "ExpressHouse") (index := 72) hx hb htsB xC_8 hown hA rfl rfl xw_45 xw_46 xw_47 (by decide) (by decide +kernel) (And.intro (by decide +kernel) rfl)) ?_
  refine xa_cons 56 ((And.intro (by decide +kernel) rfl)) ?_
  refine xa_cons 57 ((And.intro (by decide) (Or.inl (Exists.intro (0) (And.intro rfl (And.intro (by decide +kernel) rfl)))))) ?_
  refine xa_cons 58 (xc_getf (A := A) (own := "ExpressHouse") (index := 28) hx hb htsB xC_0 hown rfl (by decide) xw_19 (And.intro (by decide +kernel) rfl)) ?_
  refine xa_cons 59 ((And.intro (by decide) (Or.inl (Exists.intro (0) (And.intro rfl (And.intro (by decide +kernel) rfl)))))) ?_
  refine xa_cons 60 (xc_getf (A := A) (own := "ExpressHouse") (index := 16) hx hb htsB xC_0 hown rfl (by decide) xw_9 (And.intro (by decide +kernel) rfl)) ?_
  refine xa_cons 61 ((And.intro (xc_callI (index := 74) (n := 2) (ci := 8) S xg_16 rfl xw_47 xw_49 xw_48 rfl rfl rfl ⟨by decide, by decide, by decide +kernel⟩ rfl (And.intro (by decide +kernel) rfl)) (by decide +kernel))) ?_
  refine xa_cons 62 (xc_putfF (index := 77) hx hb htsB xC_0 hown rfl (by decide) hin xw_50 rfl (Or.inl ⟨_, rfl⟩) (And.intro (by decide +kernel) rfl)) ?_
  refine xa_cons 63 ((And.intro (by decide) (Or.inl (Exists.intro (0) (And.intro rfl (And.intro (by decide +kernel) rfl)))))) ?_
  refine xa_cons 64 (xc_new (own := "ExpressHouse") (index := 81) hx hb htsB xC_9 hown hA rfl rfl xw_51 xw_52 xw_53 (by decide) (by decide +kernel) (And.intro (by decide +kernel) rfl)) ?_
  refine xa_cons 65 ((And.intro (by decide +kernel) rfl)) ?_
  refine xa_cons 66 ((And.intro (by decide) (Or.inl (Exists.intro (0) (And.intro rfl (And.intro (by decide +kernel) rfl)))))) ?_
  refine xa_cons 67 (xc_getf (A := A) (own := "ExpressHouse") (index := 28) hx hb htsB xC_0 hown rfl (by decide) xw_19 (And.intro (by decide +kernel) rfl)) ?_
  refine xa_cons 68 ((And.intro (xc_callI (index := 83) (n := 1) (ci := 9) S xg_17 rfl xw_53 xw_55 xw_54 rfl rfl rfl ⟨by decide, by decide, by decide +kernel⟩ rfl (And.intro (by decide +kernel) rfl)) (by decide +kernel))) ?_
  refine xa_cons 69 (xc_putfF (index := 84) hx hb htsB xC_0 hown rfl (by decide) hin xw_56 rfl (Or.inl ⟨_, rfl⟩) (And.intro (by decide +kernel) rfl)) ?_
  refine xa_cons 70 ((And.intro (by decide) (Or.inl (Exists.intro (0) (And.intro rfl (And.intro (by decide +kernel) rfl)))))) ?_
  refine xa_cons 71 (xc_new (own := "ExpressHouse") (index := 88) hx hb htsB xC_10 hown hA rfl rfl xw_57 xw_58 xw_59 (by decide) (by decide +kernel) (And.intro (by decide +kernel) rfl)) ?_
  refine xa_cons 72 ((And.intro (by decide +kernel) rfl)) ?_
  refine xa_cons 73 (xc_iconst hx hb (z := 0) (b := 0) (And.intro (by decide +kernel) rfl) (by decide +kernel) ⟨rfl, rfl⟩) ?_
  refine xa_cons 74 (xc_lconst hx hb (z := 0) (And.intro (by decide +kernel) rfl) ⟨rfl, rfl⟩) ?_
  refine xa_cons 75 ((And.intro (xc_callIN (index := 90) (n := 2) (ci := 10) S xg_18 rfl xw_59 (hgN.1 _ (List.mem_of_getElem? (i := 2) rfl)) xw_60 rfl rfl rfl ⟨by decide, by decide, by decide +kernel⟩ rfl (And.intro (by decide +kernel) rfl)) (by decide +kernel))) ?_
  refine xa_cons 76 (xc_putf (own := "ExpressHouse") (index := 93) hx hb htsB xC_0 hown rfl (by decide) xw_61 rfl (Or.inl ⟨_, rfl⟩) (And.intro (by decide +kernel) rfl)) ?_
  refine xa_cons 77 ((And.intro (by decide) (Or.inl (Exists.intro (0) (And.intro rfl (And.intro (by decide +kernel) rfl)))))) ?_
  refine xa_cons 78 (xc_iconst hx hb (z := 4) (b := 4) (And.intro (by decide +kernel) rfl) (by decide +kernel) ⟨rfl, rfl⟩) ?_
  refine xa_cons 79 (xc_newq (own := "ExpressHouse") (index := 88) hx hb hA hown (htsB _ xw_57) hgN.2.1 ⟨rfl, rfl⟩ rfl (And.intro (by decide +kernel) rfl)) ?_
  refine xa_cons 80 (xc_putfF (index := 97) hx hb htsB xC_0 hown rfl (by decide) hin xw_62 rfl (Or.inr ⟨_, rfl⟩) (And.intro (by decide +kernel) rfl)) ?_
  refine xa_cons 81 ((And.intro (by decide) (Or.inl (Exists.intro (0) (And.intro rfl (And.intro (by decide +kernel) rfl)))))) ?_
  refine xa_cons 82 (xc_iconst hx hb (z := 4) (b := 4) (And.intro (by decide +kernel) rfl) (by decide +kernel) ⟨rfl, rfl⟩) ?_
  refine xa_cons 83 (xc_newq (own := "ExpressHouse") (index := 88) hx hb hA hown (htsB _ xw_57) hgN.2.1 ⟨rfl, rfl⟩ rfl (And.intro (by decide +kernel) rfl)) ?_
  refine xa_cons 84 (xc_putfF (index := 101) hx hb htsB xC_0 hown rfl (by decide) hin xw_63 rfl (Or.inr ⟨_, rfl⟩) (And.intro (by decide +kernel) rfl)) ?_
  refine xa_cons 85 ((And.intro (by decide) (Or.inl (Exists.intro (0) (And.intro rfl (And.intro (by decide +kernel) rfl)))))) ?_
  refine xa_cons 86 ((And.intro (xc_callV (index := 104) (n := 0) (ci := 0) S xg_19 rfl xw_64 xw_67 xw_65 xw_66 rfl rfl rfl ⟨by decide, by decide, by decide +kernel⟩ rfl (And.intro (by decide +kernel) rfl)) (by decide +kernel))) ?_
  refine xa_cons 87 ((And.intro hr (by decide +kernel))) ?_
  exact xa_nil
def xrp_1 : Nat → Nat := fun k => ([0, 1, 2, 3, 6, 7, 8, 9, 12, 14, 15, 16, 17, 18] : List Nat).getD k 0
set_option maxRecDepth 20000 in
set_option maxHeartbeats 4000000 in
theorem xz_1 {l : Launch} {D : va_G} {en : XE} : x_Ok xT l D xcl en xrn (xG en) 1 xc_1 := by
  refine ⟨method_2_code, (some .int), xBIG, xrp_1, by decide +kernel, rfl, rfl, ?_⟩
  intro p e R s m args below meth c s₁ A Q pc i f1 f2 B hml hA hg hi
  obtain ⟨hx, hb, hr, hown, hlocks, hin, htsB, S⟩ := xb_all (C := "ExpressHouseLaw") B hml rfl rfl
  obtain ⟨hgN, hgZ, hgS, hgS2⟩ := xG_all hg
  refine xa_at (i := i) (pc := pc) ?_ hi
  refine xa_cons 0 ((And.intro (by decide) (Or.inl (Exists.intro (1) (And.intro rfl (And.intro (by decide +kernel) rfl)))))) ?_
  refine xa_cons 1 ((And.intro (by decide) (Or.inl (Exists.intro (0) (And.intro rfl (And.intro (by decide +kernel) rfl)))))) ?_
  refine xa_cons 2 ((And.intro (by decide +kernel) rfl)) ?_
  refine xa_cons 3 ((And.intro (by decide) (Exists.intro (9) (And.intro (by decide +kernel) (And.intro (by decide +kernel) rfl))))) ?_
  refine xa_cons 4 ((And.intro (by decide) (Or.inl (Exists.intro (0) (And.intro rfl (And.intro (by decide +kernel) rfl)))))) ?_
  refine xa_cons 5 ((And.intro (by decide) (Or.inl (Exists.intro (1) (And.intro rfl (And.intro (by decide +kernel) rfl)))))) ?_
  refine xa_cons 6 ((And.intro (by decide) (And.intro (by decide +kernel) rfl))) ?_
  refine xa_cons 7 ((Exists.intro (9) (And.intro (by decide +kernel) (by decide +kernel)))) ?_
  refine xa_cons 8 (xc_ldc (own := "ExpressHouseLaw") (index := 7) (b := 625341585) hx hb hown (htsB _ xw_68) (And.intro (by decide +kernel) rfl) ⟨rfl, rfl⟩) ?_
  refine xa_cons 9 ((And.intro (by decide) (Or.inl (Exists.intro (1) (And.intro rfl (And.intro (by decide +kernel) rfl)))))) ?_
  refine xa_cons 10 (xc_iconst hx hb (z := 3) (b := 3) (And.intro (by decide +kernel) rfl) (by decide +kernel) ⟨rfl, rfl⟩) ?_
  refine xa_cons 11 ((And.intro (by decide) (And.intro (by decide +kernel) rfl))) ?_
  refine xa_cons 12 ((And.intro (by decide) (And.intro (by decide +kernel) rfl))) ?_
  refine xa_cons 13 ((And.intro hr (by decide +kernel))) ?_
  exact xa_nil
def xrp_2 : Nat → Nat := fun k => ([0, 1, 3, 4, 5, 6] : List Nat).getD k 0
set_option maxRecDepth 20000 in
set_option maxHeartbeats 4000000 in
theorem xz_2 {l : Launch} {D : va_G} {en : XE} : x_Ok xT l D xcl en xrn (xG en) 2 xc_2 := by
  refine ⟨method_3_code, (some .int), xBIG, xrp_2, by decide +kernel, rfl, rfl, ?_⟩
  intro p e R s m args below meth c s₁ A Q pc i f1 f2 B hml hA hg hi
  obtain ⟨hx, hb, hr, hown, hlocks, hin, htsB, S⟩ := xb_all (C := "ExpressHouseLaw") B hml rfl rfl
  obtain ⟨hgN, hgZ, hgS, hgS2⟩ := xG_all hg
  refine xa_at (i := i) (pc := pc) ?_ hi
  refine xa_cons 0 ((And.intro (by decide) (Or.inl (Exists.intro (0) (And.intro rfl (And.intro (by decide +kernel) rfl)))))) ?_
  refine xa_cons 1 (xc_ldc (own := "ExpressHouseLaw") (index := 8) (b := 2147483647) hx hb hown (htsB _ xw_69) (And.intro (by decide +kernel) rfl) ⟨rfl, rfl⟩) ?_
  refine xa_cons 2 ((And.intro (by decide) (And.intro (by decide +kernel) rfl))) ?_
  refine xa_cons 3 ((And.intro (by decide) (Or.inl (Exists.intro (1) (And.intro rfl (And.intro (by decide +kernel) rfl)))))) ?_
  refine xa_cons 4 ((And.intro (by decide) (And.intro (by decide +kernel) rfl))) ?_
  refine xa_cons 5 ((And.intro hr (by decide +kernel))) ?_
  exact xa_nil
def xrp_3 : Nat → Nat := fun k => ([0, 1, 3, 5, 7, 9, 11, 14, 17, 18, 20, 22, 24, 26, 28, 31, 34, 35, 37, 39, 41, 43, 45, 48, 51, 52, 54, 56, 58, 60, 62, 65, 68, 69, 71, 73, 75, 77, 79, 82, 85, 86, 88, 90, 92, 94, 96, 99, 102, 103, 105, 107, 109, 111, 113, 116, 119, 120, 122, 124, 126, 128, 130, 133, 136, 137, 139, 141, 143, 145, 147, 150, 153, 154, 156, 158, 160, 162, 164, 167, 170, 171, 173, 175, 177, 179, 181, 184, 187, 188, 190, 192, 194, 196, 198, 201, 204, 205, 207, 209, 211, 213, 215, 218, 221, 222, 224, 226, 228, 230, 232, 235, 238, 239, 241, 244, 247, 248, 251, 252, 255, 256, 259, 260] : List Nat).getD k 0
set_option maxRecDepth 20000 in
set_option maxHeartbeats 4000000 in
theorem xz_3 {l : Launch} {D : va_G} {en : XE} : x_Ok xT l D xcl en xrn (xG en) 3 xc_3 := by
  refine ⟨method_6_code, (some .boolean), xBIG, xrp_3, by decide +kernel, rfl, rfl, ?_⟩
  intro p e R s m args below meth c s₁ A Q pc i f1 f2 B hml hA hg hi
  obtain ⟨hx, hb, hr, hown, hlocks, hin, htsB, S⟩ := xb_all (C := "ExpressHouseLaw") B hml rfl rfl
  obtain ⟨hgN, hgZ, hgS, hgS2⟩ := xG_all hg
  refine xa_at (i := i) (pc := pc) ?_ hi
  refine xa_cons 0 ((And.intro (by decide) (Or.inl (Exists.intro (0) (And.intro rfl (And.intro (by decide +kernel) rfl)))))) ?_
  refine xa_cons 1 (xc_ldc (own := "ExpressHouseLaw") (index := 25) (b := 1935894629) hx hb hown (htsB _ xw_70) (And.intro (by decide +kernel) rfl) ⟨rfl, rfl⟩) ?_
  refine xa_cons 2 (xc_ldc (own := "ExpressHouseLaw") (index := 26) (b := 1835081843) hx hb hown (htsB _ xw_71) (And.intro (by decide +kernel) rfl) ⟨rfl, rfl⟩) ?_
  refine xa_cons 3 (xc_ldc (own := "ExpressHouseLaw") (index := 27) (b := 996503156) hx hb hown (htsB _ xw_72) (And.intro (by decide +kernel) rfl) ⟨rfl, rfl⟩) ?_
  refine xa_cons 4 (xc_ldc (own := "ExpressHouseLaw") (index := 28) (b := 1769240864) hx hb hown (htsB _ xw_73) (And.intro (by decide +kernel) rfl) ⟨rfl, rfl⟩) ?_
  refine xa_cons 5 (xc_ldc (own := "ExpressHouseLaw") (index := 29) (b := 1629512034) hx hb hown (htsB _ xw_74) (And.intro (by decide +kernel) rfl) ⟨rfl, rfl⟩) ?_
  refine xa_cons 6 ((And.intro (xc_callV (index := 9) (n := 5) (ci := 0) S xg_20 rfl xw_64 xw_77 xw_75 xw_76 rfl rfl rfl ⟨by decide, by decide, by decide +kernel⟩ rfl (And.intro (by decide +kernel) rfl)) (by decide +kernel))) ?_
  refine xa_cons 7 ((And.intro (by decide) (Exists.intro (245) (And.intro (by decide +kernel) (And.intro (by decide +kernel) rfl))))) ?_
  refine xa_cons 8 ((And.intro (by decide) (Or.inl (Exists.intro (0) (And.intro rfl (And.intro (by decide +kernel) rfl)))))) ?_
  refine xa_cons 9 (xc_ldc (own := "ExpressHouseLaw") (index := 30) (b := 1937011297) hx hb hown (htsB _ xw_78) (And.intro (by decide +kernel) rfl) ⟨rfl, rfl⟩) ?_
  refine xa_cons 10 (xc_ldc (own := "ExpressHouseLaw") (index := 31) (b := 1668554863) hx hb hown (htsB _ xw_79) (And.intro (by decide +kernel) rfl) ⟨rfl, rfl⟩) ?_
  refine xa_cons 11 (xc_ldc (own := "ExpressHouseLaw") (index := 32) (b := 1986359840) hx hb hown (htsB _ xw_80) (And.intro (by decide +kernel) rfl) ⟨rfl, rfl⟩) ?_
  refine xa_cons 12 (xc_ldc (own := "ExpressHouseLaw") (index := 33) (b := 1869505903) hx hb hown (htsB _ xw_81) (And.intro (by decide +kernel) rfl) ⟨rfl, rfl⟩) ?_
  refine xa_cons 13 (xc_ldc (own := "ExpressHouseLaw") (index := 34) (b := 1713922604) hx hb hown (htsB _ xw_82) (And.intro (by decide +kernel) rfl) ⟨rfl, rfl⟩) ?_
  refine xa_cons 14 ((And.intro (xc_callV (index := 9) (n := 5) (ci := 0) S xg_20 rfl xw_64 xw_77 xw_75 xw_76 rfl rfl rfl ⟨by decide, by decide, by decide +kernel⟩ rfl (And.intro (by decide +kernel) rfl)) (by decide +kernel))) ?_
  refine xa_cons 15 ((And.intro (by decide) (Exists.intro (228) (And.intro (by decide +kernel) (And.intro (by decide +kernel) rfl))))) ?_
  refine xa_cons 16 ((And.intro (by decide) (Or.inl (Exists.intro (0) (And.intro rfl (And.intro (by decide +kernel) rfl)))))) ?_
  refine xa_cons 17 (xc_ldc (own := "ExpressHouseLaw") (index := 35) (b := 1663646571) hx hb hown (htsB _ xw_83) (And.intro (by decide +kernel) rfl) ⟨rfl, rfl⟩) ?_
  refine xa_cons 18 (xc_ldc (own := "ExpressHouseLaw") (index := 36) (b := 980381812) hx hb hown (htsB _ xw_84) (And.intro (by decide +kernel) rfl) ⟨rfl, rfl⟩) ?_
  refine xa_cons 19 (xc_ldc (own := "ExpressHouseLaw") (index := 37) (b := 1768910433) hx hb hown (htsB _ xw_85) (And.intro (by decide +kernel) rfl) ⟨rfl, rfl⟩) ?_
  refine xa_cons 20 (xc_ldc (own := "ExpressHouseLaw") (index := 38) (b := 1814063470) hx hb hown (htsB _ xw_86) (And.intro (by decide +kernel) rfl) ⟨rfl, rfl⟩) ?_
  refine xa_cons 21 (xc_ldc (own := "ExpressHouseLaw") (index := 39) (b := 1952802661) hx hb hown (htsB _ xw_87) (And.intro (by decide +kernel) rfl) ⟨rfl, rfl⟩) ?_
  refine xa_cons 22 ((And.intro (xc_callV (index := 9) (n := 5) (ci := 0) S xg_20 rfl xw_64 xw_77 xw_75 xw_76 rfl rfl rfl ⟨by decide, by decide, by decide +kernel⟩ rfl (And.intro (by decide +kernel) rfl)) (by decide +kernel))) ?_
  refine xa_cons 23 ((And.intro (by decide) (Exists.intro (211) (And.intro (by decide +kernel) (And.intro (by decide +kernel) rfl))))) ?_
  refine xa_cons 24 ((And.intro (by decide) (Or.inl (Exists.intro (0) (And.intro rfl (And.intro (by decide +kernel) rfl)))))) ?_
  refine xa_cons 25 (xc_ldc (own := "ExpressHouseLaw") (index := 40) (b := 1916496954) hx hb hown (htsB _ xw_88) (And.intro (by decide +kernel) rfl) ⟨rfl, rfl⟩) ?_
  refine xa_cons 26 (xc_ldc (own := "ExpressHouseLaw") (index := 41) (b := 1869640809) hx hb hown (htsB _ xw_89) (And.intro (by decide +kernel) rfl) ⟨rfl, rfl⟩) ?_
  refine xa_cons 27 (xc_ldc (own := "ExpressHouseLaw") (index := 42) (b := 1869504876) hx hb hown (htsB _ xw_90) (And.intro (by decide +kernel) rfl) ⟨rfl, rfl⟩) ?_
  refine xa_cons 28 (xc_ldc (own := "ExpressHouseLaw") (index := 43) (b := 544433524) hx hb hown (htsB _ xw_91) (And.intro (by decide +kernel) rfl) ⟨rfl, rfl⟩) ?_
  refine xa_cons 29 (xc_ldc (own := "ExpressHouseLaw") (index := 44) (b := 1529887285) hx hb hown (htsB _ xw_92) (And.intro (by decide +kernel) rfl) ⟨rfl, rfl⟩) ?_
  refine xa_cons 30 ((And.intro (xc_callV (index := 9) (n := 5) (ci := 0) S xg_20 rfl xw_64 xw_77 xw_75 xw_76 rfl rfl rfl ⟨by decide, by decide, by decide +kernel⟩ rfl (And.intro (by decide +kernel) rfl)) (by decide +kernel))) ?_
  refine xa_cons 31 ((And.intro (by decide) (Exists.intro (194) (And.intro (by decide +kernel) (And.intro (by decide +kernel) rfl))))) ?_
  refine xa_cons 32 ((And.intro (by decide) (Or.inl (Exists.intro (0) (And.intro rfl (And.intro (by decide +kernel) rfl)))))) ?_
  refine xa_cons 33 (xc_ldc (own := "ExpressHouseLaw") (index := 45) (b := 1562406758) hx hb hown (htsB _ xw_93) (And.intro (by decide +kernel) rfl) ⟨rfl, rfl⟩) ?_
  refine xa_cons 34 (xc_ldc (own := "ExpressHouseLaw") (index := 46) (b := 543243108) hx hb hown (htsB _ xw_94) (And.intro (by decide +kernel) rfl) ⟨rfl, rfl⟩) ?_
  refine xa_cons 35 (xc_ldc (own := "ExpressHouseLaw") (index := 47) (b := 1701996918) hx hb hown (htsB _ xw_95) (And.intro (by decide +kernel) rfl) ⟨rfl, rfl⟩) ?_
  refine xa_cons 36 (xc_ldc (own := "ExpressHouseLaw") (index := 48) (b := 1696621626) hx hb hown (htsB _ xw_96) (And.intro (by decide +kernel) rfl) ⟨rfl, rfl⟩) ?_
  refine xa_cons 37 (xc_ldc (own := "ExpressHouseLaw") (index := 49) (b := 1768846437) hx hb hown (htsB _ xw_97) (And.intro (by decide +kernel) rfl) ⟨rfl, rfl⟩) ?_
  refine xa_cons 38 ((And.intro (xc_callV (index := 9) (n := 5) (ci := 0) S xg_20 rfl xw_64 xw_77 xw_75 xw_76 rfl rfl rfl ⟨by decide, by decide, by decide +kernel⟩ rfl (And.intro (by decide +kernel) rfl)) (by decide +kernel))) ?_
  refine xa_cons 39 ((And.intro (by decide) (Exists.intro (177) (And.intro (by decide +kernel) (And.intro (by decide +kernel) rfl))))) ?_
  refine xa_cons 40 ((And.intro (by decide) (Or.inl (Exists.intro (0) (And.intro rfl (And.intro (by decide +kernel) rfl)))))) ?_
  refine xa_cons 41 (xc_ldc (own := "ExpressHouseLaw") (index := 50) (b := 1734701629) hx hb hown (htsB _ xw_98) (And.intro (by decide +kernel) rfl) ⟨rfl, rfl⟩) ?_
  refine xa_cons 42 (xc_ldc (own := "ExpressHouseLaw") (index := 51) (b := 1797927483) hx hb hown (htsB _ xw_99) (And.intro (by decide +kernel) rfl) ⟨rfl, rfl⟩) ?_
  refine xa_cons 43 (xc_ldc (own := "ExpressHouseLaw") (index := 52) (b := 1701733435) hx hb hown (htsB _ xw_100) (And.intro (by decide +kernel) rfl) ⟨rfl, rfl⟩) ?_
  refine xa_cons 44 (xc_ldc (own := "ExpressHouseLaw") (index := 53) (b := 1701737577) hx hb hown (htsB _ xw_101) (And.intro (by decide +kernel) rfl) ⟨rfl, rfl⟩) ?_
  refine xa_cons 45 (xc_ldc (own := "ExpressHouseLaw") (index := 54) (b := 1954095202) hx hb hown (htsB _ xw_102) (And.intro (by decide +kernel) rfl) ⟨rfl, rfl⟩) ?_
  refine xa_cons 46 ((And.intro (xc_callV (index := 9) (n := 5) (ci := 0) S xg_20 rfl xw_64 xw_77 xw_75 xw_76 rfl rfl rfl ⟨by decide, by decide, by decide +kernel⟩ rfl (And.intro (by decide +kernel) rfl)) (by decide +kernel))) ?_
  refine xa_cons 47 ((And.intro (by decide) (Exists.intro (160) (And.intro (by decide +kernel) (And.intro (by decide +kernel) rfl))))) ?_
  refine xa_cons 48 ((And.intro (by decide) (Or.inl (Exists.intro (0) (And.intro rfl (And.intro (by decide +kernel) rfl)))))) ?_
  refine xa_cons 49 (xc_ldc (own := "ExpressHouseLaw") (index := 55) (b := 544566884) hx hb hown (htsB _ xw_103) (And.intro (by decide +kernel) rfl) ⟨rfl, rfl⟩) ?_
  refine xa_cons 50 (xc_ldc (own := "ExpressHouseLaw") (index := 56) (b := 1701978209) hx hb hown (htsB _ xw_104) (And.intro (by decide +kernel) rfl) ⟨rfl, rfl⟩) ?_
  refine xa_cons 51 (xc_ldc (own := "ExpressHouseLaw") (index := 57) (b := 997669487) hx hb hown (htsB _ xw_105) (And.intro (by decide +kernel) rfl) ⟨rfl, rfl⟩) ?_
  refine xa_cons 52 (xc_ldc (own := "ExpressHouseLaw") (index := 58) (b := 1886677359) hx hb hown (htsB _ xw_106) (And.intro (by decide +kernel) rfl) ⟨rfl, rfl⟩) ?_
  refine xa_cons 53 (xc_ldc (own := "ExpressHouseLaw") (index := 59) (b := 1851878432) hx hb hown (htsB _ xw_107) (And.intro (by decide +kernel) rfl) ⟨rfl, rfl⟩) ?_
  refine xa_cons 54 ((And.intro (xc_callV (index := 9) (n := 5) (ci := 0) S xg_20 rfl xw_64 xw_77 xw_75 xw_76 rfl rfl rfl ⟨by decide, by decide, by decide +kernel⟩ rfl (And.intro (by decide +kernel) rfl)) (by decide +kernel))) ?_
  refine xa_cons 55 ((And.intro (by decide) (Exists.intro (143) (And.intro (by decide +kernel) (And.intro (by decide +kernel) rfl))))) ?_
  refine xa_cons 56 ((And.intro (by decide) (Or.inl (Exists.intro (0) (And.intro rfl (And.intro (by decide +kernel) rfl)))))) ?_
  refine xa_cons 57 (xc_ldc (own := "ExpressHouseLaw") (index := 60) (b := 1631282542) hx hb hown (htsB _ xw_108) (And.intro (by decide +kernel) rfl) ⟨rfl, rfl⟩) ?_
  refine xa_cons 58 (xc_ldc (own := "ExpressHouseLaw") (index := 61) (b := 1681614190) hx hb hown (htsB _ xw_109) (And.intro (by decide +kernel) rfl) ⟨rfl, rfl⟩) ?_
  refine xa_cons 59 (xc_ldc (own := "ExpressHouseLaw") (index := 62) (b := 1953068153) hx hb hown (htsB _ xw_110) (And.intro (by decide +kernel) rfl) ⟨rfl, rfl⟩) ?_
  refine xa_cons 60 (xc_ldc (own := "ExpressHouseLaw") (index := 63) (b := 543367285) hx hb hown (htsB _ xw_111) (And.intro (by decide +kernel) rfl) ⟨rfl, rfl⟩) ?_
  refine xa_cons 61 (xc_ldc (own := "ExpressHouseLaw") (index := 64) (b := 1852073330) hx hb hown (htsB _ xw_112) (And.intro (by decide +kernel) rfl) ⟨rfl, rfl⟩) ?_
  refine xa_cons 62 ((And.intro (xc_callV (index := 9) (n := 5) (ci := 0) S xg_20 rfl xw_64 xw_77 xw_75 xw_76 rfl rfl rfl ⟨by decide, by decide, by decide +kernel⟩ rfl (And.intro (by decide +kernel) rfl)) (by decide +kernel))) ?_
  refine xa_cons 63 ((And.intro (by decide) (Exists.intro (126) (And.intro (by decide +kernel) (And.intro (by decide +kernel) rfl))))) ?_
  refine xa_cons 64 ((And.intro (by decide) (Or.inl (Exists.intro (0) (And.intro rfl (And.intro (by decide +kernel) rfl)))))) ?_
  refine xa_cons 65 (xc_ldc (own := "ExpressHouseLaw") (index := 65) (b := 543243113) hx hb hown (htsB _ xw_113) (And.intro (by decide +kernel) rfl) ⟨rfl, rfl⟩) ?_
  refine xa_cons 66 (xc_ldc (own := "ExpressHouseLaw") (index := 66) (b := 1853252978) hx hb hown (htsB _ xw_114) (And.intro (by decide +kernel) rfl) ⟨rfl, rfl⟩) ?_
  refine xa_cons 67 (xc_ldc (own := "ExpressHouseLaw") (index := 67) (b := 1936007273) hx hb hown (htsB _ xw_115) (And.intro (by decide +kernel) rfl) ⟨rfl, rfl⟩) ?_
  refine xa_cons 68 (xc_ldc (own := "ExpressHouseLaw") (index := 68) (b := 979509350) hx hb hown (htsB _ xw_116) (And.intro (by decide +kernel) rfl) ⟨rfl, rfl⟩) ?_
  refine xa_cons 69 (xc_ldc (own := "ExpressHouseLaw") (index := 69) (b := 1869750391) hx hb hown (htsB _ xw_117) (And.intro (by decide +kernel) rfl) ⟨rfl, rfl⟩) ?_
  refine xa_cons 70 ((And.intro (xc_callV (index := 9) (n := 5) (ci := 0) S xg_20 rfl xw_64 xw_77 xw_75 xw_76 rfl rfl rfl ⟨by decide, by decide, by decide +kernel⟩ rfl (And.intro (by decide +kernel) rfl)) (by decide +kernel))) ?_
  refine xa_cons 71 ((And.intro (by decide) (Exists.intro (109) (And.intro (by decide +kernel) (And.intro (by decide +kernel) rfl))))) ?_
  refine xa_cons 72 ((And.intro (by decide) (Or.inl (Exists.intro (0) (And.intro rfl (And.intro (by decide +kernel) rfl)))))) ?_
  refine xa_cons 73 (xc_ldc (own := "ExpressHouseLaw") (index := 70) (b := 1529887281) hx hb hown (htsB _ xw_118) (And.intro (by decide +kernel) rfl) ⟨rfl, rfl⟩) ?_
  refine xa_cons 74 (xc_ldc (own := "ExpressHouseLaw") (index := 71) (b := 1564178280) hx hb hown (htsB _ xw_119) (And.intro (by decide +kernel) rfl) ⟨rfl, rfl⟩) ?_
  refine xa_cons 75 (xc_ldc (own := "ExpressHouseLaw") (index := 72) (b := 1701995808) hx hb hown (htsB _ xw_120) (And.intro (by decide +kernel) rfl) ⟨rfl, rfl⟩) ?_
  refine xa_cons 76 (xc_ldc (own := "ExpressHouseLaw") (index := 73) (b := 1702390131) hx hb hown (htsB _ xw_121) (And.intro (by decide +kernel) rfl) ⟨rfl, rfl⟩) ?_
  refine xa_cons 77 (xc_ldc (own := "ExpressHouseLaw") (index := 74) (b := 1953704043) hx hb hown (htsB _ xw_122) (And.intro (by decide +kernel) rfl) ⟨rfl, rfl⟩) ?_
  refine xa_cons 78 ((And.intro (xc_callV (index := 9) (n := 5) (ci := 0) S xg_20 rfl xw_64 xw_77 xw_75 xw_76 rfl rfl rfl ⟨by decide, by decide, by decide +kernel⟩ rfl (And.intro (by decide +kernel) rfl)) (by decide +kernel))) ?_
  refine xa_cons 79 ((And.intro (by decide) (Exists.intro (92) (And.intro (by decide +kernel) (And.intro (by decide +kernel) rfl))))) ?_
  refine xa_cons 80 ((And.intro (by decide) (Or.inl (Exists.intro (0) (And.intro rfl (And.intro (by decide +kernel) rfl)))))) ?_
  refine xa_cons 81 (xc_ldc (own := "ExpressHouseLaw") (index := 75) (b := 691758446) hx hb hown (htsB _ xw_123) (And.intro (by decide +kernel) rfl) ⟨rfl, rfl⟩) ?_
  refine xa_cons 82 (xc_ldc (own := "ExpressHouseLaw") (index := 76) (b := 1681614453) hx hb hown (htsB _ xw_124) (And.intro (by decide +kernel) rfl) ⟨rfl, rfl⟩) ?_
  refine xa_cons 83 (xc_ldc (own := "ExpressHouseLaw") (index := 77) (b := 1852011625) hx hb hown (htsB _ xw_125) (And.intro (by decide +kernel) rfl) ⟨rfl, rfl⟩) ?_
  refine xa_cons 84 (xc_ldc (own := "ExpressHouseLaw") (index := 78) (b := 1869488230) hx hb hown (htsB _ xw_126) (And.intro (by decide +kernel) rfl) ⟨rfl, rfl⟩) ?_
  refine xa_cons 85 (xc_ldc (own := "ExpressHouseLaw") (index := 79) (b := 678967905) hx hb hown (htsB _ xw_127) (And.intro (by decide +kernel) rfl) ⟨rfl, rfl⟩) ?_
  refine xa_cons 86 ((And.intro (xc_callV (index := 9) (n := 5) (ci := 0) S xg_20 rfl xw_64 xw_77 xw_75 xw_76 rfl rfl rfl ⟨by decide, by decide, by decide +kernel⟩ rfl (And.intro (by decide +kernel) rfl)) (by decide +kernel))) ?_
  refine xa_cons 87 ((And.intro (by decide) (Exists.intro (75) (And.intro (by decide +kernel) (And.intro (by decide +kernel) rfl))))) ?_
  refine xa_cons 88 ((And.intro (by decide) (Or.inl (Exists.intro (0) (And.intro rfl (And.intro (by decide +kernel) rfl)))))) ?_
  refine xa_cons 89 (xc_ldc (own := "ExpressHouseLaw") (index := 80) (b := 691693934) hx hb hown (htsB _ xw_128) (And.intro (by decide +kernel) rfl) ⟨rfl, rfl⟩) ?_
  refine xa_cons 90 (xc_ldc (own := "ExpressHouseLaw") (index := 39) (b := 1952802661) hx hb hown (htsB _ xw_87) (And.intro (by decide +kernel) rfl) ⟨rfl, rfl⟩) ?_
  refine xa_cons 91 (xc_ldc (own := "ExpressHouseLaw") (index := 81) (b := 1916496230) hx hb hown (htsB _ xw_129) (And.intro (by decide +kernel) rfl) ⟨rfl, rfl⟩) ?_
  refine xa_cons 92 (xc_ldc (own := "ExpressHouseLaw") (index := 82) (b := 543520873) hx hb hown (htsB _ xw_130) (And.intro (by decide +kernel) rfl) ⟨rfl, rfl⟩) ?_
  refine xa_cons 93 (xc_ldc (own := "ExpressHouseLaw") (index := 83) (b := 1937011496) hx hb hown (htsB _ xw_131) (And.intro (by decide +kernel) rfl) ⟨rfl, rfl⟩) ?_
  refine xa_cons 94 ((And.intro (xc_callV (index := 9) (n := 5) (ci := 0) S xg_20 rfl xw_64 xw_77 xw_75 xw_76 rfl rfl rfl ⟨by decide, by decide, by decide +kernel⟩ rfl (And.intro (by decide +kernel) rfl)) (by decide +kernel))) ?_
  refine xa_cons 95 ((And.intro (by decide) (Exists.intro (58) (And.intro (by decide +kernel) (And.intro (by decide +kernel) rfl))))) ?_
  refine xa_cons 96 ((And.intro (by decide) (Or.inl (Exists.intro (0) (And.intro rfl (And.intro (by decide +kernel) rfl)))))) ?_
  refine xa_cons 97 (xc_ldc (own := "ExpressHouseLaw") (index := 84) (b := 2016308009) hx hb hown (htsB _ xw_132) (And.intro (by decide +kernel) rfl) ⟨rfl, rfl⟩) ?_
  refine xa_cons 98 (xc_ldc (own := "ExpressHouseLaw") (index := 85) (b := 1952998766) hx hb hown (htsB _ xw_133) (And.intro (by decide +kernel) rfl) ⟨rfl, rfl⟩) ?_
  refine xa_cons 99 (xc_ldc (own := "ExpressHouseLaw") (index := 86) (b := 544367988) hx hb hown (htsB _ xw_134) (And.intro (by decide +kernel) rfl) ⟨rfl, rfl⟩) ?_
  refine xa_cons 100 (xc_ldc (own := "ExpressHouseLaw") (index := 87) (b := 1970433568) hx hb hown (htsB _ xw_135) (And.intro (by decide +kernel) rfl) ⟨rfl, rfl⟩) ?_
  refine xa_cons 101 (xc_ldc (own := "ExpressHouseLaw") (index := 88) (b := 2016308011) hx hb hown (htsB _ xw_136) (And.intro (by decide +kernel) rfl) ⟨rfl, rfl⟩) ?_
  refine xa_cons 102 ((And.intro (xc_callV (index := 9) (n := 5) (ci := 0) S xg_20 rfl xw_64 xw_77 xw_75 xw_76 rfl rfl rfl ⟨by decide, by decide, by decide +kernel⟩ rfl (And.intro (by decide +kernel) rfl)) (by decide +kernel))) ?_
  refine xa_cons 103 ((And.intro (by decide) (Exists.intro (41) (And.intro (by decide +kernel) (And.intro (by decide +kernel) rfl))))) ?_
  refine xa_cons 104 ((And.intro (by decide) (Or.inl (Exists.intro (0) (And.intro rfl (And.intro (by decide +kernel) rfl)))))) ?_
  refine xa_cons 105 (xc_ldc (own := "ExpressHouseLaw") (index := 89) (b := 825976174) hx hb hown (htsB _ xw_137) (And.intro (by decide +kernel) rfl) ⟨rfl, rfl⟩) ?_
  refine xa_cons 106 (xc_ldc (own := "ExpressHouseLaw") (index := 61) (b := 1681614190) hx hb hown (htsB _ xw_109) (And.intro (by decide +kernel) rfl) ⟨rfl, rfl⟩) ?_
  refine xa_cons 107 (xc_ldc (own := "ExpressHouseLaw") (index := 61) (b := 1681614190) hx hb hown (htsB _ xw_109) (And.intro (by decide +kernel) rfl) ⟨rfl, rfl⟩) ?_
  refine xa_cons 108 (xc_ldc (own := "ExpressHouseLaw") (index := 90) (b := 1681596448) hx hb hown (htsB _ xw_138) (And.intro (by decide +kernel) rfl) ⟨rfl, rfl⟩) ?_
  refine xa_cons 109 (xc_ldc (own := "ExpressHouseLaw") (index := 91) (b := 538976288) hx hb hown (htsB _ xw_139) (And.intro (by decide +kernel) rfl) ⟨rfl, rfl⟩) ?_
  refine xa_cons 110 ((And.intro (xc_callV (index := 9) (n := 5) (ci := 0) S xg_20 rfl xw_64 xw_77 xw_75 xw_76 rfl rfl rfl ⟨by decide, by decide, by decide +kernel⟩ rfl (And.intro (by decide +kernel) rfl)) (by decide +kernel))) ?_
  refine xa_cons 111 ((And.intro (by decide) (Exists.intro (24) (And.intro (by decide +kernel) (And.intro (by decide +kernel) rfl))))) ?_
  refine xa_cons 112 ((And.intro (by decide) (Or.inl (Exists.intro (0) (And.intro rfl (And.intro (by decide +kernel) rfl)))))) ?_
  refine xa_cons 113 (xc_bipush hx hb (z := 6) (b := 6) (And.intro (by decide +kernel) rfl) (by decide +kernel) ⟨rfl, rfl⟩) ?_
  refine xa_cons 114 ((And.intro (xc_callV (index := 15) (n := 1) (ci := 0) S xg_21 rfl xw_64 xw_142 xw_140 xw_141 rfl rfl rfl ⟨by decide, by decide, by decide +kernel⟩ rfl (And.intro (by decide +kernel) rfl)) (by decide +kernel))) ?_
  refine xa_cons 115 ((And.intro (by decide) (Exists.intro (15) (And.intro (by decide +kernel) (And.intro (by decide +kernel) rfl))))) ?_
  refine xa_cons 116 ((And.intro (by decide) (Or.inl (Exists.intro (0) (And.intro rfl (And.intro (by decide +kernel) rfl)))))) ?_
  refine xa_cons 117 ((And.intro (xc_callV (index := 92) (n := 0) (ci := 0) S xg_22 rfl xw_64 xw_145 xw_143 xw_144 rfl rfl rfl ⟨by decide, by decide, by decide +kernel⟩ rfl (And.intro (by decide +kernel) rfl)) (by decide +kernel))) ?_
  refine xa_cons 118 (xc_iconst hx hb (z := 3) (b := 3) (And.intro (by decide +kernel) rfl) (by decide +kernel) ⟨rfl, rfl⟩) ?_
  refine xa_cons 119 ((And.intro (by decide) (Exists.intro (7) (And.intro (by decide +kernel) (And.intro (by decide +kernel) rfl))))) ?_
  refine xa_cons 120 (xc_iconst hx hb (z := 1) (b := 1) (And.intro (by decide +kernel) rfl) (by decide +kernel) ⟨rfl, rfl⟩) ?_
  refine xa_cons 121 ((Exists.intro (4) (And.intro (by decide +kernel) (by decide +kernel)))) ?_
  refine xa_cons 122 (xc_iconst hx hb (z := 0) (b := 0) (And.intro (by decide +kernel) rfl) (by decide +kernel) ⟨rfl, rfl⟩) ?_
  refine xa_cons 123 ((And.intro hr (by decide +kernel))) ?_
  exact xa_nil
def xrp_4 : Nat → Nat := fun k => ([0, 1, 2, 3, 5, 6, 7, 8, 10, 11, 13, 14, 15, 16, 18, 19, 21, 22, 88, 89, 90, 91, 92, 93, 94, 95, 96, 99, 100, 101, 102, 103, 104, 107, 108, 111, 112, 115, 116, 117, 118, 120, 121, 124, 125, 128, 130, 131, 133, 136, 137, 138, 139, 142, 145, 147, 150, 151, 152, 154, 157, 160, 161, 163, 166, 169, 170, 171, 174, 177, 178, 180, 183, 186, 187, 189, 192, 195, 196, 197, 200, 203, 204, 206, 209, 212, 213, 216, 217, 219, 220, 222, 225, 226, 227, 228, 231, 234, 236, 239, 240, 241, 243, 246, 249, 250, 251, 254, 257, 258, 261, 262, 264, 265, 267, 270, 271, 272, 273, 276, 279, 281, 284, 285, 286, 288, 289, 291, 292, 295, 296, 297, 300, 303, 304, 305, 306, 309, 310, 311, 312, 313, 314, 316, 317, 320, 321, 322, 324, 326, 328, 330, 332, 335, 338, 339, 341, 344, 347, 348, 349, 352, 355, 356, 358, 361, 364, 365, 368, 369, 371, 372, 374, 377, 378, 381, 384, 386, 389, 390, 391, 393, 395, 397, 399, 401, 404, 407, 408, 410, 413, 416, 417, 418, 421, 424, 425, 427, 430, 433, 434, 437, 438, 440, 441, 443, 446, 447, 450, 453, 455, 458, 459, 460, 462, 465, 468, 469, 470, 473, 476, 477, 479, 482, 485, 486, 488, 491, 494, 495, 496, 499, 502, 503, 506, 507, 509, 510, 512, 515, 516, 519, 522, 524, 527, 528, 529, 532] : List Nat).getD k 0
set_option maxRecDepth 20000 in
set_option maxHeartbeats 4000000 in
theorem xz_4 {l : Launch} {D : va_G} {en : XE} : x_Ok xT l D xcl en xrn (xG en) 4 xc_4 := by
  refine ⟨method_8_code, (some .int), xBIG, xrp_4, by decide +kernel, rfl, rfl, ?_⟩
  intro p e R s m args below meth c s₁ A Q pc i f1 f2 B hml hA hg hi
  obtain ⟨hx, hb, hr, hown, hlocks, hin, htsB, S⟩ := xb_all (C := "ExpressHouseLaw") B hml rfl rfl
  obtain ⟨hgN, hgZ, hgS, hgS2⟩ := xG_all hg
  refine xa_at (i := i) (pc := pc) ?_ hi
  refine xa_cons 0 ((And.intro (by decide) (Or.inl (Exists.intro (1) (And.intro rfl (And.intro (by decide +kernel) rfl)))))) ?_
  refine xa_cons 1 (xc_iconst hx hb (z := 4) (b := 4) (And.intro (by decide +kernel) rfl) (by decide +kernel) ⟨rfl, rfl⟩) ?_
  refine xa_cons 2 ((And.intro (by decide +kernel) rfl)) ?_
  refine xa_cons 3 (xc_bipush hx hb (z := 7) (b := 7) (And.intro (by decide +kernel) rfl) (by decide +kernel) ⟨rfl, rfl⟩) ?_
  refine xa_cons 4 ((And.intro (by decide) (And.intro (by decide +kernel) rfl))) ?_
  refine xa_cons 5 ((And.intro (Or.inl rfl) (Or.inl (Exists.intro (2) (And.intro rfl (And.intro (by decide +kernel) rfl)))))) ?_
  refine xa_cons 6 ((And.intro (by decide) (Or.inl (Exists.intro (1) (And.intro rfl (And.intro (by decide +kernel) rfl)))))) ?_
  refine xa_cons 7 (xc_bipush hx hb (z := 7) (b := 7) (And.intro (by decide +kernel) rfl) (by decide +kernel) ⟨rfl, rfl⟩) ?_
  refine xa_cons 8 ((And.intro (by decide +kernel) rfl)) ?_
  refine xa_cons 9 (xc_bipush hx hb (z := 7) (b := 7) (And.intro (by decide +kernel) rfl) (by decide +kernel) ⟨rfl, rfl⟩) ?_
  refine xa_cons 10 ((And.intro (by decide) (And.intro (by decide +kernel) rfl))) ?_
  refine xa_cons 11 ((And.intro (Or.inl rfl) (Or.inl (Exists.intro (3) (And.intro rfl (And.intro (by decide +kernel) rfl)))))) ?_
  refine xa_cons 12 (xc_iconst hx hb (z := 1) (b := 1) (And.intro (by decide +kernel) rfl) (by decide +kernel) ⟨rfl, rfl⟩) ?_
  refine xa_cons 13 ((And.intro (Or.inl rfl) (Or.inr (And.intro (by decide +kernel) rfl)))) ?_
  refine xa_cons 14 ((And.intro (by decide) (Or.inl (Exists.intro (1) (And.intro rfl (And.intro (by decide +kernel) rfl)))))) ?_
  refine xa_cons 15 (xc_bipush hx hb (z := 15) (b := 15) (And.intro (by decide +kernel) rfl) (by decide +kernel) ⟨rfl, rfl⟩) ?_
  refine xa_cons 16 ((And.intro (by decide) (And.intro (by decide +kernel) rfl))) ?_
  refine xa_cons 17 (xc_table hx hb (by decide +kernel : decode method_8_code 22 = .ok (.tableswitch 506 0 12 #[66, 78, 94, 94, 94, 129, 218, 218, 263, 288, 299, 368, 437], 66)) (by decide +kernel) (by decide) (by decide +kernel) (by decide) (by decide +kernel)) ?_
  refine xa_cons 18 ((And.intro (by decide) (Or.inl (Exists.intro (0) (And.intro rfl (And.intro (by decide +kernel) rfl)))))) ?_
  refine xa_cons 19 (xc_iconst hx hb (z := 1) (b := 1) (And.intro (by decide +kernel) rfl) (by decide +kernel) ⟨rfl, rfl⟩) ?_
  refine xa_cons 20 ((And.intro (by decide) (Or.inl (Exists.intro (2) (And.intro rfl (And.intro (by decide +kernel) rfl)))))) ?_
  refine xa_cons 21 (xc_iconst hx hb (z := 1) (b := 1) (And.intro (by decide +kernel) rfl) (by decide +kernel) ⟨rfl, rfl⟩) ?_
  refine xa_cons 22 ((And.intro (by decide) (And.intro (by decide +kernel) rfl))) ?_
  refine xa_cons 23 (xc_iconst hx hb (z := 2) (b := 2) (And.intro (by decide +kernel) rfl) (by decide +kernel) ⟨rfl, rfl⟩) ?_
  refine xa_cons 24 ((And.intro (by decide) (And.intro (by decide +kernel) rfl))) ?_
  refine xa_cons 25 ((And.intro (by decide) (And.intro (by decide +kernel) rfl))) ?_
  refine xa_cons 26 ((And.intro (xc_callV (index := 99) (n := 1) (ci := 0) S xg_23 rfl xw_64 xw_148 xw_146 xw_147 rfl rfl rfl ⟨by decide, by decide, by decide +kernel⟩ rfl (And.intro (by decide +kernel) rfl)) (by decide +kernel))) ?_
  refine xa_cons 27 ((And.intro hr (by decide +kernel))) ?_
  refine xa_cons 28 ((And.intro (by decide) (Or.inl (Exists.intro (0) (And.intro rfl (And.intro (by decide +kernel) rfl)))))) ?_
  refine xa_cons 29 ((And.intro (by decide) (Or.inl (Exists.intro (2) (And.intro rfl (And.intro (by decide +kernel) rfl)))))) ?_
  refine xa_cons 30 (xc_iconst hx hb (z := 1) (b := 1) (And.intro (by decide +kernel) rfl) (by decide +kernel) ⟨rfl, rfl⟩) ?_
  refine xa_cons 31 ((And.intro (by decide) (And.intro (by decide +kernel) rfl))) ?_
  refine xa_cons 32 ((And.intro (by decide) (Exists.intro (7) (And.intro (by decide +kernel) (And.intro (by decide +kernel) rfl))))) ?_
  refine xa_cons 33 (xc_iconst hx hb (z := 3) (b := 3) (And.intro (by decide +kernel) rfl) (by decide +kernel) ⟨rfl, rfl⟩) ?_
  refine xa_cons 34 ((Exists.intro (4) (And.intro (by decide +kernel) (by decide +kernel)))) ?_
  refine xa_cons 35 (xc_iconst hx hb (z := 5) (b := 5) (And.intro (by decide +kernel) rfl) (by decide +kernel) ⟨rfl, rfl⟩) ?_
  refine xa_cons 36 ((And.intro (xc_callV (index := 99) (n := 1) (ci := 0) S xg_23 rfl xw_64 xw_148 xw_146 xw_147 rfl rfl rfl ⟨by decide, by decide, by decide +kernel⟩ rfl (And.intro (by decide +kernel) rfl)) (by decide +kernel))) ?_
  refine xa_cons 37 ((And.intro hr (by decide +kernel))) ?_
  refine xa_cons 38 ((And.intro (by decide) (Or.inl (Exists.intro (0) (And.intro rfl (And.intro (by decide +kernel) rfl)))))) ?_
  refine xa_cons 39 ((And.intro (by decide) (Or.inl (Exists.intro (1) (And.intro rfl (And.intro (by decide +kernel) rfl)))))) ?_
  refine xa_cons 40 (xc_bipush hx hb (z := 10) (b := 10) (And.intro (by decide +kernel) rfl) (by decide +kernel) ⟨rfl, rfl⟩) ?_
  refine xa_cons 41 ((And.intro (by decide +kernel) rfl)) ?_
  refine xa_cons 42 (xc_sipush hx hb (z := 1023) (b := 1023) (And.intro (by decide +kernel) rfl) (by decide +kernel) ⟨rfl, rfl⟩) ?_
  refine xa_cons 43 ((And.intro (by decide) (And.intro (by decide +kernel) rfl))) ?_
  refine xa_cons 44 ((And.intro (xc_callS (index := 102) S xg_5 rfl xw_149 xw_150 xw_151 ⟨by decide, by decide, by decide +kernel⟩ rfl (And.intro (by decide +kernel) rfl)) (by decide +kernel))) ?_
  refine xa_cons 45 ((And.intro (Or.inl rfl) (Or.inr (And.intro (by decide +kernel) rfl)))) ?_
  refine xa_cons 46 ((And.intro (by decide) (Or.inl (Exists.intro (0) (And.intro rfl (And.intro (by decide +kernel) rfl)))))) ?_
  refine xa_cons 47 ((And.intro (by decide) (Or.inr (And.intro (by decide +kernel) rfl)))) ?_
  refine xa_cons 48 ((And.intro (by decide) (Exists.intro (12) (And.intro (by decide +kernel) (And.intro (by decide +kernel) rfl))))) ?_
  refine xa_cons 49 ((And.intro (by decide) (Or.inl (Exists.intro (0) (And.intro rfl (And.intro (by decide +kernel) rfl)))))) ?_
  refine xa_cons 50 ((And.intro (by decide) (Or.inl (Exists.intro (2) (And.intro rfl (And.intro (by decide +kernel) rfl)))))) ?_
  refine xa_cons 51 (xc_iconst hx hb (z := 0) (b := 0) (And.intro (by decide +kernel) rfl) (by decide +kernel) ⟨rfl, rfl⟩) ?_
  refine xa_cons 52 ((And.intro (xc_callV (index := 105) (n := 2) (ci := 0) S xg_24 rfl xw_64 xw_154 xw_152 xw_153 rfl rfl rfl ⟨by decide, by decide, by decide +kernel⟩ rfl (And.intro (by decide +kernel) rfl)) (by decide +kernel))) ?_
  refine xa_cons 53 ((Exists.intro (5) (And.intro (by decide +kernel) (by decide +kernel)))) ?_
  refine xa_cons 54 (xc_bipush hx hb (z := -9) (b := 4294967287) (And.intro (by decide +kernel) rfl) (by decide +kernel) ⟨rfl, rfl⟩) ?_
  refine xa_cons 55 ((And.intro (xc_callS (index := 109) S xg_7 rfl xw_149 xw_155 xw_156 ⟨by decide, by decide, by decide +kernel⟩ rfl (And.intro (by decide +kernel) rfl)) (by decide +kernel))) ?_
  refine xa_cons 56 ((And.intro hr (by decide +kernel))) ?_
  refine xa_cons 57 ((And.intro (by decide) (Or.inl (Exists.intro (0) (And.intro rfl (And.intro (by decide +kernel) rfl)))))) ?_
  refine xa_cons 58 (xc_bipush hx hb (z := 91) (b := 91) (And.intro (by decide +kernel) rfl) (by decide +kernel) ⟨rfl, rfl⟩) ?_
  refine xa_cons 59 ((And.intro (xc_callS (index := 19) S xg_6 rfl xw_149 xw_157 xw_158 ⟨by decide, by decide, by decide +kernel⟩ rfl (And.intro (by decide +kernel) rfl)) (by decide +kernel))) ?_
  refine xa_cons 60 ((And.intro (by decide) (Exists.intro (59) (And.intro (by decide +kernel) (And.intro (by decide +kernel) rfl))))) ?_
  refine xa_cons 61 ((And.intro (by decide) (Or.inl (Exists.intro (0) (And.intro rfl (And.intro (by decide +kernel) rfl)))))) ?_
  refine xa_cons 62 (xc_bipush hx hb (z := 35) (b := 35) (And.intro (by decide +kernel) rfl) (by decide +kernel) ⟨rfl, rfl⟩) ?_
  refine xa_cons 63 ((And.intro (xc_callS (index := 19) S xg_6 rfl xw_149 xw_157 xw_158 ⟨by decide, by decide, by decide +kernel⟩ rfl (And.intro (by decide +kernel) rfl)) (by decide +kernel))) ?_
  refine xa_cons 64 ((And.intro (by decide) (Exists.intro (50) (And.intro (by decide +kernel) (And.intro (by decide +kernel) rfl))))) ?_
  refine xa_cons 65 ((And.intro (by decide) (Or.inl (Exists.intro (0) (And.intro rfl (And.intro (by decide +kernel) rfl)))))) ?_
  refine xa_cons 66 ((And.intro (by decide) (Or.inl (Exists.intro (2) (And.intro rfl (And.intro (by decide +kernel) rfl)))))) ?_
  refine xa_cons 67 ((And.intro (xc_callS (index := 102) S xg_5 rfl xw_149 xw_150 xw_151 ⟨by decide, by decide, by decide +kernel⟩ rfl (And.intro (by decide +kernel) rfl)) (by decide +kernel))) ?_
  refine xa_cons 68 ((And.intro (by decide) (Exists.intro (42) (And.intro (by decide +kernel) (And.intro (by decide +kernel) rfl))))) ?_
  refine xa_cons 69 ((And.intro (by decide) (Or.inl (Exists.intro (0) (And.intro rfl (And.intro (by decide +kernel) rfl)))))) ?_
  refine xa_cons 70 (xc_bipush hx hb (z := 44) (b := 44) (And.intro (by decide +kernel) rfl) (by decide +kernel) ⟨rfl, rfl⟩) ?_
  refine xa_cons 71 ((And.intro (xc_callS (index := 19) S xg_6 rfl xw_149 xw_157 xw_158 ⟨by decide, by decide, by decide +kernel⟩ rfl (And.intro (by decide +kernel) rfl)) (by decide +kernel))) ?_
  refine xa_cons 72 ((And.intro (by decide) (Exists.intro (33) (And.intro (by decide +kernel) (And.intro (by decide +kernel) rfl))))) ?_
  refine xa_cons 73 ((And.intro (by decide) (Or.inl (Exists.intro (0) (And.intro rfl (And.intro (by decide +kernel) rfl)))))) ?_
  refine xa_cons 74 (xc_bipush hx hb (z := 35) (b := 35) (And.intro (by decide +kernel) rfl) (by decide +kernel) ⟨rfl, rfl⟩) ?_
  refine xa_cons 75 ((And.intro (xc_callS (index := 19) S xg_6 rfl xw_149 xw_157 xw_158 ⟨by decide, by decide, by decide +kernel⟩ rfl (And.intro (by decide +kernel) rfl)) (by decide +kernel))) ?_
  refine xa_cons 76 ((And.intro (by decide) (Exists.intro (24) (And.intro (by decide +kernel) (And.intro (by decide +kernel) rfl))))) ?_
  refine xa_cons 77 ((And.intro (by decide) (Or.inl (Exists.intro (0) (And.intro rfl (And.intro (by decide +kernel) rfl)))))) ?_
  refine xa_cons 78 ((And.intro (by decide) (Or.inl (Exists.intro (3) (And.intro rfl (And.intro (by decide +kernel) rfl)))))) ?_
  refine xa_cons 79 ((And.intro (xc_callS (index := 102) S xg_5 rfl xw_149 xw_150 xw_151 ⟨by decide, by decide, by decide +kernel⟩ rfl (And.intro (by decide +kernel) rfl)) (by decide +kernel))) ?_
  refine xa_cons 80 ((And.intro (by decide) (Exists.intro (16) (And.intro (by decide +kernel) (And.intro (by decide +kernel) rfl))))) ?_
  refine xa_cons 81 ((And.intro (by decide) (Or.inl (Exists.intro (0) (And.intro rfl (And.intro (by decide +kernel) rfl)))))) ?_
  refine xa_cons 82 (xc_bipush hx hb (z := 93) (b := 93) (And.intro (by decide +kernel) rfl) (by decide +kernel) ⟨rfl, rfl⟩) ?_
  refine xa_cons 83 ((And.intro (xc_callS (index := 19) S xg_6 rfl xw_149 xw_157 xw_158 ⟨by decide, by decide, by decide +kernel⟩ rfl (And.intro (by decide +kernel) rfl)) (by decide +kernel))) ?_
  refine xa_cons 84 ((And.intro (by decide) (Exists.intro (7) (And.intro (by decide +kernel) (And.intro (by decide +kernel) rfl))))) ?_
  refine xa_cons 85 (xc_iconst hx hb (z := 1) (b := 1) (And.intro (by decide +kernel) rfl) (by decide +kernel) ⟨rfl, rfl⟩) ?_
  refine xa_cons 86 ((Exists.intro (4) (And.intro (by decide +kernel) (by decide +kernel)))) ?_
  refine xa_cons 87 (xc_iconst hx hb (z := 0) (b := 0) (And.intro (by decide +kernel) rfl) (by decide +kernel) ⟨rfl, rfl⟩) ?_
  refine xa_cons 88 ((And.intro (Or.inl rfl) (Or.inr (And.intro (by decide +kernel) rfl)))) ?_
  refine xa_cons 89 ((And.intro (by decide) (Or.inl (Exists.intro (0) (And.intro rfl (And.intro (by decide +kernel) rfl)))))) ?_
  refine xa_cons 90 ((And.intro (by decide) (Or.inr (And.intro (by decide +kernel) rfl)))) ?_
  refine xa_cons 91 ((And.intro (by decide) (Exists.intro (12) (And.intro (by decide +kernel) (And.intro (by decide +kernel) rfl))))) ?_
  refine xa_cons 92 ((And.intro (by decide) (Or.inl (Exists.intro (0) (And.intro rfl (And.intro (by decide +kernel) rfl)))))) ?_
  refine xa_cons 93 ((And.intro (by decide) (Or.inl (Exists.intro (3) (And.intro rfl (And.intro (by decide +kernel) rfl)))))) ?_
  refine xa_cons 94 (xc_iconst hx hb (z := 1) (b := 1) (And.intro (by decide +kernel) rfl) (by decide +kernel) ⟨rfl, rfl⟩) ?_
  refine xa_cons 95 ((And.intro (xc_callV (index := 105) (n := 2) (ci := 0) S xg_24 rfl xw_64 xw_154 xw_152 xw_153 rfl rfl rfl ⟨by decide, by decide, by decide +kernel⟩ rfl (And.intro (by decide +kernel) rfl)) (by decide +kernel))) ?_
  refine xa_cons 96 ((Exists.intro (5) (And.intro (by decide +kernel) (by decide +kernel)))) ?_
  refine xa_cons 97 (xc_bipush hx hb (z := -9) (b := 4294967287) (And.intro (by decide +kernel) rfl) (by decide +kernel) ⟨rfl, rfl⟩) ?_
  refine xa_cons 98 ((And.intro (xc_callS (index := 109) S xg_7 rfl xw_149 xw_155 xw_156 ⟨by decide, by decide, by decide +kernel⟩ rfl (And.intro (by decide +kernel) rfl)) (by decide +kernel))) ?_
  refine xa_cons 99 ((And.intro hr (by decide +kernel))) ?_
  refine xa_cons 100 ((And.intro (by decide) (Or.inl (Exists.intro (0) (And.intro rfl (And.intro (by decide +kernel) rfl)))))) ?_
  refine xa_cons 101 (xc_bipush hx hb (z := 35) (b := 35) (And.intro (by decide +kernel) rfl) (by decide +kernel) ⟨rfl, rfl⟩) ?_
  refine xa_cons 102 ((And.intro (xc_callS (index := 19) S xg_6 rfl xw_149 xw_157 xw_158 ⟨by decide, by decide, by decide +kernel⟩ rfl (And.intro (by decide +kernel) rfl)) (by decide +kernel))) ?_
  refine xa_cons 103 ((And.intro (by decide) (Exists.intro (15) (And.intro (by decide +kernel) (And.intro (by decide +kernel) rfl))))) ?_
  refine xa_cons 104 ((And.intro (by decide) (Or.inl (Exists.intro (0) (And.intro rfl (And.intro (by decide +kernel) rfl)))))) ?_
  refine xa_cons 105 ((And.intro (by decide) (Or.inl (Exists.intro (2) (And.intro rfl (And.intro (by decide +kernel) rfl)))))) ?_
  refine xa_cons 106 ((And.intro (xc_callS (index := 102) S xg_5 rfl xw_149 xw_150 xw_151 ⟨by decide, by decide, by decide +kernel⟩ rfl (And.intro (by decide +kernel) rfl)) (by decide +kernel))) ?_
  refine xa_cons 107 ((And.intro (by decide) (Exists.intro (7) (And.intro (by decide +kernel) (And.intro (by decide +kernel) rfl))))) ?_
  refine xa_cons 108 (xc_iconst hx hb (z := 1) (b := 1) (And.intro (by decide +kernel) rfl) (by decide +kernel) ⟨rfl, rfl⟩) ?_
  refine xa_cons 109 ((Exists.intro (4) (And.intro (by decide +kernel) (by decide +kernel)))) ?_
  refine xa_cons 110 (xc_iconst hx hb (z := 0) (b := 0) (And.intro (by decide +kernel) rfl) (by decide +kernel) ⟨rfl, rfl⟩) ?_
  refine xa_cons 111 ((And.intro (Or.inl rfl) (Or.inr (And.intro (by decide +kernel) rfl)))) ?_
  refine xa_cons 112 ((And.intro (by decide) (Or.inl (Exists.intro (0) (And.intro rfl (And.intro (by decide +kernel) rfl)))))) ?_
  refine xa_cons 113 ((And.intro (by decide) (Or.inr (And.intro (by decide +kernel) rfl)))) ?_
  refine xa_cons 114 ((And.intro (by decide) (Exists.intro (12) (And.intro (by decide +kernel) (And.intro (by decide +kernel) rfl))))) ?_
  refine xa_cons 115 ((And.intro (by decide) (Or.inl (Exists.intro (0) (And.intro rfl (And.intro (by decide +kernel) rfl)))))) ?_
  refine xa_cons 116 ((And.intro (by decide) (Or.inl (Exists.intro (3) (And.intro rfl (And.intro (by decide +kernel) rfl)))))) ?_
  refine xa_cons 117 (xc_iconst hx hb (z := 3) (b := 3) (And.intro (by decide +kernel) rfl) (by decide +kernel) ⟨rfl, rfl⟩) ?_
  refine xa_cons 118 ((And.intro (xc_callV (index := 105) (n := 2) (ci := 0) S xg_24 rfl xw_64 xw_154 xw_152 xw_153 rfl rfl rfl ⟨by decide, by decide, by decide +kernel⟩ rfl (And.intro (by decide +kernel) rfl)) (by decide +kernel))) ?_
  refine xa_cons 119 ((Exists.intro (5) (And.intro (by decide +kernel) (by decide +kernel)))) ?_
  refine xa_cons 120 (xc_bipush hx hb (z := -9) (b := 4294967287) (And.intro (by decide +kernel) rfl) (by decide +kernel) ⟨rfl, rfl⟩) ?_
  refine xa_cons 121 ((And.intro (xc_callS (index := 109) S xg_7 rfl xw_149 xw_155 xw_156 ⟨by decide, by decide, by decide +kernel⟩ rfl (And.intro (by decide +kernel) rfl)) (by decide +kernel))) ?_
  refine xa_cons 122 ((And.intro hr (by decide +kernel))) ?_
  refine xa_cons 123 ((And.intro (by decide) (Or.inl (Exists.intro (1) (And.intro rfl (And.intro (by decide +kernel) rfl)))))) ?_
  refine xa_cons 124 (xc_bipush hx hb (z := 10) (b := 10) (And.intro (by decide +kernel) rfl) (by decide +kernel) ⟨rfl, rfl⟩) ?_
  refine xa_cons 125 ((And.intro (by decide +kernel) rfl)) ?_
  refine xa_cons 126 (xc_bipush hx hb (z := 7) (b := 7) (And.intro (by decide +kernel) rfl) (by decide +kernel) ⟨rfl, rfl⟩) ?_
  refine xa_cons 127 ((And.intro (by decide) (And.intro (by decide +kernel) rfl))) ?_
  refine xa_cons 128 ((And.intro (by decide) (Exists.intro (11) (And.intro (by decide +kernel) (And.intro (by decide +kernel) rfl))))) ?_
  refine xa_cons 129 ((And.intro (by decide) (Or.inl (Exists.intro (0) (And.intro rfl (And.intro (by decide +kernel) rfl)))))) ?_
  refine xa_cons 130 ((And.intro (by decide) (Or.inl (Exists.intro (2) (And.intro rfl (And.intro (by decide +kernel) rfl)))))) ?_
  refine xa_cons 131 ((And.intro (xc_callV (index := 113) (n := 1) (ci := 0) S xg_25 rfl xw_64 xw_161 xw_159 xw_160 rfl rfl rfl ⟨by decide, by decide, by decide +kernel⟩ rfl (And.intro (by decide +kernel) rfl)) (by decide +kernel))) ?_
  refine xa_cons 132 ((Exists.intro (9) (And.intro (by decide +kernel) (by decide +kernel)))) ?_
  refine xa_cons 133 ((And.intro (by decide) (Or.inl (Exists.intro (0) (And.intro rfl (And.intro (by decide +kernel) rfl)))))) ?_
  refine xa_cons 134 ((And.intro (by decide) (Or.inl (Exists.intro (2) (And.intro rfl (And.intro (by decide +kernel) rfl)))))) ?_
  refine xa_cons 135 ((And.intro (by decide) (Or.inl (Exists.intro (3) (And.intro rfl (And.intro (by decide +kernel) rfl)))))) ?_
  refine xa_cons 136 ((And.intro (xc_callV (index := 116) (n := 2) (ci := 0) S xg_26 rfl xw_64 xw_164 xw_162 xw_163 rfl rfl rfl ⟨by decide, by decide, by decide +kernel⟩ rfl (And.intro (by decide +kernel) rfl)) (by decide +kernel))) ?_
  refine xa_cons 137 ((And.intro hr (by decide +kernel))) ?_
  refine xa_cons 138 ((And.intro (by decide) (Or.inl (Exists.intro (0) (And.intro rfl (And.intro (by decide +kernel) rfl)))))) ?_
  refine xa_cons 139 ((And.intro (by decide) (Or.inl (Exists.intro (1) (And.intro rfl (And.intro (by decide +kernel) rfl)))))) ?_
  refine xa_cons 140 (xc_iconst hx hb (z := 4) (b := 4) (And.intro (by decide +kernel) rfl) (by decide +kernel) ⟨rfl, rfl⟩) ?_
  refine xa_cons 141 ((And.intro (by decide +kernel) rfl)) ?_
  refine xa_cons 142 (xc_bipush hx hb (z := 15) (b := 15) (And.intro (by decide +kernel) rfl) (by decide +kernel) ⟨rfl, rfl⟩) ?_
  refine xa_cons 143 ((And.intro (by decide) (And.intro (by decide +kernel) rfl))) ?_
  refine xa_cons 144 ((And.intro (xc_callV (index := 119) (n := 1) (ci := 0) S xg_27 rfl xw_64 xw_167 xw_165 xw_166 rfl rfl rfl ⟨by decide, by decide, by decide +kernel⟩ rfl (And.intro (by decide +kernel) rfl)) (by decide +kernel))) ?_
  refine xa_cons 145 ((And.intro hr (by decide +kernel))) ?_
  refine xa_cons 146 ((And.intro (by decide) (Or.inl (Exists.intro (0) (And.intro rfl (And.intro (by decide +kernel) rfl)))))) ?_
  refine xa_cons 147 (xc_ldc (own := "ExpressHouseLaw") (index := 122) (b := 1713906464) hx hb hown (htsB _ xw_168) (And.intro (by decide +kernel) rfl) ⟨rfl, rfl⟩) ?_
  refine xa_cons 148 (xc_ldc (own := "ExpressHouseLaw") (index := 91) (b := 538976288) hx hb hown (htsB _ xw_139) (And.intro (by decide +kernel) rfl) ⟨rfl, rfl⟩) ?_
  refine xa_cons 149 (xc_ldc (own := "ExpressHouseLaw") (index := 91) (b := 538976288) hx hb hown (htsB _ xw_139) (And.intro (by decide +kernel) rfl) ⟨rfl, rfl⟩) ?_
  refine xa_cons 150 (xc_ldc (own := "ExpressHouseLaw") (index := 91) (b := 538976288) hx hb hown (htsB _ xw_139) (And.intro (by decide +kernel) rfl) ⟨rfl, rfl⟩) ?_
  refine xa_cons 151 (xc_ldc (own := "ExpressHouseLaw") (index := 91) (b := 538976288) hx hb hown (htsB _ xw_139) (And.intro (by decide +kernel) rfl) ⟨rfl, rfl⟩) ?_
  refine xa_cons 152 ((And.intro (xc_callV (index := 9) (n := 5) (ci := 0) S xg_20 rfl xw_64 xw_77 xw_75 xw_76 rfl rfl rfl ⟨by decide, by decide, by decide +kernel⟩ rfl (And.intro (by decide +kernel) rfl)) (by decide +kernel))) ?_
  refine xa_cons 153 ((And.intro (by decide) (Exists.intro (33) (And.intro (by decide +kernel) (And.intro (by decide +kernel) rfl))))) ?_
  refine xa_cons 154 ((And.intro (by decide) (Or.inl (Exists.intro (0) (And.intro rfl (And.intro (by decide +kernel) rfl)))))) ?_
  refine xa_cons 155 (xc_bipush hx hb (z := 17) (b := 17) (And.intro (by decide +kernel) rfl) (by decide +kernel) ⟨rfl, rfl⟩) ?_
  refine xa_cons 156 ((And.intro (xc_callV (index := 15) (n := 1) (ci := 0) S xg_21 rfl xw_64 xw_142 xw_140 xw_141 rfl rfl rfl ⟨by decide, by decide, by decide +kernel⟩ rfl (And.intro (by decide +kernel) rfl)) (by decide +kernel))) ?_
  refine xa_cons 157 ((And.intro (by decide) (Exists.intro (24) (And.intro (by decide +kernel) (And.intro (by decide +kernel) rfl))))) ?_
  refine xa_cons 158 ((And.intro (by decide) (Or.inl (Exists.intro (0) (And.intro rfl (And.intro (by decide +kernel) rfl)))))) ?_
  refine xa_cons 159 ((And.intro (by decide) (Or.inl (Exists.intro (2) (And.intro rfl (And.intro (by decide +kernel) rfl)))))) ?_
  refine xa_cons 160 ((And.intro (xc_callS (index := 102) S xg_5 rfl xw_149 xw_150 xw_151 ⟨by decide, by decide, by decide +kernel⟩ rfl (And.intro (by decide +kernel) rfl)) (by decide +kernel))) ?_
  refine xa_cons 161 ((And.intro (by decide) (Exists.intro (16) (And.intro (by decide +kernel) (And.intro (by decide +kernel) rfl))))) ?_
  refine xa_cons 162 ((And.intro (by decide) (Or.inl (Exists.intro (0) (And.intro rfl (And.intro (by decide +kernel) rfl)))))) ?_
  refine xa_cons 163 (xc_bipush hx hb (z := 41) (b := 41) (And.intro (by decide +kernel) rfl) (by decide +kernel) ⟨rfl, rfl⟩) ?_
  refine xa_cons 164 ((And.intro (xc_callS (index := 19) S xg_6 rfl xw_149 xw_157 xw_158 ⟨by decide, by decide, by decide +kernel⟩ rfl (And.intro (by decide +kernel) rfl)) (by decide +kernel))) ?_
  refine xa_cons 165 ((And.intro (by decide) (Exists.intro (7) (And.intro (by decide +kernel) (And.intro (by decide +kernel) rfl))))) ?_
  refine xa_cons 166 (xc_iconst hx hb (z := 1) (b := 1) (And.intro (by decide +kernel) rfl) (by decide +kernel) ⟨rfl, rfl⟩) ?_
  refine xa_cons 167 ((Exists.intro (4) (And.intro (by decide +kernel) (by decide +kernel)))) ?_
  refine xa_cons 168 (xc_iconst hx hb (z := 0) (b := 0) (And.intro (by decide +kernel) rfl) (by decide +kernel) ⟨rfl, rfl⟩) ?_
  refine xa_cons 169 ((And.intro (Or.inl rfl) (Or.inr (And.intro (by decide +kernel) rfl)))) ?_
  refine xa_cons 170 ((And.intro (by decide) (Or.inl (Exists.intro (0) (And.intro rfl (And.intro (by decide +kernel) rfl)))))) ?_
  refine xa_cons 171 ((And.intro (by decide) (Or.inr (And.intro (by decide +kernel) rfl)))) ?_
  refine xa_cons 172 ((And.intro (by decide) (Exists.intro (10) (And.intro (by decide +kernel) (And.intro (by decide +kernel) rfl))))) ?_
  refine xa_cons 173 ((And.intro (by decide) (Or.inl (Exists.intro (0) (And.intro rfl (And.intro (by decide +kernel) rfl)))))) ?_
  refine xa_cons 174 ((And.intro (xc_callV (index := 123) (n := 0) (ci := 0) S xg_28 rfl xw_64 xw_171 xw_169 xw_170 rfl rfl rfl ⟨by decide, by decide, by decide +kernel⟩ rfl (And.intro (by decide +kernel) rfl)) (by decide +kernel))) ?_
  refine xa_cons 175 ((Exists.intro (5) (And.intro (by decide +kernel) (by decide +kernel)))) ?_
  refine xa_cons 176 (xc_bipush hx hb (z := -9) (b := 4294967287) (And.intro (by decide +kernel) rfl) (by decide +kernel) ⟨rfl, rfl⟩) ?_
  refine xa_cons 177 ((And.intro (xc_callS (index := 109) S xg_7 rfl xw_149 xw_155 xw_156 ⟨by decide, by decide, by decide +kernel⟩ rfl (And.intro (by decide +kernel) rfl)) (by decide +kernel))) ?_
  refine xa_cons 178 ((And.intro hr (by decide +kernel))) ?_
  refine xa_cons 179 ((And.intro (by decide) (Or.inl (Exists.intro (0) (And.intro rfl (And.intro (by decide +kernel) rfl)))))) ?_
  refine xa_cons 180 (xc_ldc (own := "ExpressHouseLaw") (index := 126) (b := 1970496868) hx hb hown (htsB _ xw_172) (And.intro (by decide +kernel) rfl) ⟨rfl, rfl⟩) ?_
  refine xa_cons 181 (xc_ldc (own := "ExpressHouseLaw") (index := 127) (b := 1768826915) hx hb hown (htsB _ xw_173) (And.intro (by decide +kernel) rfl) ⟨rfl, rfl⟩) ?_
  refine xa_cons 182 (xc_ldc (own := "ExpressHouseLaw") (index := 91) (b := 538976288) hx hb hown (htsB _ xw_139) (And.intro (by decide +kernel) rfl) ⟨rfl, rfl⟩) ?_
  refine xa_cons 183 (xc_ldc (own := "ExpressHouseLaw") (index := 91) (b := 538976288) hx hb hown (htsB _ xw_139) (And.intro (by decide +kernel) rfl) ⟨rfl, rfl⟩) ?_
  refine xa_cons 184 (xc_ldc (own := "ExpressHouseLaw") (index := 91) (b := 538976288) hx hb hown (htsB _ xw_139) (And.intro (by decide +kernel) rfl) ⟨rfl, rfl⟩) ?_
  refine xa_cons 185 ((And.intro (xc_callV (index := 9) (n := 5) (ci := 0) S xg_20 rfl xw_64 xw_77 xw_75 xw_76 rfl rfl rfl ⟨by decide, by decide, by decide +kernel⟩ rfl (And.intro (by decide +kernel) rfl)) (by decide +kernel))) ?_
  refine xa_cons 186 ((And.intro (by decide) (Exists.intro (33) (And.intro (by decide +kernel) (And.intro (by decide +kernel) rfl))))) ?_
  refine xa_cons 187 ((And.intro (by decide) (Or.inl (Exists.intro (0) (And.intro rfl (And.intro (by decide +kernel) rfl)))))) ?_
  refine xa_cons 188 (xc_bipush hx hb (z := 12) (b := 12) (And.intro (by decide +kernel) rfl) (by decide +kernel) ⟨rfl, rfl⟩) ?_
  refine xa_cons 189 ((And.intro (xc_callV (index := 15) (n := 1) (ci := 0) S xg_21 rfl xw_64 xw_142 xw_140 xw_141 rfl rfl rfl ⟨by decide, by decide, by decide +kernel⟩ rfl (And.intro (by decide +kernel) rfl)) (by decide +kernel))) ?_
  refine xa_cons 190 ((And.intro (by decide) (Exists.intro (24) (And.intro (by decide +kernel) (And.intro (by decide +kernel) rfl))))) ?_
  refine xa_cons 191 ((And.intro (by decide) (Or.inl (Exists.intro (0) (And.intro rfl (And.intro (by decide +kernel) rfl)))))) ?_
  refine xa_cons 192 ((And.intro (by decide) (Or.inl (Exists.intro (2) (And.intro rfl (And.intro (by decide +kernel) rfl)))))) ?_
  refine xa_cons 193 ((And.intro (xc_callS (index := 102) S xg_5 rfl xw_149 xw_150 xw_151 ⟨by decide, by decide, by decide +kernel⟩ rfl (And.intro (by decide +kernel) rfl)) (by decide +kernel))) ?_
  refine xa_cons 194 ((And.intro (by decide) (Exists.intro (16) (And.intro (by decide +kernel) (And.intro (by decide +kernel) rfl))))) ?_
  refine xa_cons 195 ((And.intro (by decide) (Or.inl (Exists.intro (0) (And.intro rfl (And.intro (by decide +kernel) rfl)))))) ?_
  refine xa_cons 196 (xc_bipush hx hb (z := 41) (b := 41) (And.intro (by decide +kernel) rfl) (by decide +kernel) ⟨rfl, rfl⟩) ?_
  refine xa_cons 197 ((And.intro (xc_callS (index := 19) S xg_6 rfl xw_149 xw_157 xw_158 ⟨by decide, by decide, by decide +kernel⟩ rfl (And.intro (by decide +kernel) rfl)) (by decide +kernel))) ?_
  refine xa_cons 198 ((And.intro (by decide) (Exists.intro (7) (And.intro (by decide +kernel) (And.intro (by decide +kernel) rfl))))) ?_
  refine xa_cons 199 (xc_iconst hx hb (z := 1) (b := 1) (And.intro (by decide +kernel) rfl) (by decide +kernel) ⟨rfl, rfl⟩) ?_
  refine xa_cons 200 ((Exists.intro (4) (And.intro (by decide +kernel) (by decide +kernel)))) ?_
  refine xa_cons 201 (xc_iconst hx hb (z := 0) (b := 0) (And.intro (by decide +kernel) rfl) (by decide +kernel) ⟨rfl, rfl⟩) ?_
  refine xa_cons 202 ((And.intro (Or.inl rfl) (Or.inr (And.intro (by decide +kernel) rfl)))) ?_
  refine xa_cons 203 ((And.intro (by decide) (Or.inl (Exists.intro (0) (And.intro rfl (And.intro (by decide +kernel) rfl)))))) ?_
  refine xa_cons 204 ((And.intro (by decide) (Or.inr (And.intro (by decide +kernel) rfl)))) ?_
  refine xa_cons 205 ((And.intro (by decide) (Exists.intro (10) (And.intro (by decide +kernel) (And.intro (by decide +kernel) rfl))))) ?_
  refine xa_cons 206 ((And.intro (by decide) (Or.inl (Exists.intro (0) (And.intro rfl (And.intro (by decide +kernel) rfl)))))) ?_
  refine xa_cons 207 ((And.intro (xc_callV (index := 123) (n := 0) (ci := 0) S xg_28 rfl xw_64 xw_171 xw_169 xw_170 rfl rfl rfl ⟨by decide, by decide, by decide +kernel⟩ rfl (And.intro (by decide +kernel) rfl)) (by decide +kernel))) ?_
  refine xa_cons 208 ((Exists.intro (5) (And.intro (by decide +kernel) (by decide +kernel)))) ?_
  refine xa_cons 209 (xc_bipush hx hb (z := -9) (b := 4294967287) (And.intro (by decide +kernel) rfl) (by decide +kernel) ⟨rfl, rfl⟩) ?_
  refine xa_cons 210 ((And.intro (xc_callS (index := 109) S xg_7 rfl xw_149 xw_155 xw_156 ⟨by decide, by decide, by decide +kernel⟩ rfl (And.intro (by decide +kernel) rfl)) (by decide +kernel))) ?_
  refine xa_cons 211 ((And.intro hr (by decide +kernel))) ?_
  refine xa_cons 212 ((And.intro (by decide) (Or.inl (Exists.intro (0) (And.intro rfl (And.intro (by decide +kernel) rfl)))))) ?_
  refine xa_cons 213 (xc_bipush hx hb (z := 35) (b := 35) (And.intro (by decide +kernel) rfl) (by decide +kernel) ⟨rfl, rfl⟩) ?_
  refine xa_cons 214 ((And.intro (xc_callS (index := 19) S xg_6 rfl xw_149 xw_157 xw_158 ⟨by decide, by decide, by decide +kernel⟩ rfl (And.intro (by decide +kernel) rfl)) (by decide +kernel))) ?_
  refine xa_cons 215 ((And.intro (by decide) (Exists.intro (41) (And.intro (by decide +kernel) (And.intro (by decide +kernel) rfl))))) ?_
  refine xa_cons 216 ((And.intro (by decide) (Or.inl (Exists.intro (0) (And.intro rfl (And.intro (by decide +kernel) rfl)))))) ?_
  refine xa_cons 217 ((And.intro (by decide) (Or.inl (Exists.intro (2) (And.intro rfl (And.intro (by decide +kernel) rfl)))))) ?_
  refine xa_cons 218 ((And.intro (xc_callS (index := 102) S xg_5 rfl xw_149 xw_150 xw_151 ⟨by decide, by decide, by decide +kernel⟩ rfl (And.intro (by decide +kernel) rfl)) (by decide +kernel))) ?_
  refine xa_cons 219 ((And.intro (by decide) (Exists.intro (33) (And.intro (by decide +kernel) (And.intro (by decide +kernel) rfl))))) ?_
  refine xa_cons 220 ((And.intro (by decide) (Or.inl (Exists.intro (0) (And.intro rfl (And.intro (by decide +kernel) rfl)))))) ?_
  refine xa_cons 221 (xc_bipush hx hb (z := 61) (b := 61) (And.intro (by decide +kernel) rfl) (by decide +kernel) ⟨rfl, rfl⟩) ?_
  refine xa_cons 222 ((And.intro (xc_callS (index := 19) S xg_6 rfl xw_149 xw_157 xw_158 ⟨by decide, by decide, by decide +kernel⟩ rfl (And.intro (by decide +kernel) rfl)) (by decide +kernel))) ?_
  refine xa_cons 223 ((And.intro (by decide) (Exists.intro (24) (And.intro (by decide +kernel) (And.intro (by decide +kernel) rfl))))) ?_
  refine xa_cons 224 ((And.intro (by decide) (Or.inl (Exists.intro (0) (And.intro rfl (And.intro (by decide +kernel) rfl)))))) ?_
  refine xa_cons 225 (xc_bipush hx hb (z := 35) (b := 35) (And.intro (by decide +kernel) rfl) (by decide +kernel) ⟨rfl, rfl⟩) ?_
  refine xa_cons 226 ((And.intro (xc_callS (index := 19) S xg_6 rfl xw_149 xw_157 xw_158 ⟨by decide, by decide, by decide +kernel⟩ rfl (And.intro (by decide +kernel) rfl)) (by decide +kernel))) ?_
  refine xa_cons 227 ((And.intro (by decide) (Exists.intro (15) (And.intro (by decide +kernel) (And.intro (by decide +kernel) rfl))))) ?_
  refine xa_cons 228 ((And.intro (by decide) (Or.inl (Exists.intro (0) (And.intro rfl (And.intro (by decide +kernel) rfl)))))) ?_
  refine xa_cons 229 ((And.intro (by decide) (Or.inl (Exists.intro (3) (And.intro rfl (And.intro (by decide +kernel) rfl)))))) ?_
  refine xa_cons 230 ((And.intro (xc_callS (index := 102) S xg_5 rfl xw_149 xw_150 xw_151 ⟨by decide, by decide, by decide +kernel⟩ rfl (And.intro (by decide +kernel) rfl)) (by decide +kernel))) ?_
  refine xa_cons 231 ((And.intro (by decide) (Exists.intro (7) (And.intro (by decide +kernel) (And.intro (by decide +kernel) rfl))))) ?_
  refine xa_cons 232 (xc_iconst hx hb (z := 1) (b := 1) (And.intro (by decide +kernel) rfl) (by decide +kernel) ⟨rfl, rfl⟩) ?_
  refine xa_cons 233 ((Exists.intro (4) (And.intro (by decide +kernel) (by decide +kernel)))) ?_
  refine xa_cons 234 (xc_iconst hx hb (z := 0) (b := 0) (And.intro (by decide +kernel) rfl) (by decide +kernel) ⟨rfl, rfl⟩) ?_
  refine xa_cons 235 ((And.intro (Or.inl rfl) (Or.inr (And.intro (by decide +kernel) rfl)))) ?_
  refine xa_cons 236 ((And.intro (by decide) (Or.inl (Exists.intro (0) (And.intro rfl (And.intro (by decide +kernel) rfl)))))) ?_
  refine xa_cons 237 ((And.intro (by decide) (Or.inr (And.intro (by decide +kernel) rfl)))) ?_
  refine xa_cons 238 ((And.intro (by decide) (Exists.intro (10) (And.intro (by decide +kernel) (And.intro (by decide +kernel) rfl))))) ?_
  refine xa_cons 239 ((And.intro (by decide) (Or.inl (Exists.intro (0) (And.intro rfl (And.intro (by decide +kernel) rfl)))))) ?_
  refine xa_cons 240 ((And.intro (xc_callV (index := 123) (n := 0) (ci := 0) S xg_28 rfl xw_64 xw_171 xw_169 xw_170 rfl rfl rfl ⟨by decide, by decide, by decide +kernel⟩ rfl (And.intro (by decide +kernel) rfl)) (by decide +kernel))) ?_
  refine xa_cons 241 ((Exists.intro (5) (And.intro (by decide +kernel) (by decide +kernel)))) ?_
  refine xa_cons 242 (xc_bipush hx hb (z := -9) (b := 4294967287) (And.intro (by decide +kernel) rfl) (by decide +kernel) ⟨rfl, rfl⟩) ?_
  refine xa_cons 243 ((And.intro (xc_callS (index := 109) S xg_7 rfl xw_149 xw_155 xw_156 ⟨by decide, by decide, by decide +kernel⟩ rfl (And.intro (by decide +kernel) rfl)) (by decide +kernel))) ?_
  refine xa_cons 244 ((And.intro hr (by decide +kernel))) ?_
  refine xa_cons 245 ((And.intro (by decide) (Or.inl (Exists.intro (0) (And.intro rfl (And.intro (by decide +kernel) rfl)))))) ?_
  refine xa_cons 246 ((And.intro (xc_callV (index := 128) (n := 0) (ci := 0) S xg_29 rfl xw_64 xw_176 xw_174 xw_175 rfl rfl rfl ⟨by decide, by decide, by decide +kernel⟩ rfl (And.intro (by decide +kernel) rfl)) (by decide +kernel))) ?_
  refine xa_cons 247 ((And.intro hr (by decide +kernel))) ?_
  exact xa_nil
def xrp_5 : Nat → Nat := fun k => ([0, 1, 2, 3, 4, 5, 6, 7, 9, 12, 13, 15, 16, 17, 20, 21, 23, 25, 28, 29, 30, 32, 33, 35, 36, 38, 39, 40, 43, 44, 45, 47, 49, 50, 52, 55, 56] : List Nat).getD k 0
set_option maxRecDepth 20000 in
set_option maxHeartbeats 4000000 in
theorem xz_5 {l : Launch} {D : va_G} {en : XE} : x_Ok xT l D xcl en xrn (xG en) 5 xc_5 := by
  refine ⟨method_5_code, (some .boolean), xBIG, xrp_5, by decide +kernel, rfl, rfl, ?_⟩
  intro p e R s m args below meth c s₁ A Q pc i f1 f2 B hml hA hg hi
  obtain ⟨hx, hb, hr, hown, hlocks, hin, htsB, S⟩ := xb_all (C := "ExpressHouseLaw") B hml rfl rfl
  obtain ⟨hgN, hgZ, hgS, hgS2⟩ := xG_all hg
  refine xa_at (i := i) (pc := pc) ?_ hi
  refine xa_cons 0 (xc_iconst hx hb (z := 1) (b := 1) (And.intro (by decide +kernel) rfl) (by decide +kernel) ⟨rfl, rfl⟩) ?_
  refine xa_cons 1 ((And.intro (Or.inl rfl) (Or.inl (Exists.intro (2) (And.intro rfl (And.intro (by decide +kernel) rfl)))))) ?_
  refine xa_cons 2 (xc_iconst hx hb (z := 1) (b := 1) (And.intro (by decide +kernel) rfl) (by decide +kernel) ⟨rfl, rfl⟩) ?_
  refine xa_cons 3 ((And.intro (Or.inl rfl) (Or.inl (Exists.intro (3) (And.intro rfl (And.intro (by decide +kernel) rfl)))))) ?_
  refine xa_cons 4 ((And.intro (by decide) (Or.inl (Exists.intro (1) (And.intro rfl (And.intro (by decide +kernel) rfl)))))) ?_
  refine xa_cons 5 ((And.intro (by decide) (Or.inl (Exists.intro (3) (And.intro rfl (And.intro (by decide +kernel) rfl)))))) ?_
  refine xa_cons 6 ((And.intro (by decide) (And.intro (by decide +kernel) rfl))) ?_
  refine xa_cons 7 (xc_bipush hx hb (z := 9) (b := 9) (And.intro (by decide +kernel) rfl) (by decide +kernel) ⟨rfl, rfl⟩) ?_
  refine xa_cons 8 ((And.intro (by decide) (Exists.intro (11) (And.intro (by decide +kernel) (And.intro (by decide +kernel) rfl))))) ?_
  refine xa_cons 9 ((And.intro (by decide) (Or.inl (Exists.intro (3) (And.intro rfl (And.intro (by decide +kernel) rfl)))))) ?_
  refine xa_cons 10 (xc_bipush hx hb (z := 10) (b := 10) (And.intro (by decide +kernel) rfl) (by decide +kernel) ⟨rfl, rfl⟩) ?_
  refine xa_cons 11 ((And.intro (by decide) (And.intro (by decide +kernel) rfl))) ?_
  refine xa_cons 12 ((And.intro (Or.inl rfl) (Or.inl (Exists.intro (3) (And.intro rfl (And.intro (by decide +kernel) rfl)))))) ?_
  refine xa_cons 13 ((Exists.intro (-13) (And.intro (by decide +kernel) (by decide +kernel)))) ?_
  refine xa_cons 14 ((And.intro (by decide) (Or.inl (Exists.intro (3) (And.intro rfl (And.intro (by decide +kernel) rfl)))))) ?_
  refine xa_cons 15 ((And.intro (Or.inl rfl) (Or.inr (And.intro (by decide +kernel) rfl)))) ?_
  refine xa_cons 16 ((And.intro (by decide) (Or.inr (And.intro (by decide +kernel) rfl)))) ?_
  refine xa_cons 17 ((And.intro (by decide) (Exists.intro (30) (And.intro (by decide +kernel) (And.intro (by decide +kernel) rfl))))) ?_
  refine xa_cons 18 ((And.intro (by decide) (Or.inl (Exists.intro (2) (And.intro rfl (And.intro (by decide +kernel) rfl)))))) ?_
  refine xa_cons 19 ((And.intro (by decide) (Or.inl (Exists.intro (0) (And.intro rfl (And.intro (by decide +kernel) rfl)))))) ?_
  refine xa_cons 20 (xc_bipush hx hb (z := 48) (b := 48) (And.intro (by decide +kernel) rfl) (by decide +kernel) ⟨rfl, rfl⟩) ?_
  refine xa_cons 21 ((And.intro (by decide) (Or.inl (Exists.intro (1) (And.intro rfl (And.intro (by decide +kernel) rfl)))))) ?_
  refine xa_cons 22 ((And.intro (by decide) (Or.inr (And.intro (by decide +kernel) rfl)))) ?_
  refine xa_cons 23 ((And.intro (by decide) (And.intro (by decide +kernel) rfl))) ?_
  refine xa_cons 24 (xc_bipush hx hb (z := 10) (b := 10) (And.intro (by decide +kernel) rfl) (by decide +kernel) ⟨rfl, rfl⟩) ?_
  refine xa_cons 25 ((And.intro (by decide) (And.intro (by decide +kernel) rfl))) ?_
  refine xa_cons 26 ((And.intro (by decide) (And.intro (by decide +kernel) rfl))) ?_
  refine xa_cons 27 ((And.intro (xc_callS (index := 19) S xg_6 rfl xw_149 xw_157 xw_158 ⟨by decide, by decide, by decide +kernel⟩ rfl (And.intro (by decide +kernel) rfl)) (by decide +kernel))) ?_
  refine xa_cons 28 ((And.intro (by decide) (And.intro (by decide +kernel) rfl))) ?_
  refine xa_cons 29 ((And.intro (Or.inl rfl) (Or.inl (Exists.intro (2) (And.intro rfl (And.intro (by decide +kernel) rfl)))))) ?_
  refine xa_cons 30 ((And.intro (by decide) (Or.inr (And.intro (by decide +kernel) rfl)))) ?_
  refine xa_cons 31 (xc_bipush hx hb (z := 10) (b := 10) (And.intro (by decide +kernel) rfl) (by decide +kernel) ⟨rfl, rfl⟩) ?_
  refine xa_cons 32 ((And.intro (by decide) (And.intro (by decide +kernel) rfl))) ?_
  refine xa_cons 33 ((And.intro (Or.inl rfl) (Or.inr (And.intro (by decide +kernel) rfl)))) ?_
  refine xa_cons 34 ((Exists.intro (-29) (And.intro (by decide +kernel) (by decide +kernel)))) ?_
  refine xa_cons 35 ((And.intro (by decide) (Or.inl (Exists.intro (2) (And.intro rfl (And.intro (by decide +kernel) rfl)))))) ?_
  refine xa_cons 36 ((And.intro hr (by decide +kernel))) ?_
  exact xa_nil
def xrp_6 : Nat → Nat := fun k => ([0, 1, 2, 4, 5, 6, 7, 8, 9, 12, 15, 16, 18, 21, 24, 25, 28, 29] : List Nat).getD k 0
set_option maxRecDepth 20000 in
set_option maxHeartbeats 4000000 in
theorem xz_6 {l : Launch} {D : va_G} {en : XE} : x_Ok xT l D xcl en xrn (xG en) 6 xc_6 := by
  refine ⟨method_4_code, (some .boolean), xBIG, xrp_6, by decide +kernel, rfl, rfl, ?_⟩
  intro p e R s m args below meth c s₁ A Q pc i f1 f2 B hml hA hg hi
  obtain ⟨hx, hb, hr, hown, hlocks, hin, htsB, S⟩ := xb_all (C := "ExpressHouseLaw") B hml rfl rfl
  obtain ⟨hgN, hgZ, hgS, hgS2⟩ := xG_all hg
  refine xa_at (i := i) (pc := pc) ?_ hi
  refine xa_cons 0 ((And.intro (by decide) (Or.inl (Exists.intro (0) (And.intro rfl (And.intro (by decide +kernel) rfl)))))) ?_
  refine xa_cons 1 ((And.intro (by decide) (Or.inl (Exists.intro (1) (And.intro rfl (And.intro (by decide +kernel) rfl)))))) ?_
  refine xa_cons 2 (xc_bipush hx hb (z := 24) (b := 24) (And.intro (by decide +kernel) rfl) (by decide +kernel) ⟨rfl, rfl⟩) ?_
  refine xa_cons 3 ((And.intro (by decide) (And.intro (by decide +kernel) rfl))) ?_
  refine xa_cons 4 (xc_iconst hx hb (z := 0) (b := 0) (And.intro (by decide +kernel) rfl) (by decide +kernel) ⟨rfl, rfl⟩) ?_
  refine xa_cons 5 (xc_iconst hx hb (z := 0) (b := 0) (And.intro (by decide +kernel) rfl) (by decide +kernel) ⟨rfl, rfl⟩) ?_
  refine xa_cons 6 (xc_iconst hx hb (z := 0) (b := 0) (And.intro (by decide +kernel) rfl) (by decide +kernel) ⟨rfl, rfl⟩) ?_
  refine xa_cons 7 (xc_iconst hx hb (z := 0) (b := 0) (And.intro (by decide +kernel) rfl) (by decide +kernel) ⟨rfl, rfl⟩) ?_
  refine xa_cons 8 ((And.intro (xc_callV (index := 9) (n := 5) (ci := 0) S xg_20 rfl xw_64 xw_77 xw_75 xw_76 rfl rfl rfl ⟨by decide, by decide, by decide +kernel⟩ rfl (And.intro (by decide +kernel) rfl)) (by decide +kernel))) ?_
  refine xa_cons 9 ((And.intro (by decide) (Exists.intro (16) (And.intro (by decide +kernel) (And.intro (by decide +kernel) rfl))))) ?_
  refine xa_cons 10 ((And.intro (by decide) (Or.inl (Exists.intro (0) (And.intro rfl (And.intro (by decide +kernel) rfl)))))) ?_
  refine xa_cons 11 (xc_bipush hx hb (z := 19) (b := 19) (And.intro (by decide +kernel) rfl) (by decide +kernel) ⟨rfl, rfl⟩) ?_
  refine xa_cons 12 ((And.intro (xc_callV (index := 15) (n := 1) (ci := 0) S xg_21 rfl xw_64 xw_142 xw_140 xw_141 rfl rfl rfl ⟨by decide, by decide, by decide +kernel⟩ rfl (And.intro (by decide +kernel) rfl)) (by decide +kernel))) ?_
  refine xa_cons 13 ((And.intro (by decide) (Exists.intro (7) (And.intro (by decide +kernel) (And.intro (by decide +kernel) rfl))))) ?_
  refine xa_cons 14 (xc_iconst hx hb (z := 1) (b := 1) (And.intro (by decide +kernel) rfl) (by decide +kernel) ⟨rfl, rfl⟩) ?_
  refine xa_cons 15 ((Exists.intro (4) (And.intro (by decide +kernel) (by decide +kernel)))) ?_
  refine xa_cons 16 (xc_iconst hx hb (z := 0) (b := 0) (And.intro (by decide +kernel) rfl) (by decide +kernel) ⟨rfl, rfl⟩) ?_
  refine xa_cons 17 ((And.intro hr (by decide +kernel))) ?_
  exact xa_nil
def xrp_7 : Nat → Nat := fun k => ([0, 1, 2, 4, 7, 10, 11, 12, 15, 16, 19, 21] : List Nat).getD k 0
set_option maxRecDepth 20000 in
set_option maxHeartbeats 4000000 in
theorem xz_7 {l : Launch} {D : va_G} {en : XE} : x_Ok xT l D xcl en xrn (xG en) 7 xc_7 := by
  refine ⟨method_7_code, (some .int), xBIG, xrp_7, by decide +kernel, rfl, rfl, ?_⟩
  intro p e R s m args below meth c s₁ A Q pc i f1 f2 B hml hA hg hi
  obtain ⟨hx, hb, hr, hown, hlocks, hin, htsB, S⟩ := xb_all (C := "ExpressHouseLaw") B hml rfl rfl
  obtain ⟨hgN, hgZ, hgS, hgS2⟩ := xG_all hg
  refine xa_at (i := i) (pc := pc) ?_ hi
  refine xa_cons 0 ((And.intro (by decide) (Or.inl (Exists.intro (0) (And.intro rfl (And.intro (by decide +kernel) rfl)))))) ?_
  refine xa_cons 1 ((And.intro (by decide) (Or.inl (Exists.intro (0) (And.intro rfl (And.intro (by decide +kernel) rfl)))))) ?_
  refine xa_cons 2 (xc_bipush hx hb (z := 9) (b := 9) (And.intro (by decide +kernel) rfl) (by decide +kernel) ⟨rfl, rfl⟩) ?_
  refine xa_cons 3 ((And.intro (xc_callV (index := 96) (n := 1) (ci := 0) S xg_30 rfl xw_64 xw_179 xw_177 xw_178 rfl rfl rfl ⟨by decide, by decide, by decide +kernel⟩ rfl (And.intro (by decide +kernel) rfl)) (by decide +kernel))) ?_
  refine xa_cons 4 ((And.intro (xc_callV (index := 15) (n := 1) (ci := 0) S xg_21 rfl xw_64 xw_142 xw_140 xw_141 rfl rfl rfl ⟨by decide, by decide, by decide +kernel⟩ rfl (And.intro (by decide +kernel) rfl)) (by decide +kernel))) ?_
  refine xa_cons 5 ((And.intro (Or.inl rfl) (Or.inl (Exists.intro (2) (And.intro rfl (And.intro (by decide +kernel) rfl)))))) ?_
  refine xa_cons 6 ((And.intro (by decide) (Or.inl (Exists.intro (2) (And.intro rfl (And.intro (by decide +kernel) rfl)))))) ?_
  refine xa_cons 7 ((And.intro (by decide) (Exists.intro (7) (And.intro (by decide +kernel) (And.intro (by decide +kernel) rfl))))) ?_
  refine xa_cons 8 ((And.intro (by decide) (Or.inl (Exists.intro (1) (And.intro rfl (And.intro (by decide +kernel) rfl)))))) ?_
  refine xa_cons 9 ((Exists.intro (5) (And.intro (by decide +kernel) (by decide +kernel)))) ?_
  refine xa_cons 10 (xc_bipush hx hb (z := -9) (b := 4294967287) (And.intro (by decide +kernel) rfl) (by decide +kernel) ⟨rfl, rfl⟩) ?_
  refine xa_cons 11 ((And.intro hr (by decide +kernel))) ?_
  exact xa_nil
def xrp_8 : Nat → Nat := fun k => ([0, 2, 3, 6, 7, 8, 9, 10, 12, 15, 16, 19, 20, 21, 24, 26, 29, 30, 32, 35, 37, 40, 41, 42, 45, 47, 50, 51, 53, 56, 58, 61, 62, 63, 66, 67, 70, 71, 72, 75, 76, 79, 80, 81, 82, 85, 86, 89, 90, 91, 92, 95, 96, 99, 100, 101, 104, 105, 108, 109, 110, 113, 114, 117, 118, 121, 123, 126, 127, 130, 132, 135, 136, 137, 140, 141, 144, 145, 147, 150, 151, 154, 155, 156, 159, 160, 163, 164, 165, 168, 169, 172, 173, 176, 177, 178, 179, 182, 183, 185, 187, 189, 191, 193, 196, 199, 200, 202, 205, 208, 209, 212, 214, 217, 218, 221, 222, 225, 226, 228, 230, 232, 234, 236, 239, 242, 243, 245, 248, 251, 252, 255, 257, 260, 261, 264, 265, 268, 269, 272, 273] : List Nat).getD k 0
set_option maxRecDepth 20000 in
set_option maxHeartbeats 4000000 in
theorem xz_8 {l : Launch} {D : va_G} {en : XE} : x_Ok xT l D xcl en xrn (xG en) 8 xc_8 := by
  refine ⟨method_9_code, (some .boolean), xBIG, xrp_8, by decide +kernel, rfl, rfl, ?_⟩
  intro p e R s m args below meth c s₁ A Q pc i f1 f2 B hml hA hg hi
  obtain ⟨hx, hb, hr, hown, hlocks, hin, htsB, S⟩ := xb_all (C := "ExpressHouseLaw") B hml rfl rfl
  obtain ⟨hgN, hgZ, hgS, hgS2⟩ := xG_all hg
  refine xa_at (i := i) (pc := pc) ?_ hi
  refine xa_cons 0 (xc_bipush hx hb (z := 60) (b := 60) (And.intro (by decide +kernel) rfl) (by decide +kernel) ⟨rfl, rfl⟩) ?_
  refine xa_cons 1 ((And.intro (by decide) (Or.inl (Exists.intro (1) (And.intro rfl (And.intro (by decide +kernel) rfl)))))) ?_
  refine xa_cons 2 (xc_sipush hx hb (z := 255) (b := 255) (And.intro (by decide +kernel) rfl) (by decide +kernel) ⟨rfl, rfl⟩) ?_
  refine xa_cons 3 ((And.intro (by decide) (And.intro (by decide +kernel) rfl))) ?_
  refine xa_cons 4 ((And.intro (by decide) (And.intro (by decide +kernel) rfl))) ?_
  refine xa_cons 5 ((And.intro (Or.inl rfl) (Or.inl (Exists.intro (2) (And.intro rfl (And.intro (by decide +kernel) rfl)))))) ?_
  refine xa_cons 6 ((And.intro (by decide) (Or.inl (Exists.intro (0) (And.intro rfl (And.intro (by decide +kernel) rfl)))))) ?_
  refine xa_cons 7 (xc_bipush hx hb (z := 8) (b := 8) (And.intro (by decide +kernel) rfl) (by decide +kernel) ⟨rfl, rfl⟩) ?_
  refine xa_cons 8 ((And.intro (xc_callV (index := 99) (n := 1) (ci := 0) S xg_23 rfl xw_64 xw_148 xw_146 xw_147 rfl rfl rfl ⟨by decide, by decide, by decide +kernel⟩ rfl (And.intro (by decide +kernel) rfl)) (by decide +kernel))) ?_
  refine xa_cons 9 (xc_iconst hx hb (z := -1) (b := 4294967295) (And.intro (by decide +kernel) rfl) (by decide +kernel) ⟨rfl, rfl⟩) ?_
  refine xa_cons 10 ((And.intro (by decide) (Exists.intro (160) (And.intro (by decide +kernel) (And.intro (by decide +kernel) rfl))))) ?_
  refine xa_cons 11 ((And.intro (by decide) (Or.inl (Exists.intro (0) (And.intro rfl (And.intro (by decide +kernel) rfl)))))) ?_
  refine xa_cons 12 (xc_iconst hx hb (z := 0) (b := 0) (And.intro (by decide +kernel) rfl) (by decide +kernel) ⟨rfl, rfl⟩) ?_
  refine xa_cons 13 ((And.intro (xc_callV (index := 99) (n := 1) (ci := 0) S xg_23 rfl xw_64 xw_148 xw_146 xw_147 rfl rfl rfl ⟨by decide, by decide, by decide +kernel⟩ rfl (And.intro (by decide +kernel) rfl)) (by decide +kernel))) ?_
  refine xa_cons 14 (xc_bipush hx hb (z := -11) (b := 4294967285) (And.intro (by decide +kernel) rfl) (by decide +kernel) ⟨rfl, rfl⟩) ?_
  refine xa_cons 15 ((And.intro (by decide) (Exists.intro (150) (And.intro (by decide +kernel) (And.intro (by decide +kernel) rfl))))) ?_
  refine xa_cons 16 ((And.intro (by decide) (Or.inl (Exists.intro (0) (And.intro rfl (And.intro (by decide +kernel) rfl)))))) ?_
  refine xa_cons 17 (xc_bipush hx hb (z := 6) (b := 6) (And.intro (by decide +kernel) rfl) (by decide +kernel) ⟨rfl, rfl⟩) ?_
  refine xa_cons 18 ((And.intro (xc_callV (index := 99) (n := 1) (ci := 0) S xg_23 rfl xw_64 xw_148 xw_146 xw_147 rfl rfl rfl ⟨by decide, by decide, by decide +kernel⟩ rfl (And.intro (by decide +kernel) rfl)) (by decide +kernel))) ?_
  refine xa_cons 19 (xc_bipush hx hb (z := -12) (b := 4294967284) (And.intro (by decide +kernel) rfl) (by decide +kernel) ⟨rfl, rfl⟩) ?_
  refine xa_cons 20 ((And.intro (by decide) (Exists.intro (139) (And.intro (by decide +kernel) (And.intro (by decide +kernel) rfl))))) ?_
  refine xa_cons 21 ((And.intro (by decide) (Or.inl (Exists.intro (0) (And.intro rfl (And.intro (by decide +kernel) rfl)))))) ?_
  refine xa_cons 22 (xc_iconst hx hb (z := 1) (b := 1) (And.intro (by decide +kernel) rfl) (by decide +kernel) ⟨rfl, rfl⟩) ?_
  refine xa_cons 23 ((And.intro (xc_callV (index := 99) (n := 1) (ci := 0) S xg_23 rfl xw_64 xw_148 xw_146 xw_147 rfl rfl rfl ⟨by decide, by decide, by decide +kernel⟩ rfl (And.intro (by decide +kernel) rfl)) (by decide +kernel))) ?_
  refine xa_cons 24 (xc_bipush hx hb (z := -14) (b := 4294967282) (And.intro (by decide +kernel) rfl) (by decide +kernel) ⟨rfl, rfl⟩) ?_
  refine xa_cons 25 ((And.intro (by decide) (Exists.intro (129) (And.intro (by decide +kernel) (And.intro (by decide +kernel) rfl))))) ?_
  refine xa_cons 26 ((And.intro (by decide) (Or.inl (Exists.intro (0) (And.intro rfl (And.intro (by decide +kernel) rfl)))))) ?_
  refine xa_cons 27 (xc_bipush hx hb (z := 7) (b := 7) (And.intro (by decide +kernel) rfl) (by decide +kernel) ⟨rfl, rfl⟩) ?_
  refine xa_cons 28 ((And.intro (xc_callV (index := 99) (n := 1) (ci := 0) S xg_23 rfl xw_64 xw_148 xw_146 xw_147 rfl rfl rfl ⟨by decide, by decide, by decide +kernel⟩ rfl (And.intro (by decide +kernel) rfl)) (by decide +kernel))) ?_
  refine xa_cons 29 (xc_bipush hx hb (z := -15) (b := 4294967281) (And.intro (by decide +kernel) rfl) (by decide +kernel) ⟨rfl, rfl⟩) ?_
  refine xa_cons 30 ((And.intro (by decide) (Exists.intro (118) (And.intro (by decide +kernel) (And.intro (by decide +kernel) rfl))))) ?_
  refine xa_cons 31 ((And.intro (by decide) (Or.inl (Exists.intro (0) (And.intro rfl (And.intro (by decide +kernel) rfl)))))) ?_
  refine xa_cons 32 ((And.intro (by decide) (Or.inl (Exists.intro (2) (And.intro rfl (And.intro (by decide +kernel) rfl)))))) ?_
  refine xa_cons 33 ((And.intro (xc_callV (index := 131) (n := 1) (ci := 0) S xg_31 rfl xw_64 xw_182 xw_180 xw_181 rfl rfl rfl ⟨by decide, by decide, by decide +kernel⟩ rfl (And.intro (by decide +kernel) rfl)) (by decide +kernel))) ?_
  refine xa_cons 34 (xc_iconst hx hb (z := -1) (b := 4294967295) (And.intro (by decide +kernel) rfl) (by decide +kernel) ⟨rfl, rfl⟩) ?_
  refine xa_cons 35 ((And.intro (by decide) (Exists.intro (109) (And.intro (by decide +kernel) (And.intro (by decide +kernel) rfl))))) ?_
  refine xa_cons 36 ((And.intro (by decide) (Or.inl (Exists.intro (0) (And.intro rfl (And.intro (by decide +kernel) rfl)))))) ?_
  refine xa_cons 37 ((And.intro (by decide) (Or.inl (Exists.intro (2) (And.intro rfl (And.intro (by decide +kernel) rfl)))))) ?_
  refine xa_cons 38 ((And.intro (xc_callV (index := 113) (n := 1) (ci := 0) S xg_25 rfl xw_64 xw_161 xw_159 xw_160 rfl rfl rfl ⟨by decide, by decide, by decide +kernel⟩ rfl (And.intro (by decide +kernel) rfl)) (by decide +kernel))) ?_
  refine xa_cons 39 (xc_iconst hx hb (z := -1) (b := 4294967295) (And.intro (by decide +kernel) rfl) (by decide +kernel) ⟨rfl, rfl⟩) ?_
  refine xa_cons 40 ((And.intro (by decide) (Exists.intro (100) (And.intro (by decide +kernel) (And.intro (by decide +kernel) rfl))))) ?_
  refine xa_cons 41 ((And.intro (by decide) (Or.inl (Exists.intro (0) (And.intro rfl (And.intro (by decide +kernel) rfl)))))) ?_
  refine xa_cons 42 ((And.intro (by decide) (Or.inl (Exists.intro (2) (And.intro rfl (And.intro (by decide +kernel) rfl)))))) ?_
  refine xa_cons 43 (xc_iconst hx hb (z := 0) (b := 0) (And.intro (by decide +kernel) rfl) (by decide +kernel) ⟨rfl, rfl⟩) ?_
  refine xa_cons 44 ((And.intro (xc_callV (index := 105) (n := 2) (ci := 0) S xg_24 rfl xw_64 xw_154 xw_152 xw_153 rfl rfl rfl ⟨by decide, by decide, by decide +kernel⟩ rfl (And.intro (by decide +kernel) rfl)) (by decide +kernel))) ?_
  refine xa_cons 45 (xc_iconst hx hb (z := -1) (b := 4294967295) (And.intro (by decide +kernel) rfl) (by decide +kernel) ⟨rfl, rfl⟩) ?_
  refine xa_cons 46 ((And.intro (by decide) (Exists.intro (90) (And.intro (by decide +kernel) (And.intro (by decide +kernel) rfl))))) ?_
  refine xa_cons 47 ((And.intro (by decide) (Or.inl (Exists.intro (0) (And.intro rfl (And.intro (by decide +kernel) rfl)))))) ?_
  refine xa_cons 48 (xc_iconst hx hb (z := 0) (b := 0) (And.intro (by decide +kernel) rfl) (by decide +kernel) ⟨rfl, rfl⟩) ?_
  refine xa_cons 49 ((And.intro (by decide) (Or.inl (Exists.intro (2) (And.intro rfl (And.intro (by decide +kernel) rfl)))))) ?_
  refine xa_cons 50 ((And.intro (xc_callV (index := 116) (n := 2) (ci := 0) S xg_26 rfl xw_64 xw_164 xw_162 xw_163 rfl rfl rfl ⟨by decide, by decide, by decide +kernel⟩ rfl (And.intro (by decide +kernel) rfl)) (by decide +kernel))) ?_
  refine xa_cons 51 (xc_iconst hx hb (z := -1) (b := 4294967295) (And.intro (by decide +kernel) rfl) (by decide +kernel) ⟨rfl, rfl⟩) ?_
  refine xa_cons 52 ((And.intro (by decide) (Exists.intro (80) (And.intro (by decide +kernel) (And.intro (by decide +kernel) rfl))))) ?_
  refine xa_cons 53 ((And.intro (by decide) (Or.inl (Exists.intro (0) (And.intro rfl (And.intro (by decide +kernel) rfl)))))) ?_
  refine xa_cons 54 (xc_iconst hx hb (z := 4) (b := 4) (And.intro (by decide +kernel) rfl) (by decide +kernel) ⟨rfl, rfl⟩) ?_
  refine xa_cons 55 ((And.intro (xc_callV (index := 134) (n := 1) (ci := 0) S xg_32 rfl xw_64 xw_185 xw_183 xw_184 rfl rfl rfl ⟨by decide, by decide, by decide +kernel⟩ rfl (And.intro (by decide +kernel) rfl)) (by decide +kernel))) ?_
  refine xa_cons 56 (xc_iconst hx hb (z := -1) (b := 4294967295) (And.intro (by decide +kernel) rfl) (by decide +kernel) ⟨rfl, rfl⟩) ?_
  refine xa_cons 57 ((And.intro (by decide) (Exists.intro (71) (And.intro (by decide +kernel) (And.intro (by decide +kernel) rfl))))) ?_
  refine xa_cons 58 ((And.intro (by decide) (Or.inl (Exists.intro (0) (And.intro rfl (And.intro (by decide +kernel) rfl)))))) ?_
  refine xa_cons 59 ((And.intro (by decide) (Or.inl (Exists.intro (2) (And.intro rfl (And.intro (by decide +kernel) rfl)))))) ?_
  refine xa_cons 60 ((And.intro (xc_callV (index := 119) (n := 1) (ci := 0) S xg_27 rfl xw_64 xw_167 xw_165 xw_166 rfl rfl rfl ⟨by decide, by decide, by decide +kernel⟩ rfl (And.intro (by decide +kernel) rfl)) (by decide +kernel))) ?_
  refine xa_cons 61 (xc_iconst hx hb (z := -1) (b := 4294967295) (And.intro (by decide +kernel) rfl) (by decide +kernel) ⟨rfl, rfl⟩) ?_
  refine xa_cons 62 ((And.intro (by decide) (Exists.intro (62) (And.intro (by decide +kernel) (And.intro (by decide +kernel) rfl))))) ?_
  refine xa_cons 63 ((And.intro (by decide) (Or.inl (Exists.intro (0) (And.intro rfl (And.intro (by decide +kernel) rfl)))))) ?_
  refine xa_cons 64 ((And.intro (xc_callV (index := 137) (n := 0) (ci := 0) S xg_33 rfl xw_64 xw_188 xw_186 xw_187 rfl rfl rfl ⟨by decide, by decide, by decide +kernel⟩ rfl (And.intro (by decide +kernel) rfl)) (by decide +kernel))) ?_
  refine xa_cons 65 (xc_bipush hx hb (z := -3) (b := 4294967293) (And.intro (by decide +kernel) rfl) (by decide +kernel) ⟨rfl, rfl⟩) ?_
  refine xa_cons 66 ((And.intro (by decide) (Exists.intro (53) (And.intro (by decide +kernel) (And.intro (by decide +kernel) rfl))))) ?_
  refine xa_cons 67 ((And.intro (by decide) (Or.inl (Exists.intro (0) (And.intro rfl (And.intro (by decide +kernel) rfl)))))) ?_
  refine xa_cons 68 ((And.intro (xc_callV (index := 140) (n := 0) (ci := 0) S xg_34 rfl xw_64 xw_191 xw_189 xw_190 rfl rfl rfl ⟨by decide, by decide, by decide +kernel⟩ rfl (And.intro (by decide +kernel) rfl)) (by decide +kernel))) ?_
  refine xa_cons 69 (xc_bipush hx hb (z := -3) (b := 4294967293) (And.intro (by decide +kernel) rfl) (by decide +kernel) ⟨rfl, rfl⟩) ?_
  refine xa_cons 70 ((And.intro (by decide) (Exists.intro (44) (And.intro (by decide +kernel) (And.intro (by decide +kernel) rfl))))) ?_
  refine xa_cons 71 ((And.intro (by decide) (Or.inl (Exists.intro (0) (And.intro rfl (And.intro (by decide +kernel) rfl)))))) ?_
  refine xa_cons 72 (xc_iconst hx hb (z := 4) (b := 4) (And.intro (by decide +kernel) rfl) (by decide +kernel) ⟨rfl, rfl⟩) ?_
  refine xa_cons 73 ((And.intro (xc_callV (index := 143) (n := 1) (ci := 0) S xg_35 rfl xw_64 xw_194 xw_192 xw_193 rfl rfl rfl ⟨by decide, by decide, by decide +kernel⟩ rfl (And.intro (by decide +kernel) rfl)) (by decide +kernel))) ?_
  refine xa_cons 74 (xc_iconst hx hb (z := -1) (b := 4294967295) (And.intro (by decide +kernel) rfl) (by decide +kernel) ⟨rfl, rfl⟩) ?_
  refine xa_cons 75 ((And.intro (by decide) (Exists.intro (35) (And.intro (by decide +kernel) (And.intro (by decide +kernel) rfl))))) ?_
  refine xa_cons 76 ((And.intro (by decide) (Or.inl (Exists.intro (0) (And.intro rfl (And.intro (by decide +kernel) rfl)))))) ?_
  refine xa_cons 77 (xc_bipush hx hb (z := 13) (b := 13) (And.intro (by decide +kernel) rfl) (by decide +kernel) ⟨rfl, rfl⟩) ?_
  refine xa_cons 78 ((And.intro (xc_callV (index := 96) (n := 1) (ci := 0) S xg_30 rfl xw_64 xw_179 xw_177 xw_178 rfl rfl rfl ⟨by decide, by decide, by decide +kernel⟩ rfl (And.intro (by decide +kernel) rfl)) (by decide +kernel))) ?_
  refine xa_cons 79 (xc_iconst hx hb (z := -1) (b := 4294967295) (And.intro (by decide +kernel) rfl) (by decide +kernel) ⟨rfl, rfl⟩) ?_
  refine xa_cons 80 ((And.intro (by decide) (Exists.intro (25) (And.intro (by decide +kernel) (And.intro (by decide +kernel) rfl))))) ?_
  refine xa_cons 81 ((And.intro (by decide) (Or.inl (Exists.intro (0) (And.intro rfl (And.intro (by decide +kernel) rfl)))))) ?_
  refine xa_cons 82 (xc_iconst hx hb (z := 3) (b := 3) (And.intro (by decide +kernel) rfl) (by decide +kernel) ⟨rfl, rfl⟩) ?_
  refine xa_cons 83 ((And.intro (xc_callV (index := 146) (n := 1) (ci := 0) S xg_36 rfl xw_64 xw_197 xw_195 xw_196 rfl rfl rfl ⟨by decide, by decide, by decide +kernel⟩ rfl (And.intro (by decide +kernel) rfl)) (by decide +kernel))) ?_
  refine xa_cons 84 (xc_iconst hx hb (z := -1) (b := 4294967295) (And.intro (by decide +kernel) rfl) (by decide +kernel) ⟨rfl, rfl⟩) ?_
  refine xa_cons 85 ((And.intro (by decide) (Exists.intro (16) (And.intro (by decide +kernel) (And.intro (by decide +kernel) rfl))))) ?_
  refine xa_cons 86 ((And.intro (by decide) (Or.inl (Exists.intro (0) (And.intro rfl (And.intro (by decide +kernel) rfl)))))) ?_
  refine xa_cons 87 ((And.intro (by decide) (Or.inl (Exists.intro (2) (And.intro rfl (And.intro (by decide +kernel) rfl)))))) ?_
  refine xa_cons 88 ((And.intro (xc_callV (index := 15) (n := 1) (ci := 0) S xg_21 rfl xw_64 xw_142 xw_140 xw_141 rfl rfl rfl ⟨by decide, by decide, by decide +kernel⟩ rfl (And.intro (by decide +kernel) rfl)) (by decide +kernel))) ?_
  refine xa_cons 89 (xc_iconst hx hb (z := -1) (b := 4294967295) (And.intro (by decide +kernel) rfl) (by decide +kernel) ⟨rfl, rfl⟩) ?_
  refine xa_cons 90 ((And.intro (by decide) (Exists.intro (7) (And.intro (by decide +kernel) (And.intro (by decide +kernel) rfl))))) ?_
  refine xa_cons 91 (xc_iconst hx hb (z := 1) (b := 1) (And.intro (by decide +kernel) rfl) (by decide +kernel) ⟨rfl, rfl⟩) ?_
  refine xa_cons 92 ((Exists.intro (4) (And.intro (by decide +kernel) (by decide +kernel)))) ?_
  refine xa_cons 93 (xc_iconst hx hb (z := 0) (b := 0) (And.intro (by decide +kernel) rfl) (by decide +kernel) ⟨rfl, rfl⟩) ?_
  refine xa_cons 94 ((And.intro (Or.inl rfl) (Or.inl (Exists.intro (3) (And.intro rfl (And.intro (by decide +kernel) rfl)))))) ?_
  refine xa_cons 95 ((And.intro (by decide) (Or.inl (Exists.intro (3) (And.intro rfl (And.intro (by decide +kernel) rfl)))))) ?_
  refine xa_cons 96 ((And.intro (by decide) (Exists.intro (93) (And.intro (by decide +kernel) (And.intro (by decide +kernel) rfl))))) ?_
  refine xa_cons 97 ((And.intro (by decide) (Or.inl (Exists.intro (0) (And.intro rfl (And.intro (by decide +kernel) rfl)))))) ?_
  refine xa_cons 98 (xc_ldc (own := "ExpressHouseLaw") (index := 149) (b := 590359328) hx hb hown (htsB _ xw_198) (And.intro (by decide +kernel) rfl) ⟨rfl, rfl⟩) ?_
  refine xa_cons 99 (xc_ldc (own := "ExpressHouseLaw") (index := 91) (b := 538976288) hx hb hown (htsB _ xw_139) (And.intro (by decide +kernel) rfl) ⟨rfl, rfl⟩) ?_
  refine xa_cons 100 (xc_ldc (own := "ExpressHouseLaw") (index := 91) (b := 538976288) hx hb hown (htsB _ xw_139) (And.intro (by decide +kernel) rfl) ⟨rfl, rfl⟩) ?_
  refine xa_cons 101 (xc_ldc (own := "ExpressHouseLaw") (index := 91) (b := 538976288) hx hb hown (htsB _ xw_139) (And.intro (by decide +kernel) rfl) ⟨rfl, rfl⟩) ?_
  refine xa_cons 102 (xc_ldc (own := "ExpressHouseLaw") (index := 91) (b := 538976288) hx hb hown (htsB _ xw_139) (And.intro (by decide +kernel) rfl) ⟨rfl, rfl⟩) ?_
  refine xa_cons 103 ((And.intro (xc_callV (index := 9) (n := 5) (ci := 0) S xg_20 rfl xw_64 xw_77 xw_75 xw_76 rfl rfl rfl ⟨by decide, by decide, by decide +kernel⟩ rfl (And.intro (by decide +kernel) rfl)) (by decide +kernel))) ?_
  refine xa_cons 104 ((And.intro (by decide) (Exists.intro (76) (And.intro (by decide +kernel) (And.intro (by decide +kernel) rfl))))) ?_
  refine xa_cons 105 ((And.intro (by decide) (Or.inl (Exists.intro (0) (And.intro rfl (And.intro (by decide +kernel) rfl)))))) ?_
  refine xa_cons 106 (xc_bipush hx hb (z := 17) (b := 17) (And.intro (by decide +kernel) rfl) (by decide +kernel) ⟨rfl, rfl⟩) ?_
  refine xa_cons 107 ((And.intro (xc_callV (index := 15) (n := 1) (ci := 0) S xg_21 rfl xw_64 xw_142 xw_140 xw_141 rfl rfl rfl ⟨by decide, by decide, by decide +kernel⟩ rfl (And.intro (by decide +kernel) rfl)) (by decide +kernel))) ?_
  refine xa_cons 108 ((And.intro (by decide) (Exists.intro (67) (And.intro (by decide +kernel) (And.intro (by decide +kernel) rfl))))) ?_
  refine xa_cons 109 ((And.intro (by decide) (Or.inl (Exists.intro (0) (And.intro rfl (And.intro (by decide +kernel) rfl)))))) ?_
  refine xa_cons 110 ((And.intro (xc_callV (index := 123) (n := 0) (ci := 0) S xg_28 rfl xw_64 xw_171 xw_169 xw_170 rfl rfl rfl ⟨by decide, by decide, by decide +kernel⟩ rfl (And.intro (by decide +kernel) rfl)) (by decide +kernel))) ?_
  refine xa_cons 111 (xc_bipush hx hb (z := -13) (b := 4294967283) (And.intro (by decide +kernel) rfl) (by decide +kernel) ⟨rfl, rfl⟩) ?_
  refine xa_cons 112 ((And.intro (by decide) (Exists.intro (58) (And.intro (by decide +kernel) (And.intro (by decide +kernel) rfl))))) ?_
  refine xa_cons 113 ((And.intro (by decide) (Or.inl (Exists.intro (0) (And.intro rfl (And.intro (by decide +kernel) rfl)))))) ?_
  refine xa_cons 114 ((And.intro (xc_callV (index := 150) (n := 0) (ci := 0) S xg_37 rfl xw_64 xw_201 xw_199 xw_200 rfl rfl rfl ⟨by decide, by decide, by decide +kernel⟩ rfl (And.intro (by decide +kernel) rfl)) (by decide +kernel))) ?_
  refine xa_cons 115 (xc_iconst hx hb (z := 2) (b := 2) (And.intro (by decide +kernel) rfl) (by decide +kernel) ⟨rfl, rfl⟩) ?_
  refine xa_cons 116 ((And.intro (by decide) (Exists.intro (50) (And.intro (by decide +kernel) (And.intro (by decide +kernel) rfl))))) ?_
  refine xa_cons 117 ((And.intro (by decide) (Or.inl (Exists.intro (0) (And.intro rfl (And.intro (by decide +kernel) rfl)))))) ?_
  refine xa_cons 118 (xc_ldc (own := "ExpressHouseLaw") (index := 153) (b := 590429537) hx hb hown (htsB _ xw_202) (And.intro (by decide +kernel) rfl) ⟨rfl, rfl⟩) ?_
  refine xa_cons 119 (xc_ldc (own := "ExpressHouseLaw") (index := 154) (b := 673790752) hx hb hown (htsB _ xw_203) (And.intro (by decide +kernel) rfl) ⟨rfl, rfl⟩) ?_
  refine xa_cons 120 (xc_ldc (own := "ExpressHouseLaw") (index := 91) (b := 538976288) hx hb hown (htsB _ xw_139) (And.intro (by decide +kernel) rfl) ⟨rfl, rfl⟩) ?_
  refine xa_cons 121 (xc_ldc (own := "ExpressHouseLaw") (index := 91) (b := 538976288) hx hb hown (htsB _ xw_139) (And.intro (by decide +kernel) rfl) ⟨rfl, rfl⟩) ?_
  refine xa_cons 122 (xc_ldc (own := "ExpressHouseLaw") (index := 91) (b := 538976288) hx hb hown (htsB _ xw_139) (And.intro (by decide +kernel) rfl) ⟨rfl, rfl⟩) ?_
  refine xa_cons 123 ((And.intro (xc_callV (index := 9) (n := 5) (ci := 0) S xg_20 rfl xw_64 xw_77 xw_75 xw_76 rfl rfl rfl ⟨by decide, by decide, by decide +kernel⟩ rfl (And.intro (by decide +kernel) rfl)) (by decide +kernel))) ?_
  refine xa_cons 124 ((And.intro (by decide) (Exists.intro (33) (And.intro (by decide +kernel) (And.intro (by decide +kernel) rfl))))) ?_
  refine xa_cons 125 ((And.intro (by decide) (Or.inl (Exists.intro (0) (And.intro rfl (And.intro (by decide +kernel) rfl)))))) ?_
  refine xa_cons 126 (xc_bipush hx hb (z := 13) (b := 13) (And.intro (by decide +kernel) rfl) (by decide +kernel) ⟨rfl, rfl⟩) ?_
  refine xa_cons 127 ((And.intro (xc_callV (index := 15) (n := 1) (ci := 0) S xg_21 rfl xw_64 xw_142 xw_140 xw_141 rfl rfl rfl ⟨by decide, by decide, by decide +kernel⟩ rfl (And.intro (by decide +kernel) rfl)) (by decide +kernel))) ?_
  refine xa_cons 128 ((And.intro (by decide) (Exists.intro (24) (And.intro (by decide +kernel) (And.intro (by decide +kernel) rfl))))) ?_
  refine xa_cons 129 ((And.intro (by decide) (Or.inl (Exists.intro (0) (And.intro rfl (And.intro (by decide +kernel) rfl)))))) ?_
  refine xa_cons 130 ((And.intro (xc_callV (index := 155) (n := 0) (ci := 0) S xg_38 rfl xw_64 xw_206 xw_204 xw_205 rfl rfl rfl ⟨by decide, by decide, by decide +kernel⟩ rfl (And.intro (by decide +kernel) rfl)) (by decide +kernel))) ?_
  refine xa_cons 131 (xc_bipush hx hb (z := -10) (b := 4294967286) (And.intro (by decide +kernel) rfl) (by decide +kernel) ⟨rfl, rfl⟩) ?_
  refine xa_cons 132 ((And.intro (by decide) (Exists.intro (15) (And.intro (by decide +kernel) (And.intro (by decide +kernel) rfl))))) ?_
  refine xa_cons 133 ((And.intro (by decide) (Or.inl (Exists.intro (0) (And.intro rfl (And.intro (by decide +kernel) rfl)))))) ?_
  refine xa_cons 134 ((And.intro (xc_callV (index := 150) (n := 0) (ci := 0) S xg_37 rfl xw_64 xw_201 xw_199 xw_200 rfl rfl rfl ⟨by decide, by decide, by decide +kernel⟩ rfl (And.intro (by decide +kernel) rfl)) (by decide +kernel))) ?_
  refine xa_cons 135 (xc_iconst hx hb (z := 2) (b := 2) (And.intro (by decide +kernel) rfl) (by decide +kernel) ⟨rfl, rfl⟩) ?_
  refine xa_cons 136 ((And.intro (by decide) (Exists.intro (7) (And.intro (by decide +kernel) (And.intro (by decide +kernel) rfl))))) ?_
  refine xa_cons 137 (xc_iconst hx hb (z := 1) (b := 1) (And.intro (by decide +kernel) rfl) (by decide +kernel) ⟨rfl, rfl⟩) ?_
  refine xa_cons 138 ((Exists.intro (4) (And.intro (by decide +kernel) (by decide +kernel)))) ?_
  refine xa_cons 139 (xc_iconst hx hb (z := 0) (b := 0) (And.intro (by decide +kernel) rfl) (by decide +kernel) ⟨rfl, rfl⟩) ?_
  refine xa_cons 140 ((And.intro hr (by decide +kernel))) ?_
  exact xa_nil
end AMM0
