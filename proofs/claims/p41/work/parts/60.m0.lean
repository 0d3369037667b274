def xrp_0 : Nat → Nat := fun k => ([0, 1, 4, 5, 8, 10, 13, 14, 17, 18, 21, 24, 25, 28, 29, 32, 33, 36, 39, 42, 43, 46, 47, 48, 51, 52, 55, 58, 61, 64, 65, 68, 69, 70, 73, 74, 77, 80, 83, 84, 87, 88, 89, 92, 95, 98, 99, 102, 103, 104, 107, 108, 111, 114, 117, 118, 121, 122, 123, 126, 127, 130, 133, 136, 137, 140, 141, 142, 145, 148, 151, 152, 155, 156, 157, 158, 161, 164, 165, 166, 169, 172, 173, 174, 177, 180, 181, 184] : List Nat).getD k 0
set_option maxRecDepth 20000 in
set_option maxHeartbeats 4000000 in
theorem xz_0 {l : Launch} {D : va_G} {en : XE} : x_Ok xT l D xcl en xrn (xG en) 0 xc_0 := by
  refine ⟨prog_1_method_1_code, none, xBIG, xrp_0, by decide +kernel, rfl, rfl, ?_⟩
  intro p e R s m args below meth c s₁ A Q pc i f1 f2 B hml hA hg hi
  obtain ⟨hx, hb, hr, hown, hlocks, hin, htsB, S⟩ := xb_all (C := "ExpressHouse") B hml rfl rfl
  obtain ⟨hgN, hgO, hgZ, hgS⟩ := xG_all hg
  refine xa_at (i := i) (pc := pc) ?_ hi
  refine xa_cons 0 ((And.intro (by decide) (Or.inl (Exists.intro (0) (And.intro rfl (And.intro (by decide +kernel) rfl)))))) ?_
  refine xa_cons 1 (xc_objinit (own := "ExpressHouse") (index := 1) hx hb hml hown htsB xw_0 xw_1 xw_2 f1 (by omega) (And.intro (by decide +kernel) rfl)) ?_
  refine xa_cons 2 ((And.intro (by decide) (Or.inl (Exists.intro (0) (And.intro rfl (And.intro (by decide +kernel) rfl)))))) ?_
  refine xa_cons 3 (xc_sipush hx hb (z := 3000) (b := 3000) (And.intro (by decide +kernel) rfl) (by decide +kernel) ⟨rfl, rfl⟩) ?_
  refine xa_cons 4 (xc_newa hx hb hA (htsB _ xw_3) (Or.inl ⟨by decide, by decide, rfl⟩) (And.intro (by decide +kernel) rfl)) ?_
  refine xa_cons 5 (xc_putfF (index := 9) hx hb htsB xC_0 hown rfl (by decide) hin xw_4 rfl (Or.inr ⟨_, rfl⟩) (And.intro (by decide +kernel) rfl)) ?_
  refine xa_cons 6 ((And.intro (by decide) (Or.inl (Exists.intro (0) (And.intro rfl (And.intro (by decide +kernel) rfl)))))) ?_
  refine xa_cons 7 (xc_new (own := "ExpressHouse") (index := 13) hx hb htsB xC_1 hown hA rfl rfl xw_5 xw_6 xw_7 (by decide) (by decide +kernel) (And.intro (by decide +kernel) rfl)) ?_
  refine xa_cons 8 ((And.intro (by decide +kernel) rfl)) ?_
  refine xa_cons 9 ((And.intro (xc_callIN (index := 15) (n := 0) (ci := 1) S xg_9 rfl xw_7 (hgN _ (List.mem_of_getElem? (i := 0) rfl)) xw_8 rfl rfl rfl ⟨by decide, by decide, by decide +kernel⟩ rfl (And.intro (by decide +kernel) rfl)) (by decide +kernel))) ?_
  refine xa_cons 10 (xc_putfF (index := 16) hx hb htsB xC_0 hown rfl (by decide) hin xw_9 rfl (Or.inl ⟨_, rfl⟩) (And.intro (by decide +kernel) rfl)) ?_
  refine xa_cons 11 ((And.intro (by decide) (Or.inl (Exists.intro (0) (And.intro rfl (And.intro (by decide +kernel) rfl)))))) ?_
  refine xa_cons 12 (xc_new (own := "ExpressHouse") (index := 20) hx hb htsB xC_2 hown hA rfl rfl xw_10 xw_11 xw_12 (by decide) (by decide +kernel) (And.intro (by decide +kernel) rfl)) ?_
  refine xa_cons 13 ((And.intro (by decide +kernel) rfl)) ?_
  refine xa_cons 14 (xc_new (own := "ExpressHouse") (index := 22) hx hb htsB xC_3 hown hA rfl rfl xw_13 xw_14 xw_15 (by decide) (by decide +kernel) (And.intro (by decide +kernel) rfl)) ?_
  refine xa_cons 15 ((And.intro (by decide +kernel) rfl)) ?_
  refine xa_cons 16 ((And.intro (xc_callIN (index := 24) (n := 0) (ci := 3) S xg_10 rfl xw_15 (hgN _ (List.mem_of_getElem? (i := 1) rfl)) xw_16 rfl rfl rfl ⟨by decide, by decide, by decide +kernel⟩ rfl (And.intro (by decide +kernel) rfl)) (by decide +kernel))) ?_
  refine xa_cons 17 ((And.intro (xc_callI (index := 25) (n := 1) (ci := 2) S xg_11 rfl xw_12 xw_18 xw_17 rfl rfl rfl ⟨by decide, by decide, by decide +kernel⟩ rfl (And.intro (by decide +kernel) rfl)) (by decide +kernel))) ?_
  refine xa_cons 18 (xc_putfF (index := 28) hx hb htsB xC_0 hown rfl (by decide) hin xw_19 rfl (Or.inl ⟨_, rfl⟩) (And.intro (by decide +kernel) rfl)) ?_
  refine xa_cons 19 ((And.intro (by decide) (Or.inl (Exists.intro (0) (And.intro rfl (And.intro (by decide +kernel) rfl)))))) ?_
  refine xa_cons 20 (xc_new (own := "ExpressHouse") (index := 32) hx hb htsB xC_4 hown hA rfl rfl xw_20 xw_21 xw_22 (by decide) (by decide +kernel) (And.intro (by decide +kernel) rfl)) ?_
  refine xa_cons 21 ((And.intro (by decide +kernel) rfl)) ?_
  refine xa_cons 22 ((And.intro (by decide) (Or.inl (Exists.intro (0) (And.intro rfl (And.intro (by decide +kernel) rfl)))))) ?_
  refine xa_cons 23 (xc_getf (A := A) (own := "ExpressHouse") (index := 16) hx hb htsB xC_0 hown rfl (by decide) xw_9 (And.intro (by decide +kernel) rfl)) ?_
  refine xa_cons 24 ((And.intro (by decide) (Or.inl (Exists.intro (0) (And.intro rfl (And.intro (by decide +kernel) rfl)))))) ?_
  refine xa_cons 25 (xc_getf (A := A) (own := "ExpressHouse") (index := 28) hx hb htsB xC_0 hown rfl (by decide) xw_19 (And.intro (by decide +kernel) rfl)) ?_
  refine xa_cons 26 (xc_getf (A := A) (own := "ExpressHouse") (index := 34) hx hb htsB xC_2 hown rfl (by decide) xw_23 (And.intro (by decide +kernel) rfl)) ?_
  refine xa_cons 27 ((And.intro (xc_callI (index := 38) (n := 2) (ci := 4) S xg_12 rfl xw_22 xw_25 xw_24 rfl rfl rfl ⟨by decide, by decide, by decide +kernel⟩ rfl (And.intro (by decide +kernel) rfl)) (by decide +kernel))) ?_
  refine xa_cons 28 (xc_putfF (index := 41) hx hb htsB xC_0 hown rfl (by decide) hin xw_26 rfl (Or.inl ⟨_, rfl⟩) (And.intro (by decide +kernel) rfl)) ?_
  refine xa_cons 29 ((And.intro (by decide) (Or.inl (Exists.intro (0) (And.intro rfl (And.intro (by decide +kernel) rfl)))))) ?_
  refine xa_cons 30 (xc_new (own := "ExpressHouse") (index := 45) hx hb htsB xC_5 hown hA rfl rfl xw_27 xw_28 xw_29 (by decide) (by decide +kernel) (And.intro (by decide +kernel) rfl)) ?_
  refine xa_cons 31 ((And.intro (by decide +kernel) rfl)) ?_
  refine xa_cons 32 ((And.intro (by decide) (Or.inl (Exists.intro (0) (And.intro rfl (And.intro (by decide +kernel) rfl)))))) ?_
  refine xa_cons 33 (xc_getf (A := A) (own := "ExpressHouse") (index := 16) hx hb htsB xC_0 hown rfl (by decide) xw_9 (And.intro (by decide +kernel) rfl)) ?_
  refine xa_cons 34 ((And.intro (by decide) (Or.inl (Exists.intro (0) (And.intro rfl (And.intro (by decide +kernel) rfl)))))) ?_
  refine xa_cons 35 (xc_getf (A := A) (own := "ExpressHouse") (index := 41) hx hb htsB xC_0 hown rfl (by decide) xw_26 (And.intro (by decide +kernel) rfl)) ?_
  refine xa_cons 36 ((And.intro (xc_callI (index := 47) (n := 2) (ci := 5) S xg_13 rfl xw_29 xw_31 xw_30 rfl rfl rfl ⟨by decide, by decide, by decide +kernel⟩ rfl (And.intro (by decide +kernel) rfl)) (by decide +kernel))) ?_
  refine xa_cons 37 (xc_putfF (index := 50) hx hb htsB xC_0 hown rfl (by decide) hin xw_32 rfl (Or.inl ⟨_, rfl⟩) (And.intro (by decide +kernel) rfl)) ?_
  refine xa_cons 38 ((And.intro (by decide) (Or.inl (Exists.intro (0) (And.intro rfl (And.intro (by decide +kernel) rfl)))))) ?_
  refine xa_cons 39 (xc_new (own := "ExpressHouse") (index := 54) hx hb htsB xC_6 hown hA rfl rfl xw_33 xw_34 xw_35 (by decide) (by decide +kernel) (And.intro (by decide +kernel) rfl)) ?_
  refine xa_cons 40 ((And.intro (by decide +kernel) rfl)) ?_
  refine xa_cons 41 ((And.intro (by decide) (Or.inl (Exists.intro (0) (And.intro rfl (And.intro (by decide +kernel) rfl)))))) ?_
  refine xa_cons 42 (xc_getf (A := A) (own := "ExpressHouse") (index := 28) hx hb htsB xC_0 hown rfl (by decide) xw_19 (And.intro (by decide +kernel) rfl)) ?_
  refine xa_cons 43 ((And.intro (xc_callI (index := 56) (n := 1) (ci := 6) S xg_14 rfl xw_35 xw_37 xw_36 rfl rfl rfl ⟨by decide, by decide, by decide +kernel⟩ rfl (And.intro (by decide +kernel) rfl)) (by decide +kernel))) ?_
  refine xa_cons 44 (xc_putfF (index := 59) hx hb htsB xC_0 hown rfl (by decide) hin xw_38 rfl (Or.inl ⟨_, rfl⟩) (And.intro (by decide +kernel) rfl)) ?_
  refine xa_cons 45 ((And.intro (by decide) (Or.inl (Exists.intro (0) (And.intro rfl (And.intro (by decide +kernel) rfl)))))) ?_
  refine xa_cons 46 (xc_new (own := "ExpressHouse") (index := 63) hx hb htsB xC_7 hown hA rfl rfl xw_39 xw_40 xw_41 (by decide) (by decide +kernel) (And.intro (by decide +kernel) rfl)) ?_
  refine xa_cons 47 ((And.intro (by decide +kernel) rfl)) ?_
  refine xa_cons 48 ((And.intro (by decide) (Or.inl (Exists.intro (0) (And.intro rfl (And.intro (by decide +kernel) rfl)))))) ?_
  refine xa_cons 49 (xc_getf (A := A) (own := "ExpressHouse") (index := 28) hx hb htsB xC_0 hown rfl (by decide) xw_19 (And.intro (by decide +kernel) rfl)) ?_
  refine xa_cons 50 ((And.intro (by decide) (Or.inl (Exists.intro (0) (And.intro rfl (And.intro (by decide +kernel) rfl)))))) ?_
  refine xa_cons 51 (xc_getf (A := A) (own := "ExpressHouse") (index := 59) hx hb htsB xC_0 hown rfl (by decide) xw_38 (And.intro (by decide +kernel) rfl)) ?_
  refine xa_cons 52 ((And.intro (xc_callI (index := 65) (n := 2) (ci := 7) S xg_15 rfl xw_41 xw_43 xw_42 rfl rfl rfl ⟨by decide, by decide, by decide +kernel⟩ rfl (And.intro (by decide +kernel) rfl)) (by decide +kernel))) ?_
  refine xa_cons 53 (xc_putfF (index := 68) hx hb htsB xC_0 hown rfl (by decide) hin xw_44 rfl (Or.inl ⟨_, rfl⟩) (And.intro (by decide +kernel) rfl)) ?_
  refine xa_cons 54 ((And.intro (by decide) (Or.inl (Exists.intro (0) (And.intro rfl (And.intro (by decide +kernel) rfl)))))) ?_
  refine xa_cons 55 (xc_new (own := "ExpressHouse") (index := 72) hx hb htsB xC_8 hown hA rfl rfl xw_45 xw_46 xw_47 (by decide) (by decide +kernel) (And.intro (by decide +kernel) rfl)) ?_
  refine xa_cons 56 ((And.intro (by decide +kernel) rfl)) ?_
  refine xa_cons 57 ((And.intro (by decide) (Or.inl (Exists.intro (0) (And.intro rfl (And.intro (by decide +kernel) rfl)))))) ?_
  refine xa_cons 58 (xc_getf (A := A) (own := "ExpressHouse") (index := 28) hx hb htsB xC_0 hown rfl (by decide) xw_19 (And.intro (by decide +kernel) rfl)) ?_
  refine xa_cons 59 ((And.intro (by decide) (Or.inl (Exists.intro (0) (And.intro rfl (And.intro (by decide +kernel) rfl)))))) ?_
  refine xa_cons 60 (xc_getf (A := A) (own := "ExpressHouse") (index := 16) hx hb htsB xC_0 hown rfl (by decide) xw_9 (And.intro (by decide +kernel) rfl)) ?_
  refine xa_cons 61 ((And.intro (xc_callI (index := 74) (n := 2) (ci := 8) S xg_16 rfl xw_47 xw_49 xw_48 rfl rfl rfl ⟨by decide, by decide, by decide +kernel⟩ rfl (And.intro (by decide +kernel) rfl)) (by decide +kernel))) ?_
  refine xa_cons 62 (xc_putfF (index := 77) hx hb htsB xC_0 hown rfl (by decide) hin xw_50 rfl (Or.inl ⟨_, rfl⟩) (And.intro (by decide +kernel) rfl)) ?_
  refine xa_cons 63 ((And.intro (by decide) (Or.inl (Exists.intro (0) (And.intro rfl (And.intro (by decide +kernel) rfl)))))) ?_
  refine xa_cons 64 (xc_new (own := "ExpressHouse") (index := 81) hx hb htsB xC_9 hown hA rfl rfl xw_51 xw_52 xw_53 (by decide) (by decide +kernel) (And.intro (by decide +kernel) rfl)) ?_
  refine xa_cons 65 ((And.intro (by decide +kernel) rfl)) ?_
  refine xa_cons 66 ((And.intro (by decide) (Or.inl (Exists.intro (0) (And.intro rfl (And.intro (by decide +kernel) rfl)))))) ?_
  refine xa_cons 67 (xc_getf (A := A) (own := "ExpressHouse") (index := 28) hx hb htsB xC_0 hown rfl (by decide) xw_19 (And.intro (by decide +kernel) rfl)) ?_
  refine xa_cons 68 ((And.intro (xc_callI (index := 83) (n := 1) (ci := 9) S xg_17 rfl xw_53 xw_55 xw_54 rfl rfl rfl ⟨by decide, by decide, by decide +kernel⟩ rfl (And.intro (by decide +kernel) rfl)) (by decide +kernel))) ?_
  refine xa_cons 69 (xc_putfF (index := 84) hx hb htsB xC_0 hown rfl (by decide) hin xw_56 rfl (Or.inl ⟨_, rfl⟩) (And.intro (by decide +kernel) rfl)) ?_
  refine xa_cons 70 ((And.intro (by decide) (Or.inl (Exists.intro (0) (And.intro rfl (And.intro (by decide +kernel) rfl)))))) ?_
  refine xa_cons 71 (xc_new (own := "ExpressHouse") (index := 88) hx hb htsB xC_10 hown hA rfl rfl xw_57 xw_58 xw_59 (by decide) (by decide +kernel) (And.intro (by decide +kernel) rfl)) ?_
  refine xa_cons 72 ((And.intro (by decide +kernel) rfl)) ?_
  refine xa_cons 73 (xc_iconst hx hb (z := 0) (b := 0) (And.intro (by decide +kernel) rfl) (by decide +kernel) ⟨rfl, rfl⟩) ?_
  refine xa_cons 74 (xc_lconst hx hb (z := 0) (And.intro (by decide +kernel) rfl) ⟨rfl, rfl⟩) ?_
  refine xa_cons 75 ((And.intro (xc_callIN (index := 90) (n := 2) (ci := 10) S xg_18 rfl xw_59 (hgN _ (List.mem_of_getElem? (i := 2) rfl)) xw_60 rfl rfl rfl ⟨by decide, by decide, by decide +kernel⟩ rfl (And.intro (by decide +kernel) rfl)) (by decide +kernel))) ?_
  refine xa_cons 76 (xc_putf (own := "ExpressHouse") (index := 93) hx hb htsB xC_0 hown rfl (by decide) xw_61 rfl (Or.inl ⟨_, rfl⟩) (And.intro (by decide +kernel) rfl)) ?_
  refine xa_cons 77 ((And.intro (by decide) (Or.inl (Exists.intro (0) (And.intro rfl (And.intro (by decide +kernel) rfl)))))) ?_
  refine xa_cons 78 (xc_iconst hx hb (z := 4) (b := 4) (And.intro (by decide +kernel) rfl) (by decide +kernel) ⟨rfl, rfl⟩) ?_
  refine xa_cons 79 (xc_newq (own := "ExpressHouse") (index := 88) hx hb hA hown (htsB _ xw_57) hgO ⟨rfl, rfl⟩ rfl (And.intro (by decide +kernel) rfl)) ?_
  refine xa_cons 80 (xc_putfF (index := 97) hx hb htsB xC_0 hown rfl (by decide) hin xw_62 rfl (Or.inr ⟨_, rfl⟩) (And.intro (by decide +kernel) rfl)) ?_
  refine xa_cons 81 ((And.intro (by decide) (Or.inl (Exists.intro (0) (And.intro rfl (And.intro (by decide +kernel) rfl)))))) ?_
  refine xa_cons 82 (xc_iconst hx hb (z := 4) (b := 4) (And.intro (by decide +kernel) rfl) (by decide +kernel) ⟨rfl, rfl⟩) ?_
  refine xa_cons 83 (xc_newq (own := "ExpressHouse") (index := 88) hx hb hA hown (htsB _ xw_57) hgO ⟨rfl, rfl⟩ rfl (And.intro (by decide +kernel) rfl)) ?_
  refine xa_cons 84 (xc_putfF (index := 101) hx hb htsB xC_0 hown rfl (by decide) hin xw_63 rfl (Or.inr ⟨_, rfl⟩) (And.intro (by decide +kernel) rfl)) ?_
  refine xa_cons 85 ((And.intro (by decide) (Or.inl (Exists.intro (0) (And.intro rfl (And.intro (by decide +kernel) rfl)))))) ?_
  refine xa_cons 86 ((And.intro (xc_callV (index := 104) (n := 0) (ci := 0) S xg_19 rfl xw_64 xw_67 xw_65 xw_66 rfl rfl rfl ⟨by decide, by decide, by decide +kernel⟩ rfl (And.intro (by decide +kernel) rfl)) (by decide +kernel))) ?_
  refine xa_cons 87 ((And.intro hr (by decide +kernel))) ?_
  exact xa_nil
