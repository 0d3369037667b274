section AMM1
def xrp_9 : Nat → Nat := fun k => ([0, 1, 4, 5, 7, 10, 13, 14, 17, 19, 22, 23, 26, 28, 31, 32, 35, 37, 40] : List Nat).getD k 0
set_option maxRecDepth 20000 in
set_option maxHeartbeats 4000000 in
theorem xz_9 {l : Launch} {D : va_G} {en : XE} : x_Ok xT l D xcl en xrn (xG en) 9 xc_9 := by
  refine ⟨prog_12_method_1_code, none, xBIG, xrp_9, by decide +kernel, rfl, rfl, ?_⟩
  intro p e R s m args below meth c s₁ A Q pc i f1 f2 B hml hA hg hi
  obtain ⟨hx, hb, hr, hown, hlocks, hin, htsB, S⟩ := xb_all (C := "ExpressHouse$Tokens") B hml rfl rfl
  obtain ⟨hgN, hgZ, hgS, hgS2⟩ := xG_all hg
  refine xa_at (i := i) (pc := pc) ?_ hi
  refine xa_cons 0 ((And.intro (by decide) (Or.inl (Exists.intro (0) (And.intro rfl (And.intro (by decide +kernel) rfl)))))) ?_
  refine xa_cons 1 (xc_objinit (own := "ExpressHouse$Tokens") (index := 3) hx hb hml hown htsB xw_207 xw_1 xw_2 (by omega) (by omega) (And.intro (by decide +kernel) rfl)) ?_
  refine xa_cons 2 ((And.intro (by decide) (Or.inl (Exists.intro (0) (And.intro rfl (And.intro (by decide +kernel) rfl)))))) ?_
  refine xa_cons 3 (xc_ldcS (own := "ExpressHouse$Tokens") (index := 11) hx hb hown (hgS _ (List.mem_of_getElem? (i := 0) rfl)) (And.intro (by decide +kernel) rfl) rfl) ?_
  refine xa_cons 4 ((And.intro (xc_callS (index := 13) S xg_39 rfl xw_7 xw_208 xw_209 ⟨by decide, by decide, by decide +kernel⟩ rfl (And.intro (by decide +kernel) rfl)) (by decide +kernel))) ?_
  refine xa_cons 5 (xc_putfF (index := 17) hx hb htsB xC_1 hown rfl (by decide) hin xw_210 rfl (Or.inr ⟨_, rfl⟩) (And.intro (by decide +kernel) rfl)) ?_
  refine xa_cons 6 ((And.intro (by decide) (Or.inl (Exists.intro (0) (And.intro rfl (And.intro (by decide +kernel) rfl)))))) ?_
  refine xa_cons 7 (xc_sipush hx hb (z := 3002) (b := 3002) (And.intro (by decide +kernel) rfl) (by decide +kernel) ⟨rfl, rfl⟩) ?_
  refine xa_cons 8 (xc_newa hx hb hA (htsB _ xw_211) (Or.inl ⟨by decide, by decide, rfl⟩) (And.intro (by decide +kernel) rfl)) ?_
  refine xa_cons 9 (xc_putfF (index := 21) hx hb htsB xC_1 hown rfl (by decide) hin xw_212 rfl (Or.inr ⟨_, rfl⟩) (And.intro (by decide +kernel) rfl)) ?_
  refine xa_cons 10 ((And.intro (by decide) (Or.inl (Exists.intro (0) (And.intro rfl (And.intro (by decide +kernel) rfl)))))) ?_
  refine xa_cons 11 (xc_sipush hx hb (z := 3002) (b := 3002) (And.intro (by decide +kernel) rfl) (by decide +kernel) ⟨rfl, rfl⟩) ?_
  refine xa_cons 12 (xc_newa hx hb hA (htsB _ xw_211) (Or.inl ⟨by decide, by decide, rfl⟩) (And.intro (by decide +kernel) rfl)) ?_
  refine xa_cons 13 (xc_putfF (index := 25) hx hb htsB xC_1 hown rfl (by decide) hin xw_213 rfl (Or.inr ⟨_, rfl⟩) (And.intro (by decide +kernel) rfl)) ?_
  refine xa_cons 14 ((And.intro (by decide) (Or.inl (Exists.intro (0) (And.intro rfl (And.intro (by decide +kernel) rfl)))))) ?_
  refine xa_cons 15 (xc_sipush hx hb (z := 3002) (b := 3002) (And.intro (by decide +kernel) rfl) (by decide +kernel) ⟨rfl, rfl⟩) ?_
  refine xa_cons 16 (xc_newa hx hb hA (htsB _ xw_214) (Or.inr ⟨rfl, rfl⟩) (And.intro (by decide +kernel) rfl)) ?_
  refine xa_cons 17 (xc_putfF (index := 28) hx hb htsB xC_1 hown rfl (by decide) hin xw_215 rfl (Or.inr ⟨_, rfl⟩) (And.intro (by decide +kernel) rfl)) ?_
  refine xa_cons 18 ((And.intro hr (by decide +kernel))) ?_
  exact xa_nil
def xrp_10 : Nat → Nat := fun k => ([0, 1, 4, 5, 7, 10, 13, 14, 16, 18, 22, 25, 26, 28, 30, 33, 34, 36, 38, 41, 42, 44, 45, 49, 52, 53, 55, 57, 61, 64, 65, 67, 69, 72, 73, 75, 77, 81, 84, 85, 88, 90, 94, 97, 98, 100, 102, 106, 109, 110, 112, 114, 117, 118, 121, 123, 126, 127, 130, 132, 135, 136, 138, 140, 143, 144, 146, 148, 151, 152, 154, 156, 159] : List Nat).getD k 0
set_option maxRecDepth 20000 in
set_option maxHeartbeats 4000000 in
theorem xz_10 {l : Launch} {D : va_G} {en : XE} : x_Ok xT l D xcl en xrn (xG en) 10 xc_10 := by
  refine ⟨prog_10_method_1_code, none, xBIG, xrp_10, by decide +kernel, rfl, rfl, ?_⟩
  intro p e R s m args below meth c s₁ A Q pc i f1 f2 B hml hA hg hi
  obtain ⟨hx, hb, hr, hown, hlocks, hin, htsB, S⟩ := xb_all (C := "ExpressHouse$Schema") B hml rfl rfl
  obtain ⟨hgN, hgZ, hgS, hgS2⟩ := xG_all hg
  refine xa_at (i := i) (pc := pc) ?_ hi
  refine xa_cons 0 ((And.intro (by decide) (Or.inl (Exists.intro (0) (And.intro rfl (And.intro (by decide +kernel) rfl)))))) ?_
  refine xa_cons 1 (xc_objinit (own := "ExpressHouse$Schema") (index := 3) hx hb hml hown htsB xw_216 xw_1 xw_2 (by omega) (by omega) (And.intro (by decide +kernel) rfl)) ?_
  refine xa_cons 2 ((And.intro (by decide) (Or.inl (Exists.intro (0) (And.intro rfl (And.intro (by decide +kernel) rfl)))))) ?_
  refine xa_cons 3 (xc_ldcS (own := "ExpressHouse$Schema") (index := 11) hx hb hown (hgS _ (List.mem_of_getElem? (i := 1) rfl)) (And.intro (by decide +kernel) rfl) rfl) ?_
  refine xa_cons 4 ((And.intro (xc_callS (index := 13) S xg_39 rfl xw_7 xw_217 xw_209 ⟨by decide, by decide, by decide +kernel⟩ rfl (And.intro (by decide +kernel) rfl)) (by decide +kernel))) ?_
  refine xa_cons 5 (xc_putfF (index := 19) hx hb htsB xC_3 hown rfl (by decide) hin xw_218 rfl (Or.inr ⟨_, rfl⟩) (And.intro (by decide +kernel) rfl)) ?_
  refine xa_cons 6 ((And.intro (by decide) (Or.inl (Exists.intro (0) (And.intro rfl (And.intro (by decide +kernel) rfl)))))) ?_
  refine xa_cons 7 (xc_bipush hx hb (z := 6) (b := 6) (And.intro (by decide +kernel) rfl) (by decide +kernel) ⟨rfl, rfl⟩) ?_
  refine xa_cons 8 (xc_bipush hx hb (z := 40) (b := 40) (And.intro (by decide +kernel) rfl) (by decide +kernel) ⟨rfl, rfl⟩) ?_
  refine xa_cons 9 (xc_mnaJ (R := R) (index := 23) hown (htsB _ xw_219) hgN.2.2.2.1 (htsB _ xw_214) ⟨rfl, rfl⟩ rfl (And.intro (by decide +kernel) rfl) hA) ?_
  refine xa_cons 10 (xc_putfF (index := 25) hx hb htsB xC_3 hown rfl (by decide) hin xw_220 rfl (Or.inr ⟨_, rfl⟩) (And.intro (by decide +kernel) rfl)) ?_
  refine xa_cons 11 ((And.intro (by decide) (Or.inl (Exists.intro (0) (And.intro rfl (And.intro (by decide +kernel) rfl)))))) ?_
  refine xa_cons 12 (xc_bipush hx hb (z := 6) (b := 6) (And.intro (by decide +kernel) rfl) (by decide +kernel) ⟨rfl, rfl⟩) ?_
  refine xa_cons 13 (xc_newa hx hb hA (htsB _ xw_211) (Or.inl ⟨by decide, by decide, rfl⟩) (And.intro (by decide +kernel) rfl)) ?_
  refine xa_cons 14 (xc_putfF (index := 28) hx hb htsB xC_3 hown rfl (by decide) hin xw_221 rfl (Or.inr ⟨_, rfl⟩) (And.intro (by decide +kernel) rfl)) ?_
  refine xa_cons 15 ((And.intro (by decide) (Or.inl (Exists.intro (0) (And.intro rfl (And.intro (by decide +kernel) rfl)))))) ?_
  refine xa_cons 16 (xc_bipush hx hb (z := 20) (b := 20) (And.intro (by decide +kernel) rfl) (by decide +kernel) ⟨rfl, rfl⟩) ?_
  refine xa_cons 17 (xc_newa hx hb hA (htsB _ xw_211) (Or.inl ⟨by decide, by decide, rfl⟩) (And.intro (by decide +kernel) rfl)) ?_
  refine xa_cons 18 (xc_putfF (index := 32) hx hb htsB xC_3 hown rfl (by decide) hin xw_222 rfl (Or.inr ⟨_, rfl⟩) (And.intro (by decide +kernel) rfl)) ?_
  refine xa_cons 19 ((And.intro (by decide) (Or.inl (Exists.intro (0) (And.intro rfl (And.intro (by decide +kernel) rfl)))))) ?_
  refine xa_cons 20 (xc_bipush hx hb (z := 8) (b := 8) (And.intro (by decide +kernel) rfl) (by decide +kernel) ⟨rfl, rfl⟩) ?_
  refine xa_cons 21 (xc_iconst hx hb (z := 5) (b := 5) (And.intro (by decide +kernel) rfl) (by decide +kernel) ⟨rfl, rfl⟩) ?_
  refine xa_cons 22 (xc_mnaI (R := R) (index := 35) hown (htsB _ xw_223) hgN.2.2.1 (htsB _ xw_211) ⟨rfl, rfl⟩ rfl (And.intro (by decide +kernel) rfl) hA) ?_
  refine xa_cons 23 (xc_putfF (index := 37) hx hb htsB xC_3 hown rfl (by decide) hin xw_224 rfl (Or.inr ⟨_, rfl⟩) (And.intro (by decide +kernel) rfl)) ?_
  refine xa_cons 24 ((And.intro (by decide) (Or.inl (Exists.intro (0) (And.intro rfl (And.intro (by decide +kernel) rfl)))))) ?_
  refine xa_cons 25 (xc_bipush hx hb (z := 12) (b := 12) (And.intro (by decide +kernel) rfl) (by decide +kernel) ⟨rfl, rfl⟩) ?_
  refine xa_cons 26 (xc_bipush hx hb (z := 9) (b := 9) (And.intro (by decide +kernel) rfl) (by decide +kernel) ⟨rfl, rfl⟩) ?_
  refine xa_cons 27 (xc_mnaI (R := R) (index := 35) hown (htsB _ xw_223) hgN.2.2.1 (htsB _ xw_211) ⟨rfl, rfl⟩ rfl (And.intro (by decide +kernel) rfl) hA) ?_
  refine xa_cons 28 (xc_putfF (index := 40) hx hb htsB xC_3 hown rfl (by decide) hin xw_225 rfl (Or.inr ⟨_, rfl⟩) (And.intro (by decide +kernel) rfl)) ?_
  refine xa_cons 29 ((And.intro (by decide) (Or.inl (Exists.intro (0) (And.intro rfl (And.intro (by decide +kernel) rfl)))))) ?_
  refine xa_cons 30 (xc_bipush hx hb (z := 48) (b := 48) (And.intro (by decide +kernel) rfl) (by decide +kernel) ⟨rfl, rfl⟩) ?_
  refine xa_cons 31 (xc_newa hx hb hA (htsB _ xw_214) (Or.inr ⟨rfl, rfl⟩) (And.intro (by decide +kernel) rfl)) ?_
  refine xa_cons 32 (xc_putfF (index := 43) hx hb htsB xC_3 hown rfl (by decide) hin xw_226 rfl (Or.inr ⟨_, rfl⟩) (And.intro (by decide +kernel) rfl)) ?_
  refine xa_cons 33 ((And.intro (by decide) (Or.inl (Exists.intro (0) (And.intro rfl (And.intro (by decide +kernel) rfl)))))) ?_
  refine xa_cons 34 (xc_bipush hx hb (z := 40) (b := 40) (And.intro (by decide +kernel) rfl) (by decide +kernel) ⟨rfl, rfl⟩) ?_
  refine xa_cons 35 (xc_bipush hx hb (z := 6) (b := 6) (And.intro (by decide +kernel) rfl) (by decide +kernel) ⟨rfl, rfl⟩) ?_
  refine xa_cons 36 (xc_mnaI (R := R) (index := 35) hown (htsB _ xw_223) hgN.2.2.1 (htsB _ xw_211) ⟨rfl, rfl⟩ rfl (And.intro (by decide +kernel) rfl) hA) ?_
  refine xa_cons 37 (xc_putfF (index := 46) hx hb htsB xC_3 hown rfl (by decide) hin xw_227 rfl (Or.inr ⟨_, rfl⟩) (And.intro (by decide +kernel) rfl)) ?_
  refine xa_cons 38 ((And.intro (by decide) (Or.inl (Exists.intro (0) (And.intro rfl (And.intro (by decide +kernel) rfl)))))) ?_
  refine xa_cons 39 (xc_sipush hx hb (z := 128) (b := 128) (And.intro (by decide +kernel) rfl) (by decide +kernel) ⟨rfl, rfl⟩) ?_
  refine xa_cons 40 (xc_bipush hx hb (z := 9) (b := 9) (And.intro (by decide +kernel) rfl) (by decide +kernel) ⟨rfl, rfl⟩) ?_
  refine xa_cons 41 (xc_mnaI (R := R) (index := 35) hown (htsB _ xw_223) hgN.2.2.1 (htsB _ xw_211) ⟨rfl, rfl⟩ rfl (And.intro (by decide +kernel) rfl) hA) ?_
  refine xa_cons 42 (xc_putfF (index := 49) hx hb htsB xC_3 hown rfl (by decide) hin xw_228 rfl (Or.inr ⟨_, rfl⟩) (And.intro (by decide +kernel) rfl)) ?_
  refine xa_cons 43 ((And.intro (by decide) (Or.inl (Exists.intro (0) (And.intro rfl (And.intro (by decide +kernel) rfl)))))) ?_
  refine xa_cons 44 (xc_bipush hx hb (z := 6) (b := 6) (And.intro (by decide +kernel) rfl) (by decide +kernel) ⟨rfl, rfl⟩) ?_
  refine xa_cons 45 (xc_bipush hx hb (z := 13) (b := 13) (And.intro (by decide +kernel) rfl) (by decide +kernel) ⟨rfl, rfl⟩) ?_
  refine xa_cons 46 (xc_mnaI (R := R) (index := 35) hown (htsB _ xw_223) hgN.2.2.1 (htsB _ xw_211) ⟨rfl, rfl⟩ rfl (And.intro (by decide +kernel) rfl) hA) ?_
  refine xa_cons 47 (xc_putfF (index := 52) hx hb htsB xC_3 hown rfl (by decide) hin xw_229 rfl (Or.inr ⟨_, rfl⟩) (And.intro (by decide +kernel) rfl)) ?_
  refine xa_cons 48 ((And.intro (by decide) (Or.inl (Exists.intro (0) (And.intro rfl (And.intro (by decide +kernel) rfl)))))) ?_
  refine xa_cons 49 (xc_bipush hx hb (z := 24) (b := 24) (And.intro (by decide +kernel) rfl) (by decide +kernel) ⟨rfl, rfl⟩) ?_
  refine xa_cons 50 (xc_newa hx hb hA (htsB _ xw_211) (Or.inl ⟨by decide, by decide, rfl⟩) (And.intro (by decide +kernel) rfl)) ?_
  refine xa_cons 51 (xc_putfF (index := 55) hx hb htsB xC_3 hown rfl (by decide) hin xw_230 rfl (Or.inr ⟨_, rfl⟩) (And.intro (by decide +kernel) rfl)) ?_
  refine xa_cons 52 ((And.intro (by decide) (Or.inl (Exists.intro (0) (And.intro rfl (And.intro (by decide +kernel) rfl)))))) ?_
  refine xa_cons 53 (xc_sipush hx hb (z := 144) (b := 144) (And.intro (by decide +kernel) rfl) (by decide +kernel) ⟨rfl, rfl⟩) ?_
  refine xa_cons 54 (xc_newa hx hb hA (htsB _ xw_211) (Or.inl ⟨by decide, by decide, rfl⟩) (And.intro (by decide +kernel) rfl)) ?_
  refine xa_cons 55 (xc_putfF (index := 58) hx hb htsB xC_3 hown rfl (by decide) hin xw_231 rfl (Or.inr ⟨_, rfl⟩) (And.intro (by decide +kernel) rfl)) ?_
  refine xa_cons 56 ((And.intro (by decide) (Or.inl (Exists.intro (0) (And.intro rfl (And.intro (by decide +kernel) rfl)))))) ?_
  refine xa_cons 57 (xc_sipush hx hb (z := 12288) (b := 12288) (And.intro (by decide +kernel) rfl) (by decide +kernel) ⟨rfl, rfl⟩) ?_
  refine xa_cons 58 (xc_newa hx hb hA (htsB _ xw_211) (Or.inl ⟨by decide, by decide, rfl⟩) (And.intro (by decide +kernel) rfl)) ?_
  refine xa_cons 59 (xc_putfF (index := 61) hx hb htsB xC_3 hown rfl (by decide) hin xw_232 rfl (Or.inr ⟨_, rfl⟩) (And.intro (by decide +kernel) rfl)) ?_
  refine xa_cons 60 ((And.intro (by decide) (Or.inl (Exists.intro (0) (And.intro rfl (And.intro (by decide +kernel) rfl)))))) ?_
  refine xa_cons 61 (xc_bipush hx hb (z := 12) (b := 12) (And.intro (by decide +kernel) rfl) (by decide +kernel) ⟨rfl, rfl⟩) ?_
  refine xa_cons 62 (xc_newa hx hb hA (htsB _ xw_211) (Or.inl ⟨by decide, by decide, rfl⟩) (And.intro (by decide +kernel) rfl)) ?_
  refine xa_cons 63 (xc_putfF (index := 64) hx hb htsB xC_3 hown rfl (by decide) hin xw_233 rfl (Or.inr ⟨_, rfl⟩) (And.intro (by decide +kernel) rfl)) ?_
  refine xa_cons 64 ((And.intro (by decide) (Or.inl (Exists.intro (0) (And.intro rfl (And.intro (by decide +kernel) rfl)))))) ?_
  refine xa_cons 65 (xc_bipush hx hb (z := 64) (b := 64) (And.intro (by decide +kernel) rfl) (by decide +kernel) ⟨rfl, rfl⟩) ?_
  refine xa_cons 66 (xc_newa hx hb hA (htsB _ xw_211) (Or.inl ⟨by decide, by decide, rfl⟩) (And.intro (by decide +kernel) rfl)) ?_
  refine xa_cons 67 (xc_putfF (index := 67) hx hb htsB xC_3 hown rfl (by decide) hin xw_234 rfl (Or.inr ⟨_, rfl⟩) (And.intro (by decide +kernel) rfl)) ?_
  refine xa_cons 68 ((And.intro (by decide) (Or.inl (Exists.intro (0) (And.intro rfl (And.intro (by decide +kernel) rfl)))))) ?_
  refine xa_cons 69 (xc_bipush hx hb (z := 64) (b := 64) (And.intro (by decide +kernel) rfl) (by decide +kernel) ⟨rfl, rfl⟩) ?_
  refine xa_cons 70 (xc_newa hx hb hA (htsB _ xw_235) (Or.inl ⟨by decide, by decide, rfl⟩) (And.intro (by decide +kernel) rfl)) ?_
  refine xa_cons 71 (xc_putfF (index := 70) hx hb htsB xC_3 hown rfl (by decide) hin xw_236 rfl (Or.inr ⟨_, rfl⟩) (And.intro (by decide +kernel) rfl)) ?_
  refine xa_cons 72 ((And.intro hr (by decide +kernel))) ?_
  exact xa_nil
def xrp_11 : Nat → Nat := fun k => ([0, 1, 4, 5, 8, 9, 10, 11, 14, 17, 18, 21, 23, 26, 27, 30, 33, 36, 37, 39, 41, 44, 45, 48, 51, 54, 55, 57, 59, 62, 63, 65, 67, 70, 71, 72, 75, 76, 77, 80, 81, 82, 83, 84, 87, 88, 91, 92, 95, 96, 97, 100, 101, 102, 105, 106, 107, 110, 111, 114, 117] : List Nat).getD k 0
set_option maxRecDepth 20000 in
set_option maxHeartbeats 4000000 in
theorem xz_11 {l : Launch} {D : va_G} {en : XE} : x_Ok xT l D xcl en xrn (xG en) 11 xc_11 := by
  refine ⟨prog_8_method_1_code, none, xBIG, xrp_11, by decide +kernel, rfl, rfl, ?_⟩
  intro p e R s m args below meth c s₁ A Q pc i f1 f2 B hml hA hg hi
  obtain ⟨hx, hb, hr, hown, hlocks, hin, htsB, S⟩ := xb_all (C := "ExpressHouse$Population") B hml rfl rfl
  obtain ⟨hgN, hgZ, hgS, hgS2⟩ := xG_all hg
  refine xa_at (i := i) (pc := pc) ?_ hi
  refine xa_cons 0 ((And.intro (by decide) (Or.inl (Exists.intro (0) (And.intro rfl (And.intro (by decide +kernel) rfl)))))) ?_
  refine xa_cons 1 (xc_objinit (own := "ExpressHouse$Population") (index := 1) hx hb hml hown htsB xw_237 xw_1 xw_2 (by omega) (by omega) (And.intro (by decide +kernel) rfl)) ?_
  refine xa_cons 2 ((And.intro (by decide) (Or.inl (Exists.intro (0) (And.intro rfl (And.intro (by decide +kernel) rfl)))))) ?_
  refine xa_cons 3 (xc_new (own := "ExpressHouse$Population") (index := 7) hx hb htsB xC_10 hown hA rfl rfl xw_238 xw_58 xw_59 (by decide) (by decide +kernel) (And.intro (by decide +kernel) rfl)) ?_
  refine xa_cons 4 ((And.intro (by decide +kernel) rfl)) ?_
  refine xa_cons 5 (xc_iconst hx hb (z := 0) (b := 0) (And.intro (by decide +kernel) rfl) (by decide +kernel) ⟨rfl, rfl⟩) ?_
  refine xa_cons 6 (xc_lconst hx hb (z := 0) (And.intro (by decide +kernel) rfl) ⟨rfl, rfl⟩) ?_
  refine xa_cons 7 ((And.intro (xc_callIN (index := 9) (n := 2) (ci := 10) S xg_18 rfl xw_59 (hgN.1 _ (List.mem_of_getElem? (i := 3) rfl)) xw_60 rfl rfl rfl ⟨by decide, by decide, by decide +kernel⟩ rfl (And.intro (by decide +kernel) rfl)) (by decide +kernel))) ?_
  refine xa_cons 8 (xc_putfF (index := 12) hx hb htsB xC_2 hown rfl (by decide) hin xw_239 rfl (Or.inl ⟨_, rfl⟩) (And.intro (by decide +kernel) rfl)) ?_
  refine xa_cons 9 ((And.intro (by decide) (Or.inl (Exists.intro (0) (And.intro rfl (And.intro (by decide +kernel) rfl)))))) ?_
  refine xa_cons 10 (xc_sipush hx hb (z := 512) (b := 512) (And.intro (by decide +kernel) rfl) (by decide +kernel) ⟨rfl, rfl⟩) ?_
  refine xa_cons 11 (xc_newa hx hb hA (htsB _ xw_211) (Or.inl ⟨by decide, by decide, rfl⟩) (And.intro (by decide +kernel) rfl)) ?_
  refine xa_cons 12 (xc_putfF (index := 18) hx hb htsB xC_2 hown rfl (by decide) hin xw_240 rfl (Or.inr ⟨_, rfl⟩) (And.intro (by decide +kernel) rfl)) ?_
  refine xa_cons 13 ((And.intro (by decide) (Or.inl (Exists.intro (0) (And.intro rfl (And.intro (by decide +kernel) rfl)))))) ?_
  refine xa_cons 14 (xc_sipush hx hb (z := 1600) (b := 1600) (And.intro (by decide +kernel) rfl) (by decide +kernel) ⟨rfl, rfl⟩) ?_
  refine xa_cons 15 (xc_newq (own := "ExpressHouse$Population") (index := 7) hx hb hA hown (htsB _ xw_238) hgN.2.1 ⟨rfl, rfl⟩ rfl (And.intro (by decide +kernel) rfl)) ?_
  refine xa_cons 16 (xc_putfF (index := 22) hx hb htsB xC_2 hown rfl (by decide) hin xw_241 rfl (Or.inr ⟨_, rfl⟩) (And.intro (by decide +kernel) rfl)) ?_
  refine xa_cons 17 ((And.intro (by decide) (Or.inl (Exists.intro (0) (And.intro rfl (And.intro (by decide +kernel) rfl)))))) ?_
  refine xa_cons 18 (xc_bipush hx hb (z := 40) (b := 40) (And.intro (by decide +kernel) rfl) (by decide +kernel) ⟨rfl, rfl⟩) ?_
  refine xa_cons 19 (xc_newa hx hb hA (htsB _ xw_211) (Or.inl ⟨by decide, by decide, rfl⟩) (And.intro (by decide +kernel) rfl)) ?_
  refine xa_cons 20 (xc_putfF (index := 26) hx hb htsB xC_2 hown rfl (by decide) hin xw_242 rfl (Or.inr ⟨_, rfl⟩) (And.intro (by decide +kernel) rfl)) ?_
  refine xa_cons 21 ((And.intro (by decide) (Or.inl (Exists.intro (0) (And.intro rfl (And.intro (by decide +kernel) rfl)))))) ?_
  refine xa_cons 22 (xc_sipush hx hb (z := 1600) (b := 1600) (And.intro (by decide +kernel) rfl) (by decide +kernel) ⟨rfl, rfl⟩) ?_
  refine xa_cons 23 (xc_newq (own := "ExpressHouse$Population") (index := 7) hx hb hA hown (htsB _ xw_238) hgN.2.1 ⟨rfl, rfl⟩ rfl (And.intro (by decide +kernel) rfl)) ?_
  refine xa_cons 24 (xc_putfF (index := 29) hx hb htsB xC_2 hown rfl (by decide) hin xw_243 rfl (Or.inr ⟨_, rfl⟩) (And.intro (by decide +kernel) rfl)) ?_
  refine xa_cons 25 ((And.intro (by decide) (Or.inl (Exists.intro (0) (And.intro rfl (And.intro (by decide +kernel) rfl)))))) ?_
  refine xa_cons 26 (xc_bipush hx hb (z := 40) (b := 40) (And.intro (by decide +kernel) rfl) (by decide +kernel) ⟨rfl, rfl⟩) ?_
  refine xa_cons 27 (xc_newa hx hb hA (htsB _ xw_211) (Or.inl ⟨by decide, by decide, rfl⟩) (And.intro (by decide +kernel) rfl)) ?_
  refine xa_cons 28 (xc_putf (own := "ExpressHouse$Population") (index := 32) hx hb htsB xC_2 hown rfl (by decide) xw_244 rfl (Or.inr ⟨_, rfl⟩) (And.intro (by decide +kernel) rfl)) ?_
  refine xa_cons 29 ((And.intro (by decide) (Or.inl (Exists.intro (0) (And.intro rfl (And.intro (by decide +kernel) rfl)))))) ?_
  refine xa_cons 30 (xc_bipush hx hb (z := 40) (b := 40) (And.intro (by decide +kernel) rfl) (by decide +kernel) ⟨rfl, rfl⟩) ?_
  refine xa_cons 31 (xc_newa hx hb hA (htsB _ xw_211) (Or.inl ⟨by decide, by decide, rfl⟩) (And.intro (by decide +kernel) rfl)) ?_
  refine xa_cons 32 (xc_putf (own := "ExpressHouse$Population") (index := 35) hx hb htsB xC_2 hown rfl (by decide) xw_245 rfl (Or.inr ⟨_, rfl⟩) (And.intro (by decide +kernel) rfl)) ?_
  refine xa_cons 33 ((And.intro (by decide) (Or.inl (Exists.intro (0) (And.intro rfl (And.intro (by decide +kernel) rfl)))))) ?_
  refine xa_cons 34 (xc_iconst hx hb (z := 1) (b := 1) (And.intro (by decide +kernel) rfl) (by decide +kernel) ⟨rfl, rfl⟩) ?_
  refine xa_cons 35 (xc_putf (own := "ExpressHouse$Population") (index := 38) hx hb htsB xC_2 hown rfl (by decide) xw_246 rfl (rfl) (And.intro (by decide +kernel) rfl)) ?_
  refine xa_cons 36 ((And.intro (by decide) (Or.inl (Exists.intro (0) (And.intro rfl (And.intro (by decide +kernel) rfl)))))) ?_
  refine xa_cons 37 ((And.intro (by decide) (Or.inl (Exists.intro (1) (And.intro rfl (And.intro (by decide +kernel) rfl)))))) ?_
  refine xa_cons 38 (xc_putf (own := "ExpressHouse$Population") (index := 42) hx hb htsB xC_2 hown rfl (by decide) xw_247 rfl (Or.inl ⟨_, rfl⟩) (And.intro (by decide +kernel) rfl)) ?_
  refine xa_cons 39 (xc_iconst hx hb (z := 0) (b := 0) (And.intro (by decide +kernel) rfl) (by decide +kernel) ⟨rfl, rfl⟩) ?_
  refine xa_cons 40 ((And.intro (Or.inl rfl) (Or.inl (Exists.intro (2) (And.intro rfl (And.intro (by decide +kernel) rfl)))))) ?_
  refine xa_cons 41 ((And.intro (by decide) (Or.inl (Exists.intro (2) (And.intro rfl (And.intro (by decide +kernel) rfl)))))) ?_
  refine xa_cons 42 ((And.intro (by decide) (Or.inl (Exists.intro (0) (And.intro rfl (And.intro (by decide +kernel) rfl)))))) ?_
  refine xa_cons 43 (xc_getf (A := A) (own := "ExpressHouse$Population") (index := 22) hx hb htsB xC_2 hown rfl (by decide) xw_241 (And.intro (by decide +kernel) rfl)) ?_
  refine xa_cons 44 ((And.intro (by decide +kernel) rfl)) ?_
  refine xa_cons 45 ((And.intro (by decide) (Exists.intro (29) (And.intro (by decide +kernel) (And.intro (by decide +kernel) rfl))))) ?_
  refine xa_cons 46 ((And.intro (by decide) (Or.inl (Exists.intro (0) (And.intro rfl (And.intro (by decide +kernel) rfl)))))) ?_
  refine xa_cons 47 (xc_getf (A := A) (own := "ExpressHouse$Population") (index := 22) hx hb htsB xC_2 hown rfl (by decide) xw_241 (And.intro (by decide +kernel) rfl)) ?_
  refine xa_cons 48 ((And.intro (by decide) (Or.inl (Exists.intro (2) (And.intro rfl (And.intro (by decide +kernel) rfl)))))) ?_
  refine xa_cons 49 ((And.intro (by decide) (Or.inl (Exists.intro (0) (And.intro rfl (And.intro (by decide +kernel) rfl)))))) ?_
  refine xa_cons 50 (xc_getf (A := A) (own := "ExpressHouse$Population") (index := 12) hx hb htsB xC_2 hown rfl (by decide) xw_239 (And.intro (by decide +kernel) rfl)) ?_
  refine xa_cons 51 ((And.intro (by decide) (And.intro (by decide +kernel) rfl))) ?_
  refine xa_cons 52 ((And.intro (by decide) (Or.inl (Exists.intro (0) (And.intro rfl (And.intro (by decide +kernel) rfl)))))) ?_
  refine xa_cons 53 (xc_getf (A := A) (own := "ExpressHouse$Population") (index := 29) hx hb htsB xC_2 hown rfl (by decide) xw_243 (And.intro (by decide +kernel) rfl)) ?_
  refine xa_cons 54 ((And.intro (by decide) (Or.inl (Exists.intro (2) (And.intro rfl (And.intro (by decide +kernel) rfl)))))) ?_
  refine xa_cons 55 ((And.intro (by decide) (Or.inl (Exists.intro (0) (And.intro rfl (And.intro (by decide +kernel) rfl)))))) ?_
  refine xa_cons 56 (xc_getf (A := A) (own := "ExpressHouse$Population") (index := 12) hx hb htsB xC_2 hown rfl (by decide) xw_239 (And.intro (by decide +kernel) rfl)) ?_
  refine xa_cons 57 ((And.intro (by decide) (And.intro (by decide +kernel) rfl))) ?_
  refine xa_cons 58 ((Exists.intro (1) (And.intro (And.intro (by decide +kernel) rfl) (by decide +kernel)))) ?_
  refine xa_cons 59 ((Exists.intro (-32) (And.intro (by decide +kernel) (by decide +kernel)))) ?_
  refine xa_cons 60 ((And.intro hr (by decide +kernel))) ?_
  exact xa_nil
def xrp_12 : Nat → Nat := fun k => ([0, 1, 4, 5, 7, 9, 12, 13, 15, 17, 20, 21, 23, 25, 28, 29, 30, 33, 34, 35, 38] : List Nat).getD k 0
set_option maxRecDepth 20000 in
set_option maxHeartbeats 4000000 in
theorem xz_12 {l : Launch} {D : va_G} {en : XE} : x_Ok xT l D xcl en xrn (xG en) 12 xc_12 := by
  refine ⟨prog_2_method_1_code, none, xBIG, xrp_12, by decide +kernel, rfl, rfl, ?_⟩
  intro p e R s m args below meth c s₁ A Q pc i f1 f2 B hml hA hg hi
  obtain ⟨hx, hb, hr, hown, hlocks, hin, htsB, S⟩ := xb_all (C := "ExpressHouse$Expressions") B hml rfl rfl
  obtain ⟨hgN, hgZ, hgS, hgS2⟩ := xG_all hg
  refine xa_at (i := i) (pc := pc) ?_ hi
  refine xa_cons 0 ((And.intro (by decide) (Or.inl (Exists.intro (0) (And.intro rfl (And.intro (by decide +kernel) rfl)))))) ?_
  refine xa_cons 1 (xc_objinit (own := "ExpressHouse$Expressions") (index := 3) hx hb hml hown htsB xw_248 xw_1 xw_2 (by omega) (by omega) (And.intro (by decide +kernel) rfl)) ?_
  refine xa_cons 2 ((And.intro (by decide) (Or.inl (Exists.intro (0) (And.intro rfl (And.intro (by decide +kernel) rfl)))))) ?_
  refine xa_cons 3 (xc_bipush hx hb (z := 16) (b := 16) (And.intro (by decide +kernel) rfl) (by decide +kernel) ⟨rfl, rfl⟩) ?_
  refine xa_cons 4 (xc_newa hx hb hA (htsB _ xw_214) (Or.inr ⟨rfl, rfl⟩) (And.intro (by decide +kernel) rfl)) ?_
  refine xa_cons 5 (xc_putfF (index := 9) hx hb htsB xC_4 hown rfl (by decide) hin xw_249 rfl (Or.inr ⟨_, rfl⟩) (And.intro (by decide +kernel) rfl)) ?_
  refine xa_cons 6 ((And.intro (by decide) (Or.inl (Exists.intro (0) (And.intro rfl (And.intro (by decide +kernel) rfl)))))) ?_
  refine xa_cons 7 (xc_bipush hx hb (z := 16) (b := 16) (And.intro (by decide +kernel) rfl) (by decide +kernel) ⟨rfl, rfl⟩) ?_
  refine xa_cons 8 (xc_newa hx hb hA (htsB _ xw_211) (Or.inl ⟨by decide, by decide, rfl⟩) (And.intro (by decide +kernel) rfl)) ?_
  refine xa_cons 9 (xc_putfF (index := 15) hx hb htsB xC_4 hown rfl (by decide) hin xw_250 rfl (Or.inr ⟨_, rfl⟩) (And.intro (by decide +kernel) rfl)) ?_
  refine xa_cons 10 ((And.intro (by decide) (Or.inl (Exists.intro (0) (And.intro rfl (And.intro (by decide +kernel) rfl)))))) ?_
  refine xa_cons 11 (xc_bipush hx hb (z := 10) (b := 10) (And.intro (by decide +kernel) rfl) (by decide +kernel) ⟨rfl, rfl⟩) ?_
  refine xa_cons 12 (xc_newa hx hb hA (htsB _ xw_214) (Or.inr ⟨rfl, rfl⟩) (And.intro (by decide +kernel) rfl)) ?_
  refine xa_cons 13 (xc_putfF (index := 21) hx hb htsB xC_4 hown rfl (by decide) hin xw_251 rfl (Or.inr ⟨_, rfl⟩) (And.intro (by decide +kernel) rfl)) ?_
  refine xa_cons 14 ((And.intro (by decide) (Or.inl (Exists.intro (0) (And.intro rfl (And.intro (by decide +kernel) rfl)))))) ?_
  refine xa_cons 15 ((And.intro (by decide) (Or.inl (Exists.intro (1) (And.intro rfl (And.intro (by decide +kernel) rfl)))))) ?_
  refine xa_cons 16 (xc_putfF (index := 24) hx hb htsB xC_4 hown rfl (by decide) hin xw_252 rfl (Or.inl ⟨_, rfl⟩) (And.intro (by decide +kernel) rfl)) ?_
  refine xa_cons 17 ((And.intro (by decide) (Or.inl (Exists.intro (0) (And.intro rfl (And.intro (by decide +kernel) rfl)))))) ?_
  refine xa_cons 18 ((And.intro (by decide) (Or.inl (Exists.intro (2) (And.intro rfl (And.intro (by decide +kernel) rfl)))))) ?_
  refine xa_cons 19 (xc_putf (own := "ExpressHouse$Expressions") (index := 28) hx hb htsB xC_4 hown rfl (by decide) xw_253 rfl (Or.inl ⟨_, rfl⟩) (And.intro (by decide +kernel) rfl)) ?_
  refine xa_cons 20 ((And.intro hr (by decide +kernel))) ?_
  exact xa_nil
def xrp_13 : Nat → Nat := fun k => ([0, 1, 4, 5, 8, 9, 12, 15, 16, 18, 20, 23, 24, 25, 28, 29, 30, 33] : List Nat).getD k 0
set_option maxRecDepth 20000 in
set_option maxHeartbeats 4000000 in
theorem xz_13 {l : Launch} {D : va_G} {en : XE} : x_Ok xT l D xcl en xrn (xG en) 13 xc_13 := by
  refine ⟨prog_11_method_1_code, none, xBIG, xrp_13, by decide +kernel, rfl, rfl, ?_⟩
  intro p e R s m args below meth c s₁ A Q pc i f1 f2 B hml hA hg hi
  obtain ⟨hx, hb, hr, hown, hlocks, hin, htsB, S⟩ := xb_all (C := "ExpressHouse$SchemaReader") B hml rfl rfl
  obtain ⟨hgN, hgZ, hgS, hgS2⟩ := xG_all hg
  refine xa_at (i := i) (pc := pc) ?_ hi
  refine xa_cons 0 ((And.intro (by decide) (Or.inl (Exists.intro (0) (And.intro rfl (And.intro (by decide +kernel) rfl)))))) ?_
  refine xa_cons 1 (xc_objinit (own := "ExpressHouse$SchemaReader") (index := 3) hx hb hml hown htsB xw_254 xw_1 xw_2 (by omega) (by omega) (And.intro (by decide +kernel) rfl)) ?_
  refine xa_cons 2 ((And.intro (by decide) (Or.inl (Exists.intro (0) (And.intro rfl (And.intro (by decide +kernel) rfl)))))) ?_
  refine xa_cons 3 (xc_new (own := "ExpressHouse$SchemaReader") (index := 9) hx hb htsB xC_3 hown hA rfl rfl xw_255 xw_14 xw_15 (by decide) (by decide +kernel) (And.intro (by decide +kernel) rfl)) ?_
  refine xa_cons 4 ((And.intro (by decide +kernel) rfl)) ?_
  refine xa_cons 5 ((And.intro (xc_callIN (index := 11) (n := 0) (ci := 3) S xg_10 rfl xw_15 (hgN.1 _ (List.mem_of_getElem? (i := 4) rfl)) xw_16 rfl rfl rfl ⟨by decide, by decide, by decide +kernel⟩ rfl (And.intro (by decide +kernel) rfl)) (by decide +kernel))) ?_
  refine xa_cons 6 (xc_putf (own := "ExpressHouse$SchemaReader") (index := 12) hx hb htsB xC_5 hown rfl (by decide) xw_256 rfl (Or.inl ⟨_, rfl⟩) (And.intro (by decide +kernel) rfl)) ?_
  refine xa_cons 7 ((And.intro (by decide) (Or.inl (Exists.intro (0) (And.intro rfl (And.intro (by decide +kernel) rfl)))))) ?_
  refine xa_cons 8 (xc_bipush hx hb (z := 6) (b := 6) (And.intro (by decide +kernel) rfl) (by decide +kernel) ⟨rfl, rfl⟩) ?_
  refine xa_cons 9 (xc_newa hx hb hA (htsB _ xw_211) (Or.inl ⟨by decide, by decide, rfl⟩) (And.intro (by decide +kernel) rfl)) ?_
  refine xa_cons 10 (xc_putfF (index := 18) hx hb htsB xC_5 hown rfl (by decide) hin xw_257 rfl (Or.inr ⟨_, rfl⟩) (And.intro (by decide +kernel) rfl)) ?_
  refine xa_cons 11 ((And.intro (by decide) (Or.inl (Exists.intro (0) (And.intro rfl (And.intro (by decide +kernel) rfl)))))) ?_
  refine xa_cons 12 ((And.intro (by decide) (Or.inl (Exists.intro (1) (And.intro rfl (And.intro (by decide +kernel) rfl)))))) ?_
  refine xa_cons 13 (xc_putfF (index := 22) hx hb htsB xC_5 hown rfl (by decide) hin xw_258 rfl (Or.inl ⟨_, rfl⟩) (And.intro (by decide +kernel) rfl)) ?_
  refine xa_cons 14 ((And.intro (by decide) (Or.inl (Exists.intro (0) (And.intro rfl (And.intro (by decide +kernel) rfl)))))) ?_
  refine xa_cons 15 ((And.intro (by decide) (Or.inl (Exists.intro (2) (And.intro rfl (And.intro (by decide +kernel) rfl)))))) ?_
  refine xa_cons 16 (xc_putfF (index := 26) hx hb htsB xC_5 hown rfl (by decide) hin xw_259 rfl (Or.inl ⟨_, rfl⟩) (And.intro (by decide +kernel) rfl)) ?_
  refine xa_cons 17 ((And.intro hr (by decide +kernel))) ?_
  exact xa_nil
def xrp_14 : Nat → Nat := fun k => ([0, 1, 4, 5, 8, 11, 14, 15, 18, 21, 24, 25, 28, 31, 34, 35, 38, 40, 43, 44, 47, 49, 52, 53, 56, 58, 61, 62, 64, 66, 69, 70, 72, 74, 77, 78, 80, 82, 85, 86, 88, 91, 94, 95, 98, 101, 102, 103, 106, 107, 110, 111, 112, 115, 118, 119, 120, 123, 126, 127, 128, 129, 130, 133, 134, 137, 138, 141, 142, 143, 146, 147, 150, 153, 154, 155, 156, 157, 160, 161, 164, 165, 168, 169, 170, 173, 174, 175, 178, 179, 180, 183, 184, 187, 190, 191, 192, 193, 194, 197, 198, 201, 202, 205, 206, 207, 210, 211, 214, 217] : List Nat).getD k 0
set_option maxRecDepth 20000 in
set_option maxHeartbeats 4000000 in
theorem xz_14 {l : Launch} {D : va_G} {en : XE} : x_Ok xT l D xcl en xrn (xG en) 14 xc_14 := by
  refine ⟨prog_6_method_1_code, none, xBIG, xrp_14, by decide +kernel, rfl, rfl, ?_⟩
  intro p e R s m args below meth c s₁ A Q pc i f1 f2 B hml hA hg hi
  obtain ⟨hx, hb, hr, hown, hlocks, hin, htsB, S⟩ := xb_all (C := "ExpressHouse$Machine") B hml rfl rfl
  obtain ⟨hgN, hgZ, hgS, hgS2⟩ := xG_all hg
  refine xa_at (i := i) (pc := pc) ?_ hi
  refine xa_cons 0 ((And.intro (by decide) (Or.inl (Exists.intro (0) (And.intro rfl (And.intro (by decide +kernel) rfl)))))) ?_
  refine xa_cons 1 (xc_objinit (own := "ExpressHouse$Machine") (index := 3) hx hb hml hown htsB xw_260 xw_1 xw_2 (by omega) (by omega) (And.intro (by decide +kernel) rfl)) ?_
  refine xa_cons 2 ((And.intro (by decide) (Or.inl (Exists.intro (0) (And.intro rfl (And.intro (by decide +kernel) rfl)))))) ?_
  refine xa_cons 3 (xc_sipush hx hb (z := 4096) (b := 4096) (And.intro (by decide +kernel) rfl) (by decide +kernel) ⟨rfl, rfl⟩) ?_
  refine xa_cons 4 (xc_newq (own := "ExpressHouse$Machine") (index := 9) hx hb hA hown (htsB _ xw_261) hgN.2.1 ⟨rfl, rfl⟩ rfl (And.intro (by decide +kernel) rfl)) ?_
  refine xa_cons 5 (xc_putfF (index := 11) hx hb htsB xC_6 hown rfl (by decide) hin xw_262 rfl (Or.inr ⟨_, rfl⟩) (And.intro (by decide +kernel) rfl)) ?_
  refine xa_cons 6 ((And.intro (by decide) (Or.inl (Exists.intro (0) (And.intro rfl (And.intro (by decide +kernel) rfl)))))) ?_
  refine xa_cons 7 (xc_sipush hx hb (z := 256) (b := 256) (And.intro (by decide +kernel) rfl) (by decide +kernel) ⟨rfl, rfl⟩) ?_
  refine xa_cons 8 (xc_newq (own := "ExpressHouse$Machine") (index := 9) hx hb hA hown (htsB _ xw_261) hgN.2.1 ⟨rfl, rfl⟩ rfl (And.intro (by decide +kernel) rfl)) ?_
  refine xa_cons 9 (xc_putfF (index := 17) hx hb htsB xC_6 hown rfl (by decide) hin xw_263 rfl (Or.inr ⟨_, rfl⟩) (And.intro (by decide +kernel) rfl)) ?_
  refine xa_cons 10 ((And.intro (by decide) (Or.inl (Exists.intro (0) (And.intro rfl (And.intro (by decide +kernel) rfl)))))) ?_
  refine xa_cons 11 (xc_sipush hx hb (z := 256) (b := 256) (And.intro (by decide +kernel) rfl) (by decide +kernel) ⟨rfl, rfl⟩) ?_
  refine xa_cons 12 (xc_newq (own := "ExpressHouse$Machine") (index := 9) hx hb hA hown (htsB _ xw_261) hgN.2.1 ⟨rfl, rfl⟩ rfl (And.intro (by decide +kernel) rfl)) ?_
  refine xa_cons 13 (xc_putfF (index := 20) hx hb htsB xC_6 hown rfl (by decide) hin xw_264 rfl (Or.inr ⟨_, rfl⟩) (And.intro (by decide +kernel) rfl)) ?_
  refine xa_cons 14 ((And.intro (by decide) (Or.inl (Exists.intro (0) (And.intro rfl (And.intro (by decide +kernel) rfl)))))) ?_
  refine xa_cons 15 (xc_sipush hx hb (z := 256) (b := 256) (And.intro (by decide +kernel) rfl) (by decide +kernel) ⟨rfl, rfl⟩) ?_
  refine xa_cons 16 (xc_newa hx hb hA (htsB _ xw_211) (Or.inl ⟨by decide, by decide, rfl⟩) (And.intro (by decide +kernel) rfl)) ?_
  refine xa_cons 17 (xc_putfF (index := 23) hx hb htsB xC_6 hown rfl (by decide) hin xw_265 rfl (Or.inr ⟨_, rfl⟩) (And.intro (by decide +kernel) rfl)) ?_
  refine xa_cons 18 ((And.intro (by decide) (Or.inl (Exists.intro (0) (And.intro rfl (And.intro (by decide +kernel) rfl)))))) ?_
  refine xa_cons 19 (xc_sipush hx hb (z := 256) (b := 256) (And.intro (by decide +kernel) rfl) (by decide +kernel) ⟨rfl, rfl⟩) ?_
  refine xa_cons 20 (xc_newa hx hb hA (htsB _ xw_211) (Or.inl ⟨by decide, by decide, rfl⟩) (And.intro (by decide +kernel) rfl)) ?_
  refine xa_cons 21 (xc_putfF (index := 27) hx hb htsB xC_6 hown rfl (by decide) hin xw_266 rfl (Or.inr ⟨_, rfl⟩) (And.intro (by decide +kernel) rfl)) ?_
  refine xa_cons 22 ((And.intro (by decide) (Or.inl (Exists.intro (0) (And.intro rfl (And.intro (by decide +kernel) rfl)))))) ?_
  refine xa_cons 23 (xc_sipush hx hb (z := 256) (b := 256) (And.intro (by decide +kernel) rfl) (by decide +kernel) ⟨rfl, rfl⟩) ?_
  refine xa_cons 24 (xc_newa hx hb hA (htsB _ xw_211) (Or.inl ⟨by decide, by decide, rfl⟩) (And.intro (by decide +kernel) rfl)) ?_
  refine xa_cons 25 (xc_putfF (index := 30) hx hb htsB xC_6 hown rfl (by decide) hin xw_267 rfl (Or.inr ⟨_, rfl⟩) (And.intro (by decide +kernel) rfl)) ?_
  refine xa_cons 26 ((And.intro (by decide) (Or.inl (Exists.intro (0) (And.intro rfl (And.intro (by decide +kernel) rfl)))))) ?_
  refine xa_cons 27 (xc_bipush hx hb (z := 8) (b := 8) (And.intro (by decide +kernel) rfl) (by decide +kernel) ⟨rfl, rfl⟩) ?_
  refine xa_cons 28 (xc_newa hx hb hA (htsB _ xw_211) (Or.inl ⟨by decide, by decide, rfl⟩) (And.intro (by decide +kernel) rfl)) ?_
  refine xa_cons 29 (xc_putfF (index := 33) hx hb htsB xC_6 hown rfl (by decide) hin xw_268 rfl (Or.inr ⟨_, rfl⟩) (And.intro (by decide +kernel) rfl)) ?_
  refine xa_cons 30 ((And.intro (by decide) (Or.inl (Exists.intro (0) (And.intro rfl (And.intro (by decide +kernel) rfl)))))) ?_
  refine xa_cons 31 (xc_bipush hx hb (z := 8) (b := 8) (And.intro (by decide +kernel) rfl) (by decide +kernel) ⟨rfl, rfl⟩) ?_
  refine xa_cons 32 (xc_newa hx hb hA (htsB _ xw_211) (Or.inl ⟨by decide, by decide, rfl⟩) (And.intro (by decide +kernel) rfl)) ?_
  refine xa_cons 33 (xc_putfF (index := 36) hx hb htsB xC_6 hown rfl (by decide) hin xw_269 rfl (Or.inr ⟨_, rfl⟩) (And.intro (by decide +kernel) rfl)) ?_
  refine xa_cons 34 ((And.intro (by decide) (Or.inl (Exists.intro (0) (And.intro rfl (And.intro (by decide +kernel) rfl)))))) ?_
  refine xa_cons 35 (xc_bipush hx hb (z := 8) (b := 8) (And.intro (by decide +kernel) rfl) (by decide +kernel) ⟨rfl, rfl⟩) ?_
  refine xa_cons 36 (xc_newa hx hb hA (htsB _ xw_211) (Or.inl ⟨by decide, by decide, rfl⟩) (And.intro (by decide +kernel) rfl)) ?_
  refine xa_cons 37 (xc_putfF (index := 39) hx hb htsB xC_6 hown rfl (by decide) hin xw_270 rfl (Or.inr ⟨_, rfl⟩) (And.intro (by decide +kernel) rfl)) ?_
  refine xa_cons 38 ((And.intro (by decide) (Or.inl (Exists.intro (0) (And.intro rfl (And.intro (by decide +kernel) rfl)))))) ?_
  refine xa_cons 39 (xc_bipush hx hb (z := 8) (b := 8) (And.intro (by decide +kernel) rfl) (by decide +kernel) ⟨rfl, rfl⟩) ?_
  refine xa_cons 40 (xc_newq (own := "ExpressHouse$Machine") (index := 9) hx hb hA hown (htsB _ xw_261) hgN.2.1 ⟨rfl, rfl⟩ rfl (And.intro (by decide +kernel) rfl)) ?_
  refine xa_cons 41 (xc_putfF (index := 42) hx hb htsB xC_6 hown rfl (by decide) hin xw_271 rfl (Or.inr ⟨_, rfl⟩) (And.intro (by decide +kernel) rfl)) ?_
  refine xa_cons 42 ((And.intro (by decide) (Or.inl (Exists.intro (0) (And.intro rfl (And.intro (by decide +kernel) rfl)))))) ?_
  refine xa_cons 43 (xc_sipush hx hb (z := 1000) (b := 1000) (And.intro (by decide +kernel) rfl) (by decide +kernel) ⟨rfl, rfl⟩) ?_
  refine xa_cons 44 (xc_putf (own := "ExpressHouse$Machine") (index := 45) hx hb htsB xC_6 hown rfl (by decide) xw_272 rfl (rfl) (And.intro (by decide +kernel) rfl)) ?_
  refine xa_cons 45 ((And.intro (by decide) (Or.inl (Exists.intro (0) (And.intro rfl (And.intro (by decide +kernel) rfl)))))) ?_
  refine xa_cons 46 ((And.intro (by decide) (Or.inl (Exists.intro (1) (And.intro rfl (And.intro (by decide +kernel) rfl)))))) ?_
  refine xa_cons 47 (xc_putfF (index := 49) hx hb htsB xC_6 hown rfl (by decide) hin xw_273 rfl (Or.inl ⟨_, rfl⟩) (And.intro (by decide +kernel) rfl)) ?_
  refine xa_cons 48 ((And.intro (by decide) (Or.inl (Exists.intro (0) (And.intro rfl (And.intro (by decide +kernel) rfl)))))) ?_
  refine xa_cons 49 (xc_new (own := "ExpressHouse$Machine") (index := 53) hx hb htsB xC_11 hown hA rfl rfl xw_274 xw_275 xw_276 (by decide) (by decide +kernel) (And.intro (by decide +kernel) rfl)) ?_
  refine xa_cons 50 ((And.intro (by decide +kernel) rfl)) ?_
  refine xa_cons 51 ((And.intro (by decide) (Or.inl (Exists.intro (1) (And.intro rfl (And.intro (by decide +kernel) rfl)))))) ?_
  refine xa_cons 52 ((And.intro (xc_callI (index := 55) (n := 1) (ci := 11) S xg_40 rfl xw_276 xw_278 xw_277 rfl rfl rfl ⟨by decide, by decide, by decide +kernel⟩ rfl (And.intro (by decide +kernel) rfl)) (by decide +kernel))) ?_
  refine xa_cons 53 (xc_putfF (index := 58) hx hb htsB xC_6 hown rfl (by decide) hin xw_279 rfl (Or.inl ⟨_, rfl⟩) (And.intro (by decide +kernel) rfl)) ?_
  refine xa_cons 54 ((And.intro (by decide) (Or.inl (Exists.intro (0) (And.intro rfl (And.intro (by decide +kernel) rfl)))))) ?_
  refine xa_cons 55 ((And.intro (by decide) (Or.inl (Exists.intro (1) (And.intro rfl (And.intro (by decide +kernel) rfl)))))) ?_
  refine xa_cons 56 (xc_getf (A := A) (own := "ExpressHouse$Machine") (index := 62) hx hb htsB xC_2 hown rfl (by decide) xw_280 (And.intro (by decide +kernel) rfl)) ?_
  refine xa_cons 57 (xc_putfF (index := 68) hx hb htsB xC_6 hown rfl (by decide) hin xw_281 rfl (Or.inl ⟨_, rfl⟩) (And.intro (by decide +kernel) rfl)) ?_
  refine xa_cons 58 (xc_iconst hx hb (z := 0) (b := 0) (And.intro (by decide +kernel) rfl) (by decide +kernel) ⟨rfl, rfl⟩) ?_
  refine xa_cons 59 ((And.intro (Or.inl rfl) (Or.inl (Exists.intro (2) (And.intro rfl (And.intro (by decide +kernel) rfl)))))) ?_
  refine xa_cons 60 ((And.intro (by decide) (Or.inl (Exists.intro (2) (And.intro rfl (And.intro (by decide +kernel) rfl)))))) ?_
  refine xa_cons 61 ((And.intro (by decide) (Or.inl (Exists.intro (0) (And.intro rfl (And.intro (by decide +kernel) rfl)))))) ?_
  refine xa_cons 62 (xc_getf (A := A) (own := "ExpressHouse$Machine") (index := 11) hx hb htsB xC_6 hown rfl (by decide) xw_262 (And.intro (by decide +kernel) rfl)) ?_
  refine xa_cons 63 ((And.intro (by decide +kernel) rfl)) ?_
  refine xa_cons 64 ((And.intro (by decide) (Exists.intro (19) (And.intro (by decide +kernel) (And.intro (by decide +kernel) rfl))))) ?_
  refine xa_cons 65 ((And.intro (by decide) (Or.inl (Exists.intro (0) (And.intro rfl (And.intro (by decide +kernel) rfl)))))) ?_
  refine xa_cons 66 (xc_getf (A := A) (own := "ExpressHouse$Machine") (index := 11) hx hb htsB xC_6 hown rfl (by decide) xw_262 (And.intro (by decide +kernel) rfl)) ?_
  refine xa_cons 67 ((And.intro (by decide) (Or.inl (Exists.intro (2) (And.intro rfl (And.intro (by decide +kernel) rfl)))))) ?_
  refine xa_cons 68 ((And.intro (by decide) (Or.inl (Exists.intro (0) (And.intro rfl (And.intro (by decide +kernel) rfl)))))) ?_
  refine xa_cons 69 (xc_getf (A := A) (own := "ExpressHouse$Machine") (index := 68) hx hb htsB xC_6 hown rfl (by decide) xw_281 (And.intro (by decide +kernel) rfl)) ?_
  refine xa_cons 70 ((And.intro (by decide) (And.intro (by decide +kernel) rfl))) ?_
  refine xa_cons 71 ((Exists.intro (1) (And.intro (And.intro (by decide +kernel) rfl) (by decide +kernel)))) ?_
  refine xa_cons 72 ((Exists.intro (-22) (And.intro (by decide +kernel) (by decide +kernel)))) ?_
  refine xa_cons 73 (xc_iconst hx hb (z := 0) (b := 0) (And.intro (by decide +kernel) rfl) (by decide +kernel) ⟨rfl, rfl⟩) ?_
  refine xa_cons 74 ((And.intro (Or.inl rfl) (Or.inl (Exists.intro (2) (And.intro rfl (And.intro (by decide +kernel) rfl)))))) ?_
  refine xa_cons 75 ((And.intro (by decide) (Or.inl (Exists.intro (2) (And.intro rfl (And.intro (by decide +kernel) rfl)))))) ?_
  refine xa_cons 76 ((And.intro (by decide) (Or.inl (Exists.intro (0) (And.intro rfl (And.intro (by decide +kernel) rfl)))))) ?_
  refine xa_cons 77 (xc_getf (A := A) (own := "ExpressHouse$Machine") (index := 17) hx hb htsB xC_6 hown rfl (by decide) xw_263 (And.intro (by decide +kernel) rfl)) ?_
  refine xa_cons 78 ((And.intro (by decide +kernel) rfl)) ?_
  refine xa_cons 79 ((And.intro (by decide) (Exists.intro (29) (And.intro (by decide +kernel) (And.intro (by decide +kernel) rfl))))) ?_
  refine xa_cons 80 ((And.intro (by decide) (Or.inl (Exists.intro (0) (And.intro rfl (And.intro (by decide +kernel) rfl)))))) ?_
  refine xa_cons 81 (xc_getf (A := A) (own := "ExpressHouse$Machine") (index := 17) hx hb htsB xC_6 hown rfl (by decide) xw_263 (And.intro (by decide +kernel) rfl)) ?_
  refine xa_cons 82 ((And.intro (by decide) (Or.inl (Exists.intro (2) (And.intro rfl (And.intro (by decide +kernel) rfl)))))) ?_
  refine xa_cons 83 ((And.intro (by decide) (Or.inl (Exists.intro (0) (And.intro rfl (And.intro (by decide +kernel) rfl)))))) ?_
  refine xa_cons 84 (xc_getf (A := A) (own := "ExpressHouse$Machine") (index := 68) hx hb htsB xC_6 hown rfl (by decide) xw_281 (And.intro (by decide +kernel) rfl)) ?_
  refine xa_cons 85 ((And.intro (by decide) (And.intro (by decide +kernel) rfl))) ?_
  refine xa_cons 86 ((And.intro (by decide) (Or.inl (Exists.intro (0) (And.intro rfl (And.intro (by decide +kernel) rfl)))))) ?_
  refine xa_cons 87 (xc_getf (A := A) (own := "ExpressHouse$Machine") (index := 20) hx hb htsB xC_6 hown rfl (by decide) xw_264 (And.intro (by decide +kernel) rfl)) ?_
  refine xa_cons 88 ((And.intro (by decide) (Or.inl (Exists.intro (2) (And.intro rfl (And.intro (by decide +kernel) rfl)))))) ?_
  refine xa_cons 89 ((And.intro (by decide) (Or.inl (Exists.intro (0) (And.intro rfl (And.intro (by decide +kernel) rfl)))))) ?_
  refine xa_cons 90 (xc_getf (A := A) (own := "ExpressHouse$Machine") (index := 68) hx hb htsB xC_6 hown rfl (by decide) xw_281 (And.intro (by decide +kernel) rfl)) ?_
  refine xa_cons 91 ((And.intro (by decide) (And.intro (by decide +kernel) rfl))) ?_
  refine xa_cons 92 ((Exists.intro (1) (And.intro (And.intro (by decide +kernel) rfl) (by decide +kernel)))) ?_
  refine xa_cons 93 ((Exists.intro (-32) (And.intro (by decide +kernel) (by decide +kernel)))) ?_
  refine xa_cons 94 (xc_iconst hx hb (z := 0) (b := 0) (And.intro (by decide +kernel) rfl) (by decide +kernel) ⟨rfl, rfl⟩) ?_
  refine xa_cons 95 ((And.intro (Or.inl rfl) (Or.inl (Exists.intro (2) (And.intro rfl (And.intro (by decide +kernel) rfl)))))) ?_
  refine xa_cons 96 ((And.intro (by decide) (Or.inl (Exists.intro (2) (And.intro rfl (And.intro (by decide +kernel) rfl)))))) ?_
  refine xa_cons 97 ((And.intro (by decide) (Or.inl (Exists.intro (0) (And.intro rfl (And.intro (by decide +kernel) rfl)))))) ?_
  refine xa_cons 98 (xc_getf (A := A) (own := "ExpressHouse$Machine") (index := 42) hx hb htsB xC_6 hown rfl (by decide) xw_271 (And.intro (by decide +kernel) rfl)) ?_
  refine xa_cons 99 ((And.intro (by decide +kernel) rfl)) ?_
  refine xa_cons 100 ((And.intro (by decide) (Exists.intro (19) (And.intro (by decide +kernel) (And.intro (by decide +kernel) rfl))))) ?_
  refine xa_cons 101 ((And.intro (by decide) (Or.inl (Exists.intro (0) (And.intro rfl (And.intro (by decide +kernel) rfl)))))) ?_
  refine xa_cons 102 (xc_getf (A := A) (own := "ExpressHouse$Machine") (index := 42) hx hb htsB xC_6 hown rfl (by decide) xw_271 (And.intro (by decide +kernel) rfl)) ?_
  refine xa_cons 103 ((And.intro (by decide) (Or.inl (Exists.intro (2) (And.intro rfl (And.intro (by decide +kernel) rfl)))))) ?_
  refine xa_cons 104 ((And.intro (by decide) (Or.inl (Exists.intro (0) (And.intro rfl (And.intro (by decide +kernel) rfl)))))) ?_
  refine xa_cons 105 (xc_getf (A := A) (own := "ExpressHouse$Machine") (index := 68) hx hb htsB xC_6 hown rfl (by decide) xw_281 (And.intro (by decide +kernel) rfl)) ?_
  refine xa_cons 106 ((And.intro (by decide) (And.intro (by decide +kernel) rfl))) ?_
  refine xa_cons 107 ((Exists.intro (1) (And.intro (And.intro (by decide +kernel) rfl) (by decide +kernel)))) ?_
  refine xa_cons 108 ((Exists.intro (-22) (And.intro (by decide +kernel) (by decide +kernel)))) ?_
  refine xa_cons 109 ((And.intro hr (by decide +kernel))) ?_
  exact xa_nil
def xrp_15 : Nat → Nat := fun k => ([0, 1, 4, 5, 7, 9, 12, 13, 15, 17, 20, 21, 22, 25, 26, 27, 30] : List Nat).getD k 0
set_option maxRecDepth 20000 in
set_option maxHeartbeats 4000000 in
theorem xz_15 {l : Launch} {D : va_G} {en : XE} : x_Ok xT l D xcl en xrn (xG en) 15 xc_15 := by
  refine ⟨prog_5_method_1_code, none, xBIG, xrp_15, by decide +kernel, rfl, rfl, ?_⟩
  intro p e R s m args below meth c s₁ A Q pc i f1 f2 B hml hA hg hi
  obtain ⟨hx, hb, hr, hown, hlocks, hin, htsB, S⟩ := xb_all (C := "ExpressHouse$Judge") B hml rfl rfl
  obtain ⟨hgN, hgZ, hgS, hgS2⟩ := xG_all hg
  refine xa_at (i := i) (pc := pc) ?_ hi
  refine xa_cons 0 ((And.intro (by decide) (Or.inl (Exists.intro (0) (And.intro rfl (And.intro (by decide +kernel) rfl)))))) ?_
  refine xa_cons 1 (xc_objinit (own := "ExpressHouse$Judge") (index := 3) hx hb hml hown htsB xw_282 xw_1 xw_2 (by omega) (by omega) (And.intro (by decide +kernel) rfl)) ?_
  refine xa_cons 2 ((And.intro (by decide) (Or.inl (Exists.intro (0) (And.intro rfl (And.intro (by decide +kernel) rfl)))))) ?_
  refine xa_cons 3 (xc_bipush hx hb (z := 40) (b := 40) (And.intro (by decide +kernel) rfl) (by decide +kernel) ⟨rfl, rfl⟩) ?_
  refine xa_cons 4 (xc_newa hx hb hA (htsB _ xw_211) (Or.inl ⟨by decide, by decide, rfl⟩) (And.intro (by decide +kernel) rfl)) ?_
  refine xa_cons 5 (xc_putfF (index := 11) hx hb htsB xC_7 hown rfl (by decide) hin xw_283 rfl (Or.inr ⟨_, rfl⟩) (And.intro (by decide +kernel) rfl)) ?_
  refine xa_cons 6 ((And.intro (by decide) (Or.inl (Exists.intro (0) (And.intro rfl (And.intro (by decide +kernel) rfl)))))) ?_
  refine xa_cons 7 (xc_bipush hx hb (z := 40) (b := 40) (And.intro (by decide +kernel) rfl) (by decide +kernel) ⟨rfl, rfl⟩) ?_
  refine xa_cons 8 (xc_newa hx hb hA (htsB _ xw_211) (Or.inl ⟨by decide, by decide, rfl⟩) (And.intro (by decide +kernel) rfl)) ?_
  refine xa_cons 9 (xc_putfF (index := 17) hx hb htsB xC_7 hown rfl (by decide) hin xw_284 rfl (Or.inr ⟨_, rfl⟩) (And.intro (by decide +kernel) rfl)) ?_
  refine xa_cons 10 ((And.intro (by decide) (Or.inl (Exists.intro (0) (And.intro rfl (And.intro (by decide +kernel) rfl)))))) ?_
  refine xa_cons 11 ((And.intro (by decide) (Or.inl (Exists.intro (1) (And.intro rfl (And.intro (by decide +kernel) rfl)))))) ?_
  refine xa_cons 12 (xc_putfF (index := 20) hx hb htsB xC_7 hown rfl (by decide) hin xw_285 rfl (Or.inl ⟨_, rfl⟩) (And.intro (by decide +kernel) rfl)) ?_
  refine xa_cons 13 ((And.intro (by decide) (Or.inl (Exists.intro (0) (And.intro rfl (And.intro (by decide +kernel) rfl)))))) ?_
  refine xa_cons 14 ((And.intro (by decide) (Or.inl (Exists.intro (2) (And.intro rfl (And.intro (by decide +kernel) rfl)))))) ?_
  refine xa_cons 15 (xc_putfF (index := 24) hx hb htsB xC_7 hown rfl (by decide) hin xw_286 rfl (Or.inl ⟨_, rfl⟩) (And.intro (by decide +kernel) rfl)) ?_
  refine xa_cons 16 ((And.intro hr (by decide +kernel))) ?_
  exact xa_nil
def xrp_16 : Nat → Nat := fun k => ([0, 1, 4, 5, 6, 8, 11, 12, 15, 17, 20, 21, 24, 26, 29, 30, 33, 35, 38, 39, 41, 43, 46, 47, 49, 51, 54, 55, 56, 59, 60, 61, 64] : List Nat).getD k 0
set_option maxRecDepth 20000 in
set_option maxHeartbeats 4000000 in
theorem xz_16 {l : Launch} {D : va_G} {en : XE} : x_Ok xT l D xcl en xrn (xG en) 16 xc_16 := by
  refine ⟨prog_3_method_1_code, none, xBIG, xrp_16, by decide +kernel, rfl, rfl, ?_⟩
  intro p e R s m args below meth c s₁ A Q pc i f1 f2 B hml hA hg hi
  obtain ⟨hx, hb, hr, hown, hlocks, hin, htsB, S⟩ := xb_all (C := "ExpressHouse$FileReader") B hml rfl rfl
  obtain ⟨hgN, hgZ, hgS, hgS2⟩ := xG_all hg
  refine xa_at (i := i) (pc := pc) ?_ hi
  refine xa_cons 0 ((And.intro (by decide) (Or.inl (Exists.intro (0) (And.intro rfl (And.intro (by decide +kernel) rfl)))))) ?_
  refine xa_cons 1 (xc_objinit (own := "ExpressHouse$FileReader") (index := 3) hx hb hml hown htsB xw_287 xw_1 xw_2 (by omega) (by omega) (And.intro (by decide +kernel) rfl)) ?_
  refine xa_cons 2 ((And.intro (by decide) (Or.inl (Exists.intro (0) (And.intro rfl (And.intro (by decide +kernel) rfl)))))) ?_
  refine xa_cons 3 (xc_iconst hx hb (z := 0) (b := 0) (And.intro (by decide +kernel) rfl) (by decide +kernel) ⟨rfl, rfl⟩) ?_
  refine xa_cons 4 (xc_newa hx hb hA (htsB _ xw_3) (Or.inl ⟨by decide, by decide, rfl⟩) (And.intro (by decide +kernel) rfl)) ?_
  refine xa_cons 5 (xc_putf (own := "ExpressHouse$FileReader") (index := 9) hx hb htsB xC_8 hown rfl (by decide) xw_288 rfl (Or.inr ⟨_, rfl⟩) (And.intro (by decide +kernel) rfl)) ?_
  refine xa_cons 6 ((And.intro (by decide) (Or.inl (Exists.intro (0) (And.intro rfl (And.intro (by decide +kernel) rfl)))))) ?_
  refine xa_cons 7 (xc_sipush hx hb (z := 440) (b := 440) (And.intro (by decide +kernel) rfl) (by decide +kernel) ⟨rfl, rfl⟩) ?_
  refine xa_cons 8 (xc_newa hx hb hA (htsB _ xw_211) (Or.inl ⟨by decide, by decide, rfl⟩) (And.intro (by decide +kernel) rfl)) ?_
  refine xa_cons 9 (xc_putfF (index := 15) hx hb htsB xC_8 hown rfl (by decide) hin xw_289 rfl (Or.inr ⟨_, rfl⟩) (And.intro (by decide +kernel) rfl)) ?_
  refine xa_cons 10 ((And.intro (by decide) (Or.inl (Exists.intro (0) (And.intro rfl (And.intro (by decide +kernel) rfl)))))) ?_
  refine xa_cons 11 (xc_sipush hx hb (z := 440) (b := 440) (And.intro (by decide +kernel) rfl) (by decide +kernel) ⟨rfl, rfl⟩) ?_
  refine xa_cons 12 (xc_newa hx hb hA (htsB _ xw_211) (Or.inl ⟨by decide, by decide, rfl⟩) (And.intro (by decide +kernel) rfl)) ?_
  refine xa_cons 13 (xc_putfF (index := 19) hx hb htsB xC_8 hown rfl (by decide) hin xw_290 rfl (Or.inr ⟨_, rfl⟩) (And.intro (by decide +kernel) rfl)) ?_
  refine xa_cons 14 ((And.intro (by decide) (Or.inl (Exists.intro (0) (And.intro rfl (And.intro (by decide +kernel) rfl)))))) ?_
  refine xa_cons 15 (xc_sipush hx hb (z := 440) (b := 440) (And.intro (by decide +kernel) rfl) (by decide +kernel) ⟨rfl, rfl⟩) ?_
  refine xa_cons 16 (xc_newa hx hb hA (htsB _ xw_235) (Or.inl ⟨by decide, by decide, rfl⟩) (And.intro (by decide +kernel) rfl)) ?_
  refine xa_cons 17 (xc_putfF (index := 22) hx hb htsB xC_8 hown rfl (by decide) hin xw_291 rfl (Or.inr ⟨_, rfl⟩) (And.intro (by decide +kernel) rfl)) ?_
  refine xa_cons 18 ((And.intro (by decide) (Or.inl (Exists.intro (0) (And.intro rfl (And.intro (by decide +kernel) rfl)))))) ?_
  refine xa_cons 19 (xc_bipush hx hb (z := 24) (b := 24) (And.intro (by decide +kernel) rfl) (by decide +kernel) ⟨rfl, rfl⟩) ?_
  refine xa_cons 20 (xc_newa hx hb hA (htsB _ xw_214) (Or.inr ⟨rfl, rfl⟩) (And.intro (by decide +kernel) rfl)) ?_
  refine xa_cons 21 (xc_putfF (index := 28) hx hb htsB xC_8 hown rfl (by decide) hin xw_292 rfl (Or.inr ⟨_, rfl⟩) (And.intro (by decide +kernel) rfl)) ?_
  refine xa_cons 22 ((And.intro (by decide) (Or.inl (Exists.intro (0) (And.intro rfl (And.intro (by decide +kernel) rfl)))))) ?_
  refine xa_cons 23 (xc_bipush hx hb (z := 40) (b := 40) (And.intro (by decide +kernel) rfl) (by decide +kernel) ⟨rfl, rfl⟩) ?_
  refine xa_cons 24 (xc_newa hx hb hA (htsB _ xw_211) (Or.inl ⟨by decide, by decide, rfl⟩) (And.intro (by decide +kernel) rfl)) ?_
  refine xa_cons 25 (xc_putfF (index := 34) hx hb htsB xC_8 hown rfl (by decide) hin xw_293 rfl (Or.inr ⟨_, rfl⟩) (And.intro (by decide +kernel) rfl)) ?_
  refine xa_cons 26 ((And.intro (by decide) (Or.inl (Exists.intro (0) (And.intro rfl (And.intro (by decide +kernel) rfl)))))) ?_
  refine xa_cons 27 ((And.intro (by decide) (Or.inl (Exists.intro (1) (And.intro rfl (And.intro (by decide +kernel) rfl)))))) ?_
  refine xa_cons 28 (xc_putfF (index := 37) hx hb htsB xC_8 hown rfl (by decide) hin xw_294 rfl (Or.inl ⟨_, rfl⟩) (And.intro (by decide +kernel) rfl)) ?_
  refine xa_cons 29 ((And.intro (by decide) (Or.inl (Exists.intro (0) (And.intro rfl (And.intro (by decide +kernel) rfl)))))) ?_
  refine xa_cons 30 ((And.intro (by decide) (Or.inl (Exists.intro (2) (And.intro rfl (And.intro (by decide +kernel) rfl)))))) ?_
  refine xa_cons 31 (xc_putfF (index := 41) hx hb htsB xC_8 hown rfl (by decide) hin xw_295 rfl (Or.inl ⟨_, rfl⟩) (And.intro (by decide +kernel) rfl)) ?_
  refine xa_cons 32 ((And.intro hr (by decide +kernel))) ?_
  exact xa_nil
def xrp_17 : Nat → Nat := fun k => ([0, 1, 4, 5, 8, 10, 13, 14, 17, 19, 22, 23, 24, 27] : List Nat).getD k 0
set_option maxRecDepth 20000 in
set_option maxHeartbeats 4000000 in
theorem xz_17 {l : Launch} {D : va_G} {en : XE} : x_Ok xT l D xcl en xrn (xG en) 17 xc_17 := by
  refine ⟨prog_4_method_1_code, none, xBIG, xrp_17, by decide +kernel, rfl, rfl, ?_⟩
  intro p e R s m args below meth c s₁ A Q pc i f1 f2 B hml hA hg hi
  obtain ⟨hx, hb, hr, hown, hlocks, hin, htsB, S⟩ := xb_all (C := "ExpressHouse$FileWriter") B hml rfl rfl
  obtain ⟨hgN, hgZ, hgS, hgS2⟩ := xG_all hg
  refine xa_at (i := i) (pc := pc) ?_ hi
  refine xa_cons 0 ((And.intro (by decide) (Or.inl (Exists.intro (0) (And.intro rfl (And.intro (by decide +kernel) rfl)))))) ?_
  refine xa_cons 1 (xc_objinit (own := "ExpressHouse$FileWriter") (index := 3) hx hb hml hown htsB xw_296 xw_1 xw_2 (by omega) (by omega) (And.intro (by decide +kernel) rfl)) ?_
  refine xa_cons 2 ((And.intro (by decide) (Or.inl (Exists.intro (0) (And.intro rfl (And.intro (by decide +kernel) rfl)))))) ?_
  refine xa_cons 3 (xc_sipush hx hb (z := 6000) (b := 6000) (And.intro (by decide +kernel) rfl) (by decide +kernel) ⟨rfl, rfl⟩) ?_
  refine xa_cons 4 (xc_newa hx hb hA (htsB _ xw_3) (Or.inl ⟨by decide, by decide, rfl⟩) (And.intro (by decide +kernel) rfl)) ?_
  refine xa_cons 5 (xc_putf (own := "ExpressHouse$FileWriter") (index := 11) hx hb htsB xC_9 hown rfl (by decide) xw_297 rfl (Or.inr ⟨_, rfl⟩) (And.intro (by decide +kernel) rfl)) ?_
  refine xa_cons 6 ((And.intro (by decide) (Or.inl (Exists.intro (0) (And.intro rfl (And.intro (by decide +kernel) rfl)))))) ?_
  refine xa_cons 7 (xc_sipush hx hb (z := 6000) (b := 6000) (And.intro (by decide +kernel) rfl) (by decide +kernel) ⟨rfl, rfl⟩) ?_
  refine xa_cons 8 (xc_newa hx hb hA (htsB _ xw_3) (Or.inl ⟨by decide, by decide, rfl⟩) (And.intro (by decide +kernel) rfl)) ?_
  refine xa_cons 9 (xc_putf (own := "ExpressHouse$FileWriter") (index := 15) hx hb htsB xC_9 hown rfl (by decide) xw_298 rfl (Or.inr ⟨_, rfl⟩) (And.intro (by decide +kernel) rfl)) ?_
  refine xa_cons 10 ((And.intro (by decide) (Or.inl (Exists.intro (0) (And.intro rfl (And.intro (by decide +kernel) rfl)))))) ?_
  refine xa_cons 11 ((And.intro (by decide) (Or.inl (Exists.intro (1) (And.intro rfl (And.intro (by decide +kernel) rfl)))))) ?_
  refine xa_cons 12 (xc_putfF (index := 18) hx hb htsB xC_9 hown rfl (by decide) hin xw_299 rfl (Or.inl ⟨_, rfl⟩) (And.intro (by decide +kernel) rfl)) ?_
  refine xa_cons 13 ((And.intro hr (by decide +kernel))) ?_
  exact xa_nil
def xrp_18 : Nat → Nat := fun k => ([0, 1, 4, 5, 6, 9, 10, 11, 14, 15, 16, 19, 20, 21, 24, 25, 26, 29, 30, 31, 34, 35, 38, 41] : List Nat).getD k 0
set_option maxRecDepth 20000 in
set_option maxHeartbeats 4000000 in
theorem xz_18 {l : Launch} {D : va_G} {en : XE} : x_Ok xT l D xcl en xrn (xG en) 18 xc_18 := by
  refine ⟨prog_13_method_1_code, none, xBIG, xrp_18, by decide +kernel, rfl, rfl, ?_⟩
  intro p e R s m args below meth c s₁ A Q pc i f1 f2 B hml hA hg hi
  obtain ⟨hx, hb, hr, hown, hlocks, hin, htsB, S⟩ := xb_all (C := "ExpressHouse$Value") B hml rfl rfl
  obtain ⟨hgN, hgZ, hgS, hgS2⟩ := xG_all hg
  refine xa_at (i := i) (pc := pc) ?_ hi
  refine xa_cons 0 ((And.intro (by decide) (Or.inl (Exists.intro (0) (And.intro rfl (And.intro (by decide +kernel) rfl)))))) ?_
  refine xa_cons 1 (xc_objinit (own := "ExpressHouse$Value") (index := 1) hx hb hml hown htsB xw_300 xw_1 xw_2 (by omega) (by omega) (And.intro (by decide +kernel) rfl)) ?_
  refine xa_cons 2 ((And.intro (by decide) (Or.inl (Exists.intro (0) (And.intro rfl (And.intro (by decide +kernel) rfl)))))) ?_
  refine xa_cons 3 ((And.intro (by decide) (Or.inl (Exists.intro (1) (And.intro rfl (And.intro (by decide +kernel) rfl)))))) ?_
  refine xa_cons 4 (xc_putfF (index := 7) hx hb htsB xC_10 hown rfl (by decide) hin xw_301 rfl (rfl) (And.intro (by decide +kernel) rfl)) ?_
  refine xa_cons 5 ((And.intro (by decide) (Or.inl (Exists.intro (0) (And.intro rfl (And.intro (by decide +kernel) rfl)))))) ?_
  refine xa_cons 6 ((And.intro (by decide) (Or.inl (Exists.intro (2) (And.intro rfl (And.intro (by decide +kernel) rfl)))))) ?_
  refine xa_cons 7 (xc_putfF (index := 13) hx hb htsB xC_10 hown rfl (by decide) hin xw_302 rfl (rfl) (And.intro (by decide +kernel) rfl)) ?_
  refine xa_cons 8 ((And.intro (by decide) (Or.inl (Exists.intro (0) (And.intro rfl (And.intro (by decide +kernel) rfl)))))) ?_
  refine xa_cons 9 (xc_iconst hx hb (z := 0) (b := 0) (And.intro (by decide +kernel) rfl) (by decide +kernel) ⟨rfl, rfl⟩) ?_
  refine xa_cons 10 (xc_putfF (index := 17) hx hb htsB xC_10 hown rfl (by decide) hin xw_303 rfl (rfl) (And.intro (by decide +kernel) rfl)) ?_
  refine xa_cons 11 ((And.intro (by decide) (Or.inl (Exists.intro (0) (And.intro rfl (And.intro (by decide +kernel) rfl)))))) ?_
  refine xa_cons 12 (xc_iconst hx hb (z := 0) (b := 0) (And.intro (by decide +kernel) rfl) (by decide +kernel) ⟨rfl, rfl⟩) ?_
  refine xa_cons 13 (xc_putfF (index := 20) hx hb htsB xC_10 hown rfl (by decide) hin xw_304 rfl (rfl) (And.intro (by decide +kernel) rfl)) ?_
  refine xa_cons 14 ((And.intro (by decide) (Or.inl (Exists.intro (0) (And.intro rfl (And.intro (by decide +kernel) rfl)))))) ?_
  refine xa_cons 15 (xc_iconst hx hb (z := 0) (b := 0) (And.intro (by decide +kernel) rfl) (by decide +kernel) ⟨rfl, rfl⟩) ?_
  refine xa_cons 16 (xc_putfF (index := 23) hx hb htsB xC_10 hown rfl (by decide) hin xw_305 rfl (rfl) (And.intro (by decide +kernel) rfl)) ?_
  refine xa_cons 17 ((And.intro (by decide) (Or.inl (Exists.intro (0) (And.intro rfl (And.intro (by decide +kernel) rfl)))))) ?_
  refine xa_cons 18 (xc_iconst hx hb (z := 0) (b := 0) (And.intro (by decide +kernel) rfl) (by decide +kernel) ⟨rfl, rfl⟩) ?_
  refine xa_cons 19 (xc_putfF (index := 26) hx hb htsB xC_10 hown rfl (by decide) hin xw_306 rfl (rfl) (And.intro (by decide +kernel) rfl)) ?_
  refine xa_cons 20 ((And.intro (by decide) (Or.inl (Exists.intro (0) (And.intro rfl (And.intro (by decide +kernel) rfl)))))) ?_
  refine xa_cons 21 (xc_gets (own := "ExpressHouse$Value") (index := 29) hx hb hgZ hown (htsB _ xw_307) (And.intro (by decide +kernel) rfl) rfl) ?_
  refine xa_cons 22 (xc_putfF (index := 33) hx hb htsB xC_10 hown rfl (by decide) hin xw_308 rfl (Or.inr ⟨_, rfl⟩) (And.intro (by decide +kernel) rfl)) ?_
  refine xa_cons 23 ((And.intro hr (by decide +kernel))) ?_
  exact xa_nil
def xrp_19 : Nat → Nat := fun k => ([0, 1, 4, 5, 6, 7, 10, 13, 14, 15, 16, 17, 20, 21, 24, 25, 26, 29, 30, 31, 34, 35, 36, 39, 40, 43, 46] : List Nat).getD k 0
set_option maxRecDepth 20000 in
set_option maxHeartbeats 4000000 in
theorem xz_19 {l : Launch} {D : va_G} {en : XE} : x_Ok xT l D xcl en xrn (xG en) 19 xc_19 := by
  refine ⟨prog_1_method_6_code, none, xBIG, xrp_19, by decide +kernel, rfl, rfl, ?_⟩
  intro p e R s m args below meth c s₁ A Q pc i f1 f2 B hml hA hg hi
  obtain ⟨hx, hb, hr, hown, hlocks, hin, htsB, S⟩ := xb_all (C := "ExpressHouse") B hml rfl rfl
  obtain ⟨hgN, hgZ, hgS, hgS2⟩ := xG_all hg
  refine xa_at (i := i) (pc := pc) ?_ hi
  refine xa_cons 0 ((And.intro (by decide) (Or.inl (Exists.intro (0) (And.intro rfl (And.intro (by decide +kernel) rfl)))))) ?_
  refine xa_cons 1 (xc_new (own := "ExpressHouse") (index := 88) hx hb htsB xC_10 hown hA rfl rfl xw_57 xw_58 xw_59 (by decide) (by decide +kernel) (And.intro (by decide +kernel) rfl)) ?_
  refine xa_cons 2 ((And.intro (by decide +kernel) rfl)) ?_
  refine xa_cons 3 (xc_iconst hx hb (z := 0) (b := 0) (And.intro (by decide +kernel) rfl) (by decide +kernel) ⟨rfl, rfl⟩) ?_
  refine xa_cons 4 (xc_lconst hx hb (z := 0) (And.intro (by decide +kernel) rfl) ⟨rfl, rfl⟩) ?_
  refine xa_cons 5 ((And.intro (xc_callIN (index := 90) (n := 2) (ci := 10) S xg_18 rfl xw_59 (hgN.1 _ (List.mem_of_getElem? (i := 2) rfl)) xw_60 rfl rfl rfl ⟨by decide, by decide, by decide +kernel⟩ rfl (And.intro (by decide +kernel) rfl)) (by decide +kernel))) ?_
  refine xa_cons 6 (xc_putf (own := "ExpressHouse") (index := 93) hx hb htsB xC_0 hown rfl (by decide) xw_61 rfl (Or.inl ⟨_, rfl⟩) (And.intro (by decide +kernel) rfl)) ?_
  refine xa_cons 7 (xc_iconst hx hb (z := 0) (b := 0) (And.intro (by decide +kernel) rfl) (by decide +kernel) ⟨rfl, rfl⟩) ?_
  refine xa_cons 8 ((And.intro (Or.inl rfl) (Or.inl (Exists.intro (1) (And.intro rfl (And.intro (by decide +kernel) rfl)))))) ?_
  refine xa_cons 9 ((And.intro (by decide) (Or.inl (Exists.intro (1) (And.intro rfl (And.intro (by decide +kernel) rfl)))))) ?_
  refine xa_cons 10 (xc_iconst hx hb (z := 4) (b := 4) (And.intro (by decide +kernel) rfl) (by decide +kernel) ⟨rfl, rfl⟩) ?_
  refine xa_cons 11 ((And.intro (by decide) (Exists.intro (29) (And.intro (by decide +kernel) (And.intro (by decide +kernel) rfl))))) ?_
  refine xa_cons 12 ((And.intro (by decide) (Or.inl (Exists.intro (0) (And.intro rfl (And.intro (by decide +kernel) rfl)))))) ?_
  refine xa_cons 13 (xc_getf (A := A) (own := "ExpressHouse") (index := 97) hx hb htsB xC_0 hown rfl (by decide) xw_62 (And.intro (by decide +kernel) rfl)) ?_
  refine xa_cons 14 ((And.intro (by decide) (Or.inl (Exists.intro (1) (And.intro rfl (And.intro (by decide +kernel) rfl)))))) ?_
  refine xa_cons 15 ((And.intro (by decide) (Or.inl (Exists.intro (0) (And.intro rfl (And.intro (by decide +kernel) rfl)))))) ?_
  refine xa_cons 16 (xc_getf (A := A) (own := "ExpressHouse") (index := 93) hx hb htsB xC_0 hown rfl (by decide) xw_61 (And.intro (by decide +kernel) rfl)) ?_
  refine xa_cons 17 ((And.intro (by decide) (And.intro (by decide +kernel) rfl))) ?_
  refine xa_cons 18 ((And.intro (by decide) (Or.inl (Exists.intro (0) (And.intro rfl (And.intro (by decide +kernel) rfl)))))) ?_
  refine xa_cons 19 (xc_getf (A := A) (own := "ExpressHouse") (index := 101) hx hb htsB xC_0 hown rfl (by decide) xw_63 (And.intro (by decide +kernel) rfl)) ?_
  refine xa_cons 20 ((And.intro (by decide) (Or.inl (Exists.intro (1) (And.intro rfl (And.intro (by decide +kernel) rfl)))))) ?_
  refine xa_cons 21 ((And.intro (by decide) (Or.inl (Exists.intro (0) (And.intro rfl (And.intro (by decide +kernel) rfl)))))) ?_
  refine xa_cons 22 (xc_getf (A := A) (own := "ExpressHouse") (index := 93) hx hb htsB xC_0 hown rfl (by decide) xw_61 (And.intro (by decide +kernel) rfl)) ?_
  refine xa_cons 23 ((And.intro (by decide) (And.intro (by decide +kernel) rfl))) ?_
  refine xa_cons 24 ((Exists.intro (1) (And.intro (And.intro (by decide +kernel) rfl) (by decide +kernel)))) ?_
  refine xa_cons 25 ((Exists.intro (-28) (And.intro (by decide +kernel) (by decide +kernel)))) ?_
  refine xa_cons 26 ((And.intro hr (by decide +kernel))) ?_
  exact xa_nil
def xrp_20 : Nat → Nat := fun k => ([0, 1, 4, 6, 7, 10, 13, 15, 16, 17, 18, 21, 22, 23, 26, 27, 28, 31, 32, 34, 37, 38, 40, 43, 44, 47] : List Nat).getD k 0
set_option maxRecDepth 20000 in
set_option maxHeartbeats 4000000 in
theorem xz_20 {l : Launch} {D : va_G} {en : XE} : x_Ok xT l D xcl en xrn (xG en) 20 xc_20 := by
  refine ⟨prog_1_method_2_code, (some .int), xBIG, xrp_20, by decide +kernel, rfl, rfl, ?_⟩
  intro p e R s m args below meth c s₁ A Q pc i f1 f2 B hml hA hg hi
  obtain ⟨hx, hb, hr, hown, hlocks, hin, htsB, S⟩ := xb_all (C := "ExpressHouse") B hml rfl rfl
  obtain ⟨hgN, hgZ, hgS, hgS2⟩ := xG_all hg
  refine xa_at (i := i) (pc := pc) ?_ hi
  refine xa_cons 0 ((And.intro (by decide) (Or.inl (Exists.intro (0) (And.intro rfl (And.intro (by decide +kernel) rfl)))))) ?_
  refine xa_cons 1 (xc_getf (A := A) (own := "ExpressHouse") (index := 107) hx hb htsB xC_0 hown rfl (by decide) xw_309 (And.intro (by decide +kernel) rfl)) ?_
  refine xa_cons 2 (xc_bipush hx hb (z := 20) (b := 20) (And.intro (by decide +kernel) rfl) (by decide +kernel) ⟨rfl, rfl⟩) ?_
  refine xa_cons 3 ((And.intro (by decide) (And.intro (by decide +kernel) rfl))) ?_
  refine xa_cons 4 (xc_sipush hx hb (z := 3000) (b := 3000) (And.intro (by decide +kernel) rfl) (by decide +kernel) ⟨rfl, rfl⟩) ?_
  refine xa_cons 5 ((And.intro (by decide) (Exists.intro (6) (And.intro (by decide +kernel) (And.intro (by decide +kernel) rfl))))) ?_
  refine xa_cons 6 (xc_bipush hx hb (z := -2) (b := 4294967294) (And.intro (by decide +kernel) rfl) (by decide +kernel) ⟨rfl, rfl⟩) ?_
  refine xa_cons 7 ((And.intro hr (by decide +kernel))) ?_
  refine xa_cons 8 ((And.intro (by decide) (Or.inl (Exists.intro (0) (And.intro rfl (And.intro (by decide +kernel) rfl)))))) ?_
  refine xa_cons 9 ((And.intro (by decide) (Or.inl (Exists.intro (1) (And.intro rfl (And.intro (by decide +kernel) rfl)))))) ?_
  refine xa_cons 10 ((And.intro (xc_callV (index := 111) (n := 1) (ci := 0) S xg_41 rfl xw_64 xw_312 xw_310 xw_311 rfl rfl rfl ⟨by decide, by decide, by decide +kernel⟩ rfl (And.intro (by decide +kernel) rfl)) (by decide +kernel))) ?_
  refine xa_cons 11 ((And.intro (by decide) (Or.inl (Exists.intro (0) (And.intro rfl (And.intro (by decide +kernel) rfl)))))) ?_
  refine xa_cons 12 ((And.intro (by decide) (Or.inl (Exists.intro (2) (And.intro rfl (And.intro (by decide +kernel) rfl)))))) ?_
  refine xa_cons 13 ((And.intro (xc_callV (index := 111) (n := 1) (ci := 0) S xg_41 rfl xw_64 xw_312 xw_310 xw_311 rfl rfl rfl ⟨by decide, by decide, by decide +kernel⟩ rfl (And.intro (by decide +kernel) rfl)) (by decide +kernel))) ?_
  refine xa_cons 14 ((And.intro (by decide) (Or.inl (Exists.intro (0) (And.intro rfl (And.intro (by decide +kernel) rfl)))))) ?_
  refine xa_cons 15 ((And.intro (by decide) (Or.inl (Exists.intro (3) (And.intro rfl (And.intro (by decide +kernel) rfl)))))) ?_
  refine xa_cons 16 ((And.intro (xc_callV (index := 111) (n := 1) (ci := 0) S xg_41 rfl xw_64 xw_312 xw_310 xw_311 rfl rfl rfl ⟨by decide, by decide, by decide +kernel⟩ rfl (And.intro (by decide +kernel) rfl)) (by decide +kernel))) ?_
  refine xa_cons 17 ((And.intro (by decide) (Or.inl (Exists.intro (0) (And.intro rfl (And.intro (by decide +kernel) rfl)))))) ?_
  refine xa_cons 18 ((And.intro (by decide) (Or.inr (And.intro (by decide +kernel) rfl)))) ?_
  refine xa_cons 19 ((And.intro (xc_callV (index := 111) (n := 1) (ci := 0) S xg_41 rfl xw_64 xw_312 xw_310 xw_311 rfl rfl rfl ⟨by decide, by decide, by decide +kernel⟩ rfl (And.intro (by decide +kernel) rfl)) (by decide +kernel))) ?_
  refine xa_cons 20 ((And.intro (by decide) (Or.inl (Exists.intro (0) (And.intro rfl (And.intro (by decide +kernel) rfl)))))) ?_
  refine xa_cons 21 ((And.intro (by decide) (Or.inr (And.intro (by decide +kernel) rfl)))) ?_
  refine xa_cons 22 ((And.intro (xc_callV (index := 111) (n := 1) (ci := 0) S xg_41 rfl xw_64 xw_312 xw_310 xw_311 rfl rfl rfl ⟨by decide, by decide, by decide +kernel⟩ rfl (And.intro (by decide +kernel) rfl)) (by decide +kernel))) ?_
  refine xa_cons 23 ((And.intro (by decide) (Or.inl (Exists.intro (0) (And.intro rfl (And.intro (by decide +kernel) rfl)))))) ?_
  refine xa_cons 24 (xc_getf (A := A) (own := "ExpressHouse") (index := 107) hx hb htsB xC_0 hown rfl (by decide) xw_309 (And.intro (by decide +kernel) rfl)) ?_
  refine xa_cons 25 ((And.intro hr (by decide +kernel))) ?_
  exact xa_nil
def xrp_21 : Nat → Nat := fun k => ([0, 1, 4, 5, 6, 9, 12, 13, 14, 15, 16, 19, 20, 21, 24, 25, 28] : List Nat).getD k 0
set_option maxRecDepth 20000 in
set_option maxHeartbeats 4000000 in
theorem xz_21 {l : Launch} {D : va_G} {en : XE} : x_Ok xT l D xcl en xrn (xG en) 21 xc_21 := by
  refine ⟨prog_1_method_4_code, (some .int), xBIG, xrp_21, by decide +kernel, rfl, rfl, ?_⟩
  intro p e R s m args below meth c s₁ A Q pc i f1 f2 B hml hA hg hi
  obtain ⟨hx, hb, hr, hown, hlocks, hin, htsB, S⟩ := xb_all (C := "ExpressHouse") B hml rfl rfl
  obtain ⟨hgN, hgZ, hgS, hgS2⟩ := xG_all hg
  refine xa_at (i := i) (pc := pc) ?_ hi
  refine xa_cons 0 ((And.intro (by decide) (Or.inl (Exists.intro (1) (And.intro rfl (And.intro (by decide +kernel) rfl)))))) ?_
  refine xa_cons 1 ((And.intro (by decide) (Exists.intro (11) (And.intro (by decide +kernel) (And.intro (by decide +kernel) rfl))))) ?_
  refine xa_cons 2 ((And.intro (by decide) (Or.inl (Exists.intro (1) (And.intro rfl (And.intro (by decide +kernel) rfl)))))) ?_
  refine xa_cons 3 ((And.intro (by decide) (Or.inl (Exists.intro (0) (And.intro rfl (And.intro (by decide +kernel) rfl)))))) ?_
  refine xa_cons 4 (xc_getf (A := A) (own := "ExpressHouse") (index := 107) hx hb htsB xC_0 hown rfl (by decide) xw_309 (And.intro (by decide +kernel) rfl)) ?_
  refine xa_cons 5 ((And.intro (by decide) (Exists.intro (5) (And.intro (by decide +kernel) (And.intro (by decide +kernel) rfl))))) ?_
  refine xa_cons 6 (xc_iconst hx hb (z := -1) (b := 4294967295) (And.intro (by decide +kernel) rfl) (by decide +kernel) ⟨rfl, rfl⟩) ?_
  refine xa_cons 7 ((And.intro hr (by decide +kernel))) ?_
  refine xa_cons 8 ((And.intro (by decide) (Or.inl (Exists.intro (0) (And.intro rfl (And.intro (by decide +kernel) rfl)))))) ?_
  refine xa_cons 9 ((And.intro (by decide +kernel) rfl)) ?_
  refine xa_cons 10 (xc_getf (A := A) (own := "ExpressHouse") (index := 107) hx hb htsB xC_0 hown rfl (by decide) xw_309 (And.intro (by decide +kernel) rfl)) ?_
  refine xa_cons 11 ((And.intro (by decide) (Or.inl (Exists.intro (1) (And.intro rfl (And.intro (by decide +kernel) rfl)))))) ?_
  refine xa_cons 12 ((And.intro (by decide) (And.intro (by decide +kernel) rfl))) ?_
  refine xa_cons 13 (xc_putf (own := "ExpressHouse") (index := 107) hx hb htsB xC_0 hown rfl (by decide) xw_309 rfl (rfl) (And.intro (by decide +kernel) rfl)) ?_
  refine xa_cons 14 ((And.intro (by decide) (Or.inl (Exists.intro (0) (And.intro rfl (And.intro (by decide +kernel) rfl)))))) ?_
  refine xa_cons 15 (xc_getf (A := A) (own := "ExpressHouse") (index := 107) hx hb htsB xC_0 hown rfl (by decide) xw_309 (And.intro (by decide +kernel) rfl)) ?_
  refine xa_cons 16 ((And.intro hr (by decide +kernel))) ?_
  exact xa_nil
def xrp_22 : Nat → Nat := fun k => ([0, 1, 4, 5, 8, 9, 12, 15, 16, 17, 20, 21, 24, 27, 28, 29, 30, 31, 34, 35, 38, 39, 42, 45, 48, 49, 52, 55, 56, 57, 58, 61, 64, 67, 68, 71, 72, 73, 74, 77, 78, 81, 82, 85, 88, 91, 94, 95, 98, 101, 102, 105, 108, 109, 112, 115, 116, 119, 120, 123, 126, 129, 130, 131] : List Nat).getD k 0
set_option maxRecDepth 20000 in
set_option maxHeartbeats 4000000 in
theorem xz_22 {l : Launch} {D : va_G} {en : XE} : x_Ok xT l D xcl en xrn (xG en) 22 xc_22 := by
  refine ⟨prog_1_method_5_code, (some .int), xBIG, xrp_22, by decide +kernel, rfl, rfl, ?_⟩
  intro p e R s m args below meth c s₁ A Q pc i f1 f2 B hml hA hg hi
  obtain ⟨hx, hb, hr, hown, hlocks, hin, htsB, S⟩ := xb_all (C := "ExpressHouse") B hml rfl rfl
  obtain ⟨hgN, hgZ, hgS, hgS2⟩ := xG_all hg
  refine xa_at (i := i) (pc := pc) ?_ hi
  refine xa_cons 0 ((And.intro (by decide) (Or.inl (Exists.intro (0) (And.intro rfl (And.intro (by decide +kernel) rfl)))))) ?_
  refine xa_cons 1 (xc_getf (A := A) (own := "ExpressHouse") (index := 16) hx hb htsB xC_0 hown rfl (by decide) xw_9 (And.intro (by decide +kernel) rfl)) ?_
  refine xa_cons 2 ((And.intro (by decide) (Or.inl (Exists.intro (0) (And.intro rfl (And.intro (by decide +kernel) rfl)))))) ?_
  refine xa_cons 3 (xc_getf (A := A) (own := "ExpressHouse") (index := 9) hx hb htsB xC_0 hown rfl (by decide) xw_4 (And.intro (by decide +kernel) rfl)) ?_
  refine xa_cons 4 ((And.intro (by decide) (Or.inl (Exists.intro (0) (And.intro rfl (And.intro (by decide +kernel) rfl)))))) ?_
  refine xa_cons 5 (xc_getf (A := A) (own := "ExpressHouse") (index := 107) hx hb htsB xC_0 hown rfl (by decide) xw_309 (And.intro (by decide +kernel) rfl)) ?_
  refine xa_cons 6 ((And.intro (xc_callV (index := 115) (n := 2) (ci := 1) S xg_42 rfl xw_7 xw_315 xw_313 xw_314 rfl rfl rfl ⟨by decide, by decide, by decide +kernel⟩ rfl (And.intro (by decide +kernel) rfl)) (by decide +kernel))) ?_
  refine xa_cons 7 ((And.intro (by decide) (Or.inl (Exists.intro (0) (And.intro rfl (And.intro (by decide +kernel) rfl)))))) ?_
  refine xa_cons 8 (xc_iconst hx hb (z := 0) (b := 0) (And.intro (by decide +kernel) rfl) (by decide +kernel) ⟨rfl, rfl⟩) ?_
  refine xa_cons 9 (xc_putf (own := "ExpressHouse") (index := 107) hx hb htsB xC_0 hown rfl (by decide) xw_309 rfl (rfl) (And.intro (by decide +kernel) rfl)) ?_
  refine xa_cons 10 ((And.intro (by decide) (Or.inl (Exists.intro (0) (And.intro rfl (And.intro (by decide +kernel) rfl)))))) ?_
  refine xa_cons 11 (xc_getf (A := A) (own := "ExpressHouse") (index := 50) hx hb htsB xC_0 hown rfl (by decide) xw_32 (And.intro (by decide +kernel) rfl)) ?_
  refine xa_cons 12 ((And.intro (xc_callV (index := 119) (n := 0) (ci := 5) S xg_43 rfl xw_29 xw_318 xw_316 xw_317 rfl rfl rfl ⟨by decide, by decide, by decide +kernel⟩ rfl (And.intro (by decide +kernel) rfl)) (by decide +kernel))) ?_
  refine xa_cons 13 (xc_iconst hx hb (z := 1) (b := 1) (And.intro (by decide +kernel) rfl) (by decide +kernel) ⟨rfl, rfl⟩) ?_
  refine xa_cons 14 ((And.intro (Or.inl rfl) (Or.inl (Exists.intro (1) (And.intro rfl (And.intro (by decide +kernel) rfl)))))) ?_
  refine xa_cons 15 ((And.intro (by decide) (Or.inl (Exists.intro (1) (And.intro rfl (And.intro (by decide +kernel) rfl)))))) ?_
  refine xa_cons 16 (xc_iconst hx hb (z := 3) (b := 3) (And.intro (by decide +kernel) rfl) (by decide +kernel) ⟨rfl, rfl⟩) ?_
  refine xa_cons 17 ((And.intro (by decide) (Exists.intro (17) (And.intro (by decide +kernel) (And.intro (by decide +kernel) rfl))))) ?_
  refine xa_cons 18 ((And.intro (by decide) (Or.inl (Exists.intro (0) (And.intro rfl (And.intro (by decide +kernel) rfl)))))) ?_
  refine xa_cons 19 (xc_getf (A := A) (own := "ExpressHouse") (index := 50) hx hb htsB xC_0 hown rfl (by decide) xw_32 (And.intro (by decide +kernel) rfl)) ?_
  refine xa_cons 20 ((And.intro (by decide) (Or.inl (Exists.intro (1) (And.intro rfl (And.intro (by decide +kernel) rfl)))))) ?_
  refine xa_cons 21 ((And.intro (xc_callV (index := 122) (n := 1) (ci := 5) S xg_44 rfl xw_29 xw_321 xw_319 xw_320 rfl rfl rfl ⟨by decide, by decide, by decide +kernel⟩ rfl (And.intro (by decide +kernel) rfl)) (by decide +kernel))) ?_
  refine xa_cons 22 ((Exists.intro (1) (And.intro (And.intro (by decide +kernel) rfl) (by decide +kernel)))) ?_
  refine xa_cons 23 ((Exists.intro (-16) (And.intro (by decide +kernel) (by decide +kernel)))) ?_
  refine xa_cons 24 ((And.intro (by decide) (Or.inl (Exists.intro (0) (And.intro rfl (And.intro (by decide +kernel) rfl)))))) ?_
  refine xa_cons 25 (xc_getf (A := A) (own := "ExpressHouse") (index := 16) hx hb htsB xC_0 hown rfl (by decide) xw_9 (And.intro (by decide +kernel) rfl)) ?_
  refine xa_cons 26 ((And.intro (xc_callV (index := 125) (n := 0) (ci := 1) S xg_45 rfl xw_7 xw_324 xw_322 xw_323 rfl rfl rfl ⟨by decide, by decide, by decide +kernel⟩ rfl (And.intro (by decide +kernel) rfl)) (by decide +kernel))) ?_
  refine xa_cons 27 ((And.intro (Or.inl rfl) (Or.inl (Exists.intro (1) (And.intro rfl (And.intro (by decide +kernel) rfl)))))) ?_
  refine xa_cons 28 ((And.intro (by decide) (Or.inl (Exists.intro (0) (And.intro rfl (And.intro (by decide +kernel) rfl)))))) ?_
  refine xa_cons 29 ((And.intro (by decide) (Or.inl (Exists.intro (0) (And.intro rfl (And.intro (by decide +kernel) rfl)))))) ?_
  refine xa_cons 30 (xc_getf (A := A) (own := "ExpressHouse") (index := 16) hx hb htsB xC_0 hown rfl (by decide) xw_9 (And.intro (by decide +kernel) rfl)) ?_
  refine xa_cons 31 (xc_getf (A := A) (own := "ExpressHouse") (index := 129) hx hb htsB xC_1 hown rfl (by decide) xw_325 (And.intro (by decide +kernel) rfl)) ?_
  refine xa_cons 32 (xc_putf (own := "ExpressHouse") (index := 132) hx hb htsB xC_0 hown rfl (by decide) xw_326 rfl (rfl) (And.intro (by decide +kernel) rfl)) ?_
  refine xa_cons 33 ((And.intro (by decide) (Or.inl (Exists.intro (1) (And.intro rfl (And.intro (by decide +kernel) rfl)))))) ?_
  refine xa_cons 34 ((And.intro (by decide) (Exists.intro (5) (And.intro (by decide +kernel) (And.intro (by decide +kernel) rfl))))) ?_
  refine xa_cons 35 ((And.intro (by decide) (Or.inl (Exists.intro (1) (And.intro rfl (And.intro (by decide +kernel) rfl)))))) ?_
  refine xa_cons 36 ((And.intro hr (by decide +kernel))) ?_
  refine xa_cons 37 ((And.intro (by decide) (Or.inl (Exists.intro (0) (And.intro rfl (And.intro (by decide +kernel) rfl)))))) ?_
  refine xa_cons 38 (xc_getf (A := A) (own := "ExpressHouse") (index := 28) hx hb htsB xC_0 hown rfl (by decide) xw_19 (And.intro (by decide +kernel) rfl)) ?_
  refine xa_cons 39 ((And.intro (by decide) (Or.inl (Exists.intro (0) (And.intro rfl (And.intro (by decide +kernel) rfl)))))) ?_
  refine xa_cons 40 (xc_getf (A := A) (own := "ExpressHouse") (index := 50) hx hb htsB xC_0 hown rfl (by decide) xw_32 (And.intro (by decide +kernel) rfl)) ?_
  refine xa_cons 41 ((And.intro (by decide) (Or.inl (Exists.intro (0) (And.intro rfl (And.intro (by decide +kernel) rfl)))))) ?_
  refine xa_cons 42 (xc_getf (A := A) (own := "ExpressHouse") (index := 28) hx hb htsB xC_0 hown rfl (by decide) xw_19 (And.intro (by decide +kernel) rfl)) ?_
  refine xa_cons 43 (xc_getf (A := A) (own := "ExpressHouse") (index := 34) hx hb htsB xC_2 hown rfl (by decide) xw_23 (And.intro (by decide +kernel) rfl)) ?_
  refine xa_cons 44 ((And.intro (xc_callV (index := 135) (n := 1) (ci := 5) S xg_46 rfl xw_29 xw_329 xw_327 xw_328 rfl rfl rfl ⟨by decide, by decide, by decide +kernel⟩ rfl (And.intro (by decide +kernel) rfl)) (by decide +kernel))) ?_
  refine xa_cons 45 (xc_putf (own := "ExpressHouse") (index := 34) hx hb htsB xC_2 hown rfl (by decide) xw_23 rfl (Or.inl ⟨_, rfl⟩) (And.intro (by decide +kernel) rfl)) ?_
  refine xa_cons 46 ((And.intro (by decide) (Or.inl (Exists.intro (0) (And.intro rfl (And.intro (by decide +kernel) rfl)))))) ?_
  refine xa_cons 47 (xc_getf (A := A) (own := "ExpressHouse") (index := 28) hx hb htsB xC_0 hown rfl (by decide) xw_19 (And.intro (by decide +kernel) rfl)) ?_
  refine xa_cons 48 ((And.intro (xc_callV (index := 139) (n := 0) (ci := 2) S xg_47 rfl xw_12 xw_332 xw_330 xw_331 rfl rfl rfl ⟨by decide, by decide, by decide +kernel⟩ rfl (And.intro (by decide +kernel) rfl)) (by decide +kernel))) ?_
  refine xa_cons 49 ((And.intro (by decide) (Or.inl (Exists.intro (0) (And.intro rfl (And.intro (by decide +kernel) rfl)))))) ?_
  refine xa_cons 50 (xc_getf (A := A) (own := "ExpressHouse") (index := 68) hx hb htsB xC_0 hown rfl (by decide) xw_44 (And.intro (by decide +kernel) rfl)) ?_
  refine xa_cons 51 ((And.intro (xc_callV (index := 142) (n := 0) (ci := 7) S xg_48 rfl xw_41 xw_335 xw_333 xw_334 rfl rfl rfl ⟨by decide, by decide, by decide +kernel⟩ rfl (And.intro (by decide +kernel) rfl)) (by decide +kernel))) ?_
  refine xa_cons 52 ((And.intro (by decide) (Or.inl (Exists.intro (0) (And.intro rfl (And.intro (by decide +kernel) rfl)))))) ?_
  refine xa_cons 53 (xc_getf (A := A) (own := "ExpressHouse") (index := 77) hx hb htsB xC_0 hown rfl (by decide) xw_50 (And.intro (by decide +kernel) rfl)) ?_
  refine xa_cons 54 ((And.intro (xc_callV (index := 143) (n := 0) (ci := 8) S xg_49 rfl xw_47 xw_338 xw_336 xw_337 rfl rfl rfl ⟨by decide, by decide, by decide +kernel⟩ rfl (And.intro (by decide +kernel) rfl)) (by decide +kernel))) ?_
  refine xa_cons 55 ((And.intro (by decide) (Or.inl (Exists.intro (0) (And.intro rfl (And.intro (by decide +kernel) rfl)))))) ?_
  refine xa_cons 56 ((And.intro (xc_callV (index := 104) (n := 0) (ci := 0) S xg_19 rfl xw_64 xw_67 xw_65 xw_66 rfl rfl rfl ⟨by decide, by decide, by decide +kernel⟩ rfl (And.intro (by decide +kernel) rfl)) (by decide +kernel))) ?_
  refine xa_cons 57 ((And.intro (by decide) (Or.inl (Exists.intro (0) (And.intro rfl (And.intro (by decide +kernel) rfl)))))) ?_
  refine xa_cons 58 (xc_getf (A := A) (own := "ExpressHouse") (index := 28) hx hb htsB xC_0 hown rfl (by decide) xw_19 (And.intro (by decide +kernel) rfl)) ?_
  refine xa_cons 59 (xc_getf (A := A) (own := "ExpressHouse") (index := 34) hx hb htsB xC_2 hown rfl (by decide) xw_23 (And.intro (by decide +kernel) rfl)) ?_
  refine xa_cons 60 (xc_getf (A := A) (own := "ExpressHouse") (index := 146) hx hb htsB xC_3 hown rfl (by decide) xw_339 (And.intro (by decide +kernel) rfl)) ?_
  refine xa_cons 61 (xc_iconst hx hb (z := 2) (b := 2) (And.intro (by decide +kernel) rfl) (by decide +kernel) ⟨rfl, rfl⟩) ?_
  refine xa_cons 62 ((And.intro (by decide) (And.intro (by decide +kernel) rfl))) ?_
  refine xa_cons 63 ((And.intro hr (by decide +kernel))) ?_
  exact xa_nil
def xrp_23 : Nat → Nat := fun k => ([0, 1, 4, 7, 8, 11, 14, 15, 16, 17, 20, 23, 24, 27, 28, 29, 32, 34, 35, 36, 37, 38, 41, 44, 46, 49, 51, 54, 55, 58, 59, 62] : List Nat).getD k 0
set_option maxRecDepth 20000 in
set_option maxHeartbeats 4000000 in
theorem xz_23 {l : Launch} {D : va_G} {en : XE} : x_Ok xT l D xcl en xrn (xG en) 23 xc_23 := by
  refine ⟨prog_1_method_14_code, (some .int), xBIG, xrp_23, by decide +kernel, rfl, rfl, ?_⟩
  intro p e R s m args below meth c s₁ A Q pc i f1 f2 B hml hA hg hi
  obtain ⟨hx, hb, hr, hown, hlocks, hin, htsB, S⟩ := xb_all (C := "ExpressHouse") B hml rfl rfl
  obtain ⟨hgN, hgZ, hgS, hgS2⟩ := xG_all hg
  refine xa_at (i := i) (pc := pc) ?_ hi
  refine xa_cons 0 ((And.intro (by decide) (Or.inl (Exists.intro (0) (And.intro rfl (And.intro (by decide +kernel) rfl)))))) ?_
  refine xa_cons 1 (xc_getf (A := A) (own := "ExpressHouse") (index := 28) hx hb htsB xC_0 hown rfl (by decide) xw_19 (And.intro (by decide +kernel) rfl)) ?_
  refine xa_cons 2 (xc_getf (A := A) (own := "ExpressHouse") (index := 34) hx hb htsB xC_2 hown rfl (by decide) xw_23 (And.intro (by decide +kernel) rfl)) ?_
  refine xa_cons 3 ((And.intro (by decide) (Or.inl (Exists.intro (1) (And.intro rfl (And.intro (by decide +kernel) rfl)))))) ?_
  refine xa_cons 4 ((And.intro (xc_callV (index := 192) (n := 1) (ci := 3) S xg_50 rfl xw_15 xw_342 xw_340 xw_341 rfl rfl rfl ⟨by decide, by decide, by decide +kernel⟩ rfl (And.intro (by decide +kernel) rfl)) (by decide +kernel))) ?_
  refine xa_cons 5 ((And.intro (by decide) (Exists.intro (5) (And.intro (by decide +kernel) (And.intro (by decide +kernel) rfl))))) ?_
  refine xa_cons 6 (xc_iconst hx hb (z := -1) (b := 4294967295) (And.intro (by decide +kernel) rfl) (by decide +kernel) ⟨rfl, rfl⟩) ?_
  refine xa_cons 7 ((And.intro hr (by decide +kernel))) ?_
  refine xa_cons 8 ((And.intro (by decide) (Or.inl (Exists.intro (0) (And.intro rfl (And.intro (by decide +kernel) rfl)))))) ?_
  refine xa_cons 9 (xc_getf (A := A) (own := "ExpressHouse") (index := 28) hx hb htsB xC_0 hown rfl (by decide) xw_19 (And.intro (by decide +kernel) rfl)) ?_
  refine xa_cons 10 (xc_getf (A := A) (own := "ExpressHouse") (index := 34) hx hb htsB xC_2 hown rfl (by decide) xw_23 (And.intro (by decide +kernel) rfl)) ?_
  refine xa_cons 11 ((And.intro (by decide) (Or.inl (Exists.intro (1) (And.intro rfl (And.intro (by decide +kernel) rfl)))))) ?_
  refine xa_cons 12 ((And.intro (xc_callV (index := 196) (n := 1) (ci := 3) S xg_51 rfl xw_15 xw_345 xw_343 xw_344 rfl rfl rfl ⟨by decide, by decide, by decide +kernel⟩ rfl (And.intro (by decide +kernel) rfl)) (by decide +kernel))) ?_
  refine xa_cons 13 ((And.intro (Or.inl rfl) (Or.inl (Exists.intro (2) (And.intro rfl (And.intro (by decide +kernel) rfl)))))) ?_
  refine xa_cons 14 ((And.intro (by decide) (Or.inl (Exists.intro (2) (And.intro rfl (And.intro (by decide +kernel) rfl)))))) ?_
  refine xa_cons 15 ((And.intro (by decide) (Exists.intro (8) (And.intro (by decide +kernel) (And.intro (by decide +kernel) rfl))))) ?_
  refine xa_cons 16 (xc_bipush hx hb (z := -10) (b := 4294967286) (And.intro (by decide +kernel) rfl) (by decide +kernel) ⟨rfl, rfl⟩) ?_
  refine xa_cons 17 ((And.intro (by decide) (Or.inl (Exists.intro (2) (And.intro rfl (And.intro (by decide +kernel) rfl)))))) ?_
  refine xa_cons 18 ((And.intro (by decide) (And.intro (by decide +kernel) rfl))) ?_
  refine xa_cons 19 ((And.intro hr (by decide +kernel))) ?_
  refine xa_cons 20 ((And.intro (by decide) (Or.inl (Exists.intro (0) (And.intro rfl (And.intro (by decide +kernel) rfl)))))) ?_
  refine xa_cons 21 (xc_getf (A := A) (own := "ExpressHouse") (index := 28) hx hb htsB xC_0 hown rfl (by decide) xw_19 (And.intro (by decide +kernel) rfl)) ?_
  refine xa_cons 22 (xc_getf (A := A) (own := "ExpressHouse") (index := 156) hx hb htsB xC_2 hown rfl (by decide) xw_346 (And.intro (by decide +kernel) rfl)) ?_
  refine xa_cons 23 (xc_bipush hx hb (z := 40) (b := 40) (And.intro (by decide +kernel) rfl) (by decide +kernel) ⟨rfl, rfl⟩) ?_
  refine xa_cons 24 ((And.intro (by decide) (Exists.intro (8) (And.intro (by decide +kernel) (And.intro (by decide +kernel) rfl))))) ?_
  refine xa_cons 25 (xc_bipush hx hb (z := -2) (b := 4294967294) (And.intro (by decide +kernel) rfl) (by decide +kernel) ⟨rfl, rfl⟩) ?_
  refine xa_cons 26 ((Exists.intro (11) (And.intro (by decide +kernel) (by decide +kernel)))) ?_
  refine xa_cons 27 ((And.intro (by decide) (Or.inl (Exists.intro (0) (And.intro rfl (And.intro (by decide +kernel) rfl)))))) ?_
  refine xa_cons 28 (xc_getf (A := A) (own := "ExpressHouse") (index := 28) hx hb htsB xC_0 hown rfl (by decide) xw_19 (And.intro (by decide +kernel) rfl)) ?_
  refine xa_cons 29 ((And.intro (by decide) (Or.inl (Exists.intro (1) (And.intro rfl (And.intro (by decide +kernel) rfl)))))) ?_
  refine xa_cons 30 ((And.intro (xc_callV (index := 203) (n := 1) (ci := 2) S xg_52 rfl xw_12 xw_349 xw_347 xw_348 rfl rfl rfl ⟨by decide, by decide, by decide +kernel⟩ rfl (And.intro (by decide +kernel) rfl)) (by decide +kernel))) ?_
  refine xa_cons 31 ((And.intro hr (by decide +kernel))) ?_
  exact xa_nil
def xrp_24 : Nat → Nat := fun k => ([0, 1, 4, 5, 6, 9, 12, 13, 16, 19, 22, 23, 24, 25, 26, 29, 30, 31, 32, 35, 36, 37, 40, 41, 42, 43, 46, 49, 50, 53, 54, 55, 58, 61, 64, 66, 67, 70, 73, 76, 78, 79, 80, 83, 86, 89, 90, 91, 92, 93, 95, 96, 99, 101, 103, 106, 108, 109, 112, 114, 116, 119, 122, 124, 125, 126, 129, 130, 131, 133, 136, 138, 141] : List Nat).getD k 0
set_option maxRecDepth 20000 in
set_option maxHeartbeats 4000000 in
theorem xz_24 {l : Launch} {D : va_G} {en : XE} : x_Ok xT l D xcl en xrn (xG en) 24 xc_24 := by
  refine ⟨prog_1_method_17_code, (some .int), xBIG, xrp_24, by decide +kernel, rfl, rfl, ?_⟩
  intro p e R s m args below meth c s₁ A Q pc i f1 f2 B hml hA hg hi
  obtain ⟨hx, hb, hr, hown, hlocks, hin, htsB, S⟩ := xb_all (C := "ExpressHouse") B hml rfl rfl
  obtain ⟨hgN, hgZ, hgS, hgS2⟩ := xG_all hg
  refine xa_at (i := i) (pc := pc) ?_ hi
  refine xa_cons 0 ((And.intro (by decide) (Or.inl (Exists.intro (0) (And.intro rfl (And.intro (by decide +kernel) rfl)))))) ?_
  refine xa_cons 1 (xc_getf (A := A) (own := "ExpressHouse") (index := 28) hx hb htsB xC_0 hown rfl (by decide) xw_19 (And.intro (by decide +kernel) rfl)) ?_
  refine xa_cons 2 ((And.intro (by decide) (Or.inl (Exists.intro (1) (And.intro rfl (And.intro (by decide +kernel) rfl)))))) ?_
  refine xa_cons 3 ((And.intro (by decide) (Or.inl (Exists.intro (2) (And.intro rfl (And.intro (by decide +kernel) rfl)))))) ?_
  refine xa_cons 4 ((And.intro (xc_callV (index := 215) (n := 2) (ci := 2) S xg_53 rfl xw_12 xw_352 xw_350 xw_351 rfl rfl rfl ⟨by decide, by decide, by decide +kernel⟩ rfl (And.intro (by decide +kernel) rfl)) (by decide +kernel))) ?_
  refine xa_cons 5 ((And.intro (by decide) (Exists.intro (20) (And.intro (by decide +kernel) (And.intro (by decide +kernel) rfl))))) ?_
  refine xa_cons 6 ((And.intro (by decide) (Or.inl (Exists.intro (0) (And.intro rfl (And.intro (by decide +kernel) rfl)))))) ?_
  refine xa_cons 7 (xc_getf (A := A) (own := "ExpressHouse") (index := 28) hx hb htsB xC_0 hown rfl (by decide) xw_19 (And.intro (by decide +kernel) rfl)) ?_
  refine xa_cons 8 (xc_getf (A := A) (own := "ExpressHouse") (index := 34) hx hb htsB xC_2 hown rfl (by decide) xw_23 (And.intro (by decide +kernel) rfl)) ?_
  refine xa_cons 9 (xc_getf (A := A) (own := "ExpressHouse") (index := 185) hx hb htsB xC_3 hown rfl (by decide) xw_353 (And.intro (by decide +kernel) rfl)) ?_
  refine xa_cons 10 ((And.intro (by decide) (Or.inl (Exists.intro (2) (And.intro rfl (And.intro (by decide +kernel) rfl)))))) ?_
  refine xa_cons 11 ((And.intro (by decide) (And.intro (by decide +kernel) rfl))) ?_
  refine xa_cons 12 (xc_iconst hx hb (z := 1) (b := 1) (And.intro (by decide +kernel) rfl) (by decide +kernel) ⟨rfl, rfl⟩) ?_
  refine xa_cons 13 ((And.intro (by decide) (And.intro (by decide +kernel) rfl))) ?_
  refine xa_cons 14 ((And.intro (by decide) (Exists.intro (5) (And.intro (by decide +kernel) (And.intro (by decide +kernel) rfl))))) ?_
  refine xa_cons 15 (xc_iconst hx hb (z := -1) (b := 4294967295) (And.intro (by decide +kernel) rfl) (by decide +kernel) ⟨rfl, rfl⟩) ?_
  refine xa_cons 16 ((And.intro hr (by decide +kernel))) ?_
  refine xa_cons 17 ((And.intro (by decide) (Or.inl (Exists.intro (0) (And.intro rfl (And.intro (by decide +kernel) rfl)))))) ?_
  refine xa_cons 18 ((And.intro (xc_callV (index := 219) (n := 0) (ci := 0) S xg_54 rfl xw_64 xw_356 xw_354 xw_355 rfl rfl rfl ⟨by decide, by decide, by decide +kernel⟩ rfl (And.intro (by decide +kernel) rfl)) (by decide +kernel))) ?_
  refine xa_cons 19 ((And.intro (Or.inl rfl) (Or.inl (Exists.intro (3) (And.intro rfl (And.intro (by decide +kernel) rfl)))))) ?_
  refine xa_cons 20 ((And.intro (by decide) (Or.inl (Exists.intro (3) (And.intro rfl (And.intro (by decide +kernel) rfl)))))) ?_
  refine xa_cons 21 ((And.intro (by decide) (Exists.intro (5) (And.intro (by decide +kernel) (And.intro (by decide +kernel) rfl))))) ?_
  refine xa_cons 22 ((And.intro (by decide) (Or.inl (Exists.intro (3) (And.intro rfl (And.intro (by decide +kernel) rfl)))))) ?_
  refine xa_cons 23 ((And.intro hr (by decide +kernel))) ?_
  refine xa_cons 24 ((And.intro (by decide) (Or.inl (Exists.intro (0) (And.intro rfl (And.intro (by decide +kernel) rfl)))))) ?_
  refine xa_cons 25 (xc_getf (A := A) (own := "ExpressHouse") (index := 28) hx hb htsB xC_0 hown rfl (by decide) xw_19 (And.intro (by decide +kernel) rfl)) ?_
  refine xa_cons 26 ((And.intro (xc_callV (index := 222) (n := 0) (ci := 2) S xg_55 rfl xw_12 xw_359 xw_357 xw_358 rfl rfl rfl ⟨by decide, by decide, by decide +kernel⟩ rfl (And.intro (by decide +kernel) rfl)) (by decide +kernel))) ?_
  refine xa_cons 27 ((And.intro (by decide) (Or.inl (Exists.intro (0) (And.intro rfl (And.intro (by decide +kernel) rfl)))))) ?_
  refine xa_cons 28 (xc_getf (A := A) (own := "ExpressHouse") (index := 59) hx hb htsB xC_0 hown rfl (by decide) xw_38 (And.intro (by decide +kernel) rfl)) ?_
  refine xa_cons 29 ((And.intro (by decide) (Or.inl (Exists.intro (3) (And.intro rfl (And.intro (by decide +kernel) rfl)))))) ?_
  refine xa_cons 30 ((And.intro (by decide) (Or.inl (Exists.intro (0) (And.intro rfl (And.intro (by decide +kernel) rfl)))))) ?_
  refine xa_cons 31 (xc_getf (A := A) (own := "ExpressHouse") (index := 28) hx hb htsB xC_0 hown rfl (by decide) xw_19 (And.intro (by decide +kernel) rfl)) ?_
  refine xa_cons 32 (xc_getf (A := A) (own := "ExpressHouse") (index := 225) hx hb htsB xC_2 hown rfl (by decide) xw_360 (And.intro (by decide +kernel) rfl)) ?_
  refine xa_cons 33 ((And.intro (xc_callV (index := 228) (n := 2) (ci := 6) S xg_56 rfl xw_35 xw_363 xw_361 xw_362 rfl rfl rfl ⟨by decide, by decide, by decide +kernel⟩ rfl (And.intro (by decide +kernel) rfl)) (by decide +kernel))) ?_
  refine xa_cons 34 ((And.intro (Or.inr rfl) (Or.inr (And.intro (by decide +kernel) rfl)))) ?_
  refine xa_cons 35 ((And.intro (by decide) (Or.inl (Exists.intro (0) (And.intro rfl (And.intro (by decide +kernel) rfl)))))) ?_
  refine xa_cons 36 (xc_getf (A := A) (own := "ExpressHouse") (index := 59) hx hb htsB xC_0 hown rfl (by decide) xw_38 (And.intro (by decide +kernel) rfl)) ?_
  refine xa_cons 37 (xc_getf (A := A) (own := "ExpressHouse") (index := 232) hx hb htsB xC_6 hown rfl (by decide) xw_364 (And.intro (by decide +kernel) rfl)) ?_
  refine xa_cons 38 ((And.intro (by decide) (Exists.intro (6) (And.intro (by decide +kernel) (And.intro (by decide +kernel) rfl))))) ?_
  refine xa_cons 39 (xc_bipush hx hb (z := -4) (b := 4294967292) (And.intro (by decide +kernel) rfl) (by decide +kernel) ⟨rfl, rfl⟩) ?_
  refine xa_cons 40 ((And.intro hr (by decide +kernel))) ?_
  refine xa_cons 41 ((And.intro (by decide) (Or.inl (Exists.intro (0) (And.intro rfl (And.intro (by decide +kernel) rfl)))))) ?_
  refine xa_cons 42 (xc_getf (A := A) (own := "ExpressHouse") (index := 28) hx hb htsB xC_0 hown rfl (by decide) xw_19 (And.intro (by decide +kernel) rfl)) ?_
  refine xa_cons 43 (xc_getf (A := A) (own := "ExpressHouse") (index := 34) hx hb htsB xC_2 hown rfl (by decide) xw_23 (And.intro (by decide +kernel) rfl)) ?_
  refine xa_cons 44 (xc_getf (A := A) (own := "ExpressHouse") (index := 185) hx hb htsB xC_3 hown rfl (by decide) xw_353 (And.intro (by decide +kernel) rfl)) ?_
  refine xa_cons 45 ((And.intro (by decide) (Or.inl (Exists.intro (2) (And.intro rfl (And.intro (by decide +kernel) rfl)))))) ?_
  refine xa_cons 46 ((And.intro (by decide) (And.intro (by decide +kernel) rfl))) ?_
  refine xa_cons 47 (xc_iconst hx hb (z := 3) (b := 3) (And.intro (by decide +kernel) rfl) (by decide +kernel) ⟨rfl, rfl⟩) ?_
  refine xa_cons 48 ((And.intro (by decide) (And.intro (by decide +kernel) rfl))) ?_
  refine xa_cons 49 ((And.intro (Or.inl rfl) (Or.inr (And.intro (by decide +kernel) rfl)))) ?_
  refine xa_cons 50 ((And.intro (by decide) (Or.inl (Exists.intro (0) (And.intro rfl (And.intro (by decide +kernel) rfl)))))) ?_
  refine xa_cons 51 (xc_getf (A := A) (own := "ExpressHouse") (index := 28) hx hb htsB xC_0 hown rfl (by decide) xw_19 (And.intro (by decide +kernel) rfl)) ?_
  refine xa_cons 52 ((And.intro (by decide) (Or.inr (And.intro (by decide +kernel) rfl)))) ?_
  refine xa_cons 53 ((And.intro (by decide) (Or.inr (And.intro (by decide +kernel) rfl)))) ?_
  refine xa_cons 54 ((And.intro (xc_callV (index := 236) (n := 2) (ci := 2) S xg_57 rfl xw_12 xw_367 xw_365 xw_366 rfl rfl rfl ⟨by decide, by decide, by decide +kernel⟩ rfl (And.intro (by decide +kernel) rfl)) (by decide +kernel))) ?_
  refine xa_cons 55 ((And.intro (Or.inr rfl) (Or.inr (And.intro (by decide +kernel) rfl)))) ?_
  refine xa_cons 56 ((And.intro (by decide) (Or.inl (Exists.intro (0) (And.intro rfl (And.intro (by decide +kernel) rfl)))))) ?_
  refine xa_cons 57 (xc_getf (A := A) (own := "ExpressHouse") (index := 28) hx hb htsB xC_0 hown rfl (by decide) xw_19 (And.intro (by decide +kernel) rfl)) ?_
  refine xa_cons 58 ((And.intro (by decide) (Or.inr (And.intro (by decide +kernel) rfl)))) ?_
  refine xa_cons 59 ((And.intro (by decide) (Or.inr (And.intro (by decide +kernel) rfl)))) ?_
  refine xa_cons 60 ((And.intro (xc_callV (index := 240) (n := 2) (ci := 2) S xg_58 rfl xw_12 xw_370 xw_368 xw_369 rfl rfl rfl ⟨by decide, by decide, by decide +kernel⟩ rfl (And.intro (by decide +kernel) rfl)) (by decide +kernel))) ?_
  refine xa_cons 61 ((And.intro (by decide) (Exists.intro (6) (And.intro (by decide +kernel) (And.intro (by decide +kernel) rfl))))) ?_
  refine xa_cons 62 (xc_bipush hx hb (z := -3) (b := 4294967293) (And.intro (by decide +kernel) rfl) (by decide +kernel) ⟨rfl, rfl⟩) ?_
  refine xa_cons 63 ((And.intro hr (by decide +kernel))) ?_
  refine xa_cons 64 ((And.intro (by decide) (Or.inl (Exists.intro (0) (And.intro rfl (And.intro (by decide +kernel) rfl)))))) ?_
  refine xa_cons 65 (xc_getf (A := A) (own := "ExpressHouse") (index := 28) hx hb htsB xC_0 hown rfl (by decide) xw_19 (And.intro (by decide +kernel) rfl)) ?_
  refine xa_cons 66 ((And.intro (by decide) (Or.inl (Exists.intro (1) (And.intro rfl (And.intro (by decide +kernel) rfl)))))) ?_
  refine xa_cons 67 ((And.intro (by decide) (Or.inl (Exists.intro (2) (And.intro rfl (And.intro (by decide +kernel) rfl)))))) ?_
  refine xa_cons 68 ((And.intro (by decide) (Or.inr (And.intro (by decide +kernel) rfl)))) ?_
  refine xa_cons 69 ((And.intro (xc_callV (index := 244) (n := 3) (ci := 2) S xg_59 rfl xw_12 xw_373 xw_371 xw_372 rfl rfl rfl ⟨by decide, by decide, by decide +kernel⟩ rfl (And.intro (by decide +kernel) rfl)) (by decide +kernel))) ?_
  refine xa_cons 70 ((And.intro (by decide) (Or.inr (And.intro (by decide +kernel) rfl)))) ?_
  refine xa_cons 71 (xc_getf (A := A) (own := "ExpressHouse") (index := 248) hx hb htsB xC_10 hown rfl (by decide) xw_374 (And.intro (by decide +kernel) rfl)) ?_
  refine xa_cons 72 ((And.intro hr (by decide +kernel))) ?_
  exact xa_nil
def xrp_25 : Nat → Nat := fun k => ([0, 1, 4, 5, 8, 11, 12, 13, 14, 17, 18, 21, 22] : List Nat).getD k 0
set_option maxRecDepth 20000 in
set_option maxHeartbeats 4000000 in
theorem xz_25 {l : Launch} {D : va_G} {en : XE} : x_Ok xT l D xcl en xrn (xG en) 25 xc_25 := by
  refine ⟨prog_1_method_15_code, (some .int), xBIG, xrp_25, by decide +kernel, rfl, rfl, ?_⟩
  intro p e R s m args below meth c s₁ A Q pc i f1 f2 B hml hA hg hi
  obtain ⟨hx, hb, hr, hown, hlocks, hin, htsB, S⟩ := xb_all (C := "ExpressHouse") B hml rfl rfl
  obtain ⟨hgN, hgZ, hgS, hgS2⟩ := xG_all hg
  refine xa_at (i := i) (pc := pc) ?_ hi
  refine xa_cons 0 ((And.intro (by decide) (Or.inl (Exists.intro (0) (And.intro rfl (And.intro (by decide +kernel) rfl)))))) ?_
  refine xa_cons 1 (xc_getf (A := A) (own := "ExpressHouse") (index := 28) hx hb htsB xC_0 hown rfl (by decide) xw_19 (And.intro (by decide +kernel) rfl)) ?_
  refine xa_cons 2 ((And.intro (by decide) (Or.inl (Exists.intro (1) (And.intro rfl (And.intro (by decide +kernel) rfl)))))) ?_
  refine xa_cons 3 ((And.intro (xc_callV (index := 206) (n := 1) (ci := 2) S xg_60 rfl xw_12 xw_377 xw_375 xw_376 rfl rfl rfl ⟨by decide, by decide, by decide +kernel⟩ rfl (And.intro (by decide +kernel) rfl)) (by decide +kernel))) ?_
  refine xa_cons 4 ((And.intro (by decide) (Exists.intro (5) (And.intro (by decide +kernel) (And.intro (by decide +kernel) rfl))))) ?_
  refine xa_cons 5 (xc_iconst hx hb (z := -1) (b := 4294967295) (And.intro (by decide +kernel) rfl) (by decide +kernel) ⟨rfl, rfl⟩) ?_
  refine xa_cons 6 ((And.intro hr (by decide +kernel))) ?_
  refine xa_cons 7 ((And.intro (by decide) (Or.inl (Exists.intro (0) (And.intro rfl (And.intro (by decide +kernel) rfl)))))) ?_
  refine xa_cons 8 (xc_getf (A := A) (own := "ExpressHouse") (index := 28) hx hb htsB xC_0 hown rfl (by decide) xw_19 (And.intro (by decide +kernel) rfl)) ?_
  refine xa_cons 9 ((And.intro (by decide) (Or.inl (Exists.intro (1) (And.intro rfl (And.intro (by decide +kernel) rfl)))))) ?_
  refine xa_cons 10 ((And.intro (xc_callV (index := 209) (n := 1) (ci := 2) S xg_61 rfl xw_12 xw_380 xw_378 xw_379 rfl rfl rfl ⟨by decide, by decide, by decide +kernel⟩ rfl (And.intro (by decide +kernel) rfl)) (by decide +kernel))) ?_
  refine xa_cons 11 (xc_iconst hx hb (z := 1) (b := 1) (And.intro (by decide +kernel) rfl) (by decide +kernel) ⟨rfl, rfl⟩) ?_
  refine xa_cons 12 ((And.intro hr (by decide +kernel))) ?_
  exact xa_nil
def xrp_26 : Nat → Nat := fun k => ([0, 1, 4, 5, 6, 9, 12, 13, 14, 15, 18, 21, 22, 23, 26, 29, 30, 33, 36, 37, 38, 39, 40, 43, 46] : List Nat).getD k 0
set_option maxRecDepth 20000 in
set_option maxHeartbeats 4000000 in
theorem xz_26 {l : Launch} {D : va_G} {en : XE} : x_Ok xT l D xcl en xrn (xG en) 26 xc_26 := by
  refine ⟨prog_1_method_19_code, (some .int), xBIG, xrp_26, by decide +kernel, rfl, rfl, ?_⟩
  intro p e R s m args below meth c s₁ A Q pc i f1 f2 B hml hA hg hi
  obtain ⟨hx, hb, hr, hown, hlocks, hin, htsB, S⟩ := xb_all (C := "ExpressHouse") B hml rfl rfl
  obtain ⟨hgN, hgZ, hgS, hgS2⟩ := xG_all hg
  refine xa_at (i := i) (pc := pc) ?_ hi
  refine xa_cons 0 ((And.intro (by decide) (Or.inl (Exists.intro (0) (And.intro rfl (And.intro (by decide +kernel) rfl)))))) ?_
  refine xa_cons 1 (xc_getf (A := A) (own := "ExpressHouse") (index := 28) hx hb htsB xC_0 hown rfl (by decide) xw_19 (And.intro (by decide +kernel) rfl)) ?_
  refine xa_cons 2 ((And.intro (by decide) (Or.inl (Exists.intro (1) (And.intro rfl (And.intro (by decide +kernel) rfl)))))) ?_
  refine xa_cons 3 ((And.intro (by decide) (Or.inl (Exists.intro (2) (And.intro rfl (And.intro (by decide +kernel) rfl)))))) ?_
  refine xa_cons 4 ((And.intro (xc_callV (index := 215) (n := 2) (ci := 2) S xg_53 rfl xw_12 xw_352 xw_350 xw_351 rfl rfl rfl ⟨by decide, by decide, by decide +kernel⟩ rfl (And.intro (by decide +kernel) rfl)) (by decide +kernel))) ?_
  refine xa_cons 5 ((And.intro (by decide) (Exists.intro (5) (And.intro (by decide +kernel) (And.intro (by decide +kernel) rfl))))) ?_
  refine xa_cons 6 (xc_iconst hx hb (z := -1) (b := 4294967295) (And.intro (by decide +kernel) rfl) (by decide +kernel) ⟨rfl, rfl⟩) ?_
  refine xa_cons 7 ((And.intro hr (by decide +kernel))) ?_
  refine xa_cons 8 ((And.intro (by decide) (Or.inl (Exists.intro (0) (And.intro rfl (And.intro (by decide +kernel) rfl)))))) ?_
  refine xa_cons 9 (xc_getf (A := A) (own := "ExpressHouse") (index := 28) hx hb htsB xC_0 hown rfl (by decide) xw_19 (And.intro (by decide +kernel) rfl)) ?_
  refine xa_cons 10 ((And.intro (xc_callV (index := 222) (n := 0) (ci := 2) S xg_55 rfl xw_12 xw_359 xw_357 xw_358 rfl rfl rfl ⟨by decide, by decide, by decide +kernel⟩ rfl (And.intro (by decide +kernel) rfl)) (by decide +kernel))) ?_
  refine xa_cons 11 ((And.intro (by decide) (Or.inl (Exists.intro (0) (And.intro rfl (And.intro (by decide +kernel) rfl)))))) ?_
  refine xa_cons 12 ((And.intro (by decide) (Or.inl (Exists.intro (0) (And.intro rfl (And.intro (by decide +kernel) rfl)))))) ?_
  refine xa_cons 13 (xc_getf (A := A) (own := "ExpressHouse") (index := 28) hx hb htsB xC_0 hown rfl (by decide) xw_19 (And.intro (by decide +kernel) rfl)) ?_
  refine xa_cons 14 (xc_getf (A := A) (own := "ExpressHouse") (index := 34) hx hb htsB xC_2 hown rfl (by decide) xw_23 (And.intro (by decide +kernel) rfl)) ?_
  refine xa_cons 15 ((And.intro (by decide) (Or.inl (Exists.intro (2) (And.intro rfl (And.intro (by decide +kernel) rfl)))))) ?_
  refine xa_cons 16 ((And.intro (xc_callV (index := 255) (n := 1) (ci := 3) S xg_62 rfl xw_15 xw_383 xw_381 xw_382 rfl rfl rfl ⟨by decide, by decide, by decide +kernel⟩ rfl (And.intro (by decide +kernel) rfl)) (by decide +kernel))) ?_
  refine xa_cons 17 (xc_new (own := "ExpressHouse") (index := 88) hx hb htsB xC_10 hown hA rfl rfl xw_57 xw_58 xw_59 (by decide) (by decide +kernel) (And.intro (by decide +kernel) rfl)) ?_
  refine xa_cons 18 ((And.intro (by decide +kernel) rfl)) ?_
  refine xa_cons 19 (xc_iconst hx hb (z := 5) (b := 5) (And.intro (by decide +kernel) rfl) (by decide +kernel) ⟨rfl, rfl⟩) ?_
  refine xa_cons 20 ((And.intro (by decide) (Or.inl (Exists.intro (1) (And.intro rfl (And.intro (by decide +kernel) rfl)))))) ?_
  refine xa_cons 21 ((And.intro (by decide +kernel) rfl)) ?_
  refine xa_cons 22 ((And.intro (xc_callIN (index := 90) (n := 2) (ci := 10) S xg_18 rfl xw_59 (hgN.1 _ (List.mem_of_getElem? (i := 2) rfl)) xw_60 rfl rfl rfl ⟨by decide, by decide, by decide +kernel⟩ rfl (And.intro (by decide +kernel) rfl)) (by decide +kernel))) ?_
  refine xa_cons 23 ((And.intro (xc_callV (index := 258) (n := 2) (ci := 0) S xg_63 rfl xw_64 xw_386 xw_384 xw_385 rfl rfl rfl ⟨by decide, by decide, by decide +kernel⟩ rfl (And.intro (by decide +kernel) rfl)) (by decide +kernel))) ?_
  refine xa_cons 24 ((And.intro hr (by decide +kernel))) ?_
  exact xa_nil
end AMM1
