section FPOP40
/-- the keywords as numbers -/
def x_words : Nat → Nat := x_l [1512170291, 1134153, 295387, 1516559690, 426478965, 121985615546, 44562048, 855056, 32053044, 2859708, 1766013033954, 328367885, 28253893879, 9252, 1693649631, 48405013, 750839818396, 31824, 348, 1109196, 292415, 1437543934, 775, 101, 48410561, 435960097, 1058810, 1437787166, 1018481, 7756, 28249707204, 994966, 37334858310, 3098887, 672202, 2933, 27646, 576, 1980, 588, 35244, 20806, 356, 6140, 19346, 36607553, 1124235, 12583743, 64362683668, 1050250]
def zq_T (φ : FH) (tot : Nat) (at_ : Nat) (cur : Nat) (pl : Nat) (va : Nat) (fa : Nat) (fp : Nat) (sf : Nat) (sp : Nat) (no : Nat) (op : Nat) (K : Nat → Nat) (P : Nat → Nat) (V : Nat → Nat) : Prop := φ 2 = some (0, 1, 15, x_lf [(6, 3, 0), (6, 4, 0), (6, 5, 0), (6, 6, 0), (0, tot, 0), (0, at_, 0), (0, cur, 0), (0, pl, 0), (2, va, 0), (0, fa, 0), (0, fp, 0), (0, sf, 0), (0, sp, 0), (0, no, 0), (0, op, 0)]) ∧ φ 3 = some (6, 0, 50, fun i => (2, x_words i, 0)) ∧ φ 4 = some (1, 0, 3002, fun i => (0, K i, 0)) ∧ φ 5 = some (1, 0, 3002, fun i => (0, P i, 0)) ∧ φ 6 = some (6, 0, 3002, fun i => (2, V i, 0))
theorem zq_T_at {φ φ1 : FH} {tot : Nat} {at_ : Nat} {cur : Nat} {pl : Nat} {va : Nat} {fa : Nat} {fp : Nat} {sf : Nat} {sp : Nat} {no : Nat} {op : Nat} {K : Nat → Nat} {P : Nat → Nat} {V : Nat → Nat} (h : zq_T φ tot at_ cur pl va fa fp sf sp no op K P V) (e0 : φ1 2 = φ 2) (e1 : φ1 3 = φ 3) (e2 : φ1 4 = φ 4) (e3 : φ1 5 = φ 5) (e4 : φ1 6 = φ 6) : zq_T φ1 tot at_ cur pl va fa fp sf sp no op K P V := ⟨e0.trans h.1, e1.trans h.2.1, e2.trans h.2.2.1, e3.trans h.2.2.2.1, e4.trans h.2.2.2.2⟩
theorem zq_T_put_2_4 {φ φ1 : FH} {tot : Nat} {at_ : Nat} {cur : Nat} {pl : Nat} {va : Nat} {fa : Nat} {fp : Nat} {sf : Nat} {sp : Nat} {no : Nat} {op : Nat} {K : Nat → Nat} {P : Nat → Nat} {V : Nat → Nat} {x_new : Nat} {f1 : Nat → XV} (h : zq_T φ tot at_ cur pl va fa fp sf sp no op K P V) (hh : φ1 2 = some (0, 1, 15, f1)) (hg : f1 4 = (0, x_new, 0)) (ho : ∀ i, i ≠ 4 → f1 i = x_lf [(6, 3, 0), (6, 4, 0), (6, 5, 0), (6, 6, 0), (0, tot, 0), (0, at_, 0), (0, cur, 0), (0, pl, 0), (2, va, 0), (0, fa, 0), (0, fp, 0), (0, sf, 0), (0, sp, 0), (0, no, 0), (0, op, 0)] i) (fr : ∀ j, j ≠ 2 → φ1 j = φ j) : zq_T φ1 x_new at_ cur pl va fa fp sf sp no op K P V := ⟨hh.trans (x_obf rfl hg ho), (fr 3 (by decide)).trans h.2.1, (fr 4 (by decide)).trans h.2.2.1, (fr 5 (by decide)).trans h.2.2.2.1, (fr 6 (by decide)).trans h.2.2.2.2⟩
theorem zq_T_put_2_5 {φ φ1 : FH} {tot : Nat} {at_ : Nat} {cur : Nat} {pl : Nat} {va : Nat} {fa : Nat} {fp : Nat} {sf : Nat} {sp : Nat} {no : Nat} {op : Nat} {K : Nat → Nat} {P : Nat → Nat} {V : Nat → Nat} {x_new : Nat} {f1 : Nat → XV} (h : zq_T φ tot at_ cur pl va fa fp sf sp no op K P V) (hh : φ1 2 = some (0, 1, 15, f1)) (hg : f1 5 = (0, x_new, 0)) (ho : ∀ i, i ≠ 5 → f1 i = x_lf [(6, 3, 0), (6, 4, 0), (6, 5, 0), (6, 6, 0), (0, tot, 0), (0, at_, 0), (0, cur, 0), (0, pl, 0), (2, va, 0), (0, fa, 0), (0, fp, 0), (0, sf, 0), (0, sp, 0), (0, no, 0), (0, op, 0)] i) (fr : ∀ j, j ≠ 2 → φ1 j = φ j) : zq_T φ1 tot x_new cur pl va fa fp sf sp no op K P V := ⟨hh.trans (x_obf rfl hg ho), (fr 3 (by decide)).trans h.2.1, (fr 4 (by decide)).trans h.2.2.1, (fr 5 (by decide)).trans h.2.2.2.1, (fr 6 (by decide)).trans h.2.2.2.2⟩
theorem zq_T_put_2_6 {φ φ1 : FH} {tot : Nat} {at_ : Nat} {cur : Nat} {pl : Nat} {va : Nat} {fa : Nat} {fp : Nat} {sf : Nat} {sp : Nat} {no : Nat} {op : Nat} {K : Nat → Nat} {P : Nat → Nat} {V : Nat → Nat} {x_new : Nat} {f1 : Nat → XV} (h : zq_T φ tot at_ cur pl va fa fp sf sp no op K P V) (hh : φ1 2 = some (0, 1, 15, f1)) (hg : f1 6 = (0, x_new, 0)) (ho : ∀ i, i ≠ 6 → f1 i = x_lf [(6, 3, 0), (6, 4, 0), (6, 5, 0), (6, 6, 0), (0, tot, 0), (0, at_, 0), (0, cur, 0), (0, pl, 0), (2, va, 0), (0, fa, 0), (0, fp, 0), (0, sf, 0), (0, sp, 0), (0, no, 0), (0, op, 0)] i) (fr : ∀ j, j ≠ 2 → φ1 j = φ j) : zq_T φ1 tot at_ x_new pl va fa fp sf sp no op K P V := ⟨hh.trans (x_obf rfl hg ho), (fr 3 (by decide)).trans h.2.1, (fr 4 (by decide)).trans h.2.2.1, (fr 5 (by decide)).trans h.2.2.2.1, (fr 6 (by decide)).trans h.2.2.2.2⟩
theorem zq_T_put_2_7 {φ φ1 : FH} {tot : Nat} {at_ : Nat} {cur : Nat} {pl : Nat} {va : Nat} {fa : Nat} {fp : Nat} {sf : Nat} {sp : Nat} {no : Nat} {op : Nat} {K : Nat → Nat} {P : Nat → Nat} {V : Nat → Nat} {x_new : Nat} {f1 : Nat → XV} (h : zq_T φ tot at_ cur pl va fa fp sf sp no op K P V) (hh : φ1 2 = some (0, 1, 15, f1)) (hg : f1 7 = (0, x_new, 0)) (ho : ∀ i, i ≠ 7 → f1 i = x_lf [(6, 3, 0), (6, 4, 0), (6, 5, 0), (6, 6, 0), (0, tot, 0), (0, at_, 0), (0, cur, 0), (0, pl, 0), (2, va, 0), (0, fa, 0), (0, fp, 0), (0, sf, 0), (0, sp, 0), (0, no, 0), (0, op, 0)] i) (fr : ∀ j, j ≠ 2 → φ1 j = φ j) : zq_T φ1 tot at_ cur x_new va fa fp sf sp no op K P V := ⟨hh.trans (x_obf rfl hg ho), (fr 3 (by decide)).trans h.2.1, (fr 4 (by decide)).trans h.2.2.1, (fr 5 (by decide)).trans h.2.2.2.1, (fr 6 (by decide)).trans h.2.2.2.2⟩
theorem zq_T_put_2_8 {φ φ1 : FH} {tot : Nat} {at_ : Nat} {cur : Nat} {pl : Nat} {va : Nat} {fa : Nat} {fp : Nat} {sf : Nat} {sp : Nat} {no : Nat} {op : Nat} {K : Nat → Nat} {P : Nat → Nat} {V : Nat → Nat} {x_new : Nat} {f1 : Nat → XV} (h : zq_T φ tot at_ cur pl va fa fp sf sp no op K P V) (hh : φ1 2 = some (0, 1, 15, f1)) (hg : f1 8 = (2, x_new, 0)) (ho : ∀ i, i ≠ 8 → f1 i = x_lf [(6, 3, 0), (6, 4, 0), (6, 5, 0), (6, 6, 0), (0, tot, 0), (0, at_, 0), (0, cur, 0), (0, pl, 0), (2, va, 0), (0, fa, 0), (0, fp, 0), (0, sf, 0), (0, sp, 0), (0, no, 0), (0, op, 0)] i) (fr : ∀ j, j ≠ 2 → φ1 j = φ j) : zq_T φ1 tot at_ cur pl x_new fa fp sf sp no op K P V := ⟨hh.trans (x_obf rfl hg ho), (fr 3 (by decide)).trans h.2.1, (fr 4 (by decide)).trans h.2.2.1, (fr 5 (by decide)).trans h.2.2.2.1, (fr 6 (by decide)).trans h.2.2.2.2⟩
theorem zq_T_put_2_9 {φ φ1 : FH} {tot : Nat} {at_ : Nat} {cur : Nat} {pl : Nat} {va : Nat} {fa : Nat} {fp : Nat} {sf : Nat} {sp : Nat} {no : Nat} {op : Nat} {K : Nat → Nat} {P : Nat → Nat} {V : Nat → Nat} {x_new : Nat} {f1 : Nat → XV} (h : zq_T φ tot at_ cur pl va fa fp sf sp no op K P V) (hh : φ1 2 = some (0, 1, 15, f1)) (hg : f1 9 = (0, x_new, 0)) (ho : ∀ i, i ≠ 9 → f1 i = x_lf [(6, 3, 0), (6, 4, 0), (6, 5, 0), (6, 6, 0), (0, tot, 0), (0, at_, 0), (0, cur, 0), (0, pl, 0), (2, va, 0), (0, fa, 0), (0, fp, 0), (0, sf, 0), (0, sp, 0), (0, no, 0), (0, op, 0)] i) (fr : ∀ j, j ≠ 2 → φ1 j = φ j) : zq_T φ1 tot at_ cur pl va x_new fp sf sp no op K P V := ⟨hh.trans (x_obf rfl hg ho), (fr 3 (by decide)).trans h.2.1, (fr 4 (by decide)).trans h.2.2.1, (fr 5 (by decide)).trans h.2.2.2.1, (fr 6 (by decide)).trans h.2.2.2.2⟩
theorem zq_T_put_2_10 {φ φ1 : FH} {tot : Nat} {at_ : Nat} {cur : Nat} {pl : Nat} {va : Nat} {fa : Nat} {fp : Nat} {sf : Nat} {sp : Nat} {no : Nat} {op : Nat} {K : Nat → Nat} {P : Nat → Nat} {V : Nat → Nat} {x_new : Nat} {f1 : Nat → XV} (h : zq_T φ tot at_ cur pl va fa fp sf sp no op K P V) (hh : φ1 2 = some (0, 1, 15, f1)) (hg : f1 10 = (0, x_new, 0)) (ho : ∀ i, i ≠ 10 → f1 i = x_lf [(6, 3, 0), (6, 4, 0), (6, 5, 0), (6, 6, 0), (0, tot, 0), (0, at_, 0), (0, cur, 0), (0, pl, 0), (2, va, 0), (0, fa, 0), (0, fp, 0), (0, sf, 0), (0, sp, 0), (0, no, 0), (0, op, 0)] i) (fr : ∀ j, j ≠ 2 → φ1 j = φ j) : zq_T φ1 tot at_ cur pl va fa x_new sf sp no op K P V := ⟨hh.trans (x_obf rfl hg ho), (fr 3 (by decide)).trans h.2.1, (fr 4 (by decide)).trans h.2.2.1, (fr 5 (by decide)).trans h.2.2.2.1, (fr 6 (by decide)).trans h.2.2.2.2⟩
theorem zq_T_put_2_11 {φ φ1 : FH} {tot : Nat} {at_ : Nat} {cur : Nat} {pl : Nat} {va : Nat} {fa : Nat} {fp : Nat} {sf : Nat} {sp : Nat} {no : Nat} {op : Nat} {K : Nat → Nat} {P : Nat → Nat} {V : Nat → Nat} {x_new : Nat} {f1 : Nat → XV} (h : zq_T φ tot at_ cur pl va fa fp sf sp no op K P V) (hh : φ1 2 = some (0, 1, 15, f1)) (hg : f1 11 = (0, x_new, 0)) (ho : ∀ i, i ≠ 11 → f1 i = x_lf [(6, 3, 0), (6, 4, 0), (6, 5, 0), (6, 6, 0), (0, tot, 0), (0, at_, 0), (0, cur, 0), (0, pl, 0), (2, va, 0), (0, fa, 0), (0, fp, 0), (0, sf, 0), (0, sp, 0), (0, no, 0), (0, op, 0)] i) (fr : ∀ j, j ≠ 2 → φ1 j = φ j) : zq_T φ1 tot at_ cur pl va fa fp x_new sp no op K P V := ⟨hh.trans (x_obf rfl hg ho), (fr 3 (by decide)).trans h.2.1, (fr 4 (by decide)).trans h.2.2.1, (fr 5 (by decide)).trans h.2.2.2.1, (fr 6 (by decide)).trans h.2.2.2.2⟩
theorem zq_T_put_2_12 {φ φ1 : FH} {tot : Nat} {at_ : Nat} {cur : Nat} {pl : Nat} {va : Nat} {fa : Nat} {fp : Nat} {sf : Nat} {sp : Nat} {no : Nat} {op : Nat} {K : Nat → Nat} {P : Nat → Nat} {V : Nat → Nat} {x_new : Nat} {f1 : Nat → XV} (h : zq_T φ tot at_ cur pl va fa fp sf sp no op K P V) (hh : φ1 2 = some (0, 1, 15, f1)) (hg : f1 12 = (0, x_new, 0)) (ho : ∀ i, i ≠ 12 → f1 i = x_lf [(6, 3, 0), (6, 4, 0), (6, 5, 0), (6, 6, 0), (0, tot, 0), (0, at_, 0), (0, cur, 0), (0, pl, 0), (2, va, 0), (0, fa, 0), (0, fp, 0), (0, sf, 0), (0, sp, 0), (0, no, 0), (0, op, 0)] i) (fr : ∀ j, j ≠ 2 → φ1 j = φ j) : zq_T φ1 tot at_ cur pl va fa fp sf x_new no op K P V := ⟨hh.trans (x_obf rfl hg ho), (fr 3 (by decide)).trans h.2.1, (fr 4 (by decide)).trans h.2.2.1, (fr 5 (by decide)).trans h.2.2.2.1, (fr 6 (by decide)).trans h.2.2.2.2⟩
theorem zq_T_put_2_13 {φ φ1 : FH} {tot : Nat} {at_ : Nat} {cur : Nat} {pl : Nat} {va : Nat} {fa : Nat} {fp : Nat} {sf : Nat} {sp : Nat} {no : Nat} {op : Nat} {K : Nat → Nat} {P : Nat → Nat} {V : Nat → Nat} {x_new : Nat} {f1 : Nat → XV} (h : zq_T φ tot at_ cur pl va fa fp sf sp no op K P V) (hh : φ1 2 = some (0, 1, 15, f1)) (hg : f1 13 = (0, x_new, 0)) (ho : ∀ i, i ≠ 13 → f1 i = x_lf [(6, 3, 0), (6, 4, 0), (6, 5, 0), (6, 6, 0), (0, tot, 0), (0, at_, 0), (0, cur, 0), (0, pl, 0), (2, va, 0), (0, fa, 0), (0, fp, 0), (0, sf, 0), (0, sp, 0), (0, no, 0), (0, op, 0)] i) (fr : ∀ j, j ≠ 2 → φ1 j = φ j) : zq_T φ1 tot at_ cur pl va fa fp sf sp x_new op K P V := ⟨hh.trans (x_obf rfl hg ho), (fr 3 (by decide)).trans h.2.1, (fr 4 (by decide)).trans h.2.2.1, (fr 5 (by decide)).trans h.2.2.2.1, (fr 6 (by decide)).trans h.2.2.2.2⟩
theorem zq_T_put_2_14 {φ φ1 : FH} {tot : Nat} {at_ : Nat} {cur : Nat} {pl : Nat} {va : Nat} {fa : Nat} {fp : Nat} {sf : Nat} {sp : Nat} {no : Nat} {op : Nat} {K : Nat → Nat} {P : Nat → Nat} {V : Nat → Nat} {x_new : Nat} {f1 : Nat → XV} (h : zq_T φ tot at_ cur pl va fa fp sf sp no op K P V) (hh : φ1 2 = some (0, 1, 15, f1)) (hg : f1 14 = (0, x_new, 0)) (ho : ∀ i, i ≠ 14 → f1 i = x_lf [(6, 3, 0), (6, 4, 0), (6, 5, 0), (6, 6, 0), (0, tot, 0), (0, at_, 0), (0, cur, 0), (0, pl, 0), (2, va, 0), (0, fa, 0), (0, fp, 0), (0, sf, 0), (0, sp, 0), (0, no, 0), (0, op, 0)] i) (fr : ∀ j, j ≠ 2 → φ1 j = φ j) : zq_T φ1 tot at_ cur pl va fa fp sf sp no x_new K P V := ⟨hh.trans (x_obf rfl hg ho), (fr 3 (by decide)).trans h.2.1, (fr 4 (by decide)).trans h.2.2.1, (fr 5 (by decide)).trans h.2.2.2.1, (fr 6 (by decide)).trans h.2.2.2.2⟩
theorem zq_T_st_4 {φ φ1 : FH} {tot : Nat} {at_ : Nat} {cur : Nat} {pl : Nat} {va : Nat} {fa : Nat} {fp : Nat} {sf : Nat} {sp : Nat} {no : Nat} {op : Nat} {K : Nat → Nat} {P : Nat → Nat} {V : Nat → Nat} {x_j x_new : Nat} {f1 : Nat → XV} (h : zq_T φ tot at_ cur pl va fa fp sf sp no op K P V) (hh : φ1 4 = some (1, 0, 3002, f1)) (hg : f1 x_j = (0, x_new, 0)) (ho : ∀ i, i ≠ x_j → f1 i = (0, K i, 0)) (fr : ∀ j, j ≠ 4 → φ1 j = φ j) : zq_T φ1 tot at_ cur pl va fa fp sf sp no op (x_s K x_j x_new) P V := ⟨(fr 2 (by decide)).trans h.1, (fr 3 (by decide)).trans h.2.1, hh.trans (x_arf hg ho), (fr 5 (by decide)).trans h.2.2.2.1, (fr 6 (by decide)).trans h.2.2.2.2⟩
theorem zq_T_st_5 {φ φ1 : FH} {tot : Nat} {at_ : Nat} {cur : Nat} {pl : Nat} {va : Nat} {fa : Nat} {fp : Nat} {sf : Nat} {sp : Nat} {no : Nat} {op : Nat} {K : Nat → Nat} {P : Nat → Nat} {V : Nat → Nat} {x_j x_new : Nat} {f1 : Nat → XV} (h : zq_T φ tot at_ cur pl va fa fp sf sp no op K P V) (hh : φ1 5 = some (1, 0, 3002, f1)) (hg : f1 x_j = (0, x_new, 0)) (ho : ∀ i, i ≠ x_j → f1 i = (0, P i, 0)) (fr : ∀ j, j ≠ 5 → φ1 j = φ j) : zq_T φ1 tot at_ cur pl va fa fp sf sp no op K (x_s P x_j x_new) V := ⟨(fr 2 (by decide)).trans h.1, (fr 3 (by decide)).trans h.2.1, (fr 4 (by decide)).trans h.2.2.1, hh.trans (x_arf hg ho), (fr 6 (by decide)).trans h.2.2.2.2⟩
theorem zq_T_st_6 {φ φ1 : FH} {tot : Nat} {at_ : Nat} {cur : Nat} {pl : Nat} {va : Nat} {fa : Nat} {fp : Nat} {sf : Nat} {sp : Nat} {no : Nat} {op : Nat} {K : Nat → Nat} {P : Nat → Nat} {V : Nat → Nat} {x_j x_new : Nat} {f1 : Nat → XV} (h : zq_T φ tot at_ cur pl va fa fp sf sp no op K P V) (hh : φ1 6 = some (6, 0, 3002, f1)) (hg : f1 x_j = (2, x_new, 0)) (ho : ∀ i, i ≠ x_j → f1 i = (2, V i, 0)) (fr : ∀ j, j ≠ 6 → φ1 j = φ j) : zq_T φ1 tot at_ cur pl va fa fp sf sp no op K P (x_s V x_j x_new) := ⟨(fr 2 (by decide)).trans h.1, (fr 3 (by decide)).trans h.2.1, (fr 4 (by decide)).trans h.2.2.1, (fr 5 (by decide)).trans h.2.2.2.1, hh.trans (x_arf hg ho)⟩
def zq_E (φ : FH) (bi : Nat) (top : Nat) (hid : Nat) (lc : Nat) (slo : Nat) (own : Nat) (sk : Nat) : Prop := φ 232 = some (0, 4, 12, x_lf [(6, 2, 0), (6, 237, 0), (0, bi, 0), (0, top, 0), (6, 233, 0), (6, 234, 0), (0, hid, 0), (6, 235, 0), (0, lc, 0), (0, slo, 0), (0, own, 0), (0, sk, 0)])
theorem zq_E_at {φ φ1 : FH} {bi : Nat} {top : Nat} {hid : Nat} {lc : Nat} {slo : Nat} {own : Nat} {sk : Nat} (h : zq_E φ bi top hid lc slo own sk) (e0 : φ1 232 = φ 232) : zq_E φ1 bi top hid lc slo own sk := e0.trans h
theorem zq_E_put_232_2 {φ φ1 : FH} {bi : Nat} {top : Nat} {hid : Nat} {lc : Nat} {slo : Nat} {own : Nat} {sk : Nat} {x_new : Nat} {f1 : Nat → XV} (h : zq_E φ bi top hid lc slo own sk) (hh : φ1 232 = some (0, 4, 12, f1)) (hg : f1 2 = (0, x_new, 0)) (ho : ∀ i, i ≠ 2 → f1 i = x_lf [(6, 2, 0), (6, 237, 0), (0, bi, 0), (0, top, 0), (6, 233, 0), (6, 234, 0), (0, hid, 0), (6, 235, 0), (0, lc, 0), (0, slo, 0), (0, own, 0), (0, sk, 0)] i) (fr : ∀ j, j ≠ 232 → φ1 j = φ j) : zq_E φ1 x_new top hid lc slo own sk := hh.trans (x_obf rfl hg ho)
theorem zq_E_put_232_3 {φ φ1 : FH} {bi : Nat} {top : Nat} {hid : Nat} {lc : Nat} {slo : Nat} {own : Nat} {sk : Nat} {x_new : Nat} {f1 : Nat → XV} (h : zq_E φ bi top hid lc slo own sk) (hh : φ1 232 = some (0, 4, 12, f1)) (hg : f1 3 = (0, x_new, 0)) (ho : ∀ i, i ≠ 3 → f1 i = x_lf [(6, 2, 0), (6, 237, 0), (0, bi, 0), (0, top, 0), (6, 233, 0), (6, 234, 0), (0, hid, 0), (6, 235, 0), (0, lc, 0), (0, slo, 0), (0, own, 0), (0, sk, 0)] i) (fr : ∀ j, j ≠ 232 → φ1 j = φ j) : zq_E φ1 bi x_new hid lc slo own sk := hh.trans (x_obf rfl hg ho)
theorem zq_E_put_232_6 {φ φ1 : FH} {bi : Nat} {top : Nat} {hid : Nat} {lc : Nat} {slo : Nat} {own : Nat} {sk : Nat} {x_new : Nat} {f1 : Nat → XV} (h : zq_E φ bi top hid lc slo own sk) (hh : φ1 232 = some (0, 4, 12, f1)) (hg : f1 6 = (0, x_new, 0)) (ho : ∀ i, i ≠ 6 → f1 i = x_lf [(6, 2, 0), (6, 237, 0), (0, bi, 0), (0, top, 0), (6, 233, 0), (6, 234, 0), (0, hid, 0), (6, 235, 0), (0, lc, 0), (0, slo, 0), (0, own, 0), (0, sk, 0)] i) (fr : ∀ j, j ≠ 232 → φ1 j = φ j) : zq_E φ1 bi top x_new lc slo own sk := hh.trans (x_obf rfl hg ho)
theorem zq_E_put_232_8 {φ φ1 : FH} {bi : Nat} {top : Nat} {hid : Nat} {lc : Nat} {slo : Nat} {own : Nat} {sk : Nat} {x_new : Nat} {f1 : Nat → XV} (h : zq_E φ bi top hid lc slo own sk) (hh : φ1 232 = some (0, 4, 12, f1)) (hg : f1 8 = (0, x_new, 0)) (ho : ∀ i, i ≠ 8 → f1 i = x_lf [(6, 2, 0), (6, 237, 0), (0, bi, 0), (0, top, 0), (6, 233, 0), (6, 234, 0), (0, hid, 0), (6, 235, 0), (0, lc, 0), (0, slo, 0), (0, own, 0), (0, sk, 0)] i) (fr : ∀ j, j ≠ 232 → φ1 j = φ j) : zq_E φ1 bi top hid x_new slo own sk := hh.trans (x_obf rfl hg ho)
theorem zq_E_put_232_9 {φ φ1 : FH} {bi : Nat} {top : Nat} {hid : Nat} {lc : Nat} {slo : Nat} {own : Nat} {sk : Nat} {x_new : Nat} {f1 : Nat → XV} (h : zq_E φ bi top hid lc slo own sk) (hh : φ1 232 = some (0, 4, 12, f1)) (hg : f1 9 = (0, x_new, 0)) (ho : ∀ i, i ≠ 9 → f1 i = x_lf [(6, 2, 0), (6, 237, 0), (0, bi, 0), (0, top, 0), (6, 233, 0), (6, 234, 0), (0, hid, 0), (6, 235, 0), (0, lc, 0), (0, slo, 0), (0, own, 0), (0, sk, 0)] i) (fr : ∀ j, j ≠ 232 → φ1 j = φ j) : zq_E φ1 bi top hid lc x_new own sk := hh.trans (x_obf rfl hg ho)
theorem zq_E_put_232_10 {φ φ1 : FH} {bi : Nat} {top : Nat} {hid : Nat} {lc : Nat} {slo : Nat} {own : Nat} {sk : Nat} {x_new : Nat} {f1 : Nat → XV} (h : zq_E φ bi top hid lc slo own sk) (hh : φ1 232 = some (0, 4, 12, f1)) (hg : f1 10 = (0, x_new, 0)) (ho : ∀ i, i ≠ 10 → f1 i = x_lf [(6, 2, 0), (6, 237, 0), (0, bi, 0), (0, top, 0), (6, 233, 0), (6, 234, 0), (0, hid, 0), (6, 235, 0), (0, lc, 0), (0, slo, 0), (0, own, 0), (0, sk, 0)] i) (fr : ∀ j, j ≠ 232 → φ1 j = φ j) : zq_E φ1 bi top hid lc slo x_new sk := hh.trans (x_obf rfl hg ho)
theorem zq_E_put_232_11 {φ φ1 : FH} {bi : Nat} {top : Nat} {hid : Nat} {lc : Nat} {slo : Nat} {own : Nat} {sk : Nat} {x_new : Nat} {f1 : Nat → XV} (h : zq_E φ bi top hid lc slo own sk) (hh : φ1 232 = some (0, 4, 12, f1)) (hg : f1 11 = (0, x_new, 0)) (ho : ∀ i, i ≠ 11 → f1 i = x_lf [(6, 2, 0), (6, 237, 0), (0, bi, 0), (0, top, 0), (6, 233, 0), (6, 234, 0), (0, hid, 0), (6, 235, 0), (0, lc, 0), (0, slo, 0), (0, own, 0), (0, sk, 0)] i) (fr : ∀ j, j ≠ 232 → φ1 j = φ j) : zq_E φ1 bi top hid lc slo own x_new := hh.trans (x_obf rfl hg ho)
def zq_co (φ : FH) (co : Nat → Nat) : Prop := φ 450 = some (1, 0, 12288, fun i => (0, co i, 0))
theorem zq_co_at {φ φ1 : FH} {co : Nat → Nat} (h : zq_co φ co) (e0 : φ1 450 = φ 450) : zq_co φ1 co := e0.trans h
theorem zq_co_st_450 {φ φ1 : FH} {co : Nat → Nat} {x_j x_new : Nat} {f1 : Nat → XV} (h : zq_co φ co) (hh : φ1 450 = some (1, 0, 12288, f1)) (hg : f1 x_j = (0, x_new, 0)) (ho : ∀ i, i ≠ x_j → f1 i = (0, co i, 0)) (fr : ∀ j, j ≠ 450 → φ1 j = φ j) : zq_co φ1 (x_s co x_j x_new) := hh.trans (x_arf hg ho)
theorem zc_t_is_1 {d n sl : Nat} {φ : FH} {tot : Nat} {at_ : Nat} {cur : Nat} {pl : Nat} {va : Nat} {fa : Nat} {fp : Nat} {sf : Nat} {sp : Nat} {no : Nat} {op : Nat} {K : Nat → Nat} {P : Nat → Nat} {V : Nat → Nat} {kk : Nat} (hT : zq_T φ tot at_ cur pl va fa fp sf sp no op K P V) (hc0 : cur < 2147483648 ∧ kk < 2147483648) (hc1 : cur = kk) : x_f x_P (d + 1) 154 [(6, 2, 0), (0, kk, 0)] φ n sl (x_r φ n sl (0, 1, 0)) := by
  refine x_f_of rfl ?_
  refine q_load (v := (6, 2, 0)) (p2 := 1) rfl rfl rfl rfl ?_
  refine q_getv (v := (0, cur, 0)) (p2 := 2) rfl hT.1 (by decide) rfl rfl ?_
  refine q_load (v := (0, kk, 0)) (p2 := 3) rfl rfl rfl rfl ?_
  refine q_icmp_s (p2 := 4) rfl (by decide) (by omega) (by omega) rfl (fun hb => absurd hb (show ¬ (¬ (cur = kk)) by omega)) (fun _ => ?_)
  refine q_const (p2 := 5) rfl rfl ?_
  refine q_goto rfl ?_
  exact q_retv (v := (0, 1, 0)) rfl rfl (⟨rfl, rfl, rfl, rfl, rfl⟩)
theorem zc_t_is_0 {d n sl : Nat} {φ : FH} {tot : Nat} {at_ : Nat} {cur : Nat} {pl : Nat} {va : Nat} {fa : Nat} {fp : Nat} {sf : Nat} {sp : Nat} {no : Nat} {op : Nat} {K : Nat → Nat} {P : Nat → Nat} {V : Nat → Nat} {kk : Nat} (hT : zq_T φ tot at_ cur pl va fa fp sf sp no op K P V) (hc0 : cur < 2147483648 ∧ kk < 2147483648) (hc1 : cur ≠ kk) : x_f x_P (d + 1) 154 [(6, 2, 0), (0, kk, 0)] φ n sl (x_r φ n sl (0, 0, 0)) := by
  refine x_f_of rfl ?_
  refine q_load (v := (6, 2, 0)) (p2 := 1) rfl rfl rfl rfl ?_
  refine q_getv (v := (0, cur, 0)) (p2 := 2) rfl hT.1 (by decide) rfl rfl ?_
  refine q_load (v := (0, kk, 0)) (p2 := 3) rfl rfl rfl rfl ?_
  refine q_icmp_s (p2 := 4) rfl (by decide) (by omega) (by omega) rfl (fun _ => ?_) (fun hb => absurd (show ¬ (cur = kk) by omega) hb)
  refine q_const (p2 := 7) rfl rfl ?_
  exact q_retv (v := (0, 0, 0)) rfl rfl (⟨rfl, rfl, rfl, rfl, rfl⟩)
theorem zc_t_adv {d n sl : Nat} {φ : FH} {tot : Nat} {at_ : Nat} {cur : Nat} {pl : Nat} {va : Nat} {fa : Nat} {fp : Nat} {sf : Nat} {sp : Nat} {no : Nat} {op : Nat} {K : Nat → Nat} {P : Nat → Nat} {V : Nat → Nat} {k1 : Nat} {p1 : Nat} {v1 : Nat} (hT : zq_T φ tot at_ cur pl va fa fp sf sp no op K P V) (hc0 : at_ + 1 < tot ∧ tot ≤ 3002) (hc1 : cur ≠ 5 ∧ cur < 2147483648) (hc2 : K (at_ + 1) = k1) (hc3 : P (at_ + 1) = p1) (hc4 : V (at_ + 1) = v1) : x_f x_P (d + 1) 147 [(6, 2, 0)] φ n sl (x_vR n sl (fun φ2 => zq_T φ2 tot (at_ + 1) k1 p1 v1 fa fp sf sp no op K P V ∧ ∀ j, j ≠ 2 → φ2 j = φ j)) := by
  refine x_f_of rfl ?_
  refine q_load (v := (6, 2, 0)) (p2 := 1) rfl rfl rfl rfl ?_
  refine q_getv (v := (0, cur, 0)) (p2 := 2) rfl hT.1 (by decide) rfl rfl ?_
  refine q_const (p2 := 3) rfl rfl ?_
  refine q_icmp_s (p2 := 4) rfl (by decide) (by omega) (by omega) rfl (fun hb => absurd hb (show ¬ (cur = 5) by omega)) (fun _ => ?_)
  refine q_load (v := (6, 2, 0)) (p2 := 5) rfl rfl rfl rfl ?_
  refine q_getv (v := (0, at_, 0)) (p2 := 6) rfl hT.1 (by decide) rfl rfl ?_
  refine q_const (p2 := 7) rfl rfl ?_
  refine q_iaddz (z := at_ + 1) (p2 := 8) rfl (by omega) (by omega) rfl ?_
  refine q_load (v := (6, 2, 0)) (p2 := 9) rfl rfl rfl rfl ?_
  refine q_getv (v := (0, tot, 0)) (p2 := 10) rfl hT.1 (by decide) rfl rfl ?_
  refine q_icmp_s (p2 := 11) rfl (by decide) (by omega) (by omega) rfl (fun hb => absurd hb (show ¬ (¬ (at_ + 1 < tot)) by omega)) (fun _ => ?_)
  refine q_load (v := (6, 2, 0)) (p2 := 12) rfl rfl rfl rfl ?_
  refine q_getv (v := (0, at_, 0)) (p2 := 13) rfl hT.1 (by decide) rfl rfl ?_
  refine q_const (p2 := 14) rfl rfl ?_
  refine q_iaddz (z := at_ + 1) (p2 := 15) rfl (by omega) (by omega) rfl ?_
  refine q_load (v := (6, 2, 0)) (p2 := 16) rfl rfl rfl rfl ?_
  refine q_getv (v := (6, 4, 0)) (p2 := 17) rfl hT.1 (by decide) rfl rfl ?_
  refine q_alen (p2 := 18) rfl hT.2.2.1 rfl (by omega) rfl ?_
  refine q_icmp_s (p2 := 19) rfl (by decide) (by omega) (by omega) rfl (fun hb => absurd hb (show ¬ (¬ (at_ + 1 < 3002)) by omega)) (fun _ => ?_)
  refine q_load (v := (6, 2, 0)) (p2 := 20) rfl rfl rfl rfl ?_
  refine q_dup (p2 := 21) rfl rfl rfl ?_
  refine q_getv (v := (0, at_, 0)) (p2 := 22) rfl hT.1 (by decide) rfl rfl ?_
  refine q_const (p2 := 23) rfl rfl ?_
  refine q_iaddz (z := at_ + 1) (p2 := 24) rfl (by omega) (by omega) rfl ?_
  refine q_putfE (v := (0, at_ + 1, 0)) (p2 := 25) rfl hT.1 (by decide) rfl rfl (fun φ1 f1 hh1 hg1 ho1 fr1 => ?_)
  have hs1 := zq_T_put_2_5 hT hh1 hg1 ho1 fr1
  refine q_load (v := (6, 2, 0)) (p2 := 26) rfl rfl rfl rfl ?_
  refine q_load (v := (6, 2, 0)) (p2 := 27) rfl rfl rfl rfl ?_
  refine q_getv (v := (6, 4, 0)) (p2 := 28) rfl hs1.1 (by decide) rfl rfl ?_
  refine q_load (v := (6, 2, 0)) (p2 := 29) rfl rfl rfl rfl ?_
  refine q_getv (v := (0, at_ + 1, 0)) (p2 := 30) rfl hs1.1 (by decide) rfl rfl ?_
  refine q_aldT (tag := 0) (v := k1) (p2 := 31) rfl hs1.2.2.1 (by omega) (by omega) hc2 rfl ?_
  refine q_putfE (v := (0, k1, 0)) (p2 := 32) rfl hs1.1 (by decide) rfl rfl (fun φ2 f2 hh2 hg2 ho2 fr2 => ?_)
  have hs2 := zq_T_put_2_6 hs1 hh2 hg2 ho2 fr2
  refine q_load (v := (6, 2, 0)) (p2 := 33) rfl rfl rfl rfl ?_
  refine q_load (v := (6, 2, 0)) (p2 := 34) rfl rfl rfl rfl ?_
  refine q_getv (v := (6, 5, 0)) (p2 := 35) rfl hs2.1 (by decide) rfl rfl ?_
  refine q_load (v := (6, 2, 0)) (p2 := 36) rfl rfl rfl rfl ?_
  refine q_getv (v := (0, at_ + 1, 0)) (p2 := 37) rfl hs2.1 (by decide) rfl rfl ?_
  refine q_aldT (tag := 0) (v := p1) (p2 := 38) rfl hs2.2.2.2.1 (by omega) (by omega) hc3 rfl ?_
  refine q_putfE (v := (0, p1, 0)) (p2 := 39) rfl hs2.1 (by decide) rfl rfl (fun φ3 f3 hh3 hg3 ho3 fr3 => ?_)
  have hs3 := zq_T_put_2_7 hs2 hh3 hg3 ho3 fr3
  refine q_load (v := (6, 2, 0)) (p2 := 40) rfl rfl rfl rfl ?_
  refine q_load (v := (6, 2, 0)) (p2 := 41) rfl rfl rfl rfl ?_
  refine q_getv (v := (6, 6, 0)) (p2 := 42) rfl hs3.1 (by decide) rfl rfl ?_
  refine q_load (v := (6, 2, 0)) (p2 := 43) rfl rfl rfl rfl ?_
  refine q_getv (v := (0, at_ + 1, 0)) (p2 := 44) rfl hs3.1 (by decide) rfl rfl ?_
  refine q_aldT (tag := 2) (v := v1) (p2 := 45) rfl hs3.2.2.2.2 (by omega) (by omega) hc4 rfl ?_
  refine q_putfE (v := (2, v1, 0)) (p2 := 46) rfl hs3.1 (by decide) rfl rfl (fun φ4 f4 hh4 hg4 ho4 fr4 => ?_)
  have hs4 := zq_T_put_2_8 hs3 hh4 hg4 ho4 fr4
  exact q_ret rfl (⟨rfl, rfl, rfl, hs4, fun j hj0 => ((fr4 j (by omega)).trans ((fr3 j (by omega)).trans ((fr2 j (by omega)).trans (fr1 j (by omega)))))⟩)
theorem zc_t_adv0 {d n sl : Nat} {φ : FH} {tot : Nat} {pl : Nat} {va : Nat} {fa : Nat} {fp : Nat} {sf : Nat} {sp : Nat} {no : Nat} {op : Nat} {K : Nat → Nat} {P : Nat → Nat} {V : Nat → Nat} {k1 : Nat} {p1 : Nat} {v1 : Nat} (hT : zq_T φ tot 4294967295 1 pl va fa fp sf sp no op K P V) (hc0 : 0 < tot ∧ tot ≤ 3002) (hc1 : K 0 = k1) (hc2 : P 0 = p1) (hc3 : V 0 = v1) : x_f x_P (d + 1) 147 [(6, 2, 0)] φ n sl (x_vR n sl (fun φ2 => zq_T φ2 tot 0 k1 p1 v1 fa fp sf sp no op K P V ∧ ∀ j, j ≠ 2 → φ2 j = φ j)) := by
  refine x_f_of rfl ?_
  refine q_load (v := (6, 2, 0)) (p2 := 1) rfl rfl rfl rfl ?_
  refine q_getv (v := (0, 1, 0)) (p2 := 2) rfl hT.1 (by decide) rfl rfl ?_
  refine q_const (p2 := 3) rfl rfl ?_
  refine q_icmp_s (p2 := 4) rfl (by decide) (by omega) (by omega) rfl (fun hb => absurd hb (show ¬ (1 = 5) by omega)) (fun _ => ?_)
  refine q_load (v := (6, 2, 0)) (p2 := 5) rfl rfl rfl rfl ?_
  refine q_getv (v := (0, 4294967295, 0)) (p2 := 6) rfl hT.1 (by decide) rfl rfl ?_
  refine q_const (p2 := 7) rfl rfl ?_
  refine q_iop (w := 4294967295 + 1) (z := 0) (p2 := 8) rfl (xo_add 4294967295 1) (by decide) rfl ?_
  refine q_load (v := (6, 2, 0)) (p2 := 9) rfl rfl rfl rfl ?_
  refine q_getv (v := (0, tot, 0)) (p2 := 10) rfl hT.1 (by decide) rfl rfl ?_
  refine q_icmp_s (p2 := 11) rfl (by decide) (by omega) (by omega) rfl (fun hb => absurd hb (show ¬ (¬ (0 < tot)) by omega)) (fun _ => ?_)
  refine q_load (v := (6, 2, 0)) (p2 := 12) rfl rfl rfl rfl ?_
  refine q_getv (v := (0, 4294967295, 0)) (p2 := 13) rfl hT.1 (by decide) rfl rfl ?_
  refine q_const (p2 := 14) rfl rfl ?_
  refine q_iop (w := 4294967295 + 1) (z := 0) (p2 := 15) rfl (xo_add 4294967295 1) (by decide) rfl ?_
  refine q_load (v := (6, 2, 0)) (p2 := 16) rfl rfl rfl rfl ?_
  refine q_getv (v := (6, 4, 0)) (p2 := 17) rfl hT.1 (by decide) rfl rfl ?_
  refine q_alen (p2 := 18) rfl hT.2.2.1 rfl (by omega) rfl ?_
  refine q_icmp_s (p2 := 19) rfl (by decide) (by omega) (by omega) rfl (fun hb => absurd hb (show ¬ (¬ (0 < 3002)) by omega)) (fun _ => ?_)
  refine q_load (v := (6, 2, 0)) (p2 := 20) rfl rfl rfl rfl ?_
  refine q_dup (p2 := 21) rfl rfl rfl ?_
  refine q_getv (v := (0, 4294967295, 0)) (p2 := 22) rfl hT.1 (by decide) rfl rfl ?_
  refine q_const (p2 := 23) rfl rfl ?_
  refine q_iop (w := 4294967295 + 1) (z := 0) (p2 := 24) rfl (xo_add 4294967295 1) (by decide) rfl ?_
  refine q_putfE (v := (0, 0, 0)) (p2 := 25) rfl hT.1 (by decide) rfl rfl (fun φ1 f1 hh1 hg1 ho1 fr1 => ?_)
  have hs1 := zq_T_put_2_5 hT hh1 hg1 ho1 fr1
  refine q_load (v := (6, 2, 0)) (p2 := 26) rfl rfl rfl rfl ?_
  refine q_load (v := (6, 2, 0)) (p2 := 27) rfl rfl rfl rfl ?_
  refine q_getv (v := (6, 4, 0)) (p2 := 28) rfl hs1.1 (by decide) rfl rfl ?_
  refine q_load (v := (6, 2, 0)) (p2 := 29) rfl rfl rfl rfl ?_
  refine q_getv (v := (0, 0, 0)) (p2 := 30) rfl hs1.1 (by decide) rfl rfl ?_
  refine q_aldT (tag := 0) (v := k1) (p2 := 31) rfl hs1.2.2.1 (by omega) (by omega) hc1 rfl ?_
  refine q_putfE (v := (0, k1, 0)) (p2 := 32) rfl hs1.1 (by decide) rfl rfl (fun φ2 f2 hh2 hg2 ho2 fr2 => ?_)
  have hs2 := zq_T_put_2_6 hs1 hh2 hg2 ho2 fr2
  refine q_load (v := (6, 2, 0)) (p2 := 33) rfl rfl rfl rfl ?_
  refine q_load (v := (6, 2, 0)) (p2 := 34) rfl rfl rfl rfl ?_
  refine q_getv (v := (6, 5, 0)) (p2 := 35) rfl hs2.1 (by decide) rfl rfl ?_
  refine q_load (v := (6, 2, 0)) (p2 := 36) rfl rfl rfl rfl ?_
  refine q_getv (v := (0, 0, 0)) (p2 := 37) rfl hs2.1 (by decide) rfl rfl ?_
  refine q_aldT (tag := 0) (v := p1) (p2 := 38) rfl hs2.2.2.2.1 (by omega) (by omega) hc2 rfl ?_
  refine q_putfE (v := (0, p1, 0)) (p2 := 39) rfl hs2.1 (by decide) rfl rfl (fun φ3 f3 hh3 hg3 ho3 fr3 => ?_)
  have hs3 := zq_T_put_2_7 hs2 hh3 hg3 ho3 fr3
  refine q_load (v := (6, 2, 0)) (p2 := 40) rfl rfl rfl rfl ?_
  refine q_load (v := (6, 2, 0)) (p2 := 41) rfl rfl rfl rfl ?_
  refine q_getv (v := (6, 6, 0)) (p2 := 42) rfl hs3.1 (by decide) rfl rfl ?_
  refine q_load (v := (6, 2, 0)) (p2 := 43) rfl rfl rfl rfl ?_
  refine q_getv (v := (0, 0, 0)) (p2 := 44) rfl hs3.1 (by decide) rfl rfl ?_
  refine q_aldT (tag := 2) (v := v1) (p2 := 45) rfl hs3.2.2.2.2 (by omega) (by omega) hc3 rfl ?_
  refine q_putfE (v := (2, v1, 0)) (p2 := 46) rfl hs3.1 (by decide) rfl rfl (fun φ4 f4 hh4 hg4 ho4 fr4 => ?_)
  have hs4 := zq_T_put_2_8 hs3 hh4 hg4 ho4 fr4
  exact q_ret rfl (⟨rfl, rfl, rfl, hs4, fun j hj0 => ((fr4 j (by omega)).trans ((fr3 j (by omega)).trans ((fr2 j (by omega)).trans (fr1 j (by omega)))))⟩)
theorem zc_t_exp {d n sl : Nat} {φ : FH} {tot : Nat} {at_ : Nat} {cur : Nat} {pl : Nat} {va : Nat} {fa : Nat} {fp : Nat} {sf : Nat} {sp : Nat} {no : Nat} {op : Nat} {K : Nat → Nat} {P : Nat → Nat} {V : Nat → Nat} {k1 : Nat} {p1 : Nat} {v1 : Nat} (hT : zq_T φ tot at_ cur pl va fa fp sf sp no op K P V) (hc0 : at_ + 1 < tot ∧ tot ≤ 3002) (hc1 : cur ≠ 5 ∧ cur < 2147483648) (hc2 : K (at_ + 1) = k1) (hc3 : P (at_ + 1) = p1) (hc4 : V (at_ + 1) = v1) : x_f x_P (d + 1) 94 [(6, 2, 0), (0, cur, 0)] φ n sl (x_vR n sl (fun φ2 => zq_T φ2 tot (at_ + 1) k1 p1 v1 fa fp sf sp no op K P V ∧ ∀ j, j ≠ 2 → φ2 j = φ j)) := by
  refine x_f_of rfl ?_
  refine q_load (v := (6, 2, 0)) (p2 := 1) rfl rfl rfl rfl ?_
  refine q_getv (v := (0, cur, 0)) (p2 := 2) rfl hT.1 (by decide) rfl rfl ?_
  refine q_load (v := (0, cur, 0)) (p2 := 3) rfl rfl rfl rfl ?_
  refine q_icmp_s (p2 := 4) rfl (by decide) (by omega) (by omega) rfl (fun _ => ?_) (fun hb => absurd (show cur = cur by omega) hb)
  refine q_load (v := (6, 2, 0)) (p2 := 36) rfl rfl rfl rfl ?_
  refine q_getv (v := (0, at_, 0)) (p2 := 37) rfl hT.1 (by decide) rfl rfl ?_
  refine q_const (p2 := 38) rfl rfl ?_
  refine q_iaddz (z := at_ + 1) (p2 := 39) rfl (by omega) (by omega) rfl ?_
  refine q_load (v := (6, 2, 0)) (p2 := 40) rfl rfl rfl rfl ?_
  refine q_getv (v := (0, tot, 0)) (p2 := 41) rfl hT.1 (by decide) rfl rfl ?_
  refine q_icmp_s (p2 := 42) rfl (by decide) (by omega) (by omega) rfl (fun hb => absurd hb (show ¬ (¬ (at_ + 1 < tot)) by omega)) (fun _ => ?_)
  refine q_load (v := (6, 2, 0)) (p2 := 43) rfl rfl rfl rfl ?_
  refine q_getv (v := (0, at_, 0)) (p2 := 44) rfl hT.1 (by decide) rfl rfl ?_
  refine q_const (p2 := 45) rfl rfl ?_
  refine q_iaddz (z := at_ + 1) (p2 := 46) rfl (by omega) (by omega) rfl ?_
  refine q_load (v := (6, 2, 0)) (p2 := 47) rfl rfl rfl rfl ?_
  refine q_getv (v := (6, 4, 0)) (p2 := 48) rfl hT.1 (by decide) rfl rfl ?_
  refine q_alen (p2 := 49) rfl hT.2.2.1 rfl (by omega) rfl ?_
  refine q_icmp_s (p2 := 50) rfl (by decide) (by omega) (by omega) rfl (fun hb => absurd hb (show ¬ (¬ (at_ + 1 < 3002)) by omega)) (fun _ => ?_)
  refine q_load (v := (6, 2, 0)) (p2 := 51) rfl rfl rfl rfl ?_
  refine q_dup (p2 := 52) rfl rfl rfl ?_
  refine q_getv (v := (0, at_, 0)) (p2 := 53) rfl hT.1 (by decide) rfl rfl ?_
  refine q_const (p2 := 54) rfl rfl ?_
  refine q_iaddz (z := at_ + 1) (p2 := 55) rfl (by omega) (by omega) rfl ?_
  refine q_putfE (v := (0, at_ + 1, 0)) (p2 := 56) rfl hT.1 (by decide) rfl rfl (fun φ1 f1 hh1 hg1 ho1 fr1 => ?_)
  have hs1 := zq_T_put_2_5 hT hh1 hg1 ho1 fr1
  refine q_load (v := (6, 2, 0)) (p2 := 57) rfl rfl rfl rfl ?_
  refine q_load (v := (6, 2, 0)) (p2 := 58) rfl rfl rfl rfl ?_
  refine q_getv (v := (6, 4, 0)) (p2 := 59) rfl hs1.1 (by decide) rfl rfl ?_
  refine q_load (v := (6, 2, 0)) (p2 := 60) rfl rfl rfl rfl ?_
  refine q_getv (v := (0, at_ + 1, 0)) (p2 := 61) rfl hs1.1 (by decide) rfl rfl ?_
  refine q_aldT (tag := 0) (v := k1) (p2 := 62) rfl hs1.2.2.1 (by omega) (by omega) hc2 rfl ?_
  refine q_putfE (v := (0, k1, 0)) (p2 := 63) rfl hs1.1 (by decide) rfl rfl (fun φ2 f2 hh2 hg2 ho2 fr2 => ?_)
  have hs2 := zq_T_put_2_6 hs1 hh2 hg2 ho2 fr2
  refine q_load (v := (6, 2, 0)) (p2 := 64) rfl rfl rfl rfl ?_
  refine q_load (v := (6, 2, 0)) (p2 := 65) rfl rfl rfl rfl ?_
  refine q_getv (v := (6, 5, 0)) (p2 := 66) rfl hs2.1 (by decide) rfl rfl ?_
  refine q_load (v := (6, 2, 0)) (p2 := 67) rfl rfl rfl rfl ?_
  refine q_getv (v := (0, at_ + 1, 0)) (p2 := 68) rfl hs2.1 (by decide) rfl rfl ?_
  refine q_aldT (tag := 0) (v := p1) (p2 := 69) rfl hs2.2.2.2.1 (by omega) (by omega) hc3 rfl ?_
  refine q_putfE (v := (0, p1, 0)) (p2 := 70) rfl hs2.1 (by decide) rfl rfl (fun φ3 f3 hh3 hg3 ho3 fr3 => ?_)
  have hs3 := zq_T_put_2_7 hs2 hh3 hg3 ho3 fr3
  refine q_load (v := (6, 2, 0)) (p2 := 71) rfl rfl rfl rfl ?_
  refine q_load (v := (6, 2, 0)) (p2 := 72) rfl rfl rfl rfl ?_
  refine q_getv (v := (6, 6, 0)) (p2 := 73) rfl hs3.1 (by decide) rfl rfl ?_
  refine q_load (v := (6, 2, 0)) (p2 := 74) rfl rfl rfl rfl ?_
  refine q_getv (v := (0, at_ + 1, 0)) (p2 := 75) rfl hs3.1 (by decide) rfl rfl ?_
  refine q_aldT (tag := 2) (v := v1) (p2 := 76) rfl hs3.2.2.2.2 (by omega) (by omega) hc4 rfl ?_
  refine q_putfE (v := (2, v1, 0)) (p2 := 77) rfl hs3.1 (by decide) rfl rfl (fun φ4 f4 hh4 hg4 ho4 fr4 => ?_)
  have hs4 := zq_T_put_2_8 hs3 hh4 hg4 ho4 fr4
  exact q_ret rfl (⟨rfl, rfl, rfl, hs4, fun j hj0 => ((fr4 j (by omega)).trans ((fr3 j (by omega)).trans ((fr2 j (by omega)).trans (fr1 j (by omega)))))⟩)
theorem zc_t_expE {d n sl : Nat} {φ : FH} {tot : Nat} {at_ : Nat} {pl : Nat} {va : Nat} {fa : Nat} {fp : Nat} {sf : Nat} {sp : Nat} {no : Nat} {op : Nat} {K : Nat → Nat} {P : Nat → Nat} {V : Nat → Nat} (hT : zq_T φ tot at_ 0 pl va fa fp sf sp no op K P V) (hc0 : at_ < 3002 ∧ tot = at_ + 1) : x_f x_P (d + 1) 94 [(6, 2, 0), (0, 0, 0)] φ n sl (x_v φ n sl) := by
  refine x_f_of rfl ?_
  refine q_load (v := (6, 2, 0)) (p2 := 1) rfl rfl rfl rfl ?_
  refine q_getv (v := (0, 0, 0)) (p2 := 2) rfl hT.1 (by decide) rfl rfl ?_
  refine q_load (v := (0, 0, 0)) (p2 := 3) rfl rfl rfl rfl ?_
  refine q_icmp_s (p2 := 4) rfl (by decide) (by omega) (by omega) rfl (fun _ => ?_) (fun hb => absurd (show 0 = 0 by omega) hb)
  refine q_load (v := (6, 2, 0)) (p2 := 36) rfl rfl rfl rfl ?_
  refine q_getv (v := (0, at_, 0)) (p2 := 37) rfl hT.1 (by decide) rfl rfl ?_
  refine q_const (p2 := 38) rfl rfl ?_
  refine q_iaddz (z := at_ + 1) (p2 := 39) rfl (by omega) (by omega) rfl ?_
  refine q_load (v := (6, 2, 0)) (p2 := 40) rfl rfl rfl rfl ?_
  refine q_getv (v := (0, tot, 0)) (p2 := 41) rfl hT.1 (by decide) rfl rfl ?_
  refine q_icmp_s (p2 := 42) rfl (by decide) (by omega) (by omega) rfl (fun _ => ?_) (fun hb => absurd (show ¬ (at_ + 1 < tot) by omega) hb)
  exact q_ret rfl (⟨rfl, rfl, rfl, rfl⟩)
theorem zc_t_exp5 {d n sl : Nat} {φ : FH} {tot : Nat} {at_ : Nat} {pl : Nat} {va : Nat} {fa : Nat} {fp : Nat} {sf : Nat} {sp : Nat} {no : Nat} {op : Nat} {K : Nat → Nat} {P : Nat → Nat} {V : Nat → Nat} {kk : Nat} (hT : zq_T φ tot at_ 5 pl va fa fp sf sp no op K P V) (hc0 : kk ≠ 5 ∧ kk < 2147483648) : x_f x_P (d + 1) 94 [(6, 2, 0), (0, kk, 0)] φ n sl (x_vR n sl (fun φ2 => zq_T φ2 tot at_ 5 pl va fa fp sf sp no op K P V ∧ ∀ j, j ≠ 2 → φ2 j = φ j)) := by
  refine x_f_of rfl ?_
  refine q_load (v := (6, 2, 0)) (p2 := 1) rfl rfl rfl rfl ?_
  refine q_getv (v := (0, 5, 0)) (p2 := 2) rfl hT.1 (by decide) rfl rfl ?_
  refine q_load (v := (0, kk, 0)) (p2 := 3) rfl rfl rfl rfl ?_
  refine q_icmp_s (p2 := 4) rfl (by decide) (by omega) (by omega) rfl (fun hb => absurd hb (show ¬ (5 = kk) by omega)) (fun _ => ?_)
  refine q_load (v := (6, 2, 0)) (p2 := 5) rfl rfl rfl rfl ?_
  refine q_load (v := (6, 2, 0)) (p2 := 6) rfl rfl rfl rfl ?_
  refine q_getv (v := (0, 5, 0)) (p2 := 7) rfl hT.1 (by decide) rfl rfl ?_
  refine q_const (p2 := 8) rfl rfl ?_
  refine q_icmp_s (p2 := 9) rfl (by decide) (by omega) (by omega) rfl (fun hb => absurd hb (show ¬ (¬ (5 = 5)) by omega)) (fun _ => ?_)
  refine q_load (v := (6, 2, 0)) (p2 := 10) rfl rfl rfl rfl ?_
  refine q_getv (v := (0, fa, 0)) (p2 := 11) rfl hT.1 (by decide) rfl rfl ?_
  refine q_goto rfl ?_
  refine q_putfE (v := (0, fa, 0)) (p2 := 20) rfl hT.1 (by decide) rfl rfl (fun φ1 f1 hh1 hg1 ho1 fr1 => ?_)
  have hs1 := zq_T_put_2_9 hT hh1 hg1 ho1 fr1
  refine q_load (v := (6, 2, 0)) (p2 := 21) rfl rfl rfl rfl ?_
  refine q_load (v := (6, 2, 0)) (p2 := 22) rfl rfl rfl rfl ?_
  refine q_getv (v := (0, 5, 0)) (p2 := 23) rfl hs1.1 (by decide) rfl rfl ?_
  refine q_const (p2 := 24) rfl rfl ?_
  refine q_icmp_s (p2 := 25) rfl (by decide) (by omega) (by omega) rfl (fun hb => absurd hb (show ¬ (¬ (5 = 5)) by omega)) (fun _ => ?_)
  refine q_load (v := (6, 2, 0)) (p2 := 26) rfl rfl rfl rfl ?_
  refine q_getv (v := (0, fp, 0)) (p2 := 27) rfl hs1.1 (by decide) rfl rfl ?_
  refine q_goto rfl ?_
  refine q_putfE (v := (0, fp, 0)) (p2 := 31) rfl hs1.1 (by decide) rfl rfl (fun φ2 f2 hh2 hg2 ho2 fr2 => ?_)
  have hs2 := zq_T_put_2_10 hs1 hh2 hg2 ho2 fr2
  refine q_load (v := (6, 2, 0)) (p2 := 32) rfl rfl rfl rfl ?_
  refine q_const (p2 := 33) rfl rfl ?_
  refine q_putfE (v := (0, 5, 0)) (p2 := 34) rfl hs2.1 (by decide) rfl rfl (fun φ3 f3 hh3 hg3 ho3 fr3 => ?_)
  have hs3 := zq_T_put_2_6 hs2 hh3 hg3 ho3 fr3
  refine q_goto rfl ?_
  exact q_ret rfl (⟨rfl, rfl, rfl, hs3, fun j hj0 => ((fr3 j (by omega)).trans ((fr2 j (by omega)).trans (fr1 j (by omega))))⟩)
theorem zc_t_node {d n sl : Nat} {φ : FH} {tot : Nat} {at_ : Nat} {cur : Nat} {pl : Nat} {va : Nat} {fa : Nat} {fp : Nat} {sf : Nat} {sp : Nat} {no : Nat} {op : Nat} {K : Nat → Nat} {P : Nat → Nat} {V : Nat → Nat} (hT : zq_T φ tot at_ cur pl va fa fp sf sp no op K P V) (hc0 : no < 600) : x_f x_P (d + 1) 294 [(6, 2, 0)] φ n sl (x_rR (0, 1, 0) n sl (fun φ2 => zq_T φ2 tot at_ cur pl va fa fp sf sp (no + 1) op K P V ∧ ∀ j, j ≠ 2 → φ2 j = φ j)) := by
  refine x_f_of rfl ?_
  refine q_load (v := (6, 2, 0)) (p2 := 1) rfl rfl rfl rfl ?_
  refine q_dup (p2 := 2) rfl rfl rfl ?_
  refine q_getv (v := (0, no, 0)) (p2 := 3) rfl hT.1 (by decide) rfl rfl ?_
  refine q_const (p2 := 4) rfl rfl ?_
  refine q_iaddz (z := no + 1) (p2 := 5) rfl (by omega) (by omega) rfl ?_
  refine q_putfE (v := (0, no + 1, 0)) (p2 := 6) rfl hT.1 (by decide) rfl rfl (fun φ1 f1 hh1 hg1 ho1 fr1 => ?_)
  have hs1 := zq_T_put_2_13 hT hh1 hg1 ho1 fr1
  refine q_load (v := (6, 2, 0)) (p2 := 7) rfl rfl rfl rfl ?_
  refine q_getv (v := (0, no + 1, 0)) (p2 := 8) rfl hs1.1 (by decide) rfl rfl ?_
  refine q_const (p2 := 9) rfl rfl ?_
  refine q_icmp_s (p2 := 10) rfl (by decide) (by omega) (by omega) rfl (fun hb => absurd hb (show ¬ (600 < no + 1) by omega)) (fun _ => ?_)
  refine q_const (p2 := 11) rfl rfl ?_
  refine q_goto rfl ?_
  exact q_retv (v := (0, 1, 0)) rfl rfl (⟨rfl, rfl, rfl, rfl, hs1, fun j hj0 => (fr1 j (by omega))⟩)
theorem zc_t_open {d n sl : Nat} {φ : FH} {tot : Nat} {at_ : Nat} {cur : Nat} {pl : Nat} {va : Nat} {fa : Nat} {fp : Nat} {sf : Nat} {sp : Nat} {no : Nat} {op : Nat} {K : Nat → Nat} {P : Nat → Nat} {V : Nat → Nat} (hT : zq_T φ tot at_ cur pl va fa fp sf sp no op K P V) (hc0 : op < 8) : x_f x_P (d + 1) 309 [(6, 2, 0)] φ n sl (x_vR n sl (fun φ2 => zq_T φ2 tot at_ cur pl va fa fp sf sp no (op + 1) K P V ∧ ∀ j, j ≠ 2 → φ2 j = φ j)) := by
  refine x_f_of rfl ?_
  refine q_load (v := (6, 2, 0)) (p2 := 1) rfl rfl rfl rfl ?_
  refine q_dup (p2 := 2) rfl rfl rfl ?_
  refine q_getv (v := (0, op, 0)) (p2 := 3) rfl hT.1 (by decide) rfl rfl ?_
  refine q_const (p2 := 4) rfl rfl ?_
  refine q_iaddz (z := op + 1) (p2 := 5) rfl (by omega) (by omega) rfl ?_
  refine q_putfE (v := (0, op + 1, 0)) (p2 := 6) rfl hT.1 (by decide) rfl rfl (fun φ1 f1 hh1 hg1 ho1 fr1 => ?_)
  have hs1 := zq_T_put_2_14 hT hh1 hg1 ho1 fr1
  refine q_load (v := (6, 2, 0)) (p2 := 7) rfl rfl rfl rfl ?_
  refine q_getv (v := (0, op + 1, 0)) (p2 := 8) rfl hs1.1 (by decide) rfl rfl ?_
  refine q_const (p2 := 9) rfl rfl ?_
  refine q_icmp_s (p2 := 10) rfl (by decide) (by omega) (by omega) rfl (fun _ => ?_) (fun hb => absurd (show ¬ (8 < op + 1) by omega) hb)
  exact q_ret rfl (⟨rfl, rfl, rfl, hs1, fun j hj0 => (fr1 j (by omega))⟩)
theorem zc_t_close {d n sl : Nat} {φ : FH} {tot : Nat} {at_ : Nat} {cur : Nat} {pl : Nat} {va : Nat} {fa : Nat} {fp : Nat} {sf : Nat} {sp : Nat} {no : Nat} {op : Nat} {K : Nat → Nat} {P : Nat → Nat} {V : Nat → Nat} (hT : zq_T φ tot at_ cur pl va fa fp sf sp no op K P V) (hc0 : 1 ≤ op ∧ op < 9) : x_f x_P (d + 1) 310 [(6, 2, 0)] φ n sl (x_vR n sl (fun φ2 => zq_T φ2 tot at_ cur pl va fa fp sf sp no (op - 1) K P V ∧ ∀ j, j ≠ 2 → φ2 j = φ j)) := by
  refine x_f_of rfl ?_
  refine q_load (v := (6, 2, 0)) (p2 := 1) rfl rfl rfl rfl ?_
  refine q_dup (p2 := 2) rfl rfl rfl ?_
  refine q_getv (v := (0, op, 0)) (p2 := 3) rfl hT.1 (by decide) rfl rfl ?_
  refine q_const (p2 := 4) rfl rfl ?_
  refine q_isubz (z := op - 1) (p2 := 5) rfl (by omega) (by omega) rfl ?_
  refine q_putfE (v := (0, op - 1, 0)) (p2 := 6) rfl hT.1 (by decide) rfl rfl (fun φ1 f1 hh1 hg1 ho1 fr1 => ?_)
  have hs1 := zq_T_put_2_14 hT hh1 hg1 ho1 fr1
  exact q_ret rfl (⟨rfl, rfl, rfl, hs1, fun j hj0 => (fr1 j (by omega))⟩)
theorem zc_t_fail {d n sl : Nat} {φ : FH} {tot : Nat} {at_ : Nat} {cur : Nat} {pl : Nat} {va : Nat} {fa : Nat} {fp : Nat} {sf : Nat} {sp : Nat} {no : Nat} {op : Nat} {K : Nat → Nat} {P : Nat → Nat} {V : Nat → Nat} {kk : Nat} (hT : zq_T φ tot at_ cur pl va fa fp sf sp no op K P V) (hc0 : cur ≠ 5 ∧ cur < 2147483648) : x_f x_P (d + 1) 224 [(6, 2, 0), (0, kk, 0)] φ n sl (x_vR n sl (fun φ2 => zq_T φ2 tot at_ 5 pl va kk pl sf sp no op K P V ∧ ∀ j, j ≠ 2 → φ2 j = φ j)) := by
  refine x_f_of rfl ?_
  refine q_load (v := (6, 2, 0)) (p2 := 1) rfl rfl rfl rfl ?_
  refine q_getv (v := (0, cur, 0)) (p2 := 2) rfl hT.1 (by decide) rfl rfl ?_
  refine q_const (p2 := 3) rfl rfl ?_
  refine q_icmp_s (p2 := 4) rfl (by decide) (by omega) (by omega) rfl (fun hb => absurd hb (show ¬ (cur = 5) by omega)) (fun _ => ?_)
  refine q_load (v := (6, 2, 0)) (p2 := 5) rfl rfl rfl rfl ?_
  refine q_load (v := (0, kk, 0)) (p2 := 6) rfl rfl rfl rfl ?_
  refine q_putfE (v := (0, kk, 0)) (p2 := 7) rfl hT.1 (by decide) rfl rfl (fun φ1 f1 hh1 hg1 ho1 fr1 => ?_)
  have hs1 := zq_T_put_2_9 hT hh1 hg1 ho1 fr1
  refine q_load (v := (6, 2, 0)) (p2 := 8) rfl rfl rfl rfl ?_
  refine q_load (v := (6, 2, 0)) (p2 := 9) rfl rfl rfl rfl ?_
  refine q_getv (v := (0, pl, 0)) (p2 := 10) rfl hs1.1 (by decide) rfl rfl ?_
  refine q_putfE (v := (0, pl, 0)) (p2 := 11) rfl hs1.1 (by decide) rfl rfl (fun φ2 f2 hh2 hg2 ho2 fr2 => ?_)
  have hs2 := zq_T_put_2_10 hs1 hh2 hg2 ho2 fr2
  refine q_load (v := (6, 2, 0)) (p2 := 12) rfl rfl rfl rfl ?_
  refine q_const (p2 := 13) rfl rfl ?_
  refine q_putfE (v := (0, 5, 0)) (p2 := 14) rfl hs2.1 (by decide) rfl rfl (fun φ3 f3 hh3 hg3 ho3 fr3 => ?_)
  have hs3 := zq_T_put_2_6 hs2 hh3 hg3 ho3 fr3
  exact q_ret rfl (⟨rfl, rfl, rfl, hs3, fun j hj0 => ((fr3 j (by omega)).trans ((fr2 j (by omega)).trans (fr1 j (by omega))))⟩)
theorem zc_t_refuse {d n sl : Nat} {φ : FH} {tot : Nat} {at_ : Nat} {pl : Nat} {va : Nat} {fa : Nat} {fp : Nat} {sf : Nat} {sp : Nat} {no : Nat} {op : Nat} {K : Nat → Nat} {P : Nat → Nat} {V : Nat → Nat} (hT : zq_T φ tot at_ 0 pl va fa fp sf sp no op K P V)  : x_f x_P (d + 2) 168 [(6, 2, 0)] φ n sl (x_vR n sl (fun φ2 => zq_T φ2 tot at_ 5 pl va 2 pl sf sp no op K P V ∧ ∀ j, j ≠ 2 → φ2 j = φ j)) := by
  refine x_f_of rfl ?_
  refine q_load (v := (6, 2, 0)) (p2 := 1) rfl rfl rfl rfl ?_
  refine q_load (v := (6, 2, 0)) (p2 := 2) rfl rfl rfl rfl ?_
  refine q_getv (v := (0, 0, 0)) (p2 := 3) rfl hT.1 (by decide) rfl rfl ?_
  refine q_const (p2 := 4) rfl rfl ?_
  refine q_icmp_s (p2 := 5) rfl (by decide) (by omega) (by omega) rfl (fun _ => ?_) (fun hb => absurd (show ¬ (0 = 4) by omega) hb)
  refine q_const (p2 := 8) rfl rfl ?_
  refine q_callvE (xs := [(0, 2, 0), (6, 2, 0)]) (p2 := 9) rfl rfl rfl rfl (x_rcv_s 2 hT.1) rfl (zc_t_fail hT (by omega)) (Nat.le_refl _) (Nat.le_refl _) rfl (fun φ1 hR1 => ?_)
  obtain ⟨hs1_0, fr1⟩ := hR1
  exact q_ret rfl (⟨rfl, rfl, rfl, hs1_0, fun j hj0 => (fr1 j (by omega))⟩)
theorem zc_t_out0 {d n sl : Nat} {φ : FH} {tot : Nat} {at_ : Nat} {cur : Nat} {pl : Nat} {va : Nat} {fp : Nat} {sp : Nat} {no : Nat} {op : Nat} {K : Nat → Nat} {P : Nat → Nat} {V : Nat → Nat} (hT : zq_T φ tot at_ cur pl va 0 fp 0 sp no op K P V)  : x_f x_P (d + 1) 45 [(6, 2, 0)] φ n sl (x_r φ n sl (0, 0, 0)) := by
  refine x_f_of rfl ?_
  refine q_load (v := (6, 2, 0)) (p2 := 1) rfl rfl rfl rfl ?_
  refine q_getv (v := (0, 0, 0)) (p2 := 2) rfl hT.1 (by decide) rfl rfl ?_
  refine q_if0_s (p2 := 3) rfl (by decide) (by omega) rfl (fun hb => absurd hb (show ¬ (¬ (0 = 0)) by omega)) (fun _ => ?_)
  refine q_load (v := (6, 2, 0)) (p2 := 4) rfl rfl rfl rfl ?_
  refine q_getv (v := (0, 0, 0)) (p2 := 5) rfl hT.1 (by decide) rfl rfl ?_
  refine q_if0_s (p2 := 6) rfl (by decide) (by omega) rfl (fun _ => ?_) (fun hb => absurd (show 0 = 0 by omega) hb)
  refine q_load (v := (6, 2, 0)) (p2 := 15) rfl rfl rfl rfl ?_
  refine q_getv (v := (0, 0, 0)) (p2 := 16) rfl hT.1 (by decide) rfl rfl ?_
  refine q_if0_s (p2 := 17) rfl (by decide) (by omega) rfl (fun hb => absurd hb (show ¬ (¬ (0 = 0)) by omega)) (fun _ => ?_)
  refine q_const (p2 := 18) rfl rfl ?_
  refine q_goto rfl ?_
  exact q_retv (v := (0, 0, 0)) rfl rfl (⟨rfl, rfl, rfl, rfl, rfl⟩)
theorem zc_t_out2 {d n sl : Nat} {φ : FH} {tot : Nat} {at_ : Nat} {cur : Nat} {pl : Nat} {va : Nat} {fp : Nat} {sf : Nat} {sp : Nat} {no : Nat} {op : Nat} {K : Nat → Nat} {P : Nat → Nat} {V : Nat → Nat} (hT : zq_T φ tot at_ cur pl va 2 fp sf sp no op K P V) (hc0 : fp < 3002) : x_f x_P (d + 1) 45 [(6, 2, 0)] φ n sl (x_r φ n sl (0, 4294967286 - fp, 0)) := by
  refine x_f_of rfl ?_
  refine q_load (v := (6, 2, 0)) (p2 := 1) rfl rfl rfl rfl ?_
  refine q_getv (v := (0, 2, 0)) (p2 := 2) rfl hT.1 (by decide) rfl rfl ?_
  refine q_if0_s (p2 := 3) rfl (by decide) (by omega) rfl (fun _ => ?_) (fun hb => absurd (show ¬ (2 = 0) by omega) hb)
  refine q_load (v := (6, 2, 0)) (p2 := 15) rfl rfl rfl rfl ?_
  refine q_getv (v := (0, 2, 0)) (p2 := 16) rfl hT.1 (by decide) rfl rfl ?_
  refine q_if0_s (p2 := 17) rfl (by decide) (by omega) rfl (fun _ => ?_) (fun hb => absurd (show ¬ (2 = 0) by omega) hb)
  refine q_const (p2 := 20) rfl rfl ?_
  refine q_load (v := (6, 2, 0)) (p2 := 21) rfl rfl rfl rfl ?_
  refine q_getv (v := (0, fp, 0)) (p2 := 22) rfl hT.1 (by decide) rfl rfl ?_
  refine q_isubz (z := 4294967286 - fp) (p2 := 23) rfl (by omega) (by omega) rfl ?_
  exact q_retv (v := (0, 4294967286 - fp, 0)) rfl rfl (⟨rfl, rfl, rfl, rfl, rfl⟩)
theorem zc_t_rewind {d n sl : Nat} {φ : FH} {tot : Nat} {at_ : Nat} {cur : Nat} {pl : Nat} {va : Nat} {fp : Nat} {sf : Nat} {sp : Nat} {no : Nat} {op : Nat} {K : Nat → Nat} {P : Nat → Nat} {V : Nat → Nat} {k1 : Nat} {p1 : Nat} {v1 : Nat} (hT : zq_T φ tot at_ cur pl va 0 fp sf sp no op K P V) (hc0 : 0 < tot ∧ tot ≤ 3002) (hc1 : K 0 = k1) (hc2 : P 0 = p1) (hc3 : V 0 = v1) : x_f x_P (d + 2) 90 [(6, 2, 0)] φ n sl (x_vR n sl (fun φ2 => zq_T φ2 tot 0 k1 p1 v1 0 fp sf sp 0 0 K P V ∧ ∀ j, j ≠ 2 → φ2 j = φ j)) := by
  refine x_f_of rfl ?_
  refine q_load (v := (6, 2, 0)) (p2 := 1) rfl rfl rfl rfl ?_
  refine q_const (p2 := 2) rfl rfl ?_
  refine q_putfE (v := (0, 4294967295, 0)) (p2 := 3) rfl hT.1 (by decide) rfl rfl (fun φ1 f1 hh1 hg1 ho1 fr1 => ?_)
  have hs1 := zq_T_put_2_5 hT hh1 hg1 ho1 fr1
  refine q_load (v := (6, 2, 0)) (p2 := 4) rfl rfl rfl rfl ?_
  refine q_const (p2 := 5) rfl rfl ?_
  refine q_putfE (v := (0, 0, 0)) (p2 := 6) rfl hs1.1 (by decide) rfl rfl (fun φ2 f2 hh2 hg2 ho2 fr2 => ?_)
  have hs2 := zq_T_put_2_13 hs1 hh2 hg2 ho2 fr2
  refine q_load (v := (6, 2, 0)) (p2 := 7) rfl rfl rfl rfl ?_
  refine q_const (p2 := 8) rfl rfl ?_
  refine q_putfE (v := (0, 0, 0)) (p2 := 9) rfl hs2.1 (by decide) rfl rfl (fun φ3 f3 hh3 hg3 ho3 fr3 => ?_)
  have hs3 := zq_T_put_2_14 hs2 hh3 hg3 ho3 fr3
  refine q_load (v := (6, 2, 0)) (p2 := 10) rfl rfl rfl rfl ?_
  refine q_load (v := (6, 2, 0)) (p2 := 11) rfl rfl rfl rfl ?_
  refine q_getv (v := (0, 0, 0)) (p2 := 12) rfl hs3.1 (by decide) rfl rfl ?_
  refine q_if0_s (p2 := 13) rfl (by decide) (by omega) rfl (fun hb => absurd hb (show ¬ (¬ (0 = 0)) by omega)) (fun _ => ?_)
  refine q_const (p2 := 14) rfl rfl ?_
  refine q_goto rfl ?_
  refine q_putfE (v := (0, 1, 0)) (p2 := 17) rfl hs3.1 (by decide) rfl rfl (fun φ4 f4 hh4 hg4 ho4 fr4 => ?_)
  have hs4 := zq_T_put_2_6 hs3 hh4 hg4 ho4 fr4
  refine q_load (v := (6, 2, 0)) (p2 := 18) rfl rfl rfl rfl ?_
  refine q_callvE (xs := [(6, 2, 0)]) (p2 := 19) rfl rfl rfl rfl (x_rcv_s 2 hs4.1) rfl (zc_t_adv0 hs4 (by omega) hc1 hc2 hc3) (Nat.le_refl _) (Nat.le_refl _) rfl (fun φ5 hR5 => ?_)
  obtain ⟨hs5_0, fr5⟩ := hR5
  exact q_ret rfl (⟨rfl, rfl, rfl, hs5_0, fun j hj0 => ((fr5 j (by omega)).trans ((fr4 j (by omega)).trans ((fr3 j (by omega)).trans ((fr2 j (by omega)).trans (fr1 j (by omega))))))⟩)
theorem zc_t_add {d n sl : Nat} {φ : FH} {tot : Nat} {at_ : Nat} {cur : Nat} {pl : Nat} {va : Nat} {fa : Nat} {fp : Nat} {sf : Nat} {sp : Nat} {no : Nat} {op : Nat} {K : Nat → Nat} {P : Nat → Nat} {V : Nat → Nat} {ki : Nat} {pa : Nat} {vv : Nat} (hT : zq_T φ tot at_ cur pl va fa fp sf sp no op K P V) (hc0 : tot < 3002) : x_f x_P (d + 1) 89 [(6, 2, 0), (0, ki, 0), (0, pa, 0), (2, vv, 0), (11, 0, 0)] φ n sl (x_vR n sl (fun φ2 => zq_T φ2 (tot + 1) at_ cur pl va fa fp sf sp no op (x_s K tot ki) (x_s P tot pa) (x_s V tot vv) ∧ ∀ j, j ≠ 2 → j ≠ 4 → j ≠ 5 → j ≠ 6 → φ2 j = φ j)) := by
  refine x_f_of rfl ?_
  refine q_load (v := (6, 2, 0)) (p2 := 1) rfl rfl rfl rfl ?_
  refine q_getv (v := (0, tot, 0)) (p2 := 2) rfl hT.1 (by decide) rfl rfl ?_
  refine q_load (v := (6, 2, 0)) (p2 := 3) rfl rfl rfl rfl ?_
  refine q_getv (v := (6, 4, 0)) (p2 := 4) rfl hT.1 (by decide) rfl rfl ?_
  refine q_alen (p2 := 5) rfl hT.2.2.1 rfl (by omega) rfl ?_
  refine q_icmp_s (p2 := 6) rfl (by decide) (by omega) (by omega) rfl (fun hb => absurd hb (show ¬ (¬ (tot < 3002)) by omega)) (fun _ => ?_)
  refine q_load (v := (6, 2, 0)) (p2 := 7) rfl rfl rfl rfl ?_
  refine q_getv (v := (6, 4, 0)) (p2 := 8) rfl hT.1 (by decide) rfl rfl ?_
  refine q_load (v := (6, 2, 0)) (p2 := 9) rfl rfl rfl rfl ?_
  refine q_getv (v := (0, tot, 0)) (p2 := 10) rfl hT.1 (by decide) rfl rfl ?_
  refine q_load (v := (0, ki, 0)) (p2 := 11) rfl rfl rfl rfl ?_
  refine q_astE (v := (0, ki, 0)) (w := (0, ki, 0)) (p2 := 12) rfl hT.2.2.1 (by omega) (by omega) (x_ok_0 rfl) (x_nv_same rfl (by decide)) rfl (fun φ1 f1 hh1 hg1 ho1 fr1 => ?_)
  have hs1 := zq_T_st_4 hT hh1 hg1 ho1 fr1
  refine q_load (v := (6, 2, 0)) (p2 := 13) rfl rfl rfl rfl ?_
  refine q_getv (v := (6, 5, 0)) (p2 := 14) rfl hs1.1 (by decide) rfl rfl ?_
  refine q_load (v := (6, 2, 0)) (p2 := 15) rfl rfl rfl rfl ?_
  refine q_getv (v := (0, tot, 0)) (p2 := 16) rfl hs1.1 (by decide) rfl rfl ?_
  refine q_load (v := (0, pa, 0)) (p2 := 17) rfl rfl rfl rfl ?_
  refine q_astE (v := (0, pa, 0)) (w := (0, pa, 0)) (p2 := 18) rfl hs1.2.2.2.1 (by omega) (by omega) (x_ok_0 rfl) (x_nv_same rfl (by decide)) rfl (fun φ2 f2 hh2 hg2 ho2 fr2 => ?_)
  have hs2 := zq_T_st_5 hs1 hh2 hg2 ho2 fr2
  refine q_load (v := (6, 2, 0)) (p2 := 19) rfl rfl rfl rfl ?_
  refine q_getv (v := (6, 6, 0)) (p2 := 20) rfl hs2.1 (by decide) rfl rfl ?_
  refine q_load (v := (6, 2, 0)) (p2 := 21) rfl rfl rfl rfl ?_
  refine q_getv (v := (0, tot, 0)) (p2 := 22) rfl hs2.1 (by decide) rfl rfl ?_
  refine q_load (v := (2, vv, 0)) (p2 := 23) rfl rfl rfl rfl ?_
  refine q_astE (v := (2, vv, 0)) (w := (2, vv, 0)) (p2 := 24) rfl hs2.2.2.2.2 (by omega) (by omega) (x_ok_0 rfl) (x_nv_same rfl (by decide)) rfl (fun φ3 f3 hh3 hg3 ho3 fr3 => ?_)
  have hs3 := zq_T_st_6 hs2 hh3 hg3 ho3 fr3
  refine q_load (v := (6, 2, 0)) (p2 := 25) rfl rfl rfl rfl ?_
  refine q_dup (p2 := 26) rfl rfl rfl ?_
  refine q_getv (v := (0, tot, 0)) (p2 := 27) rfl hs3.1 (by decide) rfl rfl ?_
  refine q_const (p2 := 28) rfl rfl ?_
  refine q_iaddz (z := tot + 1) (p2 := 29) rfl (by omega) (by omega) rfl ?_
  refine q_putfE (v := (0, tot + 1, 0)) (p2 := 30) rfl hs3.1 (by decide) rfl rfl (fun φ4 f4 hh4 hg4 ho4 fr4 => ?_)
  have hs4 := zq_T_put_2_4 hs3 hh4 hg4 ho4 fr4
  exact q_ret rfl (⟨rfl, rfl, rfl, hs4, fun j hj0 hj1 hj2 hj3 => ((fr4 j (by omega)).trans ((fr3 j (by omega)).trans ((fr2 j (by omega)).trans (fr1 j (by omega)))))⟩)
theorem zc_x_em1 {d n sl : Nat} {φ : FH} {top : Nat} {hid : Nat} {lc : Nat} {slo : Nat} {own : Nat} {sk : Nat} {co : Nat → Nat} {wd : Nat} (hE : zq_E φ 1 top hid lc slo own sk) (hC : zq_co φ co) (hS : x_sch φ) (hc0 : top < 12000) : x_f x_P (d + 1) 167 [(6, 232, 0), (0, wd, 0)] φ n sl (x_vR n sl (fun φ2 => zq_E φ2 1 (top + 1) hid lc slo own sk ∧ zq_co φ2 (x_s co top wd) ∧ ∀ j, j ≠ 232 → j ≠ 450 → φ2 j = φ j)) := by
  refine x_f_of rfl ?_
  refine q_load (v := (6, 232, 0)) (p2 := 1) rfl rfl rfl rfl ?_
  refine q_getv (v := (0, 1, 0)) (p2 := 2) rfl hE (by decide) rfl rfl ?_
  refine q_if0_s (p2 := 3) rfl (by decide) (by omega) rfl (fun hb => absurd hb (show ¬ (1 = 0) by omega)) (fun _ => ?_)
  refine q_load (v := (6, 232, 0)) (p2 := 4) rfl rfl rfl rfl ?_
  refine q_getv (v := (0, top, 0)) (p2 := 5) rfl hE (by decide) rfl rfl ?_
  refine q_if0_s (p2 := 6) rfl (by decide) (by omega) rfl (fun hb => absurd hb (show ¬ (top < 0) by omega)) (fun _ => ?_)
  refine q_load (v := (6, 232, 0)) (p2 := 7) rfl rfl rfl rfl ?_
  refine q_getv (v := (0, top, 0)) (p2 := 8) rfl hE (by decide) rfl rfl ?_
  refine q_load (v := (6, 232, 0)) (p2 := 9) rfl rfl rfl rfl ?_
  refine q_getv (v := (6, 237, 0)) (p2 := 10) rfl hE (by decide) rfl rfl ?_
  refine q_getv (v := (6, 450, 0)) (p2 := 11) rfl hS.1.choose_spec.1 (by decide) hS.1.choose_spec.2.2.2.2.2.2.2.2.2.2.2.2.2.1 rfl ?_
  refine q_alen (p2 := 12) rfl hC rfl (by omega) rfl ?_
  refine q_icmp_s (p2 := 13) rfl (by decide) (by omega) (by omega) rfl (fun hb => absurd hb (show ¬ (¬ (top < 12288)) by omega)) (fun _ => ?_)
  refine q_load (v := (6, 232, 0)) (p2 := 14) rfl rfl rfl rfl ?_
  refine q_getv (v := (6, 237, 0)) (p2 := 15) rfl hE (by decide) rfl rfl ?_
  refine q_getv (v := (6, 450, 0)) (p2 := 16) rfl hS.1.choose_spec.1 (by decide) hS.1.choose_spec.2.2.2.2.2.2.2.2.2.2.2.2.2.1 rfl ?_
  refine q_load (v := (6, 232, 0)) (p2 := 17) rfl rfl rfl rfl ?_
  refine q_getv (v := (0, top, 0)) (p2 := 18) rfl hE (by decide) rfl rfl ?_
  refine q_load (v := (0, wd, 0)) (p2 := 19) rfl rfl rfl rfl ?_
  refine q_astE (v := (0, wd, 0)) (w := (0, wd, 0)) (p2 := 20) rfl hC (by omega) (by omega) (x_ok_0 rfl) (x_nv_same rfl (by decide)) rfl (fun φ1 f1 hh1 hg1 ho1 fr1 => ?_)
  have hs1 := zq_co_st_450 hC hh1 hg1 ho1 fr1
  refine q_load (v := (6, 232, 0)) (p2 := 21) rfl rfl rfl rfl ?_
  refine q_dup (p2 := 22) rfl rfl rfl ?_
  have hm2 := (zq_E_at hE (fr1 232 (by decide)))
  refine q_getv (v := (0, top, 0)) (p2 := 23) rfl hm2 (by decide) rfl rfl ?_
  refine q_const (p2 := 24) rfl rfl ?_
  refine q_iaddz (z := top + 1) (p2 := 25) rfl (by omega) (by omega) rfl ?_
  refine q_putfE (v := (0, top + 1, 0)) (p2 := 26) rfl hm2 (by decide) rfl rfl (fun φ3 f3 hh3 hg3 ho3 fr3 => ?_)
  have hs3 := zq_E_put_232_3 hm2 hh3 hg3 ho3 fr3
  have hm4 := (zq_co_at hs1 (fr3 450 (by decide)))
  exact q_ret rfl (⟨rfl, rfl, rfl, hs3, hm4, fun j hj0 hj1 => ((fr3 j (by omega)).trans (fr1 j (by omega)))⟩)
theorem zc_x_em2 {d n sl : Nat} {φ : FH} {top : Nat} {hid : Nat} {lc : Nat} {slo : Nat} {own : Nat} {sk : Nat} {co : Nat → Nat} {wd : Nat} {ar : Nat} (hE : zq_E φ 1 top hid lc slo own sk) (hC : zq_co φ co) (hS : x_sch φ) (hc0 : top < 12000) : x_f x_P (d + 1) 161 [(6, 232, 0), (0, wd, 0), (0, ar, 0)] φ n sl (x_vR n sl (fun φ2 => zq_E φ2 1 (top + 2) hid lc slo own sk ∧ zq_co φ2 (x_s (x_s co top wd) (top + 1) ar) ∧ ∀ j, j ≠ 232 → j ≠ 450 → φ2 j = φ j)) := by
  refine x_f_of rfl ?_
  refine q_load (v := (6, 232, 0)) (p2 := 1) rfl rfl rfl rfl ?_
  refine q_getv (v := (0, 1, 0)) (p2 := 2) rfl hE (by decide) rfl rfl ?_
  refine q_if0_s (p2 := 3) rfl (by decide) (by omega) rfl (fun hb => absurd hb (show ¬ (1 = 0) by omega)) (fun _ => ?_)
  refine q_load (v := (6, 232, 0)) (p2 := 4) rfl rfl rfl rfl ?_
  refine q_getv (v := (0, top, 0)) (p2 := 5) rfl hE (by decide) rfl rfl ?_
  refine q_if0_s (p2 := 6) rfl (by decide) (by omega) rfl (fun hb => absurd hb (show ¬ (top < 0) by omega)) (fun _ => ?_)
  refine q_load (v := (6, 232, 0)) (p2 := 7) rfl rfl rfl rfl ?_
  refine q_getv (v := (0, top, 0)) (p2 := 8) rfl hE (by decide) rfl rfl ?_
  refine q_const (p2 := 9) rfl rfl ?_
  refine q_iaddz (z := top + 1) (p2 := 10) rfl (by omega) (by omega) rfl ?_
  refine q_load (v := (6, 232, 0)) (p2 := 11) rfl rfl rfl rfl ?_
  refine q_getv (v := (6, 237, 0)) (p2 := 12) rfl hE (by decide) rfl rfl ?_
  refine q_getv (v := (6, 450, 0)) (p2 := 13) rfl hS.1.choose_spec.1 (by decide) hS.1.choose_spec.2.2.2.2.2.2.2.2.2.2.2.2.2.1 rfl ?_
  refine q_alen (p2 := 14) rfl hC rfl (by omega) rfl ?_
  refine q_icmp_s (p2 := 15) rfl (by decide) (by omega) (by omega) rfl (fun hb => absurd hb (show ¬ (¬ (top + 1 < 12288)) by omega)) (fun _ => ?_)
  refine q_load (v := (6, 232, 0)) (p2 := 16) rfl rfl rfl rfl ?_
  refine q_getv (v := (6, 237, 0)) (p2 := 17) rfl hE (by decide) rfl rfl ?_
  refine q_getv (v := (6, 450, 0)) (p2 := 18) rfl hS.1.choose_spec.1 (by decide) hS.1.choose_spec.2.2.2.2.2.2.2.2.2.2.2.2.2.1 rfl ?_
  refine q_load (v := (6, 232, 0)) (p2 := 19) rfl rfl rfl rfl ?_
  refine q_getv (v := (0, top, 0)) (p2 := 20) rfl hE (by decide) rfl rfl ?_
  refine q_load (v := (0, wd, 0)) (p2 := 21) rfl rfl rfl rfl ?_
  refine q_astE (v := (0, wd, 0)) (w := (0, wd, 0)) (p2 := 22) rfl hC (by omega) (by omega) (x_ok_0 rfl) (x_nv_same rfl (by decide)) rfl (fun φ1 f1 hh1 hg1 ho1 fr1 => ?_)
  have hs1 := zq_co_st_450 hC hh1 hg1 ho1 fr1
  refine q_load (v := (6, 232, 0)) (p2 := 23) rfl rfl rfl rfl ?_
  have hm2 := (zq_E_at hE (fr1 232 (by decide)))
  refine q_getv (v := (6, 237, 0)) (p2 := 24) rfl hm2 (by decide) rfl rfl ?_
  have hm3 := (x_sch_at hS (fun j h1 h2 => (fr1 j (by omega))))
  refine q_getv (v := (6, 450, 0)) (p2 := 25) rfl hm3.1.choose_spec.1 (by decide) hm3.1.choose_spec.2.2.2.2.2.2.2.2.2.2.2.2.2.1 rfl ?_
  refine q_load (v := (6, 232, 0)) (p2 := 26) rfl rfl rfl rfl ?_
  refine q_getv (v := (0, top, 0)) (p2 := 27) rfl hm2 (by decide) rfl rfl ?_
  refine q_const (p2 := 28) rfl rfl ?_
  refine q_iaddz (z := top + 1) (p2 := 29) rfl (by omega) (by omega) rfl ?_
  refine q_load (v := (0, ar, 0)) (p2 := 30) rfl rfl rfl rfl ?_
  refine q_astE (v := (0, ar, 0)) (w := (0, ar, 0)) (p2 := 31) rfl hs1 (by omega) (by omega) (x_ok_0 rfl) (x_nv_same rfl (by decide)) rfl (fun φ4 f4 hh4 hg4 ho4 fr4 => ?_)
  have hs4 := zq_co_st_450 hs1 hh4 hg4 ho4 fr4
  refine q_load (v := (6, 232, 0)) (p2 := 32) rfl rfl rfl rfl ?_
  refine q_dup (p2 := 33) rfl rfl rfl ?_
  have hm5 := (zq_E_at hm2 (fr4 232 (by decide)))
  refine q_getv (v := (0, top, 0)) (p2 := 34) rfl hm5 (by decide) rfl rfl ?_
  refine q_const (p2 := 35) rfl rfl ?_
  refine q_iaddz (z := top + 2) (p2 := 36) rfl (by omega) (by omega) rfl ?_
  refine q_putfE (v := (0, top + 2, 0)) (p2 := 37) rfl hm5 (by decide) rfl rfl (fun φ6 f6 hh6 hg6 ho6 fr6 => ?_)
  have hs6 := zq_E_put_232_3 hm5 hh6 hg6 ho6 fr6
  have hm7 := (zq_co_at hs4 (fr6 450 (by decide)))
  exact q_ret rfl (⟨rfl, rfl, rfl, hs6, hm7, fun j hj0 hj1 => ((fr6 j (by omega)).trans ((fr4 j (by omega)).trans (fr1 j (by omega))))⟩)
theorem zc_x_more {d n sl : Nat} {φ : FH} {top : Nat} {hid : Nat} {lc : Nat} {slo : Nat} {own : Nat} {sk : Nat} {co : Nat → Nat} {st : Nat} {cv : Nat} (hE : zq_E φ 1 top hid lc slo own sk) (hC : zq_co φ co) (hS : x_sch φ) (hc0 : st < 12000) (hc1 : co (st + 1) = cv) (hc2 : cv < 1000) : x_f x_P (d + 1) 295 [(6, 232, 0), (0, st, 0)] φ n sl (x_vR n sl (fun φ2 => zq_co φ2 (x_s co (st + 1) (cv + 1)) ∧ ∀ j, j ≠ 450 → φ2 j = φ j)) := by
  refine x_f_of rfl ?_
  refine q_load (v := (6, 232, 0)) (p2 := 1) rfl rfl rfl rfl ?_
  refine q_getv (v := (0, 1, 0)) (p2 := 2) rfl hE (by decide) rfl rfl ?_
  refine q_if0_s (p2 := 3) rfl (by decide) (by omega) rfl (fun hb => absurd hb (show ¬ (1 = 0) by omega)) (fun _ => ?_)
  refine q_load (v := (0, st, 0)) (p2 := 4) rfl rfl rfl rfl ?_
  refine q_if0_s (p2 := 5) rfl (by decide) (by omega) rfl (fun hb => absurd hb (show ¬ (st < 0) by omega)) (fun _ => ?_)
  refine q_load (v := (0, st, 0)) (p2 := 6) rfl rfl rfl rfl ?_
  refine q_const (p2 := 7) rfl rfl ?_
  refine q_iaddz (z := st + 1) (p2 := 8) rfl (by omega) (by omega) rfl ?_
  refine q_load (v := (6, 232, 0)) (p2 := 9) rfl rfl rfl rfl ?_
  refine q_getv (v := (6, 237, 0)) (p2 := 10) rfl hE (by decide) rfl rfl ?_
  refine q_getv (v := (6, 450, 0)) (p2 := 11) rfl hS.1.choose_spec.1 (by decide) hS.1.choose_spec.2.2.2.2.2.2.2.2.2.2.2.2.2.1 rfl ?_
  refine q_alen (p2 := 12) rfl hC rfl (by omega) rfl ?_
  refine q_icmp_s (p2 := 13) rfl (by decide) (by omega) (by omega) rfl (fun hb => absurd hb (show ¬ (¬ (st + 1 < 12288)) by omega)) (fun _ => ?_)
  refine q_load (v := (6, 232, 0)) (p2 := 14) rfl rfl rfl rfl ?_
  refine q_getv (v := (6, 237, 0)) (p2 := 15) rfl hE (by decide) rfl rfl ?_
  refine q_getv (v := (6, 450, 0)) (p2 := 16) rfl hS.1.choose_spec.1 (by decide) hS.1.choose_spec.2.2.2.2.2.2.2.2.2.2.2.2.2.1 rfl ?_
  refine q_load (v := (0, st, 0)) (p2 := 17) rfl rfl rfl rfl ?_
  refine q_const (p2 := 18) rfl rfl ?_
  refine q_iaddz (z := st + 1) (p2 := 19) rfl (by omega) (by omega) rfl ?_
  refine q_dup2 (p2 := 20) rfl rfl rfl rfl ?_
  refine q_aldT (tag := 0) (v := cv) (p2 := 21) rfl hC (by omega) (by omega) hc1 rfl ?_
  refine q_const (p2 := 22) rfl rfl ?_
  refine q_iaddz (z := cv + 1) (p2 := 23) rfl (by omega) (by omega) rfl ?_
  refine q_astE (v := (0, cv + 1, 0)) (w := (0, cv + 1, 0)) (p2 := 24) rfl hC (by omega) (by omega) (x_ok_0 rfl) (x_nv_same rfl (by decide)) rfl (fun φ1 f1 hh1 hg1 ho1 fr1 => ?_)
  have hs1 := zq_co_st_450 hC hh1 hg1 ho1 fr1
  exact q_ret rfl (⟨rfl, rfl, rfl, hs1, fun j hj0 => (fr1 j (by omega))⟩)
theorem zc_x_oper {d n sl : Nat} {φ : FH} {tot : Nat} {at_ : Nat} {cur : Nat} {pl : Nat} {va : Nat} {fa : Nat} {fp : Nat} {sf : Nat} {sp : Nat} {no : Nat} {op : Nat} {K : Nat → Nat} {P : Nat → Nat} {V : Nat → Nat} {top : Nat} {hid : Nat} {lc : Nat} {slo : Nat} {own : Nat} {sk : Nat} {co : Nat → Nat} {k1 : Nat} {p1 : Nat} {v1 : Nat} {st : Nat} {cv : Nat} (hT : zq_T φ tot at_ cur pl va fa fp sf sp no op K P V) (hE : zq_E φ 1 top hid lc slo own sk) (hC : zq_co φ co) (hS : x_sch φ) (hc0 : st < 12000) (hc1 : co (st + 1) = cv) (hc2 : cv < 1000) (hc3 : no < 600) (hc4 : at_ + 1 < tot ∧ tot ≤ 3002) (hc5 : cur ≠ 5 ∧ cur < 2147483648) (hc6 : K (at_ + 1) = k1) (hc7 : P (at_ + 1) = p1) (hc8 : V (at_ + 1) = v1) : x_f x_P (d + 2) 246 [(6, 232, 0), (0, st, 0)] φ n sl (x_vR n sl (fun φ2 => zq_T φ2 tot (at_ + 1) k1 p1 v1 fa fp sf sp (no + 1) op K P V ∧ zq_co φ2 (x_s co (st + 1) (cv + 1)) ∧ ∀ j, j ≠ 2 → j ≠ 450 → φ2 j = φ j)) := by
  refine x_f_of rfl ?_
  refine q_load (v := (6, 232, 0)) (p2 := 1) rfl rfl rfl rfl ?_
  refine q_getv (v := (6, 2, 0)) (p2 := 2) rfl hE (by decide) rfl rfl ?_
  refine q_callrE (xs := [(6, 2, 0)]) (p2 := 3) rfl rfl rfl rfl (x_rcv_s 2 hT.1) rfl (zc_t_node hT (by omega)) (Nat.le_refl _) (Nat.le_refl _) rfl (fun φ1 hR1 => ?_)
  obtain ⟨hs1_0, fr1⟩ := hR1
  refine q_if0_s (p2 := 4) rfl (by decide) (by omega) rfl (fun hb => absurd hb (show ¬ (1 = 0) by omega)) (fun _ => ?_)
  refine q_load (v := (6, 232, 0)) (p2 := 5) rfl rfl rfl rfl ?_
  have hm2 := (zq_E_at hE (fr1 232 (by decide)))
  refine q_getv (v := (6, 2, 0)) (p2 := 6) rfl hm2 (by decide) rfl rfl ?_
  refine q_callvE (xs := [(6, 2, 0)]) (p2 := 7) rfl rfl rfl rfl (x_rcv_s 2 hs1_0.1) rfl (zc_t_adv hs1_0 (by omega) (by omega) hc6 hc7 hc8) (Nat.le_refl _) (Nat.le_refl _) rfl (fun φ3 hR3 => ?_)
  obtain ⟨hs3_0, fr3⟩ := hR3
  refine q_goto rfl ?_
  refine q_load (v := (6, 232, 0)) (p2 := 13) rfl rfl rfl rfl ?_
  refine q_load (v := (0, st, 0)) (p2 := 14) rfl rfl rfl rfl ?_
  have hm4 := (zq_E_at hm2 (fr3 232 (by decide)))
  have hm5 := (zq_co_at hC ((fr3 450 (by decide)).trans (fr1 450 (by decide))))
  have hm6 := (x_sch_at hS (fun j h1 h2 => ((fr3 j (by omega)).trans (fr1 j (by omega)))))
  refine q_callvE (xs := [(0, st, 0), (6, 232, 0)]) (p2 := 15) rfl rfl rfl rfl (x_rcv_s 232 hm4) rfl (zc_x_more hm4 hm5 hm6 (by omega) hc1 (by omega)) (Nat.le_refl _) (Nat.le_refl _) rfl (fun φ7 hR7 => ?_)
  obtain ⟨hs7_0, fr7⟩ := hR7
  have hm8 := (zq_T_at hs3_0 (fr7 2 (by decide)) (fr7 3 (by decide)) (fr7 4 (by decide)) (fr7 5 (by decide)) (fr7 6 (by decide)))
  exact q_ret rfl (⟨rfl, rfl, rfl, hm8, hs7_0, fun j hj0 hj1 => ((fr7 j (by omega)).trans ((fr3 j (by omega)).trans (fr1 j (by omega))))⟩)
end FPOP40
