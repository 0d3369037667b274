section LAW7
set_option maxRecDepth 100000
variable {p : Program} {l : Launch} {e : Env} {R : Room} {s : State} {m : MethodId} {args : Array Value} {below : List Frame} {meth : Method} {c : Code} {Q : State → Prop} {D : va_G} {en : XE} {ao au : Nat}
def zjl (r made : Nat) (comb : Nat → Nat) (hm : Nat → MV) : List Nat := if r = 6 then x_fl (q6 made comb hm) made else if r = 8 then x_fl (q8 made comb hm) made else []
theorem zjl_PE {r made : Nat} {c1 c2 : Nat → Nat} {h1 h2 : Nat → MV} (h : PE made c1 h1 c2 h2) : zjl r made c1 h1 = zjl r made c2 h2 := by
  unfold zjl; rw [PE_q6 h, PE_q8 h]
theorem zjl_le {r made : Nat} {comb : Nat → Nat} {hm : Nat → MV} (h : made ≤ 40) : (zjl r made comb hm).length ≤ 40 := by
  unfold zjl
  split
  · exact Nat.le_trans x_fl_le h
  · split
    · exact Nat.le_trans x_fl_le h
    · decide
theorem zN_nil {made : Nat} {comb : Nat → Nat} {hm : Nat → MV} : x_fl (qN made comb hm) made = [] := List.eq_nil_of_length_eq_zero zN_len
/-- a house that has judged -/
def zGq (φ : FH) (mi made : Nat) (comb : Nat → Nat) (hm : Nat → MV) (mh : MV) (noted i0 v0 : Nat) : Prop := ∃ (tp : Nat → Nat) (lf sv svm : Nat) (sc : Nat → Nat) (sm : Nat → MV) (verd : Nat) (ins ver : Nat → Nat) (sz : Nat) (bw : Nat → Nat), ins 0 = i0 ∧ ver 0 = v0 ∧ zG φ 0 tp lf mi made sv svm comb hm sc sm mh noted verd ins ver sz bw
theorem zGq_x {φ : FH} {mi made : Nat} {comb : Nat → Nat} {hm : Nat → MV} {mh : MV} {noted i0 v0 : Nat} (h : zGq φ mi made comb hm mh noted i0 v0) : zGx φ mi made comb hm mh := by
  obtain ⟨tp, lf, sv, svm, sc, sm, verd, ins, ver, sz, bw, -, -, h⟩ := h
  exact ⟨_, _, _, _, _, _, _, _, _, _, _, _, h⟩
/-- what a judgement leaves -/
def zjP (L : List Nat) (mi made : Nat) (comb : Nat → Nat) (hm : Nat → MV) (mh : MV) (w : XV) (φ2 : FH) : Prop := ∃ mi2, w = (0, if L.length = 0 then 1 else 0, 0) ∧ mi2 ≤ mi + 100 ∧ ∃ i0 v0, zGq φ2 mi2 made comb hm mh L.length i0 v0 ∧ (L.length ≠ 0 → i0 = L.getD 0 0 ∧ v0 = 0)
theorem zj_of {d n sl mi r made : Nat} {φ : FH} {loc : List XV} {comb : Nat → Nat} {hm : Nat → MV} {mh : MV} {q : Nat → Prop} [DecidablePred q] {tp : Nat → Nat} {lf sv svm : Nat} {sc : Nat → Nat} {sm : Nat → MV} {sz : Nat} {bw : Nat → Nat}
    (h : x_f x_P d 27 loc φ n sl (x_bR n sl 100 600 (fun zw φ2 => ∃ mi2 noted2 verd2 : Nat, ∃ ins2 ver2 : Nat → Nat, zw = (0, verd2, 0) ∧ mi2 ≤ mi + 100 ∧ JI q made noted2 verd2 ins2 ver2 ∧ zG φ2 0 tp lf mi2 made sv svm comb hm sc sm mh noted2 verd2 ins2 ver2 sz bw))) (e : x_fl q made = zjl r made comb hm) :
    x_f x_P d 27 loc φ n sl (x_bR n sl 100 600 (zjP (zjl r made comb hm) mi made comb hm mh)) := by
  refine x_f_mono h (fun u w φ2 n2 sl2 q => ?_)
  obtain ⟨q1, q2, q3, mi2, noted2, verd2, ins2, ver2, q6, q7, ⟨j1, j2, j3⟩, q9⟩ := q
  rw [e] at j1 j3
  refine ⟨q1, q2, q3, mi2, ?_, q7, ins2 0, ver2 0, ⟨_, _, _, _, _, _, _, _, _, _, _, rfl, rfl, j1 ▸ q9⟩, fun z => (j3 (by rw [j1]; exact z)).2⟩
  rw [q6]
  by_cases hz : noted2 = 0
  · rw [if_pos (j1 ▸ hz), j2 hz]
  · rw [if_neg (j1 ▸ hz), (j3 hz).1]
theorem zx_judge {n sl mi r made : Nat} {φ : FH} {comb : Nat → Nat} {hm : Nat → MV} {mh : MV} (hG : zGx φ mi made comb hm mh) (hn : 486 ≤ n) (hI : MInv made comb hm) (hmi : mi + 300 ≤ 20000) (hr : r < 9) : x_f x_P 8 27 [(6, 0, 0), (0, r, 0), (11, 0, 0), (11, 0, 0)] φ n sl (x_bR n sl 100 600 (zjP (zjl r made comb hm) mi made comb hm mh)) := by
  obtain ⟨tp, lf, sv, svm, sc, sm, noted, verd, ins, ver, sz, bw, hG⟩ := hG
  obtain ⟨hmade, hpv, hI0, hI1, hI3, hcb, h6⟩ := hI
  match r, hr with
  | 0, _ => exact zj_of (r := 0) (zc_judge_0 (d := 2) hG hn hpv hmi hI0 hI1 hI3 hcb) zN_nil
  | 1, _ => exact zj_of (r := 1) (zc_judge_1 (d := 2) hG hn hpv hmi hI0 hI1 hI3 hcb) zN_nil
  | 2, _ => exact zj_of (r := 2) (zc_judge_2 (d := 2) hG hn hpv hmi hI0 hI1 hI3 hcb) zN_nil
  | 3, _ => exact zj_of (r := 3) (zc_judge_3 (d := 2) hG hn hpv hmi hI0 hI1 hI3 hcb) zN_nil
  | 4, _ => exact zj_of (r := 4) (zc_judge_4 (d := 2) hG hn hpv hmi hI0 hI1 hI3 hcb) zN_nil
  | 5, _ => exact zj_of (r := 5) (zc_judge_5 (d := 2) hG hn hpv hmi hI0 hI1 hI3 hcb) zN_nil
  | 6, _ => exact zj_of (r := 6) (zc_judge_6 (d := 2) hG hn hpv hmi hI0 hI1 hI3 hcb) rfl
  | 7, _ => exact zj_of (r := 7) (zc_judge_7 (d := 2) hG hn hpv hmi hI0 hI1 hI3 hcb) zN_nil
  | 8, _ => exact zj_of (r := 8) (zc_judge_8 (d := 0) hG hn hpv hmi hI0 hI1 hI3 hcb) rfl
  | zz + 9, hz9 => exact absurd hz9 (by omega)
theorem zq_judged0_no {d n sl mi made i0 v0 : Nat} {φ : FH} {comb : Nat → Nat} {hm : Nat → MV} {mh : MV} (hG : zGq φ mi made comb hm mh 0 i0 v0) (hn : 486 ≤ n) : x_f x_P (d + 1) 337 [(6, 0, 0), (0, 0, 0), (0, 0, 0)] φ n sl (x_bR n sl 0 0 (fun w φ2 => w = (0, 4294967295, 0) ∧ φ2 = φ)) := by
  obtain ⟨tp, lf, sv, svm, sc, sm, verd, ins, ver, sz, bw, -, -, h⟩ := hG
  exact bR_of_r (zc_judged0_no h hn)
theorem zq_judged0 {d n sl mi made noted i0 v0 : Nat} {φ : FH} {comb : Nat → Nat} {hm : Nat → MV} {mh : MV} (hG : zGq φ mi made comb hm mh noted i0 v0) (hn : 486 ≤ n) (hno : 0 < noted ∧ noted ≤ 40) : x_f x_P (d + 1) 337 [(6, 0, 0), (0, 0, 0), (0, 0, 0)] φ n sl (x_bR n sl 0 0 (fun w φ2 => w = (0, i0, 0) ∧ φ2 = φ)) := by
  obtain ⟨tp, lf, sv, svm, sc, sm, verd, ins, ver, sz, bw, z1, z2, h⟩ := hG
  rw [← z1]
  exact bR_of_r (zc_judged0 h hn hno)
theorem zq_judged1 {d n sl mi made noted i0 v0 : Nat} {φ : FH} {comb : Nat → Nat} {hm : Nat → MV} {mh : MV} (hG : zGq φ mi made comb hm mh noted i0 v0) (hn : 486 ≤ n) (hno : 0 < noted ∧ noted ≤ 40) : x_f x_P (d + 1) 337 [(6, 0, 0), (0, 0, 0), (0, 1, 0)] φ n sl (x_bR n sl 0 0 (fun w φ2 => w = (0, v0, 0) ∧ φ2 = φ)) := by
  obtain ⟨tp, lf, sv, svm, sc, sm, verd, ins, ver, sz, bw, z1, z2, h⟩ := hG
  rw [← z2]
  exact bR_of_r (zc_judged1 h hn hno)
set_option maxHeartbeats 4000000 in
theorem zr_0 {CB SB r made mi mi' : Nat} {φ ψ : FH} {c1 c2 : Nat → Nat} {h1 h2 : Nat → MV} {mh mh' : MV} (hA : zAm p l R s m args meth c D en) (hG : zGx φ mi made c1 h1 mh) (hG' : zGx ψ mi' made c2 h2 mh') (hE : PE made c1 h1 c2 h2) (hI : MInv made c1 h1) (hI' : MInv made c2 h2) (hr : r < 9) (hmi : mi + 400 ≤ 20000) (hmi' : mi' + 400 ≤ 20000) (hCB : CB + 200 ≤ 600000) (hSB : SB + 1200 ≤ 7302249) (hL : (zjl r made c1 h1).length = 0)
    (kt : ∀ (φ2 ψ2 : FH) (mi2 mi2' : Nat), mi2 ≤ mi + 100 → mi2' ≤ mi' + 100 → zGx φ2 mi2 made c1 h1 mh → zGx ψ2 mi2' made c2 h2 mh' → zLW p l e R s m args below meth c Q D en ao au (CB + 200) (SB + 1200) 175 [] [(7, .int (Int32.ofNat (r + 1))), (6, .int (Int32.ofNat made)), (2, .ref au), (1, .ref ao)] φ2 ψ2) : zLW p l e R s m args below meth c Q D en ao au CB SB 178 [] [(7, .int (Int32.ofNat r)), (6, .int (Int32.ofNat made)), (2, .ref au), (1, .ref ao)] φ ψ := by
  have hLL : zjl r made c1 h1 = zjl r made c2 h2 := zjl_PE hE
  have hL2 : (zjl r made c2 h2).length = 0 := hLL ▸ hL
  refine zl_aload (j := 1) (q := 3) hA ⟨by decide +kernel, rfl⟩ rfl ?_
  refine zl_iload (i := 7) (q := 0) hA ⟨by decide +kernel, rfl⟩ rfl ?_
  refine zl_callO (i := (11, 27, 2, [(4, 1)])) (M := 27) (d := 8) (CN := 100) (CS := 600) (st := []) [r] hA (zs_180 hA.2.2.1) (fun n sl hn => (zx_judge hG hn hI (by omega) hr)) (fun w φ2 q => by obtain ⟨_, z, _⟩ := q; rw [z]; exact Or.inl rfl) (Nat.le_of_ble_eq_true rfl) rfl (Or.inr ⟨rfl, zGx_0 hG⟩) (Nat.le_of_ble_eq_true rfl) (Nat.le_of_ble_eq_true rfl) (Nat.le_of_ble_eq_true rfl) (by omega) (by omega) (fun w φ1 q => ?_)
  obtain ⟨mia, hwa, hma, i0a, v0a, hga, hza⟩ := q
  rw [if_pos hL] at hwa
  subst hwa
  show zLW p l e R s m args below meth c Q D en ao au (CB + 100) (SB + 600) 181 [.int (Int32.ofNat 1)] [(7, .int (Int32.ofNat r)), (6, .int (Int32.ofNat made)), (2, .ref au), (1, .ref ao)] φ1 ψ
  refine zl_istore (i := 8) (lv2 := [(8, .int (Int32.ofNat 1)), (7, .int (Int32.ofNat r)), (6, .int (Int32.ofNat made)), (2, .ref au), (1, .ref ao)]) hA ⟨by decide +kernel, rfl⟩ (by decide) rfl ?_
  refine zl_aload (j := 2) (q := 3) hA ⟨by decide +kernel, rfl⟩ rfl ?_
  refine zl_iload (i := 7) (q := 1) hA ⟨by decide +kernel, rfl⟩ rfl ?_
  refine zl_callU (i := (11, 27, 2, [(4, 1)])) (M := 27) (d := 8) (CN := 100) (CS := 600) (st := []) [r] hA (zs_184 hA.2.2.1) (fun n sl hn => (zx_judge hG' hn hI' (by omega) hr)) (fun w φ2 q => by obtain ⟨_, z, _⟩ := q; rw [z]; exact Or.inl rfl) (Nat.le_of_ble_eq_true rfl) rfl (Or.inr ⟨rfl, zGx_0 hG'⟩) (Nat.le_of_ble_eq_true rfl) (Nat.le_of_ble_eq_true rfl) (Nat.le_of_ble_eq_true rfl) (by omega) (by omega) (fun w φ2 q => ?_)
  obtain ⟨mib, hwb, hmb, i0b, v0b, hgb, hzb⟩ := q
  rw [if_pos hL2] at hwb
  subst hwb
  show zLW p l e R s m args below meth c Q D en ao au (CB + 100 + 100) (SB + 600 + 600) 185 [.int (Int32.ofNat 1)] [(8, .int (Int32.ofNat 1)), (7, .int (Int32.ofNat r)), (6, .int (Int32.ofNat made)), (2, .ref au), (1, .ref ao)] φ1 φ2
  refine zl_iload (i := 8) (q := 0) hA ⟨by decide +kernel, rfl⟩ rfl ?_
  refine zl_icmp_ne (off := (55)) (t := 217) hA ⟨by decide +kernel, rfl⟩ (by decide +kernel) (fun g => absurd rfl g) (fun _ => ?_)
  refine zl_iload (i := 8) (q := 0) hA ⟨by decide +kernel, rfl⟩ rfl ?_
  refine zl_iconst (z := 1) (v := Int32.ofNat 1) hA ⟨by decide +kernel, rfl⟩ (by decide +kernel) ?_
  rw [hL] at hga
  refine zl_icmp_eq (off := (33)) (t := 208) hA ⟨by decide +kernel, rfl⟩ (by decide +kernel) (fun _ => ?_) (fun g => absurd rfl g)
  refine zl_iload (i := 8) (q := 0) hA ⟨by decide +kernel, rfl⟩ rfl ?_
  refine zl_iconst (z := 1) (v := Int32.ofNat 1) hA ⟨by decide +kernel, rfl⟩ (by decide +kernel) ?_
  refine zl_icmp_ne (off := (15)) (t := 219) hA ⟨by decide +kernel, rfl⟩ (by decide +kernel) (fun g => absurd rfl g) (fun _ => ?_)
  refine zl_aload (j := 1) (q := 4) hA ⟨by decide +kernel, rfl⟩ rfl ?_
  refine zl_iconst (z := 0) (v := Int32.ofNat 0) hA ⟨by decide +kernel, rfl⟩ (by decide +kernel) ?_
  refine zl_iconst (z := 0) (v := Int32.ofNat 0) hA ⟨by decide +kernel, rfl⟩ (by decide +kernel) ?_
  refine zl_callO (i := (11, 337, 3, [(3, 1)])) (M := 337) (d := 1) (CN := 0) (CS := 0) (st := []) [0, 0] hA (zs_214 hA.2.2.1) (fun n sl hn => (zq_judged0_no (d := 0) hga hn)) (fun w φ2 q => by rw [q.1]; exact Or.inl rfl) (Nat.le_of_ble_eq_true rfl) rfl (Or.inr ⟨rfl, zGx_0 (zGq_x hga)⟩) (Nat.le_of_ble_eq_true rfl) (Nat.le_of_ble_eq_true rfl) (Nat.le_of_ble_eq_true rfl) (by omega) (by omega) (fun w φ3 q => ?_)
  obtain ⟨rfl, e3⟩ := q
  rw [e3]
  show zLW p l e R s m args below meth c Q D en ao au (CB + 100 + 100 + 0) (SB + 600 + 600 + 0) 215 [.int (Int32.ofNat 4294967295)] [(8, .int (Int32.ofNat 1)), (7, .int (Int32.ofNat r)), (6, .int (Int32.ofNat made)), (2, .ref au), (1, .ref ao)] φ1 φ2
  refine zl_iconst (z := (-1)) (v := Int32.ofNat 4294967295) hA ⟨by decide +kernel, rfl⟩ (by decide +kernel) ?_
  refine zl_icmp_eq (off := (5)) (t := 219) hA ⟨by decide +kernel, rfl⟩ (by decide +kernel) (fun _ => ?_) (fun g => absurd (by decide) g)
  refine zl_iinc (i := 7) (z := 1) (q := 1) (v := (Int32.ofNat (r + 1))) (lv2 := [(7, .int (Int32.ofNat (r + 1))), (8, .int (Int32.ofNat 1)), (6, .int (Int32.ofNat made)), (2, .ref au), (1, .ref ao)]) hA ⟨by decide +kernel, rfl⟩ rfl (xi_add r 1) (by decide) rfl ?_
  refine zl_goto (off := (-83)) (t := 175) hA (by decide +kernel) (by decide +kernel) ?_
  refine zl_sub (lv2 := [(7, .int (Int32.ofNat (r + 1))), (6, .int (Int32.ofNat made)), (2, .ref au), (1, .ref ao)]) [0, 2, 3, 4] rfl ?_
  exact zLW_mono (kt φ1 φ2 _ _ hma hmb (zGq_x hga) (zGq_x hgb)) (by omega) (by omega)
set_option maxHeartbeats 4000000 in
theorem zr_1 {CB SB r made mi mi' : Nat} {φ ψ : FH} {c1 c2 : Nat → Nat} {h1 h2 : Nat → MV} {mh mh' : MV} (hA : zAm p l R s m args meth c D en) (hG : zGx φ mi made c1 h1 mh) (hG' : zGx ψ mi' made c2 h2 mh') (hE : PE made c1 h1 c2 h2) (hI : MInv made c1 h1) (hI' : MInv made c2 h2) (hr : r < 9) (hmi : mi + 400 ≤ 20000) (hmi' : mi' + 400 ≤ 20000) (hCB : CB + 200 ≤ 600000) (hSB : SB + 1200 ≤ 7302249) (hL : ¬ (zjl r made c1 h1).length = 0)
    (kt : ∀ (φ2 ψ2 : FH) (mi2 mi2' : Nat), mi2 ≤ mi + 100 → mi2' ≤ mi' + 100 → zGx φ2 mi2 made c1 h1 mh → zGx ψ2 mi2' made c2 h2 mh' → zLW p l e R s m args below meth c Q D en ao au (CB + 200) (SB + 1200) 175 [] [(7, .int (Int32.ofNat (r + 1))), (6, .int (Int32.ofNat made)), (2, .ref au), (1, .ref ao)] φ2 ψ2) : zLW p l e R s m args below meth c Q D en ao au CB SB 178 [] [(7, .int (Int32.ofNat r)), (6, .int (Int32.ofNat made)), (2, .ref au), (1, .ref ao)] φ ψ := by
  have hLL : zjl r made c1 h1 = zjl r made c2 h2 := zjl_PE hE
  have hL2 : ¬ (zjl r made c2 h2).length = 0 := hLL ▸ hL
  have hnoa : 0 < (zjl r made c1 h1).length ∧ (zjl r made c1 h1).length ≤ 40 := ⟨Nat.pos_of_ne_zero hL, zjl_le hI.1⟩
  have hnob : 0 < (zjl r made c2 h2).length ∧ (zjl r made c2 h2).length ≤ 40 := ⟨Nat.pos_of_ne_zero hL2, zjl_le hI'.1⟩
  refine zl_aload (j := 1) (q := 3) hA ⟨by decide +kernel, rfl⟩ rfl ?_
  refine zl_iload (i := 7) (q := 0) hA ⟨by decide +kernel, rfl⟩ rfl ?_
  refine zl_callO (i := (11, 27, 2, [(4, 1)])) (M := 27) (d := 8) (CN := 100) (CS := 600) (st := []) [r] hA (zs_180 hA.2.2.1) (fun n sl hn => (zx_judge hG hn hI (by omega) hr)) (fun w φ2 q => by obtain ⟨_, z, _⟩ := q; rw [z]; exact Or.inl rfl) (Nat.le_of_ble_eq_true rfl) rfl (Or.inr ⟨rfl, zGx_0 hG⟩) (Nat.le_of_ble_eq_true rfl) (Nat.le_of_ble_eq_true rfl) (Nat.le_of_ble_eq_true rfl) (by omega) (by omega) (fun w φ1 q => ?_)
  obtain ⟨mia, hwa, hma, i0a, v0a, hga, hza⟩ := q
  rw [if_neg hL] at hwa
  subst hwa
  show zLW p l e R s m args below meth c Q D en ao au (CB + 100) (SB + 600) 181 [.int (Int32.ofNat 0)] [(7, .int (Int32.ofNat r)), (6, .int (Int32.ofNat made)), (2, .ref au), (1, .ref ao)] φ1 ψ
  refine zl_istore (i := 8) (lv2 := [(8, .int (Int32.ofNat 0)), (7, .int (Int32.ofNat r)), (6, .int (Int32.ofNat made)), (2, .ref au), (1, .ref ao)]) hA ⟨by decide +kernel, rfl⟩ (by decide) rfl ?_
  refine zl_aload (j := 2) (q := 3) hA ⟨by decide +kernel, rfl⟩ rfl ?_
  refine zl_iload (i := 7) (q := 1) hA ⟨by decide +kernel, rfl⟩ rfl ?_
  refine zl_callU (i := (11, 27, 2, [(4, 1)])) (M := 27) (d := 8) (CN := 100) (CS := 600) (st := []) [r] hA (zs_184 hA.2.2.1) (fun n sl hn => (zx_judge hG' hn hI' (by omega) hr)) (fun w φ2 q => by obtain ⟨_, z, _⟩ := q; rw [z]; exact Or.inl rfl) (Nat.le_of_ble_eq_true rfl) rfl (Or.inr ⟨rfl, zGx_0 hG'⟩) (Nat.le_of_ble_eq_true rfl) (Nat.le_of_ble_eq_true rfl) (Nat.le_of_ble_eq_true rfl) (by omega) (by omega) (fun w φ2 q => ?_)
  obtain ⟨mib, hwb, hmb, i0b, v0b, hgb, hzb⟩ := q
  rw [if_neg hL2] at hwb
  subst hwb
  show zLW p l e R s m args below meth c Q D en ao au (CB + 100 + 100) (SB + 600 + 600) 185 [.int (Int32.ofNat 0)] [(8, .int (Int32.ofNat 0)), (7, .int (Int32.ofNat r)), (6, .int (Int32.ofNat made)), (2, .ref au), (1, .ref ao)] φ1 φ2
  refine zl_iload (i := 8) (q := 0) hA ⟨by decide +kernel, rfl⟩ rfl ?_
  refine zl_icmp_ne (off := (55)) (t := 217) hA ⟨by decide +kernel, rfl⟩ (by decide +kernel) (fun g => absurd rfl g) (fun _ => ?_)
  refine zl_iload (i := 8) (q := 0) hA ⟨by decide +kernel, rfl⟩ rfl ?_
  refine zl_iconst (z := 1) (v := Int32.ofNat 1) hA ⟨by decide +kernel, rfl⟩ (by decide +kernel) ?_
  refine zl_icmp_eq (off := (33)) (t := 208) hA ⟨by decide +kernel, rfl⟩ (by decide +kernel) (fun g => absurd g (by decide)) (fun _ => ?_)
  refine zl_aload (j := 1) (q := 4) hA ⟨by decide +kernel, rfl⟩ rfl ?_
  refine zl_iconst (z := 0) (v := Int32.ofNat 0) hA ⟨by decide +kernel, rfl⟩ (by decide +kernel) ?_
  refine zl_iconst (z := 0) (v := Int32.ofNat 0) hA ⟨by decide +kernel, rfl⟩ (by decide +kernel) ?_
  obtain ⟨y1, y2⟩ := hza hL
  obtain ⟨y3, y4⟩ := hzb hL2
  refine zl_callO (i := (11, 337, 3, [(3, 1)])) (M := 337) (d := 1) (CN := 0) (CS := 0) (st := []) [0, 0] hA (zs_193 hA.2.2.1) (fun n sl hn => (zq_judged0 (d := 0) hga hn hnoa)) (fun w φ2 q => by rw [q.1]; exact Or.inl rfl) (Nat.le_of_ble_eq_true rfl) rfl (Or.inr ⟨rfl, zGx_0 (zGq_x hga)⟩) (Nat.le_of_ble_eq_true rfl) (Nat.le_of_ble_eq_true rfl) (Nat.le_of_ble_eq_true rfl) (by omega) (by omega) (fun w φ3 q => ?_)
  obtain ⟨rfl, e3⟩ := q
  rw [e3]
  show zLW p l e R s m args below meth c Q D en ao au (CB + 100 + 100 + 0) (SB + 600 + 600 + 0) 194 [.int (Int32.ofNat i0a)] [(8, .int (Int32.ofNat 0)), (7, .int (Int32.ofNat r)), (6, .int (Int32.ofNat made)), (2, .ref au), (1, .ref ao)] φ1 φ2
  refine zl_aload (j := 2) (q := 3) hA ⟨by decide +kernel, rfl⟩ rfl ?_
  refine zl_iconst (z := 0) (v := Int32.ofNat 0) hA ⟨by decide +kernel, rfl⟩ (by decide +kernel) ?_
  refine zl_iconst (z := 0) (v := Int32.ofNat 0) hA ⟨by decide +kernel, rfl⟩ (by decide +kernel) ?_
  refine zl_callU (i := (11, 337, 3, [(3, 1)])) (M := 337) (d := 1) (CN := 0) (CS := 0) (st := [.int (Int32.ofNat i0a)]) [0, 0] hA (zs_197 hA.2.2.1) (fun n sl hn => (zq_judged0 (d := 0) hgb hn hnob)) (fun w φ2 q => by rw [q.1]; exact Or.inl rfl) (Nat.le_of_ble_eq_true rfl) rfl (Or.inr ⟨rfl, zGx_0 (zGq_x hgb)⟩) (Nat.le_of_ble_eq_true rfl) (Nat.le_of_ble_eq_true rfl) (Nat.le_of_ble_eq_true rfl) (by omega) (by omega) (fun w φ4 q => ?_)
  obtain ⟨rfl, e4⟩ := q
  rw [e4]
  show zLW p l e R s m args below meth c Q D en ao au (CB + 100 + 100 + 0 + 0) (SB + 600 + 600 + 0 + 0) 198 [.int (Int32.ofNat i0b), .int (Int32.ofNat i0a)] [(8, .int (Int32.ofNat 0)), (7, .int (Int32.ofNat r)), (6, .int (Int32.ofNat made)), (2, .ref au), (1, .ref ao)] φ1 φ2
  refine zl_icmp_ne (off := (34)) (t := 217) hA ⟨by decide +kernel, rfl⟩ (by decide +kernel) (fun g => absurd (by rw [y1, y3, hLL]) g) (fun _ => ?_)
  refine zl_aload (j := 1) (q := 4) hA ⟨by decide +kernel, rfl⟩ rfl ?_
  refine zl_iconst (z := 0) (v := Int32.ofNat 0) hA ⟨by decide +kernel, rfl⟩ (by decide +kernel) ?_
  refine zl_iconst (z := 1) (v := Int32.ofNat 1) hA ⟨by decide +kernel, rfl⟩ (by decide +kernel) ?_
  refine zl_callO (i := (11, 337, 3, [(3, 1)])) (M := 337) (d := 1) (CN := 0) (CS := 0) (st := []) [0, 1] hA (zs_202 hA.2.2.1) (fun n sl hn => (zq_judged1 (d := 0) hga hn hnoa)) (fun w φ2 q => by rw [q.1]; exact Or.inl rfl) (Nat.le_of_ble_eq_true rfl) rfl (Or.inr ⟨rfl, zGx_0 (zGq_x hga)⟩) (Nat.le_of_ble_eq_true rfl) (Nat.le_of_ble_eq_true rfl) (Nat.le_of_ble_eq_true rfl) (by omega) (by omega) (fun w φ5 q => ?_)
  obtain ⟨rfl, e5⟩ := q
  rw [e5]
  show zLW p l e R s m args below meth c Q D en ao au (CB + 100 + 100 + 0 + 0 + 0) (SB + 600 + 600 + 0 + 0 + 0) 203 [.int (Int32.ofNat v0a)] [(8, .int (Int32.ofNat 0)), (7, .int (Int32.ofNat r)), (6, .int (Int32.ofNat made)), (2, .ref au), (1, .ref ao)] φ1 φ2
  refine zl_aload (j := 2) (q := 3) hA ⟨by decide +kernel, rfl⟩ rfl ?_
  refine zl_iconst (z := 0) (v := Int32.ofNat 0) hA ⟨by decide +kernel, rfl⟩ (by decide +kernel) ?_
  refine zl_iconst (z := 1) (v := Int32.ofNat 1) hA ⟨by decide +kernel, rfl⟩ (by decide +kernel) ?_
  refine zl_callU (i := (11, 337, 3, [(3, 1)])) (M := 337) (d := 1) (CN := 0) (CS := 0) (st := [.int (Int32.ofNat v0a)]) [0, 1] hA (zs_206 hA.2.2.1) (fun n sl hn => (zq_judged1 (d := 0) hgb hn hnob)) (fun w φ2 q => by rw [q.1]; exact Or.inl rfl) (Nat.le_of_ble_eq_true rfl) rfl (Or.inr ⟨rfl, zGx_0 (zGq_x hgb)⟩) (Nat.le_of_ble_eq_true rfl) (Nat.le_of_ble_eq_true rfl) (Nat.le_of_ble_eq_true rfl) (by omega) (by omega) (fun w φ6 q => ?_)
  obtain ⟨rfl, e6⟩ := q
  rw [e6]
  show zLW p l e R s m args below meth c Q D en ao au (CB + 100 + 100 + 0 + 0 + 0 + 0) (SB + 600 + 600 + 0 + 0 + 0 + 0) 207 [.int (Int32.ofNat v0b), .int (Int32.ofNat v0a)] [(8, .int (Int32.ofNat 0)), (7, .int (Int32.ofNat r)), (6, .int (Int32.ofNat made)), (2, .ref au), (1, .ref ao)] φ1 φ2
  refine zl_icmp_ne (off := (19)) (t := 217) hA ⟨by decide +kernel, rfl⟩ (by decide +kernel) (fun g => absurd (by rw [y2, y4]) g) (fun _ => ?_)
  refine zl_iload (i := 8) (q := 0) hA ⟨by decide +kernel, rfl⟩ rfl ?_
  refine zl_iconst (z := 1) (v := Int32.ofNat 1) hA ⟨by decide +kernel, rfl⟩ (by decide +kernel) ?_
  refine zl_icmp_ne (off := (15)) (t := 219) hA ⟨by decide +kernel, rfl⟩ (by decide +kernel) (fun _ => ?_) (fun g => absurd g (by decide))
  refine zl_iinc (i := 7) (z := 1) (q := 1) (v := (Int32.ofNat (r + 1))) (lv2 := [(7, .int (Int32.ofNat (r + 1))), (8, .int (Int32.ofNat 0)), (6, .int (Int32.ofNat made)), (2, .ref au), (1, .ref ao)]) hA ⟨by decide +kernel, rfl⟩ rfl (xi_add r 1) (by decide) rfl ?_
  refine zl_goto (off := (-83)) (t := 175) hA (by decide +kernel) (by decide +kernel) ?_
  refine zl_sub (lv2 := [(7, .int (Int32.ofNat (r + 1))), (6, .int (Int32.ofNat made)), (2, .ref au), (1, .ref ao)]) [0, 2, 3, 4] rfl ?_
  exact zLW_mono (kt φ1 φ2 _ _ hma hmb (zGq_x hga) (zGq_x hgb)) (by omega) (by omega)
set_option maxHeartbeats 4000000 in
/-- the rules, one after another -/
theorem zr_all {made : Nat} {c1 c2 : Nat → Nat} {h1 h2 : Nat → MV} {mh mh' : MV} (hA : zAm p l R s m args meth c D en) (hE : PE made c1 h1 c2 h2) (hI : MInv made c1 h1) (hI' : MInv made c2 h2)
    (hend : ∀ (CB SB : Nat) (lv : List (Nat × Value)) (φ ψ : FH), CB ≤ 600000 → SB ≤ 7302249 → zLW p l e R s m args below meth c Q D en ao au CB SB 323 [] lv φ ψ) :
    ∀ (j r CB SB mi mi' : Nat) (φ ψ : FH), r + j = 9 → zGx φ mi made c1 h1 mh → zGx ψ mi' made c2 h2 mh' → mi + 100 * j + 600 ≤ 20000 → mi' + 100 * j + 600 ≤ 20000 → CB + 200 * j + 1000 ≤ 600000 → SB + 1200 * j + 6000 ≤ 7302249 →
      zLW p l e R s m args below meth c Q D en ao au CB SB 175 [] [(7, .int (Int32.ofNat r)), (6, .int (Int32.ofNat made)), (2, .ref au), (1, .ref ao)] φ ψ := by
  intro j
  induction j with
  | zero =>
    intro r CB SB mi mi' φ ψ hj hG hG' hmi hmi' hCB hSB
    have hm40 := hI.1
    refine zl_iload (i := 7) (q := 0) hA ⟨by decide +kernel, rfl⟩ rfl ?_
    refine zl_bipush (z := 9) (v := Int32.ofNat 9) hA ⟨by decide +kernel, rfl⟩ (by decide +kernel) ?_
    refine zl_icmp_ge (off := 82) (t := 221) hA ⟨by decide +kernel, rfl⟩ (by decide +kernel) (fun _ => ?_) (fun g => absurd (nI_le (show 9 ≤ r by omega) (by omega)) g)
    refine zl_iconst (z := 0) (v := Int32.ofNat 0) hA ⟨by decide +kernel, rfl⟩ (by decide +kernel) ?_
    refine zl_istore (i := 7) (lv2 := [(7, .int (Int32.ofNat 0)), (6, .int (Int32.ofNat made)), (2, .ref au), (1, .ref ao)]) hA ⟨by decide +kernel, rfl⟩ (by decide) rfl ?_
    exact zi_all hA hE hI hI' hend made 0 _ _ mi mi' φ ψ mh mh' (by omega) hG hG' (by omega) (by omega) (by omega) (by omega)
  | succ j ih =>
    intro r CB SB mi mi' φ ψ hj hG hG' hmi hmi' hCB hSB
    have hm40 := hI.1
    have hr : r < 9 := by omega
    have kt : ∀ (φ2 ψ2 : FH) (mi2 mi2' : Nat), mi2 ≤ mi + 100 → mi2' ≤ mi' + 100 → zGx φ2 mi2 made c1 h1 mh → zGx ψ2 mi2' made c2 h2 mh' → zLW p l e R s m args below meth c Q D en ao au (CB + 200) (SB + 1200) 175 [] [(7, .int (Int32.ofNat (r + 1))), (6, .int (Int32.ofNat made)), (2, .ref au), (1, .ref ao)] φ2 ψ2 :=
      fun φ2 ψ2 mi2 mi2' z1 z2 g1 g2 => ih (r + 1) _ _ mi2 mi2' φ2 ψ2 (by omega) g1 g2 (by omega) (by omega) (by omega) (by omega)
    refine zl_iload (i := 7) (q := 0) hA ⟨by decide +kernel, rfl⟩ rfl ?_
    refine zl_bipush (z := 9) (v := Int32.ofNat 9) hA ⟨by decide +kernel, rfl⟩ (by decide +kernel) ?_
    refine zl_icmp_ge (off := 82) (t := 221) hA ⟨by decide +kernel, rfl⟩ (by decide +kernel) (fun g => absurd g (nI_ge hr (by decide))) (fun _ => ?_)
    by_cases hL : (zjl r made c1 h1).length = 0
    · exact zr_0 hA hG hG' hE hI hI' hr (by omega) (by omega) (by omega) (by omega) hL kt
    · exact zr_1 hA hG hG' hE hI hI' hr (by omega) (by omega) (by omega) (by omega) hL kt
end LAW7
