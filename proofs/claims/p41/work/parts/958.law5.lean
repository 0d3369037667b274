section LAW5
set_option maxRecDepth 100000
variable {p : Program} {l : Launch} {e : Env} {R : Room} {s : State} {m : MethodId} {args : Array Value} {below : List Frame} {meth : Method} {c : Code} {Q : State → Prop} {D : va_G} {en : XE} {ao au : Nat}
/-- a house with this population and this hand -/
def zGx (φ : FH) (mi made : Nat) (comb : Nat → Nat) (hm : Nat → MV) (mh : MV) : Prop := ∃ (tp : Nat → Nat) (lf sv svm : Nat) (sc : Nat → Nat) (sm : Nat → MV) (noted verd : Nat) (ins ver : Nat → Nat) (sz : Nat) (bw : Nat → Nat), zG φ 0 tp lf mi made sv svm comb hm sc sm mh noted verd ins ver sz bw
theorem zGx_0 {φ : FH} {mi made : Nat} {comb : Nat → Nat} {hm : Nat → MV} {mh : MV} (h : zGx φ mi made comb hm mh) : ∃ (N : Nat) (f : Nat → XV), φ 0 = some (0, 0, N, f) := by
  obtain ⟨tp, lf, sv, svm, sc, sm, noted, verd, ins, ver, sz, bw, ⟨hand, ie, h0, -⟩, -⟩ := h
  exact ⟨_, _, h0⟩
theorem zx_of {d M n sl cn cs mi mi2 made : Nat} {loc : List XV} {φ : FH} {comb : Nat → Nat} {hm : Nat → MV} {mh mh2 : MV} {v : XV}
    (h : ∀ (tp : Nat → Nat) (lf sv svm : Nat) (sc : Nat → Nat) (sm : Nat → MV) (noted verd : Nat) (ins ver : Nat → Nat) (sz : Nat) (bw : Nat → Nat), zG φ 0 tp lf mi made sv svm comb hm sc sm mh noted verd ins ver sz bw → x_f x_P d M loc φ n sl (x_bR n sl cn cs (fun w φ2 => w = v ∧ zG φ2 0 tp lf mi2 made sv svm comb hm sc sm mh2 noted verd ins ver sz bw)))
    (hG : zGx φ mi made comb hm mh) : x_f x_P d M loc φ n sl (x_bR n sl cn cs (fun w φ2 => w = v ∧ zGx φ2 mi2 made comb hm mh2)) := by
  obtain ⟨tp, lf, sv, svm, sc, sm, noted, verd, ins, ver, sz, bw, hG⟩ := hG
  refine x_f_mono (h _ _ _ _ _ _ _ _ _ _ _ _ hG) (fun u w φ2 n2 sl2 q => ?_)
  obtain ⟨q1, q2, q3, q4, q5⟩ := q
  exact ⟨q1, q2, q3, q4, _, _, _, _, _, _, _, _, _, _, _, _, q5⟩
theorem zx_r {d M n sl mi made : Nat} {loc : List XV} {φ : FH} {comb : Nat → Nat} {hm : Nat → MV} {mh : MV} {v : XV}
    (h : ∀ (tp : Nat → Nat) (lf sv svm : Nat) (sc : Nat → Nat) (sm : Nat → MV) (noted verd : Nat) (ins ver : Nat → Nat) (sz : Nat) (bw : Nat → Nat), zG φ 0 tp lf mi made sv svm comb hm sc sm mh noted verd ins ver sz bw → x_f x_P d M loc φ n sl (x_r φ n sl v))
    (hG : zGx φ mi made comb hm mh) : x_f x_P d M loc φ n sl (x_bR n sl 0 0 (fun w φ2 => w = v ∧ φ2 = φ)) := by
  obtain ⟨tp, lf, sv, svm, sc, sm, noted, verd, ins, ver, sz, bw, hG⟩ := hG
  exact bR_of_r (h _ _ _ _ _ _ _ _ _ _ _ _ hG)
def zh3 (mh : MV) : Nat := if mh.1 = 6 then mh.2.2.2.2.length else 4294967293
theorem zx_hand3 {d n sl mi made : Nat} {φ : FH} {comb : Nat → Nat} {hm : Nat → MV} {mh : MV} (hG : zGx φ mi made comb hm mh) (hn : 486 ≤ n) : x_f x_P (d + 1) 334 [(6, 0, 0), (0, 3, 0)] φ n sl (x_bR n sl 0 0 (fun w φ2 => w = (0, zh3 mh, 0) ∧ φ2 = φ)) := by
  unfold zh3
  by_cases h6 : mh.1 = 6
  · rw [if_pos h6]; exact zx_r (fun _ _ _ _ _ _ _ _ _ _ _ _ hG => zc_hand3_yes hG hn h6) hG
  · rw [if_neg h6]; exact zx_r (fun _ _ _ _ _ _ _ _ _ _ _ _ hG => zc_hand3_no hG hn h6) hG
theorem zx_keep0 {d n sl mi made : Nat} {φ : FH} {comb : Nat → Nat} {hm : Nat → MV} {mh : MV} (hG : zGx φ mi made comb hm mh) (hn : 486 ≤ n) (hpv : ∀ i, x_pv2 (hm i)) (hmi : mi + 100 ≤ 20000) (h9 : mh.2.2.1 ≠ 9) : x_f x_P (d + 1) 32 [(6, 0, 0), (0, 0, 0)] φ n sl (x_bR n sl 0 0 (fun w φ2 => w = (0, mh.1, 0) ∧ zGx φ2 mi made comb hm mh ∧ zKS φ2 mh)) := by
  obtain ⟨tp, lf, sv, svm, sc, sm, noted, verd, ins, ver, sz, bw, hG⟩ := hG
  refine x_f_mono (zc_keep0 hG hn hpv hmi h9) (fun u w φ2 n2 sl2 q => ?_)
  obtain ⟨q1, q2, q3, q4, q5, q6⟩ := q
  exact ⟨q1, q2, q3, q4, ⟨_, _, _, _, _, _, _, _, _, _, _, _, q5⟩, q6⟩
theorem zl_sub {CB SB k : Nat} {st : List Value} {lv lv2 : List (Nat × Value)} {φ ψ : FH} (ks : List Nat) (hl : lv_pick lv ks = lv2) (kk : zLW p l e R s m args below meth c Q D en ao au CB SB k st lv2 φ ψ) : zLW p l e R s m args below meth c Q D en ao au CB SB k st lv φ ψ :=
  fun H locs cells slots ls n sl ad n' sl' ad' h1 h2 h3 h4 h5 h6 h7 h8 => kk H locs cells slots ls n sl ad n' sl' ad' (lv_sub h1 ks hl) h2 h3 h4 h5 h6 h7 h8
set_option maxHeartbeats 4000000 in
theorem zi_tail {CB SB kk made mi mi' : Nat} {φ ψ : FH} {c1 c2 : Nat → Nat} {h1 h2 : Nat → MV} {mh mh' : MV} (hA : zAm p l R s m args meth c D en) (hG : zGx φ mi made c1 h1 mh) (hG' : zGx ψ mi' made c2 h2 mh') (hE : PE made c1 h1 c2 h2) (hI : MInv made c1 h1) (hI' : MInv made c2 h2) (hk : kk < made) (hmi : mi + 300 ≤ 20000) (hmi' : mi' + 300 ≤ 20000) (hCB : CB + 2 ≤ 600000) (hSB : SB + 14 ≤ 7302249) (hc : c1 kk ≠ 0)
    (kt : ∀ (φ2 ψ2 : FH) (mh2 mh2' : MV), zGx φ2 mi made c1 h1 mh2 → zGx ψ2 mi' made c2 h2 mh2' → zLW p l e R s m args below meth c Q D en ao au (CB + 2) (SB + 14) 223 [] [(7, .int (Int32.ofNat (kk + 1))), (6, .int (Int32.ofNat made)), (2, .ref au), (1, .ref ao)] φ2 ψ2) : zLW p l e R s m args below meth c Q D en ao au CB SB 291 [] [(7, .int (Int32.ofNat kk)), (6, .int (Int32.ofNat made)), (2, .ref au), (1, .ref ao)] φ ψ := by
  have hm40 := hI.1
  have hck : c1 kk = c2 kk := hE.1 kk hk
  have e1 : h1 (kk * 40 + 1) = h2 (kk * 40 + 1) := hE.2 _ (by omega)
  have hA1 := z_isA0 hI.2.2.2.2.2.1 ⟨hk, hc⟩
  have hA2 := z_isA0 hI'.2.2.2.2.2.1 ⟨hk, (hck ▸ hc : c2 kk ≠ 0)⟩
  have h9 : (h1 (kk * 40 + 1)).2.2.1 ≠ 9 := by
    rcases hI.2.2.2.1 kk (by omega) with q | ⟨L, z1, z2, q⟩
    · rw [q]; decide
    · rw [q]; exact (show (3 : Nat) ≠ 9 by decide)
  have hl2 : (h1 (kk * 40 + 1)).1 = 6 → (h1 (kk * 40 + 1)).2.2.2.2.length ≤ 2 := by
    rcases hI.2.2.2.1 kk (by omega) with q | ⟨L, z1, z2, q⟩ <;> rw [q]
    · exact fun _ => by decide
    · exact fun _ => z1
  refine zl_aload (j := 1) (q := 3) hA ⟨by decide +kernel, rfl⟩ rfl ?_
  refine zl_iload (i := 7) (q := 0) hA ⟨by decide +kernel, rfl⟩ rfl ?_
  refine zl_iconst (z := 1) (v := Int32.ofNat 1) hA ⟨by decide +kernel, rfl⟩ (by decide +kernel) ?_
  refine zl_callO (i := (11, 26, 3, [(3, 1)])) (M := 26) (d := 8) (CN := 1) (CS := 7) (st := []) [kk, 1] hA (zs_294 hA.2.2.1) (fun n sl hn => (zx_of (fun _ _ _ _ _ _ _ _ _ _ _ _ hG => zc_get1 (d := 0) hG hn hI.2.1 (by omega) (by omega) hA1) hG)) (fun w φ2 q => by rw [q.1]; exact Or.inl rfl) (Nat.le_of_ble_eq_true rfl) rfl (Or.inr ⟨rfl, zGx_0 hG⟩) (Nat.le_of_ble_eq_true rfl) (Nat.le_of_ble_eq_true rfl) (Nat.le_of_ble_eq_true rfl) (by omega) (by omega) (fun w φ1 q => ?_)
  obtain ⟨rfl, hg1⟩ := q
  show zLW p l e R s m args below meth c Q D en ao au (CB + 1) (SB + 7) 295 [.int (Int32.ofNat ((h1 (kk * 40 + 1)).1))] [(7, .int (Int32.ofNat kk)), (6, .int (Int32.ofNat made)), (2, .ref au), (1, .ref ao)] φ1 ψ
  refine zl_aload (j := 2) (q := 2) hA ⟨by decide +kernel, rfl⟩ rfl ?_
  refine zl_iload (i := 7) (q := 0) hA ⟨by decide +kernel, rfl⟩ rfl ?_
  refine zl_iconst (z := 1) (v := Int32.ofNat 1) hA ⟨by decide +kernel, rfl⟩ (by decide +kernel) ?_
  refine zl_callU (i := (11, 26, 3, [(3, 1)])) (M := 26) (d := 8) (CN := 1) (CS := 7) (st := [.int (Int32.ofNat ((h1 (kk * 40 + 1)).1))]) [kk, 1] hA (zs_298 hA.2.2.1) (fun n sl hn => (zx_of (fun _ _ _ _ _ _ _ _ _ _ _ _ hG => zc_get1 (d := 0) hG hn hI'.2.1 (by omega) (by omega) hA2) hG')) (fun w φ2 q => by rw [q.1]; exact Or.inl rfl) (Nat.le_of_ble_eq_true rfl) rfl (Or.inr ⟨rfl, zGx_0 hG'⟩) (Nat.le_of_ble_eq_true rfl) (Nat.le_of_ble_eq_true rfl) (Nat.le_of_ble_eq_true rfl) (by omega) (by omega) (fun w φ2 q => ?_)
  obtain ⟨rfl, hg2⟩ := q
  show zLW p l e R s m args below meth c Q D en ao au (CB + 1 + 1) (SB + 7 + 7) 299 [.int (Int32.ofNat ((h2 (kk * 40 + 1)).1)), .int (Int32.ofNat ((h1 (kk * 40 + 1)).1))] [(7, .int (Int32.ofNat kk)), (6, .int (Int32.ofNat made)), (2, .ref au), (1, .ref ao)] φ1 φ2
  refine zl_icmp_ne (off := (38)) (t := 319) hA ⟨by decide +kernel, rfl⟩ (by decide +kernel) (fun g => absurd (by rw [e1]) g) (fun _ => ?_)
  refine zl_aload (j := 1) (q := 3) hA ⟨by decide +kernel, rfl⟩ rfl ?_
  refine zl_iconst (z := 3) (v := Int32.ofNat 3) hA ⟨by decide +kernel, rfl⟩ (by decide +kernel) ?_
  refine zl_callO (i := (11, 334, 2, [(2, 1)])) (M := 334) (d := 1) (CN := 0) (CS := 0) (st := []) [3] hA (zs_302 hA.2.2.1) (fun n sl hn => (zx_hand3 (d := 0) hg1 hn)) (fun w φ2 q => by rw [q.1]; exact Or.inl rfl) (Nat.le_of_ble_eq_true rfl) rfl (Or.inr ⟨rfl, zGx_0 hg1⟩) (Nat.le_of_ble_eq_true rfl) (Nat.le_of_ble_eq_true rfl) (Nat.le_of_ble_eq_true rfl) (by omega) (by omega) (fun w φ3 q => ?_)
  obtain ⟨rfl, e3⟩ := q
  rw [e3]
  show zLW p l e R s m args below meth c Q D en ao au (CB + 1 + 1 + 0) (SB + 7 + 7 + 0) 303 [.int (Int32.ofNat (zh3 (h1 (kk * 40 + 1))))] [(7, .int (Int32.ofNat kk)), (6, .int (Int32.ofNat made)), (2, .ref au), (1, .ref ao)] φ1 φ2
  refine zl_aload (j := 2) (q := 2) hA ⟨by decide +kernel, rfl⟩ rfl ?_
  refine zl_iconst (z := 3) (v := Int32.ofNat 3) hA ⟨by decide +kernel, rfl⟩ (by decide +kernel) ?_
  refine zl_callU (i := (11, 334, 2, [(2, 1)])) (M := 334) (d := 1) (CN := 0) (CS := 0) (st := [.int (Int32.ofNat (zh3 (h1 (kk * 40 + 1))))]) [3] hA (zs_305 hA.2.2.1) (fun n sl hn => (zx_hand3 (d := 0) hg2 hn)) (fun w φ2 q => by rw [q.1]; exact Or.inl rfl) (Nat.le_of_ble_eq_true rfl) rfl (Or.inr ⟨rfl, zGx_0 hg2⟩) (Nat.le_of_ble_eq_true rfl) (Nat.le_of_ble_eq_true rfl) (Nat.le_of_ble_eq_true rfl) (by omega) (by omega) (fun w φ4 q => ?_)
  obtain ⟨rfl, e4⟩ := q
  rw [e4]
  show zLW p l e R s m args below meth c Q D en ao au (CB + 1 + 1 + 0 + 0) (SB + 7 + 7 + 0 + 0) 306 [.int (Int32.ofNat (zh3 (h2 (kk * 40 + 1)))), .int (Int32.ofNat (zh3 (h1 (kk * 40 + 1))))] [(7, .int (Int32.ofNat kk)), (6, .int (Int32.ofNat made)), (2, .ref au), (1, .ref ao)] φ1 φ2
  refine zl_icmp_ne (off := (25)) (t := 319) hA ⟨by decide +kernel, rfl⟩ (by decide +kernel) (fun g => absurd (by rw [e1]) g) (fun _ => ?_)
  refine zl_aload (j := 1) (q := 3) hA ⟨by decide +kernel, rfl⟩ rfl ?_
  refine zl_iconst (z := 0) (v := Int32.ofNat 0) hA ⟨by decide +kernel, rfl⟩ (by decide +kernel) ?_
  refine zl_callO (i := (11, 32, 2, [(2, 1)])) (M := 32) (d := 1) (CN := 0) (CS := 0) (st := []) [0] hA (zs_309 hA.2.2.1) (fun n sl hn => (zx_keep0 (d := 0) hg1 hn hI.2.1 (by omega) h9)) (fun w φ2 q => by rw [q.1]; exact Or.inl rfl) (Nat.le_of_ble_eq_true rfl) rfl (Or.inr ⟨rfl, zGx_0 hg1⟩) (Nat.le_of_ble_eq_true rfl) (Nat.le_of_ble_eq_true rfl) (Nat.le_of_ble_eq_true rfl) (by omega) (by omega) (fun w φ5 q => ?_)
  obtain ⟨rfl, hg5, hks⟩ := q
  show zLW p l e R s m args below meth c Q D en ao au (CB + 1 + 1 + 0 + 0 + 0) (SB + 7 + 7 + 0 + 0 + 0) 310 [.int (Int32.ofNat ((h1 (kk * 40 + 1)).1))] [(7, .int (Int32.ofNat kk)), (6, .int (Int32.ofNat made)), (2, .ref au), (1, .ref ao)] φ5 φ2
  refine zl_aload (j := 1) (q := 3) hA ⟨by decide +kernel, rfl⟩ rfl ?_
  refine zl_iconst (z := 0) (v := Int32.ofNat 0) hA ⟨by decide +kernel, rfl⟩ (by decide +kernel) ?_
  refine zl_callO (i := (11, 334, 2, [(2, 1)])) (M := 334) (d := 1) (CN := 0) (CS := 0) (st := [.int (Int32.ofNat ((h1 (kk * 40 + 1)).1))]) [0] hA (zs_312 hA.2.2.1) (fun n sl hn => (zx_r (fun _ _ _ _ _ _ _ _ _ _ _ _ hG => zc_hand0 (d := 0) hG hn) hg5)) (fun w φ2 q => by rw [q.1]; exact Or.inl rfl) (Nat.le_of_ble_eq_true rfl) rfl (Or.inr ⟨rfl, zGx_0 hg5⟩) (Nat.le_of_ble_eq_true rfl) (Nat.le_of_ble_eq_true rfl) (Nat.le_of_ble_eq_true rfl) (by omega) (by omega) (fun w φ6 q => ?_)
  obtain ⟨rfl, e6⟩ := q
  rw [e6]
  show zLW p l e R s m args below meth c Q D en ao au (CB + 1 + 1 + 0 + 0 + 0 + 0) (SB + 7 + 7 + 0 + 0 + 0 + 0) 313 [.int (Int32.ofNat ((h1 (kk * 40 + 1)).1)), .int (Int32.ofNat ((h1 (kk * 40 + 1)).1))] [(7, .int (Int32.ofNat kk)), (6, .int (Int32.ofNat made)), (2, .ref au), (1, .ref ao)] φ5 φ2
  refine zl_icmp_ne (off := (12)) (t := 319) hA ⟨by decide +kernel, rfl⟩ (by decide +kernel) (fun g => absurd rfl g) (fun _ => ?_)
  refine zl_aload (j := 1) (q := 3) hA ⟨by decide +kernel, rfl⟩ rfl ?_
  refine zl_iconst (z := 0) (v := Int32.ofNat 0) hA ⟨by decide +kernel, rfl⟩ (by decide +kernel) ?_
  refine zl_callO (i := (11, 336, 2, [(2, 1)])) (M := 336) (d := 6) (CN := 0) (CS := 0) (st := []) [0] hA (zs_316 hA.2.2.1) (fun n sl hn => (zx_of (fun _ _ _ _ _ _ _ _ _ _ _ _ hG => zc_like0 (d := 0) hG hn hI.2.1 (by omega) hks (hI.2.1 _) hl2) hg5)) (fun w φ2 q => by rw [q.1]; exact Or.inl rfl) (Nat.le_of_ble_eq_true rfl) rfl (Or.inr ⟨rfl, zGx_0 hg5⟩) (Nat.le_of_ble_eq_true rfl) (Nat.le_of_ble_eq_true rfl) (Nat.le_of_ble_eq_true rfl) (by omega) (by omega) (fun w φ7 q => ?_)
  obtain ⟨rfl, hg7⟩ := q
  show zLW p l e R s m args below meth c Q D en ao au (CB + 1 + 1 + 0 + 0 + 0 + 0 + 0) (SB + 7 + 7 + 0 + 0 + 0 + 0 + 0) 317 [.int (Int32.ofNat 1)] [(7, .int (Int32.ofNat kk)), (6, .int (Int32.ofNat made)), (2, .ref au), (1, .ref ao)] φ7 φ2
  refine zl_iconst (z := 1) (v := Int32.ofNat 1) hA ⟨by decide +kernel, rfl⟩ (by decide +kernel) ?_
  refine zl_icmp_eq (off := (5)) (t := 321) hA ⟨by decide +kernel, rfl⟩ (by decide +kernel) (fun _ => ?_) (fun g => absurd rfl g)
  refine zl_iinc (i := 7) (z := 1) (q := 0) (v := (Int32.ofNat (kk + 1))) (lv2 := [(7, .int (Int32.ofNat (kk + 1))), (6, .int (Int32.ofNat made)), (2, .ref au), (1, .ref ao)]) hA ⟨by decide +kernel, rfl⟩ rfl (xi_add kk 1) (by decide) rfl ?_
  refine zl_goto (off := (-187)) (t := 223) hA (by decide +kernel) (by decide +kernel) ?_
  refine zl_sub (lv2 := [(7, .int (Int32.ofNat (kk + 1))), (6, .int (Int32.ofNat made)), (2, .ref au), (1, .ref ao)]) [0, 1, 2, 3] rfl ?_
  exact zLW_mono (kt φ7 φ2 _ _ hg7 hg2) (by omega) (by omega)
end LAW5
