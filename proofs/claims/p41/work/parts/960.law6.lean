section LAW6
set_option maxRecDepth 100000
variable {p : Program} {l : Launch} {e : Env} {R : Room} {s : State} {m : MethodId} {args : Array Value} {below : List Frame} {meth : Method} {c : Code} {Q : State → Prop} {D : va_G} {en : XE} {ao au : Nat}
theorem zl_lcmp {CB SB k : Nat} {st : List Value} {lv : List (Nat × Value)} {φ ψ : FH} {x : Int64} (hA : zAm p l R s m args meth c D en) (hd : x_at code lawrp k .lcmp 1) (kk : zLW p l e R s m args below meth c Q D en ao au CB SB (k + 1) (.int (Int32.ofNat 0) :: st) lv φ ψ) : zLW p l e R s m args below meth c Q D en ao au CB SB k (.long x :: .long x :: st) lv φ ψ := by
  intro H locs cells slots ls n sl ad n' sl' ad' h1 h2 h3 h4 h5 h6 h7 h8
  exact xv_lcmp hA.1 hA.2.1 hd.1 (v := Int32.ofNat 0) (fun z => absurd z Int64.lt_irrefl) (fun _ => by decide) (fun z => absurd z Int64.lt_irrefl) (hd.2 ▸ kk H locs cells slots ls n sl ad n' sl' ad' h1 h2 h3 h4 h5 h6 h7 h8)
theorem zw_195 : Cond.constantLong "ExpressHouseLaw" 195 (Int64.ofNat 2) ∈ xBIG := xin_10 (List.mem_of_getElem? (i := 72) rfl) rfl
theorem zl_ldc2 {CB SB k : Nat} {st : List Value} {lv : List (Nat × Value)} {φ ψ : FH} (hA : zAm p l R s m args meth c D en) (hd : x_at code lawrp k (.ldc2_w 195) 3) (kk : zLW p l e R s m args below meth c Q D en ao au CB SB (k + 1) (.long (Int64.ofNat 2) :: st) lv φ ψ) : zLW p l e R s m args below meth c Q D en ao au CB SB k st lv φ ψ := by
  intro H locs cells slots ls n sl ad n' sl' ad' h1 h2 h3 h4 h5 h6 h7 h8
  exact lv_ldc2 hA.1 hA.2.1 hA.2.2.1.2.2.2.1 (hA.2.2.1.2.2.2.2 _ zw_195) hd.1 (hd.2 ▸ kk H locs cells slots ls n sl ad n' sl' ad' h1 h2 h3 h4 h5 h6 h7 h8)
set_option maxHeartbeats 4000000 in
theorem zi_A {CB SB kk made mi mi' : Nat} {φ ψ : FH} {c1 c2 : Nat → Nat} {h1 h2 : Nat → MV} {mh mh' : MV} (hA : zAm p l R s m args meth c D en) (hG : zGx φ mi made c1 h1 mh) (hG' : zGx ψ mi' made c2 h2 mh') (hE : PE made c1 h1 c2 h2) (hI : MInv made c1 h1) (hI' : MInv made c2 h2) (hk : kk < made) (hmi : mi + 400 ≤ 20000) (hmi' : mi' + 400 ≤ 20000) (hCB : CB + 20 ≤ 600000) (hSB : SB + 140 ≤ 7302249) (hc : c1 kk = 0)
    (kt : ∀ (φ2 ψ2 : FH) (mh2 mh2' : MV), zGx φ2 mi made c1 h1 mh2 → zGx ψ2 mi' made c2 h2 mh2' → zLW p l e R s m args below meth c Q D en ao au (CB + 0) (SB + 0) 223 [] [(7, .int (Int32.ofNat (kk + 1))), (6, .int (Int32.ofNat made)), (2, .ref au), (1, .ref ao)] φ2 ψ2) : zLW p l e R s m args below meth c Q D en ao au CB SB 226 [] [(7, .int (Int32.ofNat kk)), (6, .int (Int32.ofNat made)), (2, .ref au), (1, .ref ao)] φ ψ := by
  have hm40 := hI.1
  have hck : c1 kk = c2 kk := hE.1 kk hk
  refine zl_aload (j := 1) (q := 3) hA ⟨by decide +kernel, rfl⟩ rfl ?_
  refine zl_iload (i := 7) (q := 0) hA ⟨by decide +kernel, rfl⟩ rfl ?_
  refine zl_callO (i := (11, 31, 2, [(2, 1)])) (M := 31) (d := 2) (CN := 0) (CS := 0) (st := []) [kk] hA (zs_228 hA.2.2.1) (fun n sl hn => (zx_r (fun _ _ _ _ _ _ _ _ _ _ _ _ hG => zc_row (d := 0) hG hn hk) hG)) (fun w φ2 q => by rw [q.1]; exact Or.inl rfl) (Nat.le_of_ble_eq_true rfl) rfl (Or.inr ⟨rfl, zGx_0 hG⟩) (Nat.le_of_ble_eq_true rfl) (Nat.le_of_ble_eq_true rfl) (Nat.le_of_ble_eq_true rfl) (by omega) (by omega) (fun w φ1 q => ?_)
  obtain ⟨rfl, e1⟩ := q
  rw [e1]
  show zLW p l e R s m args below meth c Q D en ao au (CB + 0) (SB + 0) 229 [.int (Int32.ofNat (c1 kk))] [(7, .int (Int32.ofNat kk)), (6, .int (Int32.ofNat made)), (2, .ref au), (1, .ref ao)] φ ψ
  refine zl_aload (j := 2) (q := 2) hA ⟨by decide +kernel, rfl⟩ rfl ?_
  refine zl_iload (i := 7) (q := 0) hA ⟨by decide +kernel, rfl⟩ rfl ?_
  refine zl_callU (i := (11, 31, 2, [(2, 1)])) (M := 31) (d := 2) (CN := 0) (CS := 0) (st := [.int (Int32.ofNat (c1 kk))]) [kk] hA (zs_231 hA.2.2.1) (fun n sl hn => (zx_r (fun _ _ _ _ _ _ _ _ _ _ _ _ hG => zc_row (d := 0) hG hn hk) hG')) (fun w φ2 q => by rw [q.1]; exact Or.inl rfl) (Nat.le_of_ble_eq_true rfl) rfl (Or.inr ⟨rfl, zGx_0 hG'⟩) (Nat.le_of_ble_eq_true rfl) (Nat.le_of_ble_eq_true rfl) (Nat.le_of_ble_eq_true rfl) (by omega) (by omega) (fun w φ2 q => ?_)
  obtain ⟨rfl, e2⟩ := q
  rw [e2]
  show zLW p l e R s m args below meth c Q D en ao au (CB + 0 + 0) (SB + 0 + 0) 232 [.int (Int32.ofNat (c2 kk)), .int (Int32.ofNat (c1 kk))] [(7, .int (Int32.ofNat kk)), (6, .int (Int32.ofNat made)), (2, .ref au), (1, .ref ao)] φ ψ
  refine zl_icmp_ne (off := (20)) (t := 242) hA ⟨by decide +kernel, rfl⟩ (by decide +kernel) (fun g => absurd (by rw [hck]) g) (fun _ => ?_)
  refine zl_aload (j := 1) (q := 3) hA ⟨by decide +kernel, rfl⟩ rfl ?_
  refine zl_iload (i := 7) (q := 0) hA ⟨by decide +kernel, rfl⟩ rfl ?_
  refine zl_iconst (z := 2) (v := Int32.ofNat 2) hA ⟨by decide +kernel, rfl⟩ (by decide +kernel) ?_
  refine zl_callO (i := (11, 26, 3, [(3, 1)])) (M := 26) (d := 4) (CN := 0) (CS := 0) (st := []) [kk, 2] hA (zs_236 hA.2.2.1) (fun n sl hn => (zx_of (fun _ _ _ _ _ _ _ _ _ _ _ _ hG => zc_get2_bad (d := 0) hG hn hI.2.1 (by omega) (by omega) (fun z => z.1.2 hc)) hG)) (fun w φ2 q => by rw [q.1]; exact Or.inl rfl) (Nat.le_of_ble_eq_true rfl) rfl (Or.inr ⟨rfl, zGx_0 hG⟩) (Nat.le_of_ble_eq_true rfl) (Nat.le_of_ble_eq_true rfl) (Nat.le_of_ble_eq_true rfl) (by omega) (by omega) (fun w φ3 q => ?_)
  obtain ⟨rfl, hg3⟩ := q
  show zLW p l e R s m args below meth c Q D en ao au (CB + 0 + 0 + 0) (SB + 0 + 0 + 0) 237 [.int (Int32.ofNat 4294967295)] [(7, .int (Int32.ofNat kk)), (6, .int (Int32.ofNat made)), (2, .ref au), (1, .ref ao)] φ3 ψ
  refine zl_aload (j := 2) (q := 2) hA ⟨by decide +kernel, rfl⟩ rfl ?_
  refine zl_iload (i := 7) (q := 0) hA ⟨by decide +kernel, rfl⟩ rfl ?_
  refine zl_iconst (z := 2) (v := Int32.ofNat 2) hA ⟨by decide +kernel, rfl⟩ (by decide +kernel) ?_
  refine zl_callU (i := (11, 26, 3, [(3, 1)])) (M := 26) (d := 4) (CN := 0) (CS := 0) (st := [.int (Int32.ofNat 4294967295)]) [kk, 2] hA (zs_240 hA.2.2.1) (fun n sl hn => (zx_of (fun _ _ _ _ _ _ _ _ _ _ _ _ hG => zc_get2_bad (d := 0) hG hn hI'.2.1 (by omega) (by omega) (fun z => z.1.2 (hck ▸ hc))) hG')) (fun w φ2 q => by rw [q.1]; exact Or.inl rfl) (Nat.le_of_ble_eq_true rfl) rfl (Or.inr ⟨rfl, zGx_0 hG'⟩) (Nat.le_of_ble_eq_true rfl) (Nat.le_of_ble_eq_true rfl) (Nat.le_of_ble_eq_true rfl) (by omega) (by omega) (fun w φ4 q => ?_)
  obtain ⟨rfl, hg4⟩ := q
  show zLW p l e R s m args below meth c Q D en ao au (CB + 0 + 0 + 0 + 0) (SB + 0 + 0 + 0 + 0) 241 [.int (Int32.ofNat 4294967295), .int (Int32.ofNat 4294967295)] [(7, .int (Int32.ofNat kk)), (6, .int (Int32.ofNat made)), (2, .ref au), (1, .ref ao)] φ3 φ4
  refine zl_icmp_eq (off := (5)) (t := 244) hA ⟨by decide +kernel, rfl⟩ (by decide +kernel) (fun _ => ?_) (fun g => absurd rfl g)
  refine zl_aload (j := 1) (q := 3) hA ⟨by decide +kernel, rfl⟩ rfl ?_
  refine zl_iload (i := 7) (q := 0) hA ⟨by decide +kernel, rfl⟩ rfl ?_
  refine zl_callO (i := (11, 31, 2, [(2, 1)])) (M := 31) (d := 2) (CN := 0) (CS := 0) (st := []) [kk] hA (zs_246 hA.2.2.1) (fun n sl hn => (zx_r (fun _ _ _ _ _ _ _ _ _ _ _ _ hG => zc_row (d := 0) hG hn hk) hg3)) (fun w φ2 q => by rw [q.1]; exact Or.inl rfl) (Nat.le_of_ble_eq_true rfl) rfl (Or.inr ⟨rfl, zGx_0 hg3⟩) (Nat.le_of_ble_eq_true rfl) (Nat.le_of_ble_eq_true rfl) (Nat.le_of_ble_eq_true rfl) (by omega) (by omega) (fun w φ5 q => ?_)
  obtain ⟨rfl, e5⟩ := q
  rw [e5]
  show zLW p l e R s m args below meth c Q D en ao au (CB + 0 + 0 + 0 + 0 + 0) (SB + 0 + 0 + 0 + 0 + 0) 247 [.int (Int32.ofNat (c1 kk))] [(7, .int (Int32.ofNat kk)), (6, .int (Int32.ofNat made)), (2, .ref au), (1, .ref ao)] φ3 φ4
  refine zl_if_ne (off := (6)) (t := 249) hA ⟨by decide +kernel, rfl⟩ (by decide +kernel) (fun g => absurd (show Int32.ofNat (c1 kk) = 0 by rw [hc]; decide) g) (fun _ => ?_)
  refine zl_goto (off := (134)) (t := 321) hA (by decide +kernel) (by decide +kernel) ?_
  refine zl_iinc (i := 7) (z := 1) (q := 0) (v := (Int32.ofNat (kk + 1))) (lv2 := [(7, .int (Int32.ofNat (kk + 1))), (6, .int (Int32.ofNat made)), (2, .ref au), (1, .ref ao)]) hA ⟨by decide +kernel, rfl⟩ rfl (xi_add kk 1) (by decide) rfl ?_
  refine zl_goto (off := (-187)) (t := 223) hA (by decide +kernel) (by decide +kernel) ?_
  exact zLW_mono (kt φ3 φ4 _ _ hg3 hg4) (by omega) (by omega)
set_option maxHeartbeats 4000000 in
theorem zi_B {CB SB kk made mi mi' : Nat} {φ ψ : FH} {c1 c2 : Nat → Nat} {h1 h2 : Nat → MV} {mh mh' : MV} (hA : zAm p l R s m args meth c D en) (hG : zGx φ mi made c1 h1 mh) (hG' : zGx ψ mi' made c2 h2 mh') (hE : PE made c1 h1 c2 h2) (hI : MInv made c1 h1) (hI' : MInv made c2 h2) (hk : kk < made) (hmi : mi + 400 ≤ 20000) (hmi' : mi' + 400 ≤ 20000) (hCB : CB + 20 ≤ 600000) (hSB : SB + 140 ≤ 7302249) (hc : c1 kk ≠ 0) (hq : h1 (kk * 40 + 0) = MV0)
    (kt : ∀ (φ2 ψ2 : FH) (mh2 mh2' : MV), zGx φ2 (mi + 3) made c1 h1 mh2 → zGx ψ2 (mi' + 3) made c2 h2 mh2' → zLW p l e R s m args below meth c Q D en ao au (CB + 20) (SB + 140) 223 [] [(7, .int (Int32.ofNat (kk + 1))), (6, .int (Int32.ofNat made)), (2, .ref au), (1, .ref ao)] φ2 ψ2) : zLW p l e R s m args below meth c Q D en ao au CB SB 226 [] [(7, .int (Int32.ofNat kk)), (6, .int (Int32.ofNat made)), (2, .ref au), (1, .ref ao)] φ ψ := by
  have hm40 := hI.1
  have hck : c1 kk = c2 kk := hE.1 kk hk
  have hA1 := z_isA0 hI.2.2.2.2.2.1 ⟨hk, hc⟩
  have hA2 := z_isA0 hI'.2.2.2.2.2.1 ⟨hk, (hck ▸ hc : c2 kk ≠ 0)⟩
  have hq' : h2 (kk * 40 + 0) = MV0 := (hE.2 _ (by omega)).symm.trans hq
  have hne : ¬ Int32.ofNat (c1 kk) = 0 := by
    rcases hI.2.2.2.2.2.1 kk hk with q | q | q
    · exact absurd q hc
    · rw [q]; decide
    · rw [q]; decide
  refine zl_aload (j := 1) (q := 3) hA ⟨by decide +kernel, rfl⟩ rfl ?_
  refine zl_iload (i := 7) (q := 0) hA ⟨by decide +kernel, rfl⟩ rfl ?_
  refine zl_callO (i := (11, 31, 2, [(2, 1)])) (M := 31) (d := 2) (CN := 0) (CS := 0) (st := []) [kk] hA (zs_228 hA.2.2.1) (fun n sl hn => (zx_r (fun _ _ _ _ _ _ _ _ _ _ _ _ hG => zc_row (d := 0) hG hn hk) hG)) (fun w φ2 q => by rw [q.1]; exact Or.inl rfl) (Nat.le_of_ble_eq_true rfl) rfl (Or.inr ⟨rfl, zGx_0 hG⟩) (Nat.le_of_ble_eq_true rfl) (Nat.le_of_ble_eq_true rfl) (Nat.le_of_ble_eq_true rfl) (by omega) (by omega) (fun w φ1 q => ?_)
  obtain ⟨rfl, e1⟩ := q
  rw [e1]
  show zLW p l e R s m args below meth c Q D en ao au (CB + 0) (SB + 0) 229 [.int (Int32.ofNat (c1 kk))] [(7, .int (Int32.ofNat kk)), (6, .int (Int32.ofNat made)), (2, .ref au), (1, .ref ao)] φ ψ
  refine zl_aload (j := 2) (q := 2) hA ⟨by decide +kernel, rfl⟩ rfl ?_
  refine zl_iload (i := 7) (q := 0) hA ⟨by decide +kernel, rfl⟩ rfl ?_
  refine zl_callU (i := (11, 31, 2, [(2, 1)])) (M := 31) (d := 2) (CN := 0) (CS := 0) (st := [.int (Int32.ofNat (c1 kk))]) [kk] hA (zs_231 hA.2.2.1) (fun n sl hn => (zx_r (fun _ _ _ _ _ _ _ _ _ _ _ _ hG => zc_row (d := 0) hG hn hk) hG')) (fun w φ2 q => by rw [q.1]; exact Or.inl rfl) (Nat.le_of_ble_eq_true rfl) rfl (Or.inr ⟨rfl, zGx_0 hG'⟩) (Nat.le_of_ble_eq_true rfl) (Nat.le_of_ble_eq_true rfl) (Nat.le_of_ble_eq_true rfl) (by omega) (by omega) (fun w φ2 q => ?_)
  obtain ⟨rfl, e2⟩ := q
  rw [e2]
  show zLW p l e R s m args below meth c Q D en ao au (CB + 0 + 0) (SB + 0 + 0) 232 [.int (Int32.ofNat (c2 kk)), .int (Int32.ofNat (c1 kk))] [(7, .int (Int32.ofNat kk)), (6, .int (Int32.ofNat made)), (2, .ref au), (1, .ref ao)] φ ψ
  refine zl_icmp_ne (off := (20)) (t := 242) hA ⟨by decide +kernel, rfl⟩ (by decide +kernel) (fun g => absurd (by rw [hck]) g) (fun _ => ?_)
  refine zl_aload (j := 1) (q := 3) hA ⟨by decide +kernel, rfl⟩ rfl ?_
  refine zl_iload (i := 7) (q := 0) hA ⟨by decide +kernel, rfl⟩ rfl ?_
  refine zl_iconst (z := 2) (v := Int32.ofNat 2) hA ⟨by decide +kernel, rfl⟩ (by decide +kernel) ?_
  refine zl_callO (i := (11, 26, 3, [(3, 1)])) (M := 26) (d := 8) (CN := 3) (CS := 21) (st := []) [kk, 2] hA (zs_236 hA.2.2.1) (fun n sl hn => (zx_of (fun _ _ _ _ _ _ _ _ _ _ _ _ hG => zc_get2_0 (d := 0) hG hn hI.2.1 (by omega) (by omega) hA1 hq) hG)) (fun w φ2 q => by rw [q.1]; exact Or.inl rfl) (Nat.le_of_ble_eq_true rfl) rfl (Or.inr ⟨rfl, zGx_0 hG⟩) (Nat.le_of_ble_eq_true rfl) (Nat.le_of_ble_eq_true rfl) (Nat.le_of_ble_eq_true rfl) (by omega) (by omega) (fun w φ3 q => ?_)
  obtain ⟨rfl, hg3⟩ := q
  show zLW p l e R s m args below meth c Q D en ao au (CB + 0 + 0 + 3) (SB + 0 + 0 + 21) 237 [.int (Int32.ofNat 0)] [(7, .int (Int32.ofNat kk)), (6, .int (Int32.ofNat made)), (2, .ref au), (1, .ref ao)] φ3 ψ
  refine zl_aload (j := 2) (q := 2) hA ⟨by decide +kernel, rfl⟩ rfl ?_
  refine zl_iload (i := 7) (q := 0) hA ⟨by decide +kernel, rfl⟩ rfl ?_
  refine zl_iconst (z := 2) (v := Int32.ofNat 2) hA ⟨by decide +kernel, rfl⟩ (by decide +kernel) ?_
  refine zl_callU (i := (11, 26, 3, [(3, 1)])) (M := 26) (d := 8) (CN := 3) (CS := 21) (st := [.int (Int32.ofNat 0)]) [kk, 2] hA (zs_240 hA.2.2.1) (fun n sl hn => (zx_of (fun _ _ _ _ _ _ _ _ _ _ _ _ hG => zc_get2_0 (d := 0) hG hn hI'.2.1 (by omega) (by omega) hA2 hq') hG')) (fun w φ2 q => by rw [q.1]; exact Or.inl rfl) (Nat.le_of_ble_eq_true rfl) rfl (Or.inr ⟨rfl, zGx_0 hG'⟩) (Nat.le_of_ble_eq_true rfl) (Nat.le_of_ble_eq_true rfl) (Nat.le_of_ble_eq_true rfl) (by omega) (by omega) (fun w φ4 q => ?_)
  obtain ⟨rfl, hg4⟩ := q
  show zLW p l e R s m args below meth c Q D en ao au (CB + 0 + 0 + 3 + 3) (SB + 0 + 0 + 21 + 21) 241 [.int (Int32.ofNat 0), .int (Int32.ofNat 0)] [(7, .int (Int32.ofNat kk)), (6, .int (Int32.ofNat made)), (2, .ref au), (1, .ref ao)] φ3 φ4
  refine zl_icmp_eq (off := (5)) (t := 244) hA ⟨by decide +kernel, rfl⟩ (by decide +kernel) (fun _ => ?_) (fun g => absurd rfl g)
  refine zl_aload (j := 1) (q := 3) hA ⟨by decide +kernel, rfl⟩ rfl ?_
  refine zl_iload (i := 7) (q := 0) hA ⟨by decide +kernel, rfl⟩ rfl ?_
  refine zl_callO (i := (11, 31, 2, [(2, 1)])) (M := 31) (d := 2) (CN := 0) (CS := 0) (st := []) [kk] hA (zs_246 hA.2.2.1) (fun n sl hn => (zx_r (fun _ _ _ _ _ _ _ _ _ _ _ _ hG => zc_row (d := 0) hG hn hk) hg3)) (fun w φ2 q => by rw [q.1]; exact Or.inl rfl) (Nat.le_of_ble_eq_true rfl) rfl (Or.inr ⟨rfl, zGx_0 hg3⟩) (Nat.le_of_ble_eq_true rfl) (Nat.le_of_ble_eq_true rfl) (Nat.le_of_ble_eq_true rfl) (by omega) (by omega) (fun w φ5 q => ?_)
  obtain ⟨rfl, e5⟩ := q
  rw [e5]
  show zLW p l e R s m args below meth c Q D en ao au (CB + 0 + 0 + 3 + 3 + 0) (SB + 0 + 0 + 21 + 21 + 0) 247 [.int (Int32.ofNat (c1 kk))] [(7, .int (Int32.ofNat kk)), (6, .int (Int32.ofNat made)), (2, .ref au), (1, .ref ao)] φ3 φ4
  refine zl_if_ne (off := (6)) (t := 249) hA ⟨by decide +kernel, rfl⟩ (by decide +kernel) (fun _ => ?_) (fun g => absurd g hne)
  refine zl_aload (j := 1) (q := 3) hA ⟨by decide +kernel, rfl⟩ rfl ?_
  refine zl_bipush (z := (-3)) (v := Int32.ofNat 4294967293) hA ⟨by decide +kernel, rfl⟩ (by decide +kernel) ?_
  refine zl_callO (i := (11, 335, 2, [(2, 1)])) (M := 335) (d := 1) (CN := 0) (CS := 0) (st := []) [4294967293] hA (zs_251 hA.2.2.1) (fun n sl hn => (zx_r (fun _ _ _ _ _ _ _ _ _ _ _ _ hG => zc_bits (d := 0) hG hn) hg3)) (fun w φ2 q => by rw [q.1]; exact Or.inr rfl) (Nat.le_of_ble_eq_true rfl) rfl (Or.inr ⟨rfl, zGx_0 hg3⟩) (Nat.le_of_ble_eq_true rfl) (Nat.le_of_ble_eq_true rfl) (Nat.le_of_ble_eq_true rfl) (by omega) (by omega) (fun w φ6 q => ?_)
  obtain ⟨rfl, e6⟩ := q
  rw [e6]
  show zLW p l e R s m args below meth c Q D en ao au (CB + 0 + 0 + 3 + 3 + 0 + 0) (SB + 0 + 0 + 21 + 21 + 0 + 0) 252 [.long (Int64.ofNat 0)] [(7, .int (Int32.ofNat kk)), (6, .int (Int32.ofNat made)), (2, .ref au), (1, .ref ao)] φ3 φ4
  refine zl_aload (j := 2) (q := 2) hA ⟨by decide +kernel, rfl⟩ rfl ?_
  refine zl_bipush (z := (-3)) (v := Int32.ofNat 4294967293) hA ⟨by decide +kernel, rfl⟩ (by decide +kernel) ?_
  refine zl_callU (i := (11, 335, 2, [(2, 1)])) (M := 335) (d := 1) (CN := 0) (CS := 0) (st := [.long (Int64.ofNat 0)]) [4294967293] hA (zs_254 hA.2.2.1) (fun n sl hn => (zx_r (fun _ _ _ _ _ _ _ _ _ _ _ _ hG => zc_bits (d := 0) hG hn) hg4)) (fun w φ2 q => by rw [q.1]; exact Or.inr rfl) (Nat.le_of_ble_eq_true rfl) rfl (Or.inr ⟨rfl, zGx_0 hg4⟩) (Nat.le_of_ble_eq_true rfl) (Nat.le_of_ble_eq_true rfl) (Nat.le_of_ble_eq_true rfl) (by omega) (by omega) (fun w φ7 q => ?_)
  obtain ⟨rfl, e7⟩ := q
  rw [e7]
  show zLW p l e R s m args below meth c Q D en ao au (CB + 0 + 0 + 3 + 3 + 0 + 0 + 0) (SB + 0 + 0 + 21 + 21 + 0 + 0 + 0) 255 [.long (Int64.ofNat 0), .long (Int64.ofNat 0)] [(7, .int (Int32.ofNat kk)), (6, .int (Int32.ofNat made)), (2, .ref au), (1, .ref ao)] φ3 φ4
  refine zl_lcmp hA ⟨by decide +kernel, rfl⟩ ?_
  refine zl_if_ne (off := (16)) (t := 264) hA ⟨by decide +kernel, rfl⟩ (by decide +kernel) (fun g => absurd (by decide) g) (fun _ => ?_)
  refine zl_aload (j := 1) (q := 3) hA ⟨by decide +kernel, rfl⟩ rfl ?_
  refine zl_iconst (z := 0) (v := Int32.ofNat 0) hA ⟨by decide +kernel, rfl⟩ (by decide +kernel) ?_
  refine zl_callO (i := (11, 334, 2, [(2, 1)])) (M := 334) (d := 1) (CN := 0) (CS := 0) (st := []) [0] hA (zs_259 hA.2.2.1) (fun n sl hn => (zx_r (fun _ _ _ _ _ _ _ _ _ _ _ _ hG => zc_hand0 (d := 0) hG hn) hg3)) (fun w φ2 q => by rw [q.1]; exact Or.inl rfl) (Nat.le_of_ble_eq_true rfl) rfl (Or.inr ⟨rfl, zGx_0 hg3⟩) (Nat.le_of_ble_eq_true rfl) (Nat.le_of_ble_eq_true rfl) (Nat.le_of_ble_eq_true rfl) (by omega) (by omega) (fun w φ8 q => ?_)
  obtain ⟨rfl, e8⟩ := q
  rw [e8]
  show zLW p l e R s m args below meth c Q D en ao au (CB + 0 + 0 + 3 + 3 + 0 + 0 + 0 + 0) (SB + 0 + 0 + 21 + 21 + 0 + 0 + 0 + 0) 260 [.int (Int32.ofNat 0)] [(7, .int (Int32.ofNat kk)), (6, .int (Int32.ofNat made)), (2, .ref au), (1, .ref ao)] φ3 φ4
  refine zl_aload (j := 2) (q := 2) hA ⟨by decide +kernel, rfl⟩ rfl ?_
  refine zl_iconst (z := 0) (v := Int32.ofNat 0) hA ⟨by decide +kernel, rfl⟩ (by decide +kernel) ?_
  refine zl_callU (i := (11, 334, 2, [(2, 1)])) (M := 334) (d := 1) (CN := 0) (CS := 0) (st := [.int (Int32.ofNat 0)]) [0] hA (zs_262 hA.2.2.1) (fun n sl hn => (zx_r (fun _ _ _ _ _ _ _ _ _ _ _ _ hG => zc_hand0 (d := 0) hG hn) hg4)) (fun w φ2 q => by rw [q.1]; exact Or.inl rfl) (Nat.le_of_ble_eq_true rfl) rfl (Or.inr ⟨rfl, zGx_0 hg4⟩) (Nat.le_of_ble_eq_true rfl) (Nat.le_of_ble_eq_true rfl) (Nat.le_of_ble_eq_true rfl) (by omega) (by omega) (fun w φ9 q => ?_)
  obtain ⟨rfl, e9⟩ := q
  rw [e9]
  show zLW p l e R s m args below meth c Q D en ao au (CB + 0 + 0 + 3 + 3 + 0 + 0 + 0 + 0 + 0) (SB + 0 + 0 + 21 + 21 + 0 + 0 + 0 + 0 + 0) 263 [.int (Int32.ofNat 0), .int (Int32.ofNat 0)] [(7, .int (Int32.ofNat kk)), (6, .int (Int32.ofNat made)), (2, .ref au), (1, .ref ao)] φ3 φ4
  refine zl_icmp_eq (off := (5)) (t := 266) hA ⟨by decide +kernel, rfl⟩ (by decide +kernel) (fun _ => ?_) (fun g => absurd rfl g)
  refine zl_aload (j := 1) (q := 3) hA ⟨by decide +kernel, rfl⟩ rfl ?_
  refine zl_iconst (z := 0) (v := Int32.ofNat 0) hA ⟨by decide +kernel, rfl⟩ (by decide +kernel) ?_
  refine zl_callO (i := (11, 334, 2, [(2, 1)])) (M := 334) (d := 1) (CN := 0) (CS := 0) (st := []) [0] hA (zs_268 hA.2.2.1) (fun n sl hn => (zx_r (fun _ _ _ _ _ _ _ _ _ _ _ _ hG => zc_hand0 (d := 0) hG hn) hg3)) (fun w φ2 q => by rw [q.1]; exact Or.inl rfl) (Nat.le_of_ble_eq_true rfl) rfl (Or.inr ⟨rfl, zGx_0 hg3⟩) (Nat.le_of_ble_eq_true rfl) (Nat.le_of_ble_eq_true rfl) (Nat.le_of_ble_eq_true rfl) (by omega) (by omega) (fun w φ10 q => ?_)
  obtain ⟨rfl, e10⟩ := q
  rw [e10]
  show zLW p l e R s m args below meth c Q D en ao au (CB + 0 + 0 + 3 + 3 + 0 + 0 + 0 + 0 + 0 + 0) (SB + 0 + 0 + 21 + 21 + 0 + 0 + 0 + 0 + 0 + 0) 269 [.int (Int32.ofNat 0)] [(7, .int (Int32.ofNat kk)), (6, .int (Int32.ofNat made)), (2, .ref au), (1, .ref ao)] φ3 φ4
  refine zl_iconst (z := 1) (v := Int32.ofNat 1) hA ⟨by decide +kernel, rfl⟩ (by decide +kernel) ?_
  refine zl_icmp_ne (off := (40)) (t := 291) hA ⟨by decide +kernel, rfl⟩ (by decide +kernel) (fun _ => ?_) (fun g => absurd (show Int32.ofNat 0 = Int32.ofNat 1 from g) (by decide))
  exact zi_tail hA hg3 hg4 hE hI hI' hk (by omega) (by omega) (by omega) (by omega) hc (fun φ2 ψ2 mh2 mh2' g1 g2 => zLW_mono (kt φ2 ψ2 mh2 mh2' g1 g2) (by omega) (by omega))
set_option maxHeartbeats 4000000 in
theorem zi_C {kv : Nat} {CB SB kk made mi mi' : Nat} {φ ψ : FH} {c1 c2 : Nat → Nat} {h1 h2 : Nat → MV} {mh mh' : MV} (hA : zAm p l R s m args meth c D en) (hG : zGx φ mi made c1 h1 mh) (hG' : zGx ψ mi' made c2 h2 mh') (hE : PE made c1 h1 c2 h2) (hI : MInv made c1 h1) (hI' : MInv made c2 h2) (hk : kk < made) (hmi : mi + 400 ≤ 20000) (hmi' : mi' + 400 ≤ 20000) (hCB : CB + 20 ≤ 600000) (hSB : SB + 140 ≤ 7302249) (hc : c1 kk ≠ 0) (hq : h1 (kk * 40 + 0) = (1, kv, 0, 0, [])) (hkv : kv < 1024)
    (kt : ∀ (φ2 ψ2 : FH) (mh2 mh2' : MV), zGx φ2 (mi + 3) made c1 h1 mh2 → zGx ψ2 (mi' + 3) made c2 h2 mh2' → zLW p l e R s m args below meth c Q D en ao au (CB + 20) (SB + 140) 223 [] [(7, .int (Int32.ofNat (kk + 1))), (6, .int (Int32.ofNat made)), (2, .ref au), (1, .ref ao)] φ2 ψ2) : zLW p l e R s m args below meth c Q D en ao au CB SB 226 [] [(7, .int (Int32.ofNat kk)), (6, .int (Int32.ofNat made)), (2, .ref au), (1, .ref ao)] φ ψ := by
  have hm40 := hI.1
  have hck : c1 kk = c2 kk := hE.1 kk hk
  have hA1 := z_isA0 hI.2.2.2.2.2.1 ⟨hk, hc⟩
  have hA2 := z_isA0 hI'.2.2.2.2.2.1 ⟨hk, (hck ▸ hc : c2 kk ≠ 0)⟩
  have hq' : h2 (kk * 40 + 0) = (1, kv, 0, 0, []) := (hE.2 _ (by omega)).symm.trans hq
  have hne : ¬ Int32.ofNat (c1 kk) = 0 := by
    rcases hI.2.2.2.2.2.1 kk hk with q | q | q
    · exact absurd q hc
    · rw [q]; decide
    · rw [q]; decide
  refine zl_aload (j := 1) (q := 3) hA ⟨by decide +kernel, rfl⟩ rfl ?_
  refine zl_iload (i := 7) (q := 0) hA ⟨by decide +kernel, rfl⟩ rfl ?_
  refine zl_callO (i := (11, 31, 2, [(2, 1)])) (M := 31) (d := 2) (CN := 0) (CS := 0) (st := []) [kk] hA (zs_228 hA.2.2.1) (fun n sl hn => (zx_r (fun _ _ _ _ _ _ _ _ _ _ _ _ hG => zc_row (d := 0) hG hn hk) hG)) (fun w φ2 q => by rw [q.1]; exact Or.inl rfl) (Nat.le_of_ble_eq_true rfl) rfl (Or.inr ⟨rfl, zGx_0 hG⟩) (Nat.le_of_ble_eq_true rfl) (Nat.le_of_ble_eq_true rfl) (Nat.le_of_ble_eq_true rfl) (by omega) (by omega) (fun w φ1 q => ?_)
  obtain ⟨rfl, e1⟩ := q
  rw [e1]
  show zLW p l e R s m args below meth c Q D en ao au (CB + 0) (SB + 0) 229 [.int (Int32.ofNat (c1 kk))] [(7, .int (Int32.ofNat kk)), (6, .int (Int32.ofNat made)), (2, .ref au), (1, .ref ao)] φ ψ
  refine zl_aload (j := 2) (q := 2) hA ⟨by decide +kernel, rfl⟩ rfl ?_
  refine zl_iload (i := 7) (q := 0) hA ⟨by decide +kernel, rfl⟩ rfl ?_
  refine zl_callU (i := (11, 31, 2, [(2, 1)])) (M := 31) (d := 2) (CN := 0) (CS := 0) (st := [.int (Int32.ofNat (c1 kk))]) [kk] hA (zs_231 hA.2.2.1) (fun n sl hn => (zx_r (fun _ _ _ _ _ _ _ _ _ _ _ _ hG => zc_row (d := 0) hG hn hk) hG')) (fun w φ2 q => by rw [q.1]; exact Or.inl rfl) (Nat.le_of_ble_eq_true rfl) rfl (Or.inr ⟨rfl, zGx_0 hG'⟩) (Nat.le_of_ble_eq_true rfl) (Nat.le_of_ble_eq_true rfl) (Nat.le_of_ble_eq_true rfl) (by omega) (by omega) (fun w φ2 q => ?_)
  obtain ⟨rfl, e2⟩ := q
  rw [e2]
  show zLW p l e R s m args below meth c Q D en ao au (CB + 0 + 0) (SB + 0 + 0) 232 [.int (Int32.ofNat (c2 kk)), .int (Int32.ofNat (c1 kk))] [(7, .int (Int32.ofNat kk)), (6, .int (Int32.ofNat made)), (2, .ref au), (1, .ref ao)] φ ψ
  refine zl_icmp_ne (off := (20)) (t := 242) hA ⟨by decide +kernel, rfl⟩ (by decide +kernel) (fun g => absurd (by rw [hck]) g) (fun _ => ?_)
  refine zl_aload (j := 1) (q := 3) hA ⟨by decide +kernel, rfl⟩ rfl ?_
  refine zl_iload (i := 7) (q := 0) hA ⟨by decide +kernel, rfl⟩ rfl ?_
  refine zl_iconst (z := 2) (v := Int32.ofNat 2) hA ⟨by decide +kernel, rfl⟩ (by decide +kernel) ?_
  refine zl_callO (i := (11, 26, 3, [(3, 1)])) (M := 26) (d := 8) (CN := 3) (CS := 21) (st := []) [kk, 2] hA (zs_236 hA.2.2.1) (fun n sl hn => (zx_of (fun _ _ _ _ _ _ _ _ _ _ _ _ hG => zc_get2_1 (d := 0) hG hn hI.2.1 (by omega) (by omega) hA1 hq hkv) hG)) (fun w φ2 q => by rw [q.1]; exact Or.inl rfl) (Nat.le_of_ble_eq_true rfl) rfl (Or.inr ⟨rfl, zGx_0 hG⟩) (Nat.le_of_ble_eq_true rfl) (Nat.le_of_ble_eq_true rfl) (Nat.le_of_ble_eq_true rfl) (by omega) (by omega) (fun w φ3 q => ?_)
  obtain ⟨rfl, hg3⟩ := q
  show zLW p l e R s m args below meth c Q D en ao au (CB + 0 + 0 + 3) (SB + 0 + 0 + 21) 237 [.int (Int32.ofNat 1)] [(7, .int (Int32.ofNat kk)), (6, .int (Int32.ofNat made)), (2, .ref au), (1, .ref ao)] φ3 ψ
  refine zl_aload (j := 2) (q := 2) hA ⟨by decide +kernel, rfl⟩ rfl ?_
  refine zl_iload (i := 7) (q := 0) hA ⟨by decide +kernel, rfl⟩ rfl ?_
  refine zl_iconst (z := 2) (v := Int32.ofNat 2) hA ⟨by decide +kernel, rfl⟩ (by decide +kernel) ?_
  refine zl_callU (i := (11, 26, 3, [(3, 1)])) (M := 26) (d := 8) (CN := 3) (CS := 21) (st := [.int (Int32.ofNat 1)]) [kk, 2] hA (zs_240 hA.2.2.1) (fun n sl hn => (zx_of (fun _ _ _ _ _ _ _ _ _ _ _ _ hG => zc_get2_1 (d := 0) hG hn hI'.2.1 (by omega) (by omega) hA2 hq' hkv) hG')) (fun w φ2 q => by rw [q.1]; exact Or.inl rfl) (Nat.le_of_ble_eq_true rfl) rfl (Or.inr ⟨rfl, zGx_0 hG'⟩) (Nat.le_of_ble_eq_true rfl) (Nat.le_of_ble_eq_true rfl) (Nat.le_of_ble_eq_true rfl) (by omega) (by omega) (fun w φ4 q => ?_)
  obtain ⟨rfl, hg4⟩ := q
  show zLW p l e R s m args below meth c Q D en ao au (CB + 0 + 0 + 3 + 3) (SB + 0 + 0 + 21 + 21) 241 [.int (Int32.ofNat 1), .int (Int32.ofNat 1)] [(7, .int (Int32.ofNat kk)), (6, .int (Int32.ofNat made)), (2, .ref au), (1, .ref ao)] φ3 φ4
  refine zl_icmp_eq (off := (5)) (t := 244) hA ⟨by decide +kernel, rfl⟩ (by decide +kernel) (fun _ => ?_) (fun g => absurd rfl g)
  refine zl_aload (j := 1) (q := 3) hA ⟨by decide +kernel, rfl⟩ rfl ?_
  refine zl_iload (i := 7) (q := 0) hA ⟨by decide +kernel, rfl⟩ rfl ?_
  refine zl_callO (i := (11, 31, 2, [(2, 1)])) (M := 31) (d := 2) (CN := 0) (CS := 0) (st := []) [kk] hA (zs_246 hA.2.2.1) (fun n sl hn => (zx_r (fun _ _ _ _ _ _ _ _ _ _ _ _ hG => zc_row (d := 0) hG hn hk) hg3)) (fun w φ2 q => by rw [q.1]; exact Or.inl rfl) (Nat.le_of_ble_eq_true rfl) rfl (Or.inr ⟨rfl, zGx_0 hg3⟩) (Nat.le_of_ble_eq_true rfl) (Nat.le_of_ble_eq_true rfl) (Nat.le_of_ble_eq_true rfl) (by omega) (by omega) (fun w φ5 q => ?_)
  obtain ⟨rfl, e5⟩ := q
  rw [e5]
  show zLW p l e R s m args below meth c Q D en ao au (CB + 0 + 0 + 3 + 3 + 0) (SB + 0 + 0 + 21 + 21 + 0) 247 [.int (Int32.ofNat (c1 kk))] [(7, .int (Int32.ofNat kk)), (6, .int (Int32.ofNat made)), (2, .ref au), (1, .ref ao)] φ3 φ4
  refine zl_if_ne (off := (6)) (t := 249) hA ⟨by decide +kernel, rfl⟩ (by decide +kernel) (fun _ => ?_) (fun g => absurd g hne)
  refine zl_aload (j := 1) (q := 3) hA ⟨by decide +kernel, rfl⟩ rfl ?_
  refine zl_bipush (z := (-3)) (v := Int32.ofNat 4294967293) hA ⟨by decide +kernel, rfl⟩ (by decide +kernel) ?_
  refine zl_callO (i := (11, 335, 2, [(2, 1)])) (M := 335) (d := 1) (CN := 0) (CS := 0) (st := []) [4294967293] hA (zs_251 hA.2.2.1) (fun n sl hn => (zx_r (fun _ _ _ _ _ _ _ _ _ _ _ _ hG => zc_bits (d := 0) hG hn) hg3)) (fun w φ2 q => by rw [q.1]; exact Or.inr rfl) (Nat.le_of_ble_eq_true rfl) rfl (Or.inr ⟨rfl, zGx_0 hg3⟩) (Nat.le_of_ble_eq_true rfl) (Nat.le_of_ble_eq_true rfl) (Nat.le_of_ble_eq_true rfl) (by omega) (by omega) (fun w φ6 q => ?_)
  obtain ⟨rfl, e6⟩ := q
  rw [e6]
  show zLW p l e R s m args below meth c Q D en ao au (CB + 0 + 0 + 3 + 3 + 0 + 0) (SB + 0 + 0 + 21 + 21 + 0 + 0) 252 [.long (Int64.ofNat (kv * 2))] [(7, .int (Int32.ofNat kk)), (6, .int (Int32.ofNat made)), (2, .ref au), (1, .ref ao)] φ3 φ4
  refine zl_aload (j := 2) (q := 2) hA ⟨by decide +kernel, rfl⟩ rfl ?_
  refine zl_bipush (z := (-3)) (v := Int32.ofNat 4294967293) hA ⟨by decide +kernel, rfl⟩ (by decide +kernel) ?_
  refine zl_callU (i := (11, 335, 2, [(2, 1)])) (M := 335) (d := 1) (CN := 0) (CS := 0) (st := [.long (Int64.ofNat (kv * 2))]) [4294967293] hA (zs_254 hA.2.2.1) (fun n sl hn => (zx_r (fun _ _ _ _ _ _ _ _ _ _ _ _ hG => zc_bits (d := 0) hG hn) hg4)) (fun w φ2 q => by rw [q.1]; exact Or.inr rfl) (Nat.le_of_ble_eq_true rfl) rfl (Or.inr ⟨rfl, zGx_0 hg4⟩) (Nat.le_of_ble_eq_true rfl) (Nat.le_of_ble_eq_true rfl) (Nat.le_of_ble_eq_true rfl) (by omega) (by omega) (fun w φ7 q => ?_)
  obtain ⟨rfl, e7⟩ := q
  rw [e7]
  show zLW p l e R s m args below meth c Q D en ao au (CB + 0 + 0 + 3 + 3 + 0 + 0 + 0) (SB + 0 + 0 + 21 + 21 + 0 + 0 + 0) 255 [.long (Int64.ofNat (kv * 2)), .long (Int64.ofNat (kv * 2))] [(7, .int (Int32.ofNat kk)), (6, .int (Int32.ofNat made)), (2, .ref au), (1, .ref ao)] φ3 φ4
  refine zl_lcmp hA ⟨by decide +kernel, rfl⟩ ?_
  refine zl_if_ne (off := (16)) (t := 264) hA ⟨by decide +kernel, rfl⟩ (by decide +kernel) (fun g => absurd (by decide) g) (fun _ => ?_)
  refine zl_aload (j := 1) (q := 3) hA ⟨by decide +kernel, rfl⟩ rfl ?_
  refine zl_iconst (z := 0) (v := Int32.ofNat 0) hA ⟨by decide +kernel, rfl⟩ (by decide +kernel) ?_
  refine zl_callO (i := (11, 334, 2, [(2, 1)])) (M := 334) (d := 1) (CN := 0) (CS := 0) (st := []) [0] hA (zs_259 hA.2.2.1) (fun n sl hn => (zx_r (fun _ _ _ _ _ _ _ _ _ _ _ _ hG => zc_hand0 (d := 0) hG hn) hg3)) (fun w φ2 q => by rw [q.1]; exact Or.inl rfl) (Nat.le_of_ble_eq_true rfl) rfl (Or.inr ⟨rfl, zGx_0 hg3⟩) (Nat.le_of_ble_eq_true rfl) (Nat.le_of_ble_eq_true rfl) (Nat.le_of_ble_eq_true rfl) (by omega) (by omega) (fun w φ8 q => ?_)
  obtain ⟨rfl, e8⟩ := q
  rw [e8]
  show zLW p l e R s m args below meth c Q D en ao au (CB + 0 + 0 + 3 + 3 + 0 + 0 + 0 + 0) (SB + 0 + 0 + 21 + 21 + 0 + 0 + 0 + 0) 260 [.int (Int32.ofNat 1)] [(7, .int (Int32.ofNat kk)), (6, .int (Int32.ofNat made)), (2, .ref au), (1, .ref ao)] φ3 φ4
  refine zl_aload (j := 2) (q := 2) hA ⟨by decide +kernel, rfl⟩ rfl ?_
  refine zl_iconst (z := 0) (v := Int32.ofNat 0) hA ⟨by decide +kernel, rfl⟩ (by decide +kernel) ?_
  refine zl_callU (i := (11, 334, 2, [(2, 1)])) (M := 334) (d := 1) (CN := 0) (CS := 0) (st := [.int (Int32.ofNat 1)]) [0] hA (zs_262 hA.2.2.1) (fun n sl hn => (zx_r (fun _ _ _ _ _ _ _ _ _ _ _ _ hG => zc_hand0 (d := 0) hG hn) hg4)) (fun w φ2 q => by rw [q.1]; exact Or.inl rfl) (Nat.le_of_ble_eq_true rfl) rfl (Or.inr ⟨rfl, zGx_0 hg4⟩) (Nat.le_of_ble_eq_true rfl) (Nat.le_of_ble_eq_true rfl) (Nat.le_of_ble_eq_true rfl) (by omega) (by omega) (fun w φ9 q => ?_)
  obtain ⟨rfl, e9⟩ := q
  rw [e9]
  show zLW p l e R s m args below meth c Q D en ao au (CB + 0 + 0 + 3 + 3 + 0 + 0 + 0 + 0 + 0) (SB + 0 + 0 + 21 + 21 + 0 + 0 + 0 + 0 + 0) 263 [.int (Int32.ofNat 1), .int (Int32.ofNat 1)] [(7, .int (Int32.ofNat kk)), (6, .int (Int32.ofNat made)), (2, .ref au), (1, .ref ao)] φ3 φ4
  refine zl_icmp_eq (off := (5)) (t := 266) hA ⟨by decide +kernel, rfl⟩ (by decide +kernel) (fun _ => ?_) (fun g => absurd rfl g)
  refine zl_aload (j := 1) (q := 3) hA ⟨by decide +kernel, rfl⟩ rfl ?_
  refine zl_iconst (z := 0) (v := Int32.ofNat 0) hA ⟨by decide +kernel, rfl⟩ (by decide +kernel) ?_
  refine zl_callO (i := (11, 334, 2, [(2, 1)])) (M := 334) (d := 1) (CN := 0) (CS := 0) (st := []) [0] hA (zs_268 hA.2.2.1) (fun n sl hn => (zx_r (fun _ _ _ _ _ _ _ _ _ _ _ _ hG => zc_hand0 (d := 0) hG hn) hg3)) (fun w φ2 q => by rw [q.1]; exact Or.inl rfl) (Nat.le_of_ble_eq_true rfl) rfl (Or.inr ⟨rfl, zGx_0 hg3⟩) (Nat.le_of_ble_eq_true rfl) (Nat.le_of_ble_eq_true rfl) (Nat.le_of_ble_eq_true rfl) (by omega) (by omega) (fun w φ10 q => ?_)
  obtain ⟨rfl, e10⟩ := q
  rw [e10]
  show zLW p l e R s m args below meth c Q D en ao au (CB + 0 + 0 + 3 + 3 + 0 + 0 + 0 + 0 + 0 + 0) (SB + 0 + 0 + 21 + 21 + 0 + 0 + 0 + 0 + 0 + 0) 269 [.int (Int32.ofNat 1)] [(7, .int (Int32.ofNat kk)), (6, .int (Int32.ofNat made)), (2, .ref au), (1, .ref ao)] φ3 φ4
  refine zl_iconst (z := 1) (v := Int32.ofNat 1) hA ⟨by decide +kernel, rfl⟩ (by decide +kernel) ?_
  refine zl_icmp_ne (off := (40)) (t := 291) hA ⟨by decide +kernel, rfl⟩ (by decide +kernel) (fun g => absurd rfl g) (fun _ => ?_)
  refine zl_aload (j := 1) (q := 3) hA ⟨by decide +kernel, rfl⟩ rfl ?_
  refine zl_bipush (z := (-3)) (v := Int32.ofNat 4294967293) hA ⟨by decide +kernel, rfl⟩ (by decide +kernel) ?_
  refine zl_callO (i := (11, 335, 2, [(2, 1)])) (M := 335) (d := 1) (CN := 0) (CS := 0) (st := []) [4294967293] hA (zs_273 hA.2.2.1) (fun n sl hn => (zx_r (fun _ _ _ _ _ _ _ _ _ _ _ _ hG => zc_bits (d := 0) hG hn) hg3)) (fun w φ2 q => by rw [q.1]; exact Or.inr rfl) (Nat.le_of_ble_eq_true rfl) rfl (Or.inr ⟨rfl, zGx_0 hg3⟩) (Nat.le_of_ble_eq_true rfl) (Nat.le_of_ble_eq_true rfl) (Nat.le_of_ble_eq_true rfl) (by omega) (by omega) (fun w φ11 q => ?_)
  obtain ⟨rfl, e11⟩ := q
  rw [e11]
  show zLW p l e R s m args below meth c Q D en ao au (CB + 0 + 0 + 3 + 3 + 0 + 0 + 0 + 0 + 0 + 0 + 0) (SB + 0 + 0 + 21 + 21 + 0 + 0 + 0 + 0 + 0 + 0 + 0) 274 [.long (Int64.ofNat (kv * 2))] [(7, .int (Int32.ofNat kk)), (6, .int (Int32.ofNat made)), (2, .ref au), (1, .ref ao)] φ3 φ4
  refine zl_lstore (i := 8) (lv2 := [(8, .long (Int64.ofNat (kv * 2))), (7, .int (Int32.ofNat kk)), (6, .int (Int32.ofNat made)), (2, .ref au), (1, .ref ao)]) hA ⟨by decide +kernel, rfl⟩ (by decide) rfl ?_
  refine zl_aload (j := 1) (q := 4) hA ⟨by decide +kernel, rfl⟩ rfl ?_
  refine zl_iload (i := 7) (q := 1) hA ⟨by decide +kernel, rfl⟩ rfl ?_
  refine zl_iconst (z := 0) (v := Int32.ofNat 0) hA ⟨by decide +kernel, rfl⟩ (by decide +kernel) ?_
  refine zl_callO (i := (11, 26, 3, [(3, 1)])) (M := 26) (d := 8) (CN := 1) (CS := 7) (st := []) [kk, 0] hA (zs_278 hA.2.2.1) (fun n sl hn => (zx_of (fun _ _ _ _ _ _ _ _ _ _ _ _ hG => zc_get0 (d := 0) hG hn hI.2.1 (by omega) (by omega) hA1) hg3)) (fun w φ2 q => by rw [q.1]; exact Or.inl rfl) (Nat.le_of_ble_eq_true rfl) rfl (Or.inr ⟨rfl, zGx_0 hg3⟩) (Nat.le_of_ble_eq_true rfl) (Nat.le_of_ble_eq_true rfl) (Nat.le_of_ble_eq_true rfl) (by omega) (by omega) (fun w φ12 q => ?_)
  obtain ⟨rfl, hg12⟩ := q
  show zLW p l e R s m args below meth c Q D en ao au (CB + 0 + 0 + 3 + 3 + 0 + 0 + 0 + 0 + 0 + 0 + 0 + 1) (SB + 0 + 0 + 21 + 21 + 0 + 0 + 0 + 0 + 0 + 0 + 0 + 7) 279 [.int (Int32.ofNat ((h1 (kk * 40)).1))] [(8, .long (Int64.ofNat (kv * 2))), (7, .int (Int32.ofNat kk)), (6, .int (Int32.ofNat made)), (2, .ref au), (1, .ref ao)] φ12 φ4
  refine zl_iconst (z := 1) (v := Int32.ofNat 1) hA ⟨by decide +kernel, rfl⟩ (by decide +kernel) ?_
  refine zl_icmp_ne (off := (19)) (t := 289) hA ⟨by decide +kernel, rfl⟩ (by decide +kernel) (fun g => absurd (show Int32.ofNat (h1 (kk * 40)).1 = Int32.ofNat 1 by rw [show h1 (kk * 40) = (1, kv, 0, 0, []) from hq]) g) (fun _ => ?_)
  refine zl_ldc2 hA ⟨by decide +kernel, rfl⟩ ?_
  refine zl_aload (j := 1) (q := 4) hA ⟨by decide +kernel, rfl⟩ rfl ?_
  refine zl_bipush (z := (-3)) (v := Int32.ofNat 4294967293) hA ⟨by decide +kernel, rfl⟩ (by decide +kernel) ?_
  refine zl_callO (i := (11, 335, 2, [(2, 1)])) (M := 335) (d := 1) (CN := 0) (CS := 0) (st := [.long (Int64.ofNat 2)]) [4294967293] hA (zs_284 hA.2.2.1) (fun n sl hn => (zx_r (fun _ _ _ _ _ _ _ _ _ _ _ _ hG => zc_bits (d := 0) hG hn) hg12)) (fun w φ2 q => by rw [q.1]; exact Or.inr rfl) (Nat.le_of_ble_eq_true rfl) rfl (Or.inr ⟨rfl, zGx_0 hg12⟩) (Nat.le_of_ble_eq_true rfl) (Nat.le_of_ble_eq_true rfl) (Nat.le_of_ble_eq_true rfl) (by omega) (by omega) (fun w φ13 q => ?_)
  obtain ⟨rfl, e13⟩ := q
  rw [e13]
  show zLW p l e R s m args below meth c Q D en ao au (CB + 0 + 0 + 3 + 3 + 0 + 0 + 0 + 0 + 0 + 0 + 0 + 1 + 0) (SB + 0 + 0 + 21 + 21 + 0 + 0 + 0 + 0 + 0 + 0 + 0 + 7 + 0) 285 [.long (Int64.ofNat ((h1 (kk * 40)).2.1)), .long (Int64.ofNat 2)] [(8, .long (Int64.ofNat (kv * 2))), (7, .int (Int32.ofNat kk)), (6, .int (Int32.ofNat made)), (2, .ref au), (1, .ref ao)] φ12 φ4
  refine zl_lmul hA ⟨by decide +kernel, rfl⟩ ?_
  rw [show Int64.ofNat 2 * Int64.ofNat (h1 (kk * 40)).2.1 = Int64.ofNat (kv * 2) by rw [show h1 (kk * 40) = (1, kv, 0, 0, []) from hq, ← Int64.ofNat_mul, Nat.mul_comm]]
  refine zl_lload (i := 8) (q := 0) hA ⟨by decide +kernel, rfl⟩ rfl ?_
  refine zl_lcmp hA ⟨by decide +kernel, rfl⟩ ?_
  refine zl_if_eq (off := (5)) (t := 291) hA ⟨by decide +kernel, rfl⟩ (by decide +kernel) (fun _ => ?_) (fun g => absurd (by decide) g)
  refine zl_sub (lv2 := [(7, .int (Int32.ofNat kk)), (6, .int (Int32.ofNat made)), (2, .ref au), (1, .ref ao)]) [1, 2, 3, 4] rfl ?_
  exact zi_tail hA hg12 hg4 hE hI hI' hk (by omega) (by omega) (by omega) (by omega) hc (fun φ2 ψ2 mh2 mh2' g1 g2 => zLW_mono (kt φ2 ψ2 mh2 mh2' g1 g2) (by omega) (by omega))
set_option maxHeartbeats 4000000 in
/-- the instances, one after another -/
theorem zi_all {made : Nat} {c1 c2 : Nat → Nat} {h1 h2 : Nat → MV} (hA : zAm p l R s m args meth c D en) (hE : PE made c1 h1 c2 h2) (hI : MInv made c1 h1) (hI' : MInv made c2 h2)
    (hend : ∀ (CB SB : Nat) (lv : List (Nat × Value)) (φ ψ : FH), CB ≤ 600000 → SB ≤ 7302249 → zLW p l e R s m args below meth c Q D en ao au CB SB 323 [] lv φ ψ) :
    ∀ (j kk CB SB mi mi' : Nat) (φ ψ : FH) (mh mh' : MV), kk + j = made → zGx φ mi made c1 h1 mh → zGx ψ mi' made c2 h2 mh' → mi + 3 * j + 400 ≤ 20000 → mi' + 3 * j + 400 ≤ 20000 → CB + 20 * j + 20 ≤ 600000 → SB + 140 * j + 140 ≤ 7302249 →
      zLW p l e R s m args below meth c Q D en ao au CB SB 223 [] [(7, .int (Int32.ofNat kk)), (6, .int (Int32.ofNat made)), (2, .ref au), (1, .ref ao)] φ ψ := by
  intro j
  induction j with
  | zero =>
    intro kk CB SB mi mi' φ ψ mh mh' hj hG hG' hmi hmi' hCB hSB
    have hm40 := hI.1
    refine zl_iload (i := 7) (q := 0) hA ⟨by decide +kernel, rfl⟩ rfl ?_
    refine zl_iload (i := 6) (q := 1) hA ⟨by decide +kernel, rfl⟩ rfl ?_
    exact zl_icmp_ge (off := 186) (t := 323) hA ⟨by decide +kernel, rfl⟩ (by decide +kernel) (fun _ => hend _ _ _ _ _ (by omega) (by omega)) (fun g => absurd (nI_le (show made ≤ kk by omega) (by omega)) g)
  | succ j ih =>
    intro kk CB SB mi mi' φ ψ mh mh' hj hG hG' hmi hmi' hCB hSB
    have hm40 := hI.1
    refine zl_iload (i := 7) (q := 0) hA ⟨by decide +kernel, rfl⟩ rfl ?_
    refine zl_iload (i := 6) (q := 1) hA ⟨by decide +kernel, rfl⟩ rfl ?_
    refine zl_icmp_ge (off := 186) (t := 323) hA ⟨by decide +kernel, rfl⟩ (by decide +kernel) (fun _ => hend _ _ _ _ _ (by omega) (by omega)) (fun _ => ?_)
    have hk : kk < made := by omega
    by_cases hc : c1 kk = 0
    · exact zi_A hA hG hG' hE hI hI' hk (by omega) (by omega) (by omega) (by omega) hc (fun φ2 ψ2 mh2 mh2' g1 g2 => ih (kk + 1) _ _ mi mi' φ2 ψ2 mh2 mh2' (by omega) g1 g2 (by omega) (by omega) (by omega) (by omega))
    · rcases hI.2.2.1 kk (by omega) with hq | ⟨kv, hkv, hq⟩
      · exact zi_B hA hG hG' hE hI hI' hk (by omega) (by omega) (by omega) (by omega) hc hq (fun φ2 ψ2 mh2 mh2' g1 g2 => ih (kk + 1) _ _ (mi + 3) (mi' + 3) φ2 ψ2 mh2 mh2' (by omega) g1 g2 (by omega) (by omega) (by omega) (by omega))
      · exact zi_C hA hG hG' hE hI hI' hk (by omega) (by omega) (by omega) (by omega) hc hq hkv (fun φ2 ψ2 mh2 mh2' g1 g2 => ih (kk + 1) _ _ (mi + 3) (mi' + 3) φ2 ψ2 mh2 mh2' (by omega) g1 g2 (by omega) (by omega) (by omega) (by omega))
end LAW6
