section LAW8
set_option maxRecDepth 100000
variable {p : Program} {l : Launch} {e : Env} {R : Room} {s : State} {m : MethodId} {args : Array Value} {below : List Frame} {meth : Method} {c : Code} {Q : State → Prop} {D : va_G} {en : XE} {ao au : Nat}
/-- a house that has written L -/
def zGw (φ : FH) (mi made : Nat) (comb : Nat → Nat) (hm : Nat → MV) (mh : MV) (L : List Nat) : Prop := L.length ≤ 6000 ∧ ∃ (tp : Nat → Nat) (lf sv svm : Nat) (sc : Nat → Nat) (sm : Nat → MV) (noted verd : Nat) (ins ver : Nat → Nat) (bw : Nat → Nat), (∀ i, i < L.length → bw i = L.getD i 0) ∧ zG φ 0 tp lf mi made sv svm comb hm sc sm mh noted verd ins ver L.length bw
theorem zGw_x {φ : FH} {mi made : Nat} {comb : Nat → Nat} {hm : Nat → MV} {mh : MV} {L : List Nat} (h : zGw φ mi made comb hm mh L) : zGx φ mi made comb hm mh := by
  obtain ⟨-, tp, lf, sv, svm, sc, sm, noted, verd, ins, ver, bw, -, h⟩ := h
  exact ⟨_, _, _, _, _, _, _, _, _, _, _, _, h⟩
theorem zx_write {d n sl mi made : Nat} {φ : FH} {comb : Nat → Nat} {hm : Nat → MV} {mh : MV} (hG : zGx φ mi made comb hm mh) (hn : 486 ≤ n) (hI : MInv made comb hm) : x_f x_P (d + 10) 29 [(6, 0, 0), (11, 0, 0)] φ n sl (x_bR n sl 0 0 (fun w φ2 => w = (0, (wl comb hm made).length, 0) ∧ zGw φ2 mi made comb hm mh (wl comb hm made))) := by
  obtain ⟨tp, lf, sv, svm, sc, sm, noted, verd, ins, ver, sz, bw, hG⟩ := hG
  refine x_f_mono (bR_of_rR (zc_write hG hn (zHM_of hI) hI.2.2.2.2.2.1)) (fun u w φ2 n2 sl2 q => ?_)
  obtain ⟨q1, q2, q3, q4, bwZ, q5, q6⟩ := q
  refine ⟨q1, q2, q3, q4, ?_, _, _, _, _, _, _, _, _, _, _, _, q5, q6⟩
  obtain ⟨-, -, -, -, -, -, -, -, -, -, -, -, -, ⟨wb, wd, dr, b1w, b2w, -, -, -, hsz⟩, -⟩ := q6
  exact hsz
theorem zw_out {d n sl mi made i : Nat} {φ : FH} {comb : Nat → Nat} {hm : Nat → MV} {mh : MV} {L : List Nat} (hG : zGw φ mi made comb hm mh L) (hi : i < L.length) : x_f x_P (d + 1) 338 [(6, 0, 0), (0, i, 0)] φ n sl (x_bR n sl 0 0 (fun w φ2 => w = (0, L.getD i 0 &&& 255, 0) ∧ φ2 = φ)) := by
  obtain ⟨-, tp, lf, sv, svm, sc, sm, noted, verd, ins, ver, bw, hb, h⟩ := hG
  rw [← hb i hi]
  exact bR_of_r (zc_out h hi)
set_option maxHeartbeats 4000000 in
theorem zo_loop {made mi mi' : Nat} {c1 c2 : Nat → Nat} {h1 h2 : Nat → MV} {mh mh' : MV} {φ ψ : FH} {L : List Nat} {CB SB : Nat} (hA : zAm p l R s m args meth c D en) (hG : zGw φ mi made c1 h1 mh L) (hG' : zGw ψ mi' made c2 h2 mh' L) (hCB : CB + 10 ≤ 600000) (hSB : SB + 10 ≤ 7302249)
    (hn : zLW p l e R s m args below meth c Q D en ao au CB SB 169 [] [(2, .ref au), (1, .ref ao)] φ ψ) : ∀ (j i : Nat), i + j = L.length → zLW p l e R s m args below meth c Q D en ao au CB SB 155 [] [(6, .int (Int32.ofNat i)), (5, .int (Int32.ofNat L.length)), (2, .ref au), (1, .ref ao)] φ ψ := by
  intro j
  have hL6 := hG.1
  induction j with
  | zero =>
    intro i hi
    refine zl_iload (i := 6) (q := 0) hA ⟨by decide +kernel, rfl⟩ rfl ?_
    refine zl_iload (i := 5) (q := 1) hA ⟨by decide +kernel, rfl⟩ rfl ?_
    refine zl_icmp_ge (off := 26) (t := 169) hA ⟨by decide +kernel, rfl⟩ (by decide +kernel) (fun _ => ?_) (fun g => absurd (nI_le (show L.length ≤ i by omega) (by omega)) g)
    exact zl_sub [2, 3] rfl hn
  | succ j ih =>
    intro i hij
    have hi : i < L.length := by omega
    refine zl_iload (i := 6) (q := 0) hA ⟨by decide +kernel, rfl⟩ rfl ?_
    refine zl_iload (i := 5) (q := 1) hA ⟨by decide +kernel, rfl⟩ rfl ?_
    refine zl_icmp_ge (off := (26)) (t := 169) hA ⟨by decide +kernel, rfl⟩ (by decide +kernel) (fun g => absurd g (nI_ge hi (by omega))) (fun _ => ?_)
    refine zl_aload (j := 1) (q := 3) hA ⟨by decide +kernel, rfl⟩ rfl ?_
    refine zl_iload (i := 6) (q := 0) hA ⟨by decide +kernel, rfl⟩ rfl ?_
    refine zl_callO (i := (11, 338, 2, [(2, 1)])) (M := 338) (d := 1) (CN := 0) (CS := 0) (st := []) [i] hA (zs_160 hA.2.2.1) (fun n sl hn => (zw_out (d := 0) hG hi)) (fun w φ2 q => by rw [q.1]; exact Or.inl rfl) (Nat.le_of_ble_eq_true rfl) rfl (Or.inr ⟨rfl, zGx_0 (zGw_x hG)⟩) (Nat.le_of_ble_eq_true rfl) (Nat.le_of_ble_eq_true rfl) (Nat.le_of_ble_eq_true rfl) (by omega) (by omega) (fun w φ1 q => ?_)
    obtain ⟨rfl, e1⟩ := q
    rw [e1]
    show zLW p l e R s m args below meth c Q D en ao au (CB + 0) (SB + 0) 161 [.int (Int32.ofNat (L.getD i 0 &&& 255))] [(6, .int (Int32.ofNat i)), (5, .int (Int32.ofNat L.length)), (2, .ref au), (1, .ref ao)] φ ψ
    refine zl_aload (j := 2) (q := 2) hA ⟨by decide +kernel, rfl⟩ rfl ?_
    refine zl_iload (i := 6) (q := 0) hA ⟨by decide +kernel, rfl⟩ rfl ?_
    refine zl_callU (i := (11, 338, 2, [(2, 1)])) (M := 338) (d := 1) (CN := 0) (CS := 0) (st := [.int (Int32.ofNat (L.getD i 0 &&& 255))]) [i] hA (zs_163 hA.2.2.1) (fun n sl hn => (zw_out (d := 0) hG' hi)) (fun w φ2 q => by rw [q.1]; exact Or.inl rfl) (Nat.le_of_ble_eq_true rfl) rfl (Or.inr ⟨rfl, zGx_0 (zGw_x hG')⟩) (Nat.le_of_ble_eq_true rfl) (Nat.le_of_ble_eq_true rfl) (Nat.le_of_ble_eq_true rfl) (by omega) (by omega) (fun w φ2 q => ?_)
    obtain ⟨rfl, e2⟩ := q
    rw [e2]
    show zLW p l e R s m args below meth c Q D en ao au (CB + 0 + 0) (SB + 0 + 0) 164 [.int (Int32.ofNat (L.getD i 0 &&& 255)), .int (Int32.ofNat (L.getD i 0 &&& 255))] [(6, .int (Int32.ofNat i)), (5, .int (Int32.ofNat L.length)), (2, .ref au), (1, .ref ao)] φ ψ
    refine zl_icmp_eq (off := (5)) (t := 167) hA ⟨by decide +kernel, rfl⟩ (by decide +kernel) (fun _ => ?_) (fun g => absurd rfl g)
    refine zl_iinc (i := 6) (z := 1) (q := 0) (v := (Int32.ofNat (i + 1))) (lv2 := [(6, .int (Int32.ofNat (i + 1))), (5, .int (Int32.ofNat L.length)), (2, .ref au), (1, .ref ao)]) hA ⟨by decide +kernel, rfl⟩ rfl (xi_add i 1) (by decide) rfl ?_
    refine zl_goto (off := (-27)) (t := 155) hA (by decide +kernel) (by decide +kernel) ?_
    exact zLW_mono (ih (i + 1) (by omega)) (by omega) (by omega)
set_option maxHeartbeats 4000000 in
/-- behind the calls -/
theorem zo_all {made mi mi' CB SB : Nat} {φ ψ : FH} {c1 c2 : Nat → Nat} {h1 h2 : Nat → MV} {mh mh' : MV} (hA : zAm p l R s m args meth c D en) (hG : zGx φ mi made c1 h1 mh) (hG' : zGx ψ mi' made c2 h2 mh') (hE : PE made c1 h1 c2 h2) (hI : MInv made c1 h1) (hI' : MInv made c2 h2) (hmi : mi + 1600 ≤ 20000) (hmi' : mi' + 1600 ≤ 20000) (hCB : CB + 5000 ≤ 600000) (hSB : SB + 30000 ≤ 7302249)
    (hend : ∀ (CB SB : Nat) (lv : List (Nat × Value)) (φ ψ : FH), CB ≤ 600000 → SB ≤ 7302249 → zLW p l e R s m args below meth c Q D en ao au CB SB 323 [] lv φ ψ) : zLW p l e R s m args below meth c Q D en ao au CB SB 130 [] [(2, .ref au), (1, .ref ao)] φ ψ := by
  have hwl : wl c1 h1 made = wl c2 h2 made := PE_wl hE made (Nat.le_refl _)
  have h8 : x_fl (fun y => c1 y ≠ 0) made = x_fl (fun y => c2 y ≠ 0) made := x_fl_congr (fun y hy => by rw [hE.1 y hy])
  refine zl_aload (j := 1) (q := 1) hA ⟨by decide +kernel, rfl⟩ rfl ?_
  refine zl_callO (i := (11, 29, 1, [(2, 1)])) (M := 29) (d := 10) (CN := 0) (CS := 0) (st := []) [] hA (zs_131 hA.2.2.1) (fun n sl hn => (zx_write (d := 0) hG hn hI)) (fun w φ2 q => by rw [q.1]; exact Or.inl rfl) (Nat.le_of_ble_eq_true rfl) rfl (Or.inr ⟨rfl, zGx_0 hG⟩) (Nat.le_of_ble_eq_true rfl) (Nat.le_of_ble_eq_true rfl) (Nat.le_of_ble_eq_true rfl) (by omega) (by omega) (fun w φ1 q => ?_)
  obtain ⟨rfl, hw⟩ := q
  show zLW p l e R s m args below meth c Q D en ao au (CB + 0) (SB + 0) 132 [.int (Int32.ofNat ((wl c1 h1 made).length))] [(2, .ref au), (1, .ref ao)] φ1 ψ
  refine zl_istore (i := 5) (lv2 := [(5, .int (Int32.ofNat ((wl c1 h1 made).length))), (2, .ref au), (1, .ref ao)]) hA ⟨by decide +kernel, rfl⟩ (by decide) rfl ?_
  refine zl_aload (j := 2) (q := 1) hA ⟨by decide +kernel, rfl⟩ rfl ?_
  refine zl_callU (i := (11, 29, 1, [(2, 1)])) (M := 29) (d := 10) (CN := 0) (CS := 0) (st := []) [] hA (zs_134 hA.2.2.1) (fun n sl hn => (zx_write (d := 0) hG' hn hI')) (fun w φ2 q => by rw [q.1]; exact Or.inl rfl) (Nat.le_of_ble_eq_true rfl) rfl (Or.inr ⟨rfl, zGx_0 hG'⟩) (Nat.le_of_ble_eq_true rfl) (Nat.le_of_ble_eq_true rfl) (Nat.le_of_ble_eq_true rfl) (by omega) (by omega) (fun w φ2 q => ?_)
  obtain ⟨rfl, hw2⟩ := q
  show zLW p l e R s m args below meth c Q D en ao au (CB + 0 + 0) (SB + 0 + 0) 135 [.int (Int32.ofNat ((wl c2 h2 made).length))] [(5, .int (Int32.ofNat ((wl c1 h1 made).length))), (2, .ref au), (1, .ref ao)] φ1 φ2
  refine zl_iload (i := 5) (q := 0) hA ⟨by decide +kernel, rfl⟩ rfl ?_
  refine zl_icmp_ne (off := (33)) (t := 151) hA ⟨by decide +kernel, rfl⟩ (by decide +kernel) (fun g => absurd (by rw [hwl]) g) (fun _ => ?_)
  refine zl_aload (j := 1) (q := 2) hA ⟨by decide +kernel, rfl⟩ rfl ?_
  refine zl_bipush (z := 7) (v := Int32.ofNat 7) hA ⟨by decide +kernel, rfl⟩ (by decide +kernel) ?_
  refine zl_callO (i := (11, 30, 2, [(3, 1)])) (M := 30) (d := 1) (CN := 0) (CS := 0) (st := []) [7] hA (zs_139 hA.2.2.1) (fun n sl hn => (zx_r (fun _ _ _ _ _ _ _ _ _ _ _ _ hG => zc_count7 (d := 0) hG hn) (zGw_x hw))) (fun w φ2 q => by rw [q.1]; exact Or.inl rfl) (Nat.le_of_ble_eq_true rfl) rfl (Or.inr ⟨rfl, zGx_0 (zGw_x hw)⟩) (Nat.le_of_ble_eq_true rfl) (Nat.le_of_ble_eq_true rfl) (Nat.le_of_ble_eq_true rfl) (by omega) (by omega) (fun w φ3 q => ?_)
  obtain ⟨rfl, e3⟩ := q
  rw [e3]
  show zLW p l e R s m args below meth c Q D en ao au (CB + 0 + 0 + 0) (SB + 0 + 0 + 0) 140 [.int (Int32.ofNat made)] [(5, .int (Int32.ofNat ((wl c1 h1 made).length))), (2, .ref au), (1, .ref ao)] φ1 φ2
  refine zl_aload (j := 2) (q := 1) hA ⟨by decide +kernel, rfl⟩ rfl ?_
  refine zl_bipush (z := 7) (v := Int32.ofNat 7) hA ⟨by decide +kernel, rfl⟩ (by decide +kernel) ?_
  refine zl_callU (i := (11, 30, 2, [(3, 1)])) (M := 30) (d := 1) (CN := 0) (CS := 0) (st := [.int (Int32.ofNat made)]) [7] hA (zs_142 hA.2.2.1) (fun n sl hn => (zx_r (fun _ _ _ _ _ _ _ _ _ _ _ _ hG => zc_count7 (d := 0) hG hn) (zGw_x hw2))) (fun w φ2 q => by rw [q.1]; exact Or.inl rfl) (Nat.le_of_ble_eq_true rfl) rfl (Or.inr ⟨rfl, zGx_0 (zGw_x hw2)⟩) (Nat.le_of_ble_eq_true rfl) (Nat.le_of_ble_eq_true rfl) (Nat.le_of_ble_eq_true rfl) (by omega) (by omega) (fun w φ4 q => ?_)
  obtain ⟨rfl, e4⟩ := q
  rw [e4]
  show zLW p l e R s m args below meth c Q D en ao au (CB + 0 + 0 + 0 + 0) (SB + 0 + 0 + 0 + 0) 143 [.int (Int32.ofNat made), .int (Int32.ofNat made)] [(5, .int (Int32.ofNat ((wl c1 h1 made).length))), (2, .ref au), (1, .ref ao)] φ1 φ2
  refine zl_icmp_ne (off := (18)) (t := 151) hA ⟨by decide +kernel, rfl⟩ (by decide +kernel) (fun g => absurd rfl g) (fun _ => ?_)
  refine zl_aload (j := 1) (q := 2) hA ⟨by decide +kernel, rfl⟩ rfl ?_
  refine zl_bipush (z := 8) (v := Int32.ofNat 8) hA ⟨by decide +kernel, rfl⟩ (by decide +kernel) ?_
  refine zl_callO (i := (11, 30, 2, [(3, 1)])) (M := 30) (d := 3) (CN := 0) (CS := 0) (st := []) [8] hA (zs_146 hA.2.2.1) (fun n sl hn => (zx_r (fun _ _ _ _ _ _ _ _ _ _ _ _ hG => zc_count8 (d := 0) hG hn) (zGw_x hw))) (fun w φ2 q => by rw [q.1]; exact Or.inl rfl) (Nat.le_of_ble_eq_true rfl) rfl (Or.inr ⟨rfl, zGx_0 (zGw_x hw)⟩) (Nat.le_of_ble_eq_true rfl) (Nat.le_of_ble_eq_true rfl) (Nat.le_of_ble_eq_true rfl) (by omega) (by omega) (fun w φ5 q => ?_)
  obtain ⟨rfl, e5⟩ := q
  rw [e5]
  show zLW p l e R s m args below meth c Q D en ao au (CB + 0 + 0 + 0 + 0 + 0) (SB + 0 + 0 + 0 + 0 + 0) 147 [.int (Int32.ofNat ((x_fl (fun y => c1 y ≠ 0) made).length))] [(5, .int (Int32.ofNat ((wl c1 h1 made).length))), (2, .ref au), (1, .ref ao)] φ1 φ2
  refine zl_aload (j := 2) (q := 1) hA ⟨by decide +kernel, rfl⟩ rfl ?_
  refine zl_bipush (z := 8) (v := Int32.ofNat 8) hA ⟨by decide +kernel, rfl⟩ (by decide +kernel) ?_
  refine zl_callU (i := (11, 30, 2, [(3, 1)])) (M := 30) (d := 3) (CN := 0) (CS := 0) (st := [.int (Int32.ofNat ((x_fl (fun y => c1 y ≠ 0) made).length))]) [8] hA (zs_149 hA.2.2.1) (fun n sl hn => (zx_r (fun _ _ _ _ _ _ _ _ _ _ _ _ hG => zc_count8 (d := 0) hG hn) (zGw_x hw2))) (fun w φ2 q => by rw [q.1]; exact Or.inl rfl) (Nat.le_of_ble_eq_true rfl) rfl (Or.inr ⟨rfl, zGx_0 (zGw_x hw2)⟩) (Nat.le_of_ble_eq_true rfl) (Nat.le_of_ble_eq_true rfl) (Nat.le_of_ble_eq_true rfl) (by omega) (by omega) (fun w φ6 q => ?_)
  obtain ⟨rfl, e6⟩ := q
  rw [e6]
  show zLW p l e R s m args below meth c Q D en ao au (CB + 0 + 0 + 0 + 0 + 0 + 0) (SB + 0 + 0 + 0 + 0 + 0 + 0) 150 [.int (Int32.ofNat ((x_fl (fun y => c2 y ≠ 0) made).length)), .int (Int32.ofNat ((x_fl (fun y => c1 y ≠ 0) made).length))] [(5, .int (Int32.ofNat ((wl c1 h1 made).length))), (2, .ref au), (1, .ref ao)] φ1 φ2
  refine zl_icmp_eq (off := (5)) (t := 153) hA ⟨by decide +kernel, rfl⟩ (by decide +kernel) (fun _ => ?_) (fun g => absurd (by rw [h8]) g)
  refine zl_iconst (z := 0) (v := Int32.ofNat 0) hA ⟨by decide +kernel, rfl⟩ (by decide +kernel) ?_
  refine zl_istore (i := 6) (lv2 := [(6, .int (Int32.ofNat 0)), (5, .int (Int32.ofNat ((wl c1 h1 made).length))), (2, .ref au), (1, .ref ao)]) hA ⟨by decide +kernel, rfl⟩ (by decide) rfl ?_
  refine zl_sub (lv2 := [(6, .int (Int32.ofNat 0)), (5, .int (Int32.ofNat (wl c1 h1 made).length)), (2, .ref au), (1, .ref ao)]) [0, 1, 2, 3] rfl ?_
  refine zo_loop hA hw (hwl ▸ hw2) (by omega) (by omega) ?_ (wl c1 h1 made).length 0 (by omega)
  refine zl_aload (j := 1) (q := 1) hA ⟨by decide +kernel, rfl⟩ rfl ?_
  refine zl_bipush (z := 7) (v := Int32.ofNat 7) hA ⟨by decide +kernel, rfl⟩ (by decide +kernel) ?_
  refine zl_callO (i := (11, 30, 2, [(3, 1)])) (M := 30) (d := 1) (CN := 0) (CS := 0) (st := []) [7] hA (zs_171 hA.2.2.1) (fun n sl hn => (zx_r (fun _ _ _ _ _ _ _ _ _ _ _ _ hG => zc_count7 (d := 0) hG hn) (zGw_x hw))) (fun w φ2 q => by rw [q.1]; exact Or.inl rfl) (Nat.le_of_ble_eq_true rfl) rfl (Or.inr ⟨rfl, zGx_0 (zGw_x hw)⟩) (Nat.le_of_ble_eq_true rfl) (Nat.le_of_ble_eq_true rfl) (Nat.le_of_ble_eq_true rfl) (by omega) (by omega) (fun w φ7 q => ?_)
  obtain ⟨rfl, e7⟩ := q
  rw [e7]
  show zLW p l e R s m args below meth c Q D en ao au (CB + 0 + 0 + 0 + 0 + 0 + 0 + 0) (SB + 0 + 0 + 0 + 0 + 0 + 0 + 0) 172 [.int (Int32.ofNat made)] [(2, .ref au), (1, .ref ao)] φ1 φ2
  refine zl_istore (i := 6) (lv2 := [(6, .int (Int32.ofNat made)), (2, .ref au), (1, .ref ao)]) hA ⟨by decide +kernel, rfl⟩ (by decide) rfl ?_
  refine zl_iconst (z := 0) (v := Int32.ofNat 0) hA ⟨by decide +kernel, rfl⟩ (by decide +kernel) ?_
  refine zl_istore (i := 7) (lv2 := [(7, .int (Int32.ofNat 0)), (6, .int (Int32.ofNat made)), (2, .ref au), (1, .ref ao)]) hA ⟨by decide +kernel, rfl⟩ (by decide) rfl ?_
  exact zr_all hA hE hI hI' hend 9 0 _ _ mi mi' _ _ (by omega) (zGw_x hw) (zGw_x hw2) (by omega) (by omega) (by omega) (by omega)
end LAW8
