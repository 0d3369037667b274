section LAW9
set_option maxRecDepth 100000
variable {p : Program} {l : Launch} {e : Env} {R : Room} {s : State} {m : MethodId} {args : Array Value} {below : List Frame} {meth : Method} {c : Code} {Q : State → Prop} {D : va_G} {en : XE} {ao au : Nat}
/-- a house while the calls go on -/
def zGv (φ : FH) (mi made sv svm : Nat) (comb : Nat → Nat) (hm : Nat → MV) (sc : Nat → Nat) (sm : Nat → MV) (mh : MV) : Prop := ∃ (tp : Nat → Nat) (lf noted verd : Nat) (ins ver : Nat → Nat) (sz : Nat) (bw : Nat → Nat), zG φ 0 tp lf mi made sv svm comb hm sc sm mh noted verd ins ver sz bw
theorem zGv_x {φ : FH} {mi made sv svm : Nat} {comb : Nat → Nat} {hm : Nat → MV} {sc : Nat → Nat} {sm : Nat → MV} {mh : MV} (h : zGv φ mi made sv svm comb hm sc sm mh) : zGx φ mi made comb hm mh := by
  obtain ⟨tp, lf, noted, verd, ins, ver, sz, bw, h⟩ := h
  exact ⟨_, _, _, _, _, _, _, _, _, _, _, _, h⟩
def zcP (a mi made sv svm : Nat) (comb : Nat → Nat) (hm : Nat → MV) (sc : Nat → Nat) (sm : Nat → MV) (w : XV) (φ2 : FH) : Prop := w = (0, a, 0) ∧ ∃ (mi2 : Nat) (mh : MV), mi2 ≤ mi + 100 ∧ zGv φ2 mi2 made sv svm comb hm sc sm mh
theorem zv_call {d n sl mi made sv svm x a made2 : Nat} {φ : FH} {comb comb2 : Nat → Nat} {hm hm2 : Nat → MV} {sc : Nat → Nat} {sm : Nat → MV} {mh : MV} (hG : zGv φ mi made sv svm comb hm sc sm mh) (hI : MInv made comb hm) (hn : 486 ≤ n) (hmi : mi + 300 ≤ 20000) (hx : x < 4294967296) (e : stp made comb hm x = (a, made2, comb2, hm2)) :
    x_f x_P (d + 21) 4 [(6, 0, 0), (0, x, 0), (11, 0, 0), (11, 0, 0), (11, 0, 0)] φ n sl (x_bR n sl 400 4000 (zcP a mi made2 sv svm comb2 hm2 sc sm)) := by
  obtain ⟨tp, lf, noted, verd, ins, ver, sz, bw, hG⟩ := hG
  have h := zc_call (d := d) (sl := sl) hG hI hn hmi hx
  rw [e] at h
  refine x_f_mono h (fun u w φ2 n2 sl2 q => ?_)
  obtain ⟨q1, q2, q3, tp2, lf2, mi2, mh2, noted2, verd2, ins2, ver2, sz2, bw2, q4, q5, q6⟩ := q
  exact ⟨q1, q2, q3, q4, _, _, q5, _, _, _, _, _, _, _, _, q6⟩
def zrP (mi made svm : Nat) (comb : Nat → Nat) (hm : Nat → MV) (sc : Nat → Nat) (sm : Nat → MV) (mh : MV) (w : XV) (φ2 : FH) : Prop := w = (0, 1, 0) ∧ ∃ (comb2 : Nat → Nat) (hm2 : Nat → MV), PE made comb2 hm2 comb hm ∧ MInv made comb2 hm2 ∧ zGv φ2 mi made 0 svm comb2 hm2 sc sm mh
theorem zv_ref {d n sl mi made svm x : Nat} {φ : FH} {comb : Nat → Nat} {hm : Nat → MV} {sc : Nat → Nat} {sm : Nat → MV} {mh : MV} (hG : zGv φ mi made 0 svm comb hm sc sm mh) (hI : MInv made comb hm) (hn : 486 ≤ n) (hmi : mi + 300 ≤ 20000) (hx : x < 4294967296) :
    x_f x_P (d + 26) 8 [(6, 0, 0), (0, x, 0), (11, 0, 0), (11, 0, 0)] φ n sl (x_bR n sl 0 0 (zrP mi made svm comb hm sc sm mh)) := by
  obtain ⟨tp, lf, noted, verd, ins, ver, sz, bw, hG⟩ := hG
  refine x_f_mono (zc_ref hG hI hn hmi hx) (fun u w φ2 n2 sl2 q => ?_)
  obtain ⟨q1, q2, q3, tp2, lf2, comb2, hm2, q4, q5, q6, q7⟩ := q
  exact ⟨q1, q2, q3, q4, _, _, q5, q6, _, _, _, _, _, _, _, _, q7⟩
theorem zv_of {d M n sl cn cs mi made sv svm made2 sv2 svm2 : Nat} {loc : List XV} {φ : FH} {comb comb2 : Nat → Nat} {hm hm2 : Nat → MV} {sc sc2 : Nat → Nat} {sm sm2 : Nat → MV} {mh mh2 : MV} {v : XV}
    (h : ∀ (tp : Nat → Nat) (lf noted verd : Nat) (ins ver : Nat → Nat) (sz : Nat) (bw : Nat → Nat), zG φ 0 tp lf mi made sv svm comb hm sc sm mh noted verd ins ver sz bw → x_f x_P d M loc φ n sl (x_bR n sl cn cs (fun w φ2 => w = v ∧ zG φ2 0 tp lf mi made2 sv2 svm2 comb2 hm2 sc2 sm2 mh2 noted verd ins ver sz bw)))
    (hG : zGv φ mi made sv svm comb hm sc sm mh) : x_f x_P d M loc φ n sl (x_bR n sl cn cs (fun w φ2 => w = v ∧ zGv φ2 mi made2 sv2 svm2 comb2 hm2 sc2 sm2 mh2)) := by
  obtain ⟨tp, lf, noted, verd, ins, ver, sz, bw, hG⟩ := hG
  refine x_f_mono (h _ _ _ _ _ _ _ _ hG) (fun u w φ2 n2 sl2 q => ?_)
  obtain ⟨q1, q2, q3, q4, q5⟩ := q
  exact ⟨q1, q2, q3, q4, _, _, _, _, _, _, _, _, q5⟩
set_option maxHeartbeats 4000000 in
/-- six calls on the one that was kept -/
theorem zk_six {x kk C : Nat} {bk : Int32} {b L : Nat} {xs : Nat → Int32} {svm' : Nat} {sc' : Nat → Nat} {sm' : Nat → MV} {φ : FH} (hA : zAm p l R s m args meth c D en) (hX : va_X b L xs s s.heap) (hbl : b < s.heap.size) (hL : L ≤ 260) :
    ∀ (j i CB SB made mi' : Nat) (c2 : Nat → Nat) (h2 : Nat → MV) (mh' : MV) (ψ : FH), i + j = 6 → zGv ψ mi' made 1 svm' c2 h2 sc' sm' mh' → MInv made c2 h2 → mi' + 100 * j + 300 ≤ 20000 → CB + 400 * j ≤ 600000 → SB + 4000 * j ≤ 7302249 →
      (∀ (ψ3 : FH) (made3 mi3 : Nat) (c3 : Nat → Nat) (h3 : Nat → MV) (mh3 : MV), mi3 ≤ mi' + 100 * j → zGv ψ3 mi3 made3 1 svm' c3 h3 sc' sm' mh3 ∧ MInv made3 c3 h3 → zLW p l e R s m args below meth c Q D en ao au (CB + 400 * j) (SB + 4000 * j) 118 [] [(6, .int (Int32.ofNat x)), (5, .int (Int32.ofNat kk)), (4, .int bk), (3, .int (Int32.ofNat C)), (2, .ref au), (1, .ref ao), (0, .ref b)] φ ψ3) →
      zLW p l e R s m args below meth c Q D en ao au CB SB 105 [] [(7, .int (Int32.ofNat i)), (6, .int (Int32.ofNat x)), (5, .int (Int32.ofNat kk)), (4, .int bk), (3, .int (Int32.ofNat C)), (2, .ref au), (1, .ref ao), (0, .ref b)] φ ψ := by
  intro j
  induction j with
  | zero =>
    intro i CB SB made mi' c2 h2 mh' ψ hi hG' hI hmi hCB hSB hn
    refine zl_iload (i := 7) (q := 0) hA ⟨by decide +kernel, rfl⟩ rfl ?_
    refine zl_bipush (z := 6) (v := Int32.ofNat 6) hA ⟨by decide +kernel, rfl⟩ (by decide +kernel) ?_
    refine zl_icmp_ge (off := 24) (t := 118) hA ⟨by decide +kernel, rfl⟩ (by decide +kernel) (fun _ => ?_) (fun g => absurd (nI_le (show 6 ≤ i by omega) (by omega)) g)
    exact zl_sub [1, 2, 3, 4, 5, 6, 7] rfl (hn ψ made mi' c2 h2 mh' (by omega) ⟨hG', hI⟩)
  | succ j ih =>
    intro i CB SB made mi' c2 h2 mh' ψ hij hG' hI hmi hCB hSB hn
    have hi : i < 6 := by omega
    refine zl_iload (i := 7) (q := 0) hA ⟨by decide +kernel, rfl⟩ rfl ?_
    refine zl_bipush (z := 6) (v := Int32.ofNat 6) hA ⟨by decide +kernel, rfl⟩ (by decide +kernel) ?_
    refine zl_icmp_ge (off := (24)) (t := 118) hA ⟨by decide +kernel, rfl⟩ (by decide +kernel) (fun g => absurd g (nI_ge hi (by decide))) (fun _ => ?_)
    refine zl_aload (j := 2) (q := 5) hA ⟨by decide +kernel, rfl⟩ rfl ?_
    refine zl_aload (j := 0) (q := 7) hA ⟨by decide +kernel, rfl⟩ rfl ?_
    refine zl_bipush (z := 60) (v := Int32.ofNat 60) hA ⟨by decide +kernel, rfl⟩ (by decide +kernel) ?_
    refine zl_iload (i := 7) (q := 0) hA ⟨by decide +kernel, rfl⟩ rfl ?_
    refine zl_iadd hA ⟨by decide +kernel, rfl⟩ ?_
    rw [xi_add]
    show zLW p l e R s m args below meth c Q D en ao au CB SB 113 [.int (Int32.ofNat (60 + i)), .ref b, .ref au] [(7, .int (Int32.ofNat i)), (6, .int (Int32.ofNat x)), (5, .int (Int32.ofNat kk)), (4, .int bk), (3, .int (Int32.ofNat C)), (2, .ref au), (1, .ref ao), (0, .ref b)] φ ψ
    refine zl_cell (j := 60 + i) hA hX hbl hL (by omega) (zs_113 hA.2.2.1) (Nat.le_of_ble_eq_true rfl) (by omega) (by omega) (fun a1 ha1 => ?_)
    show zLW p l e R s m args below meth c Q D en ao au CB SB 114 [.int (Int32.ofNat a1), .ref au] [(7, .int (Int32.ofNat i)), (6, .int (Int32.ofNat x)), (5, .int (Int32.ofNat kk)), (4, .int bk), (3, .int (Int32.ofNat C)), (2, .ref au), (1, .ref ao), (0, .ref b)] φ ψ
    obtain ⟨an, made2, comb2, hm2, hs, hI2⟩ := stp_MI2 hI a1
    refine zl_callU (i := (11, 4, 2, [(5, 0)])) (M := 4) (d := 21) (CN := 400) (CS := 4000) (st := []) [a1] hA (zs_114 hA.2.2.1) (fun n sl hn => (zv_call (d := 0) hG' hI hn (by omega) ha1 hs)) (fun w φ2 q => by rw [q.1]; exact Or.inl rfl) (Nat.le_of_ble_eq_true rfl) rfl (Or.inl rfl) (Nat.le_of_ble_eq_true rfl) (Nat.le_of_ble_eq_true rfl) (Nat.le_of_ble_eq_true rfl) (by omega) (by omega) (fun w φ2 q => ?_)
    obtain ⟨rfl, mi2, mh2, hmi2, hg2⟩ := q
    show zLW p l e R s m args below meth c Q D en ao au (CB + 400) (SB + 4000) 115 [.int (Int32.ofNat an)] [(7, .int (Int32.ofNat i)), (6, .int (Int32.ofNat x)), (5, .int (Int32.ofNat kk)), (4, .int bk), (3, .int (Int32.ofNat C)), (2, .ref au), (1, .ref ao), (0, .ref b)] φ φ2
    refine zl_istore (i := 8) (lv2 := [(8, .int (Int32.ofNat an)), (7, .int (Int32.ofNat i)), (6, .int (Int32.ofNat x)), (5, .int (Int32.ofNat kk)), (4, .int bk), (3, .int (Int32.ofNat C)), (2, .ref au), (1, .ref ao), (0, .ref b)]) hA ⟨by decide +kernel, rfl⟩ (by decide) rfl ?_
    refine zl_iinc (i := 7) (z := 1) (q := 1) (v := (Int32.ofNat (i + 1))) (lv2 := [(7, .int (Int32.ofNat (i + 1))), (8, .int (Int32.ofNat an)), (6, .int (Int32.ofNat x)), (5, .int (Int32.ofNat kk)), (4, .int bk), (3, .int (Int32.ofNat C)), (2, .ref au), (1, .ref ao), (0, .ref b)]) hA ⟨by decide +kernel, rfl⟩ rfl (xi_add i 1) (by decide) rfl ?_
    refine zl_goto (off := (-25)) (t := 105) hA (by decide +kernel) (by decide +kernel) ?_
    refine zl_sub (lv2 := [(7, .int (Int32.ofNat (i + 1))), (6, .int (Int32.ofNat x)), (5, .int (Int32.ofNat kk)), (4, .int bk), (3, .int (Int32.ofNat C)), (2, .ref au), (1, .ref ao), (0, .ref b)]) [0, 2, 3, 4, 5, 6, 7, 8] rfl ?_
    exact ih (i + 1) _ _ _ _ _ _ _ _ (by omega) hg2 hI2 (by omega) (by omega) (by omega) (fun ψ3 made3 mi3 c3 h3 mh3 z1 z2 => zLW_mono (hn ψ3 made3 mi3 c3 h3 mh3 (by omega) z2) (by omega) (by omega))
end LAW9
