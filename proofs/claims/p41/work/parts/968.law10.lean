section LAW10
set_option maxRecDepth 100000
variable {p : Program} {l : Launch} {e : Env} {R : Room} {s : State} {m : MethodId} {args : Array Value} {below : List Frame} {meth : Method} {c : Code} {Q : State → Prop} {D : va_G} {en : XE} {ao au : Nat}
set_option maxHeartbeats 4000000 in
/-- kept, changed, brought back -/
theorem zk_back {x kk C : Nat} {bk : Int32} {b L : Nat} {xs : Nat → Int32} {CB SB made mi' svm' : Nat} {c2 : Nat → Nat} {h2 : Nat → MV} {sc' : Nat → Nat} {sm' : Nat → MV} {mh' : MV} {φ ψ : FH} (hA : zAm p l R s m args meth c D en) (hX : va_X b L xs s s.heap) (hbl : b < s.heap.size) (hL : L ≤ 260) (hG' : zGv ψ mi' made 0 svm' c2 h2 sc' sm' mh') (hI' : MInv made c2 h2) (hmi : mi' + 1000 ≤ 20000) (hCB : CB + 2500 ≤ 600000) (hSB : SB + 25000 ≤ 7302249)
    (kt : ∀ (ψ2 : FH) (mi2 : Nat) (c3 : Nat → Nat) (mh2 : MV), mi2 ≤ mi' + 600 → zGv ψ2 mi2 made 0 made (zsv (zsv c2 sc') c3) h2 (zsv c2 sc') h2 mh2 → zLW p l e R s m args below meth c Q D en ao au (CB + 2500) (SB + 25000) 128 [] [(6, .int (Int32.ofNat x)), (5, .int (Int32.ofNat kk)), (4, .int bk), (3, .int (Int32.ofNat C)), (2, .ref au), (1, .ref ao), (0, .ref b)] φ ψ2) :
    zLW p l e R s m args below meth c Q D en ao au CB SB 93 [] [(6, .int (Int32.ofNat x)), (5, .int (Int32.ofNat kk)), (4, .int bk), (3, .int (Int32.ofNat C)), (2, .ref au), (1, .ref ao), (0, .ref b)] φ ψ := by
  refine zl_aload (j := 2) (q := 4) hA ⟨by decide +kernel, rfl⟩ rfl ?_
  refine zl_callU (i := (11, 339, 1, [(1, 1)])) (M := 339) (d := 2) (CN := 0) (CS := 0) (st := []) [] hA (zs_94 hA.2.2.1) (fun n sl hn => (zv_of (fun _ _ _ _ _ _ _ _ hG => zc_begin (d := 0) hG hn hI'.2.1 (by omega)) hG')) (fun w φ2 q => by rw [q.1]; exact Or.inl rfl) (Nat.le_of_ble_eq_true rfl) rfl (Or.inr ⟨rfl, zGx_0 (zGv_x hG')⟩) (Nat.le_of_ble_eq_true rfl) (Nat.le_of_ble_eq_true rfl) (Nat.le_of_ble_eq_true rfl) (by omega) (by omega) (fun w φ1 q => ?_)
  obtain ⟨rfl, hg1⟩ := q
  show zLW p l e R s m args below meth c Q D en ao au (CB + 0) (SB + 0) 95 [.int (Int32.ofNat 1)] [(6, .int (Int32.ofNat x)), (5, .int (Int32.ofNat kk)), (4, .int bk), (3, .int (Int32.ofNat C)), (2, .ref au), (1, .ref ao), (0, .ref b)] φ φ1
  refine zl_iconst (z := 1) (v := Int32.ofNat 1) hA ⟨by decide +kernel, rfl⟩ (by decide +kernel) ?_
  refine zl_icmp_ne (off := (12)) (t := 101) hA ⟨by decide +kernel, rfl⟩ (by decide +kernel) (fun g => absurd rfl g) (fun _ => ?_)
  refine zl_aload (j := 2) (q := 4) hA ⟨by decide +kernel, rfl⟩ rfl ?_
  refine zl_callU (i := (11, 339, 1, [(1, 1)])) (M := 339) (d := 2) (CN := 0) (CS := 0) (st := []) [] hA (zs_98 hA.2.2.1) (fun n sl hn => (zv_of (fun _ _ _ _ _ _ _ _ hG => zc_begin_no (d := 0) hG hn hI'.2.1 (by omega)) hg1)) (fun w φ2 q => by rw [q.1]; exact Or.inl rfl) (Nat.le_of_ble_eq_true rfl) rfl (Or.inr ⟨rfl, zGx_0 (zGv_x hg1)⟩) (Nat.le_of_ble_eq_true rfl) (Nat.le_of_ble_eq_true rfl) (Nat.le_of_ble_eq_true rfl) (by omega) (by omega) (fun w φ2 q => ?_)
  obtain ⟨rfl, hg2⟩ := q
  show zLW p l e R s m args below meth c Q D en ao au (CB + 0 + 0) (SB + 0 + 0) 99 [.int (Int32.ofNat 4294967293)] [(6, .int (Int32.ofNat x)), (5, .int (Int32.ofNat kk)), (4, .int bk), (3, .int (Int32.ofNat C)), (2, .ref au), (1, .ref ao), (0, .ref b)] φ φ2
  refine zl_bipush (z := (-3)) (v := Int32.ofNat 4294967293) hA ⟨by decide +kernel, rfl⟩ (by decide +kernel) ?_
  refine zl_icmp_eq (off := (5)) (t := 103) hA ⟨by decide +kernel, rfl⟩ (by decide +kernel) (fun _ => ?_) (fun g => absurd rfl g)
  refine zl_iconst (z := 0) (v := Int32.ofNat 0) hA ⟨by decide +kernel, rfl⟩ (by decide +kernel) ?_
  refine zl_istore (i := 7) (lv2 := [(7, .int (Int32.ofNat 0)), (6, .int (Int32.ofNat x)), (5, .int (Int32.ofNat kk)), (4, .int bk), (3, .int (Int32.ofNat C)), (2, .ref au), (1, .ref ao), (0, .ref b)]) hA ⟨by decide +kernel, rfl⟩ (by decide) rfl ?_
  refine zk_six hA hX hbl hL 6 0 _ _ _ _ _ _ _ _ (by omega) hg2 hI' (by omega) (by omega) (by omega) (fun ψ3 made3 mi3 c3 h3 mh3 hm3 hz3 => ?_)
  obtain ⟨hg3, hI3⟩ := hz3
  refine zl_aload (j := 2) (q := 4) hA ⟨by decide +kernel, rfl⟩ rfl ?_
  refine zl_callU (i := (11, 34, 1, [(2, 1)])) (M := 34) (d := 2) (CN := 1) (CS := 7) (st := []) [] hA (zs_119 hA.2.2.1) (fun n sl hn => (zv_of (fun _ _ _ _ _ _ _ _ hG => zc_abort (d := 0) hG hn hI3.2.1 (by omega)) hg3)) (fun w φ2 q => by rw [q.1]; exact Or.inl rfl) (Nat.le_of_ble_eq_true rfl) rfl (Or.inr ⟨rfl, zGx_0 (zGv_x hg3)⟩) (Nat.le_of_ble_eq_true rfl) (Nat.le_of_ble_eq_true rfl) (Nat.le_of_ble_eq_true rfl) (by omega) (by omega) (fun w φ3 q => ?_)
  obtain ⟨rfl, hg4⟩ := q
  show zLW p l e R s m args below meth c Q D en ao au (CB + 0 + 0 + 400 * 6 + 1) (SB + 0 + 0 + 4000 * 6 + 7) 120 [.int (Int32.ofNat 1)] [(6, .int (Int32.ofNat x)), (5, .int (Int32.ofNat kk)), (4, .int bk), (3, .int (Int32.ofNat C)), (2, .ref au), (1, .ref ao), (0, .ref b)] φ φ3
  refine zl_iconst (z := 1) (v := Int32.ofNat 1) hA ⟨by decide +kernel, rfl⟩ (by decide +kernel) ?_
  refine zl_icmp_ne (off := (11)) (t := 126) hA ⟨by decide +kernel, rfl⟩ (by decide +kernel) (fun g => absurd rfl g) (fun _ => ?_)
  refine zl_aload (j := 2) (q := 4) hA ⟨by decide +kernel, rfl⟩ rfl ?_
  refine zl_iconst (z := 0) (v := Int32.ofNat 0) hA ⟨by decide +kernel, rfl⟩ (by decide +kernel) ?_
  refine zl_callU (i := (11, 334, 2, [(2, 1)])) (M := 334) (d := 1) (CN := 0) (CS := 0) (st := []) [0] hA (zs_124 hA.2.2.1) (fun n sl hn => (zx_r (fun _ _ _ _ _ _ _ _ _ _ _ _ hG => zc_hand0 (d := 0) hG hn) (zGv_x hg4))) (fun w φ2 q => by rw [q.1]; exact Or.inl rfl) (Nat.le_of_ble_eq_true rfl) rfl (Or.inr ⟨rfl, zGx_0 (zGv_x hg4)⟩) (Nat.le_of_ble_eq_true rfl) (Nat.le_of_ble_eq_true rfl) (Nat.le_of_ble_eq_true rfl) (by omega) (by omega) (fun w φ4 q => ?_)
  obtain ⟨rfl, e4⟩ := q
  rw [e4]
  show zLW p l e R s m args below meth c Q D en ao au (CB + 0 + 0 + 400 * 6 + 1 + 0) (SB + 0 + 0 + 4000 * 6 + 7 + 0) 125 [.int (Int32.ofNat 0)] [(6, .int (Int32.ofNat x)), (5, .int (Int32.ofNat kk)), (4, .int bk), (3, .int (Int32.ofNat C)), (2, .ref au), (1, .ref ao), (0, .ref b)] φ φ3
  refine zl_if_eq (off := (5)) (t := 128) hA ⟨by decide +kernel, rfl⟩ (by decide +kernel) (fun _ => ?_) (fun g => absurd (by decide) g)
  exact zLW_mono (kt _ _ _ _ (by omega) hg4) (by omega) (by omega)
set_option maxHeartbeats 4000000 in
theorem zk_90 {x kk C : Nat} {bk : Int32} {b L : Nat} {xs : Nat → Int32} {CB SB made mi' svm' : Nat} {c2 : Nat → Nat} {h2 : Nat → MV} {sc' : Nat → Nat} {sm' : Nat → MV} {mh' : MV} {φ ψ : FH} (hA : zAm p l R s m args meth c D en) (hX : va_X b L xs s s.heap) (hbl : b < s.heap.size) (hL : L ≤ 260) (hG' : zGv ψ mi' made 0 svm' c2 h2 sc' sm' mh') (hI' : MInv made c2 h2) (hmi : bk = Int32.ofNat kk → mi' + 1000 ≤ 20000) (hCB : CB + 2500 ≤ 600000) (hSB : SB + 25000 ≤ 7302249)
    (kt : ∀ (ψ2 : FH) (mi2 svm2 : Nat) (c3 : Nat → Nat) (sc3 : Nat → Nat) (sm3 : Nat → MV) (mh2 : MV) (h3 : Nat → MV), (mi2 ≤ mi' ∨ (bk = Int32.ofNat kk ∧ mi2 ≤ mi' + 600)) → zGv ψ2 mi2 made 0 svm2 c3 h3 sc3 sm3 mh2 → PE made c3 h3 c2 h2 → MInv made c3 h3 → zLW p l e R s m args below meth c Q D en ao au (CB + 2500) (SB + 25000) 128 [] [(6, .int (Int32.ofNat x)), (5, .int (Int32.ofNat kk)), (4, .int bk), (3, .int (Int32.ofNat C)), (2, .ref au), (1, .ref ao), (0, .ref b)] φ ψ2) :
    zLW p l e R s m args below meth c Q D en ao au CB SB 90 [] [(6, .int (Int32.ofNat x)), (5, .int (Int32.ofNat kk)), (4, .int bk), (3, .int (Int32.ofNat C)), (2, .ref au), (1, .ref ao), (0, .ref b)] φ ψ := by
  refine zl_iload (i := 5) (q := 1) hA ⟨by decide +kernel, rfl⟩ rfl ?_
  refine zl_iload (i := 4) (q := 2) hA ⟨by decide +kernel, rfl⟩ rfl ?_
  refine zl_icmp_ne (off := (71)) (t := 128) hA ⟨by decide +kernel, rfl⟩ (by decide +kernel) (fun _ => ?_) (fun g => ?_)
  · exact zLW_mono (kt _ _ _ _ _ _ _ _ (Or.inl (Nat.le_refl _)) hG' PE_refl hI') (by omega) (by omega)
  · have hb : bk = Int32.ofNat kk := g.symm
    exact zk_back hA hX hbl hL hG' hI' (hmi hb) hCB hSB (fun ψ2 mi2 c3 mh2 z1 z2 => kt _ _ _ _ _ _ _ _ (Or.inr ⟨hb, z1⟩) z2 (PE_back hI'.1) (MI_back hI'))
set_option maxHeartbeats 8000000 in
/-- the calls, one after another -/
theorem zk_all {C : Nat} {bk : Int32} {b L : Nat} {xs : Nat → Int32} (hA : zAm p l R s m args meth c D en) (hX : va_X b L xs s s.heap) (hbl : b < s.heap.size) (hL : L ≤ 260) (hC : C ≤ 43)
    (hend : ∀ (CB SB : Nat) (lv : List (Nat × Value)) (φ ψ : FH), CB ≤ 600000 → SB ≤ 7302249 → zLW p l e R s m args below meth c Q D en ao au CB SB 323 [] lv φ ψ) :
    ∀ (j kk CB SB made mi mi' sv svm svm' : Nat) (c1 : Nat → Nat) (h1 : Nat → MV) (c2 : Nat → Nat) (h2 : Nat → MV) (sc : Nat → Nat) (sm : Nat → MV) (sc' : Nat → Nat) (sm' : Nat → MV) (mh mh' : MV) (φ ψ : FH), kk + j = C → zGv φ mi made sv svm c1 h1 sc sm mh → zGv ψ mi' made 0 svm' c2 h2 sc' sm' mh' → PE made c1 h1 c2 h2 → MInv made c1 h1 → MInv made c2 h2 → mi + 100 * j + 1700 ≤ 20000 →
      (mi' + 100 * j + 600 + 1700 ≤ 20000 ∨ (mi' + 100 * j + 1700 ≤ 20000 ∧ ∀ t, kk ≤ t → t < 100 → bk ≠ Int32.ofNat t)) → CB + 4000 * j + 5000 ≤ 600000 → SB + 40000 * j + 30000 ≤ 7302249 →
      zLW p l e R s m args below meth c Q D en ao au CB SB 60 [] [(5, .int (Int32.ofNat kk)), (4, .int bk), (3, .int (Int32.ofNat C)), (2, .ref au), (1, .ref ao), (0, .ref b)] φ ψ := by
  intro j
  induction j with
  | zero =>
    intro kk CB SB made mi mi' sv svm svm' c1 h1 c2 h2 sc sm sc' sm' mh mh' φ ψ hj hG hG' hE hI hI' hmi hB hCB hSB
    refine zl_iload (i := 5) (q := 0) hA ⟨by decide +kernel, rfl⟩ rfl ?_
    refine zl_iload3 (j := 3) (q := 2) hA ⟨by decide +kernel, rfl⟩ rfl ?_
    refine zl_icmp_ge (off := 132) (t := 130) hA ⟨by decide +kernel, rfl⟩ (by decide +kernel) (fun _ => ?_) (fun g => absurd (nI_le (show C ≤ kk by omega) (by omega)) g)
    exact zl_sub [3, 4] rfl (zo_all hA (zGv_x hG) (zGv_x hG') hE hI hI' (by omega) (by rcases hB with z | ⟨z, -⟩ <;> omega) (by omega) (by omega) hend)
  | succ j ih =>
    intro kk CB SB made mi mi' sv svm svm' c1 h1 c2 h2 sc sm sc' sm' mh mh' φ ψ hj hG hG' hE hI hI' hmi hB hCB hSB
    have hkC : kk < C := by omega
    have hmi' : mi' + 100 * (j + 1) + 1700 ≤ 20000 := by rcases hB with z | ⟨z, -⟩ <;> omega
    refine zl_iload (i := 5) (q := 0) hA ⟨by decide +kernel, rfl⟩ rfl ?_
    refine zl_iload3 (j := 3) (q := 2) hA ⟨by decide +kernel, rfl⟩ rfl ?_
    refine zl_icmp_ge (off := (132)) (t := 130) hA ⟨by decide +kernel, rfl⟩ (by decide +kernel) (fun g => absurd g (nI_ge hkC (by omega))) (fun _ => ?_)
    refine zl_aload (j := 0) (q := 5) hA ⟨by decide +kernel, rfl⟩ rfl ?_
    refine zl_iconst (z := 2) (v := Int32.ofNat 2) hA ⟨by decide +kernel, rfl⟩ (by decide +kernel) ?_
    refine zl_iload (i := 5) (q := 0) hA ⟨by decide +kernel, rfl⟩ rfl ?_
    refine zl_iadd hA ⟨by decide +kernel, rfl⟩ ?_
    rw [xi_add]
    show zLW p l e R s m args below meth c Q D en ao au CB SB 67 [.int (Int32.ofNat (2 + kk)), .ref b] [(5, .int (Int32.ofNat kk)), (4, .int bk), (3, .int (Int32.ofNat C)), (2, .ref au), (1, .ref ao), (0, .ref b)] φ ψ
    refine zl_cell (j := (2 + kk)) hA hX hbl hL (by omega) (zs_67 hA.2.2.1) (Nat.le_of_ble_eq_true rfl) (by omega) (by omega) (fun a1 ha1 => ?_)
    show zLW p l e R s m args below meth c Q D en ao au CB SB 68 [.int (Int32.ofNat a1)] [(5, .int (Int32.ofNat kk)), (4, .int bk), (3, .int (Int32.ofNat C)), (2, .ref au), (1, .ref ao), (0, .ref b)] φ ψ
    obtain ⟨an, made2, c12, h12, c22, h22, s1, s2, I1, I2, E2⟩ := stp_both hE hI hI' a1
    refine zl_istore (i := 6) (lv2 := [(6, .int (Int32.ofNat a1)), (5, .int (Int32.ofNat kk)), (4, .int bk), (3, .int (Int32.ofNat C)), (2, .ref au), (1, .ref ao), (0, .ref b)]) hA ⟨by decide +kernel, rfl⟩ (by decide) rfl ?_
    refine zl_aload (j := 1) (q := 5) hA ⟨by decide +kernel, rfl⟩ rfl ?_
    refine zl_iload (i := 6) (q := 0) hA ⟨by decide +kernel, rfl⟩ rfl ?_
    refine zl_callO (i := (11, 4, 2, [(5, 0)])) (M := 4) (d := 21) (CN := 400) (CS := 4000) (st := []) [a1] hA (zs_71 hA.2.2.1) (fun n sl hn => (zv_call (d := 0) hG hI hn (by omega) ha1 s1)) (fun w φ2 q => by rw [q.1]; exact Or.inl rfl) (Nat.le_of_ble_eq_true rfl) rfl (Or.inl rfl) (Nat.le_of_ble_eq_true rfl) (Nat.le_of_ble_eq_true rfl) (Nat.le_of_ble_eq_true rfl) (by omega) (by omega) (fun w φ2 q => ?_)
    obtain ⟨rfl, mi2, mh2, hmi2, hg1⟩ := q
    show zLW p l e R s m args below meth c Q D en ao au (CB + 400) (SB + 4000) 72 [.int (Int32.ofNat an)] [(6, .int (Int32.ofNat a1)), (5, .int (Int32.ofNat kk)), (4, .int bk), (3, .int (Int32.ofNat C)), (2, .ref au), (1, .ref ao), (0, .ref b)] φ2 ψ
    refine zl_aload (j := 2) (q := 4) hA ⟨by decide +kernel, rfl⟩ rfl ?_
    refine zl_iload (i := 6) (q := 0) hA ⟨by decide +kernel, rfl⟩ rfl ?_
    refine zl_callU (i := (11, 4, 2, [(5, 0)])) (M := 4) (d := 21) (CN := 400) (CS := 4000) (st := [.int (Int32.ofNat an)]) [a1] hA (zs_74 hA.2.2.1) (fun n sl hn => (zv_call (d := 0) hG' hI' hn (by omega) ha1 s2)) (fun w φ2 q => by rw [q.1]; exact Or.inl rfl) (Nat.le_of_ble_eq_true rfl) rfl (Or.inl rfl) (Nat.le_of_ble_eq_true rfl) (Nat.le_of_ble_eq_true rfl) (Nat.le_of_ble_eq_true rfl) (by omega) (by omega) (fun w φ3 q => ?_)
    obtain ⟨rfl, mi2', mh2', hmi2', hg2⟩ := q
    show zLW p l e R s m args below meth c Q D en ao au (CB + 400 + 400) (SB + 4000 + 4000) 75 [.int (Int32.ofNat an), .int (Int32.ofNat an)] [(6, .int (Int32.ofNat a1)), (5, .int (Int32.ofNat kk)), (4, .int bk), (3, .int (Int32.ofNat C)), (2, .ref au), (1, .ref ao), (0, .ref b)] φ2 φ3
    refine zl_icmp_eq (off := (5)) (t := 78) hA ⟨by decide +kernel, rfl⟩ (by decide +kernel) (fun _ => ?_) (fun g => absurd rfl g)
    refine zl_iload (i := 6) (q := 0) hA ⟨by decide +kernel, rfl⟩ rfl ?_
    refine zl_bipush (z := 20) (v := Int32.ofNat 20) hA ⟨by decide +kernel, rfl⟩ (by decide +kernel) ?_
    refine zl_iushr hA ⟨by decide +kernel, rfl⟩ (fun v4 => ?_)
    refine zl_iconst (z := 3) (v := Int32.ofNat 3) hA ⟨by decide +kernel, rfl⟩ (by decide +kernel) ?_
    refine zl_iand hA ⟨by decide +kernel, rfl⟩ ?_
    have hB1 : bk = Int32.ofNat kk → mi2' + 1000 ≤ 20000 := fun hb => hB.elim (fun z => by omega) (fun z => absurd hb (z.2 kk (Nat.le_refl _) (by omega)))
    refine zl_if_ne (off := (14)) (t := 90) hA ⟨by decide +kernel, rfl⟩ (by decide +kernel) (fun _ => ?_) (fun _ => ?_)
    · refine zk_90 hA hX hbl hL hg2 I2 hB1 (by omega) (by omega) (fun ψ2 mi3 svm2 c3 sc3 sm3 mh3 h3 hm3 hg5 hE5 hI5 => ?_)
      refine zl_iinc (i := 5) (z := 1) (q := 1) (v := (Int32.ofNat (kk + 1))) (lv2 := [(5, .int (Int32.ofNat (kk + 1))), (6, .int (Int32.ofNat a1)), (4, .int bk), (3, .int (Int32.ofNat C)), (2, .ref au), (1, .ref ao), (0, .ref b)]) hA ⟨by decide +kernel, rfl⟩ rfl (xi_add kk 1) (by decide) rfl ?_
      refine zl_goto (off := (-132)) (t := 60) hA (by decide +kernel) (by decide +kernel) ?_
      refine zl_sub (lv2 := [(5, .int (Int32.ofNat (kk + 1))), (4, .int bk), (3, .int (Int32.ofNat C)), (2, .ref au), (1, .ref ao), (0, .ref b)]) [0, 2, 3, 4, 5, 6] rfl ?_
      refine zLW_mono (ih (kk + 1) (CB + 4000) (SB + 40000) made2 mi2 mi3 sv svm svm2 c12 h12 c3 h3 sc sm sc3 sm3 mh2 mh3 _ _ (by omega) hg1 hg5 (PE_trans E2 (PE_symm hE5)) I1 hI5 (by omega) ?_ (by omega) (by omega)) (by omega) (by omega)
      rcases hB with z | ⟨z0, z⟩
      · rcases hm3 with y | ⟨y0, y⟩
        · exact Or.inl (by omega)
        · exact Or.inr ⟨by omega, fun t h1 h2 hb => absurd ((nI_eq (show kk < 2 ^ 31 by omega) (show t < 2 ^ 31 by omega)).mp (y0.symm.trans hb)) (by omega)⟩
      · rcases hm3 with y | ⟨y0, y⟩
        · exact Or.inr ⟨by omega, fun t h1 h2 => z t (by omega) h2⟩
        · exact absurd y0 (z kk (Nat.le_refl _) (by omega))
    · refine zl_aload (j := 2) (q := 4) hA ⟨by decide +kernel, rfl⟩ rfl ?_
      refine zl_iload (i := 6) (q := 0) hA ⟨by decide +kernel, rfl⟩ rfl ?_
      refine zl_callU (i := (11, 8, 2, [(4, 0)])) (M := 8) (d := 26) (CN := 0) (CS := 0) (st := []) [a1] hA (zs_86 hA.2.2.1) (fun n sl hn => (zv_ref (d := 0) hg2 I2 hn (by omega) ha1)) (fun w φ2 q => by rw [q.1]; exact Or.inl rfl) (Nat.le_of_ble_eq_true rfl) rfl (Or.inl rfl) (Nat.le_of_ble_eq_true rfl) (Nat.le_of_ble_eq_true rfl) (Nat.le_of_ble_eq_true rfl) (by omega) (by omega) (fun w φ5 q => ?_)
      obtain ⟨rfl, c4, h4, hE4, hI4, hg4⟩ := q
      show zLW p l e R s m args below meth c Q D en ao au (CB + 400 + 400 + 0) (SB + 4000 + 4000 + 0) 87 [.int (Int32.ofNat 1)] [(6, .int (Int32.ofNat a1)), (5, .int (Int32.ofNat kk)), (4, .int bk), (3, .int (Int32.ofNat C)), (2, .ref au), (1, .ref ao), (0, .ref b)] φ2 φ5
      refine zl_if_ne (off := (5)) (t := 90) hA ⟨by decide +kernel, rfl⟩ (by decide +kernel) (fun _ => ?_) (fun g => absurd g (by decide))
      refine zk_90 hA hX hbl hL hg4 hI4 hB1 (by omega) (by omega) (fun ψ2 mi3 svm2 c3 sc3 sm3 mh3 h3 hm3 hg5 hE5 hI5 => ?_)
      refine zl_iinc (i := 5) (z := 1) (q := 1) (v := (Int32.ofNat (kk + 1))) (lv2 := [(5, .int (Int32.ofNat (kk + 1))), (6, .int (Int32.ofNat a1)), (4, .int bk), (3, .int (Int32.ofNat C)), (2, .ref au), (1, .ref ao), (0, .ref b)]) hA ⟨by decide +kernel, rfl⟩ rfl (xi_add kk 1) (by decide) rfl ?_
      refine zl_goto (off := (-132)) (t := 60) hA (by decide +kernel) (by decide +kernel) ?_
      refine zl_sub (lv2 := [(5, .int (Int32.ofNat (kk + 1))), (4, .int bk), (3, .int (Int32.ofNat C)), (2, .ref au), (1, .ref ao), (0, .ref b)]) [0, 2, 3, 4, 5, 6] rfl ?_
      refine zLW_mono (ih (kk + 1) (CB + 4000) (SB + 40000) made2 mi2 mi3 sv svm svm2 c12 h12 c3 h3 sc sm sc3 sm3 mh2 mh3 _ _ (by omega) hg1 hg5 (PE_trans E2 (PE_symm (PE_trans hE5 hE4))) I1 hI5 (by omega) ?_ (by omega) (by omega)) (by omega) (by omega)
      rcases hB with z | ⟨z0, z⟩
      · rcases hm3 with y | ⟨y0, y⟩
        · exact Or.inl (by omega)
        · exact Or.inr ⟨by omega, fun t h1 h2 hb => absurd ((nI_eq (show kk < 2 ^ 31 by omega) (show t < 2 ^ 31 by omega)).mp (y0.symm.trans hb)) (by omega)⟩
      · rcases hm3 with y | ⟨y0, y⟩
        · exact Or.inr ⟨by omega, fun t h1 h2 => z t (by omega) h2⟩
        · exact absurd y0 (z kk (Nat.le_refl _) (by omega))
end LAW10
