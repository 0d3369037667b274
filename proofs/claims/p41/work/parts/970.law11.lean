section LAW11
set_option maxRecDepth 100000
variable {p : Program} {l : Launch} {e : Env} {R : Room} {s : State} {m : MethodId} {args : Array Value} {below : List Frame} {meth : Method} {c : Code} {Q : State → Prop} {D : va_G} {en : XE} {ao au : Nat}
set_option maxHeartbeats 4000000 in
/-- behind the first questions -/
theorem zs_44 {b L : Nat} {xs : Nat → Int32} {CB SB sv svm svm' : Nat} {c1 c2 : Nat → Nat} {sc sc' : Nat → Nat} {sm sm' : Nat → MV} {mh mh' : MV} {φ ψ : FH} (hA : zAm p l R s m args meth c D en) (hX : va_X b L xs s s.heap) (hbl : b < s.heap.size) (hL : L ≤ 260) (hG : zGv φ 0 0 sv svm c1 (fun _ => MV0) sc sm mh) (hG' : zGv ψ 0 0 0 svm' c2 (fun _ => MV0) sc' sm' mh') (hCB : CB ≤ 2000) (hSB : SB ≤ 200000)
    (hend : ∀ (CB SB : Nat) (lv : List (Nat × Value)) (φ ψ : FH), CB ≤ 600000 → SB ≤ 7302249 → zLW p l e R s m args below meth c Q D en ao au CB SB 323 [] lv φ ψ) :
    zLW p l e R s m args below meth c Q D en ao au CB SB 44 [] [(2, .ref au), (1, .ref ao), (0, .ref b)] φ ψ := by
  refine zl_iconst (z := 4) (v := Int32.ofNat 4) hA ⟨by decide +kernel, rfl⟩ (by decide +kernel) ?_
  refine zl_aload (j := 0) (q := 2) hA ⟨by decide +kernel, rfl⟩ rfl ?_
  refine zl_iconst (z := 0) (v := Int32.ofNat 0) hA ⟨by decide +kernel, rfl⟩ (by decide +kernel) ?_
  refine zl_cell (j := 0) hA hX hbl hL (by decide) (zs_47 hA.2.2.1) (Nat.le_of_ble_eq_true rfl) (by omega) (by omega) (fun a1 ha1 => ?_)
  show zLW p l e R s m args below meth c Q D en ao au CB SB 48 [.int (Int32.ofNat a1), .int (Int32.ofNat 4)] [(2, .ref au), (1, .ref ao), (0, .ref b)] φ ψ
  refine zl_bipush (z := 40) (v := Int32.ofNat 40) hA ⟨by decide +kernel, rfl⟩ (by decide +kernel) ?_
  refine zl_callS (i := (11, 2, 2, [(2, 0)])) (M := 2) (d := 1) (CN := 0) (CS := 0) (st := [.int (Int32.ofNat 4)]) [a1, 40] hA (zs_49 hA.2.2.1) (fun n sl hn => (bR_of_r (zc_low (d := 0) ha1 (by decide) (by decide)))) (fun w φ2 q => by rw [q.1]; exact Or.inl rfl) (Nat.le_of_ble_eq_true rfl) rfl rfl (Nat.le_of_ble_eq_true rfl) (Nat.le_of_ble_eq_true rfl) (Nat.le_of_ble_eq_true rfl) (by omega) (by omega) (fun w φ2 q => ?_)
  obtain ⟨rfl, e2⟩ := q
  rw [e2]
  show zLW p l e R s m args below meth c Q D en ao au (CB + 0) (SB + 0) 50 [.int (Int32.ofNat ((a1 &&& 2147483647) % 40)), .int (Int32.ofNat 4)] [(2, .ref au), (1, .ref ao), (0, .ref b)] φ ψ
  refine zl_iadd hA ⟨by decide +kernel, rfl⟩ ?_
  rw [xi_add]
  show zLW p l e R s m args below meth c Q D en ao au (CB + 0) (SB + 0) 51 [.int (Int32.ofNat (4 + (a1 &&& 2147483647) % 40))] [(2, .ref au), (1, .ref ao), (0, .ref b)] φ ψ
  have hr40 : (a1 &&& 2147483647) % 40 < 40 := Nat.mod_lt _ (by decide)
  generalize hC : 4 + (a1 &&& 2147483647) % 40 = C
  refine zl_istore3 (j := 3) (lv2 := [(3, .int (Int32.ofNat C)), (2, .ref au), (1, .ref ao), (0, .ref b)]) hA ⟨by decide +kernel, rfl⟩ (by decide) rfl ?_
  refine zl_aload (j := 0) (q := 3) hA ⟨by decide +kernel, rfl⟩ rfl ?_
  refine zl_iconst (z := 1) (v := Int32.ofNat 1) hA ⟨by decide +kernel, rfl⟩ (by decide +kernel) ?_
  refine zl_cell (j := 1) hA hX hbl hL (by decide) (zs_54 hA.2.2.1) (Nat.le_of_ble_eq_true rfl) (by omega) (by omega) (fun a3 ha3 => ?_)
  show zLW p l e R s m args below meth c Q D en ao au (CB + 0) (SB + 0) 55 [.int (Int32.ofNat a3)] [(3, .int (Int32.ofNat C)), (2, .ref au), (1, .ref ao), (0, .ref b)] φ ψ
  refine zl_iload3 (j := 3) (q := 0) hA ⟨by decide +kernel, rfl⟩ rfl ?_
  refine zl_callS (i := (11, 2, 2, [(2, 0)])) (M := 2) (d := 1) (CN := 0) (CS := 0) (st := []) [a3, C] hA (zs_56 hA.2.2.1) (fun n sl hn => (bR_of_r (zc_low (d := 0) ha3 (by omega) (by omega)))) (fun w φ2 q => by rw [q.1]; exact Or.inl rfl) (Nat.le_of_ble_eq_true rfl) rfl rfl (Nat.le_of_ble_eq_true rfl) (Nat.le_of_ble_eq_true rfl) (Nat.le_of_ble_eq_true rfl) (by omega) (by omega) (fun w φ4 q => ?_)
  obtain ⟨rfl, e4⟩ := q
  rw [e4]
  show zLW p l e R s m args below meth c Q D en ao au (CB + 0 + 0) (SB + 0 + 0) 57 [.int (Int32.ofNat ((a3 &&& 2147483647) % C))] [(3, .int (Int32.ofNat C)), (2, .ref au), (1, .ref ao), (0, .ref b)] φ ψ
  refine zl_istore (i := 4) (lv2 := [(4, .int (Int32.ofNat ((a3 &&& 2147483647) % C))), (3, .int (Int32.ofNat C)), (2, .ref au), (1, .ref ao), (0, .ref b)]) hA ⟨by decide +kernel, rfl⟩ (by decide) rfl ?_
  refine zl_iconst (z := 0) (v := Int32.ofNat 0) hA ⟨by decide +kernel, rfl⟩ (by decide +kernel) ?_
  refine zl_istore (i := 5) (lv2 := [(5, .int (Int32.ofNat 0)), (4, .int (Int32.ofNat ((a3 &&& 2147483647) % C))), (3, .int (Int32.ofNat C)), (2, .ref au), (1, .ref ao), (0, .ref b)]) hA ⟨by decide +kernel, rfl⟩ (by decide) rfl ?_
  refine zl_sub (lv2 := [(5, .int (Int32.ofNat 0)), (4, .int (Int32.ofNat ((a3 &&& 2147483647) % C))), (3, .int (Int32.ofNat C)), (2, .ref au), (1, .ref ao), (0, .ref b)]) [0, 1, 2, 3, 4, 5] rfl ?_
  exact zk_all hA hX hbl hL (by omega) hend C 0 _ _ 0 0 0 sv svm svm' c1 (fun _ => MV0) c2 (fun _ => MV0) sc sm sc' sm' mh mh' _ _ (by omega) hG hG' ⟨fun i hi => absurd hi (Nat.not_lt_zero _), fun i hi => rfl⟩ MI_0 MI_0 (by omega) (Or.inl (by omega)) (by omega) (by omega)
end LAW11
