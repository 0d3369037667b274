section LAW4
set_option maxRecDepth 100000
variable {p : Program} {l : Launch} {e : Env} {R : Room} {s : State} {m : MethodId} {args : Array Value} {below : List Frame} {meth : Method} {c : Code} {Q : State → Prop} {D : va_G} {en : XE} {ao au : Nat}
variable {CB SB k : Nat} {st : List Value} {lv : List (Nat × Value)} {φ ψ : FH}
theorem zc_low {d n sl v q : Nat} (hv : v < 4294967296) (hq : 0 < q) (hq2 : q < 2147483648) : x_f x_P (d + 1) 2 [(0, v, 0), (0, q, 0)] φ n sl (x_r φ n sl (0, (v &&& 2147483647) % q, 0)) := by
  have hand : v &&& 2147483647 < 2147483648 := Nat.lt_of_le_of_lt Nat.and_le_right (by decide)
  have hmod : (v &&& 2147483647) % q < q := Nat.mod_lt _ hq
  refine x_f_of rfl ?_
  refine q_load (v := (0, v, 0)) (p2 := 1) rfl rfl rfl rfl ?_
  refine q_const (p2 := 2) rfl rfl ?_
  refine q_iop (w := v &&& 2147483647) (z := v &&& 2147483647) (p2 := 3) rfl rfl (Nat.mod_eq_of_lt (by omega)) rfl ?_
  refine q_load (v := (0, q, 0)) (p2 := 4) rfl rfl rfl rfl ?_
  refine q_iop (w := (v &&& 2147483647) % q) (z := (v &&& 2147483647) % q) (p2 := 5) rfl ?_ (Nat.mod_eq_of_lt (by omega)) rfl ?_
  · show x_if (x_sgn (v &&& 2147483647)) none (x_if (x_sgn q) none (x_if (Nat.beq q 0) none (some ((v &&& 2147483647) % q)))) = some ((v &&& 2147483647) % q)
    rw [show x_sgn (v &&& 2147483647) = false from Bool.eq_false_iff.mpr (fun z => absurd (Nat.le_of_ble_eq_true z) (by omega)), show x_sgn q = false from Bool.eq_false_iff.mpr (fun z => absurd (Nat.le_of_ble_eq_true z) (by omega)), show Nat.beq q 0 = false from Bool.eq_false_iff.mpr (fun z => absurd (Nat.eq_of_beq_eq_true z) (by omega))]
    rfl
  · exact q_retv (v := (0, (v &&& 2147483647) % q, 0)) rfl rfl ⟨rfl, rfl, rfl, rfl, rfl⟩
/-- cell of the script: some int -/
theorem zm_cell (l : Launch) {b L : Nat} {xs : Nat → Int32} (hL : L < 2147483648) : Met l (xT.1 1) (xT.2.1 1) ({ frames := 9, cells := 0, slots := 0, locals := 192 }) (fun v U => (∃ j : Nat, j < 2147483648 ∧ v = ([Value.ref b, .int (Int32.ofNat j)] : List Value).toArray) ∧ va_X b L xs U U.heap ∧ b < U.heap.size) (fun _ st oc t => (∃ y : Int32, oc = .returned (some (.int y))) ∧ t.heap = st.heap) 0 0 (fun _ => False) := by
  refine Met.ofW (cc := method_2_code) (maxL := 2) (ret := some .int) (by decide +kernel) rfl ?_
  intro p e s m args below meth c s₁ B hml hv
  obtain ⟨⟨j, hj, rfl⟩, hX, hbl⟩ := hv
  obtain ⟨hx, hb, hr, hown, hlocks, hin, htsB, S⟩ := xb_all (C := "ExpressHouseLaw") B hml rfl rfl
  rw [lg_entry_eq]
  have hl := lv_entry ([Value.ref b, .int (Int32.ofNat j)] : List Value) (n := 2) (Nat.le_of_ble_eq_true rfl)
  have hl : lv_has ((lg_sl ([Value.ref b, .int (Int32.ofNat j)] : List Value) ++ List.replicate (2 - (lg_sl ([Value.ref b, .int (Int32.ofNat j)] : List Value)).length) Slot.unset).toArray) 2 [(0, .ref b), (1, .int (Int32.ofNat j))] := hl
  generalize ((lg_sl ([Value.ref b, .int (Int32.ofNat j)] : List Value) ++ List.replicate (2 - (lg_sl ([Value.ref b, .int (Int32.ofNat j)] : List Value)).length) Slot.unset).toArray) = ls at hl ⊢
  have hS : va_S (fun _ => False) s.heap s.heap [] := va_S.rf
  refine lv_iload_n hx hb (show decode method_2_code 0 = .ok (.iload_n 1, 1) by decide +kernel) rfl (lv_at hl 1 rfl) ?_
  refine lv_aload_n hx hb (show decode method_2_code 1 = .ok (.aload_n 0, 1) by decide +kernel) rfl (lv_at hl 0 rfl) ?_
  refine va_slen hx hb hX hbl (fun z => z) hS (show decode method_2_code 2 = .ok (.arraylength, 1) by decide +kernel) ?_
  refine lv_icmp_ge hx hb (show decode method_2_code 3 = .ok (.if_icmp .ge 9, 3) by decide +kernel) (tgt := 12) (by decide) (fun _ => ?_) (fun hlt => ?_)
  · refine lv_ldc hx hb hown (htsB _ xw_68) (show decode method_2_code 12 = .ok (.ldc 7, 2) by decide +kernel) ?_
    refine lv_iload_n hx hb (show decode method_2_code 14 = .ok (.iload_n 1, 1) by decide +kernel) rfl (lv_at hl 1 rfl) ?_
    refine lv_iconst hx hb (show decode method_2_code 15 = .ok (.iconst 3, 1) by decide +kernel) rfl ?_
    refine lv_iadd hx hb (show decode method_2_code 16 = .ok (.iadd, 1) by decide +kernel) ?_
    refine lv_imul hx hb (show decode method_2_code 17 = .ok (.imul, 1) by decide +kernel) ?_
    exact W.iret hx hb hr (fun t ht hW => ⟨⟨_, rfl⟩, ht⟩) hS.2.2 (show decode method_2_code 18 = .ok (.ireturn, 1) by decide +kernel)
  · have hlt2 : j < L := Nat.lt_of_not_le (fun z => hlt (nI_le z hj))
    refine lv_aload_n hx hb (show decode method_2_code 6 = .ok (.aload_n 0, 1) by decide +kernel) rfl (lv_at hl 0 rfl) ?_
    refine lv_iload_n hx hb (show decode method_2_code 7 = .ok (.iload_n 1, 1) by decide +kernel) rfl (lv_at hl 1 rfl) ?_
    refine va_sld hx hb hX hbl (fun z => z) hS (xn_in (Bool.eq_false_iff.mpr (fun z => absurd (Nat.le_of_ble_eq_true z) (by omega))) hlt2) (show decode method_2_code 8 = .ok (.iaload, 1) by decide +kernel) ?_
    refine lv_goto hx hb (show decode method_2_code 9 = .ok (.goto 9, 3) by decide +kernel) (tgt := 18) (by decide) ?_
    exact W.iret hx hb hr (fun t ht hW => ⟨⟨_, rfl⟩, ht⟩) hS.2.2 (show decode method_2_code 18 = .ok (.ireturn, 1) by decide +kernel)
theorem zi_of (y : Int32) : ∃ a, a < 4294967296 ∧ y = Int32.ofNat a := ⟨y.toBitVec.toNat, y.toBitVec.isLt, by
  refine Int32.toBitVec_inj.mp ?_
  rw [xi_bv, BitVec.ofNat_toNat, BitVec.setWidth_eq]⟩
theorem zl_cell {b L j : Nat} {xs : Nat → Int32} (hA : zAm p l R s m args meth c D en) (hX : va_X b L xs s s.heap) (hbl : b < s.heap.size) (hL : L ≤ 260) (hj : j < 2147483648) (hs : xs_call p l e R s m args below meth c D xcl (xT.1 1) (xT.2.1 1) (xT.2.2 1) lawrp 10 k (11, 1, 2, [(2, 0)])) (hcat : (st.map fun v => v.category).sum ≤ 8) (hCB : CB ≤ 600000) (hSB : SB ≤ 7302249)
    (kk : ∀ a, a < 4294967296 → zLW p l e R s m args below meth c Q D en ao au CB SB (k + 1) (.int (Int32.ofNat a) :: st) lv φ ψ) : zLW p l e R s m args below meth c Q D en ao au CB SB k (.int (Int32.ofNat j) :: .ref b :: st) lv φ ψ := by
  intro H locs cells slots ls n sl ad n' sl' ad' h1 h2 h3 h4 h5 h6 h7 h8
  obtain ⟨a1, a2, a3, a4, a5, a6, a7, a8, a9⟩ := hA
  obtain ⟨hs1, hs2, hs3⟩ := hs
  have hXH : va_X b L xs s H := hX.kept (h2.2.2.2.1.2.1 b hbl (Nat.not_le.mpr hbl))
  have hblH : b < H.size := Nat.lt_of_lt_of_le hbl h2.2.2.2.1.1
  have hpre : PreS s H (fun v U => (∃ j : Nat, j < 2147483648 ∧ v = ([Value.ref b, .int (Int32.ofNat j)] : List Value).toArray) ∧ va_X b L xs U U.heap ∧ b < U.heap.size) [Value.ref b, .int (Int32.ofNat j)] := by
    refine ⟨fun a U g mk q => ⟨q.1, va_X.moved (u := U) (U := U.calling g mk a) (Vm.Alike.refl U.vm) q.2.1, q.2.2⟩, fun U hU hW => ⟨⟨j, hj, rfl⟩, by rw [hU]; exact va_X.moved hW.alike hXH, by rw [hU]; exact hblH⟩⟩
  have hrunW := hs3 _ _ _ _ _ _ H locs cells slots ls [Value.ref b, .int (Int32.ofNat j)] st (zm_cell l (xs := xs) (b := b) (L := L) (by omega)) rfl rfl (by rw [a7]; decide) (by rw [a8]; exact Nat.le_of_ble_eq_true rfl) hpre rfl (Or.inl rfl) h1.1 hcat (by omega) (by omega)
  intro T0 hT X
  obtain ⟨v, st₀, t1, T', L2, e0, X', hLL, e1, e2, ⟨⟨y, hy⟩, hh⟩, stp⟩ := hrunW T0 hT X
  have ho : v = some (.int y) := Outcome.returned.inj hy
  subst ho
  obtain ⟨a, ha, rfl⟩ := zi_of y
  have hTH : T'.heap = H := by rw [e1, hh, e0]
  obtain ⟨t2, b1, b2⟩ := kk a ha H (locs ++ L2) (cells + 0) (slots + 0) ls n sl ad n' sl' ad' h1 ⟨h2.1, h2.2.1, h2.2.2.1, ⟨h2.2.2.2.1.1, h2.2.2.2.1.2.1, fun q hq => (List.mem_append.mp hq).elim (h2.2.2.2.1.2.2 q) (fun z => (hLL q z).elim)⟩, h2.2.2.2.2⟩ h3 h4 h5 h6 h7 h8 T' hTH X'
  rw [hs1] at b1
  exact ⟨t2, stp t2 b1, b2⟩
end LAW4
