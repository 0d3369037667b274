section AMSTR
/-- what String's own methods lean on -/
def xS0 (adK adV : Nat → Nat) (U : State) : Prop := vk_S x_strs.length xSn xSb adK adV (fun _ => False) U U.heap ∧ va_Z "java/lang/String" "COMPACT_STRINGS" "Z" (.int 1) (fun _ => False) U U.heap ∧ va_Zq "jdk/internal/util/Preconditions" "SIOOBE_FORMATTER" "Ljava/util/function/BiFunction;" (fun _ => False) U U.heap
theorem xS0_calling {adK adV : Nat → Nat} {U : State} {g : JFrame} {mk : MethodId} {a : Array Value} (h : xS0 adK adV U) : xS0 adK adV (U.calling g mk a) :=
  ⟨vk_S.moved (u := U) (U := U.calling g mk a) (Vm.Alike.refl U.vm) h.1, va_Z.moved (u := U) (U := U.calling g mk a) (Vm.Alike.refl U.vm) h.2.1, va_Zq.moved (u := U) (U := U.calling g mk a) (Vm.Alike.refl U.vm) h.2.2⟩
theorem xS0_to {adK adV : Nat → Nat} {s U : State} (hU : U.heap = s.heap) (hW : s.WarmedH U.vm) (h : xS0 adK adV s) : xS0 adK adV U := by
  unfold xS0
  rw [hU]
  exact ⟨vk_S.moved hW.alike h.1, va_Z.moved hW.alike h.2.1, va_Zq.moved hW.alike h.2.2⟩
theorem xS_len : ∀ i, i < x_strs.length → xSn.getD i 0 < 2 ^ 31 := by decide +kernel
theorem xS_ch : ∀ i, i < x_strs.length → ∀ k, k < xSn.getD i 0 → (((xSb.getD i []).getD k 0 &&& 255).toUInt32 % 65536).toInt32 = (xSb.getD i []).getD k 0 ∧ narrow .char (.int ((xSb.getD i []).getD k 0)) = .int ((xSb.getD i []).getD k 0) := by decide +kernel
theorem xj_coder (l : Launch) (adK adV : Nat → Nat) (i : Nat) (hi : i < x_strs.length) : Met l ⟨"java/lang/String", "coder", "()B"⟩ (.code ⟨"java/lang/String", "coder", "()B"⟩ prog_42_method_152_code 1 (some .byte) :: xBIG) ({ frames := 0, cells := 0, slots := 0, locals := 0 }) (fun v U => v = #[.ref (adK i)] ∧ xS0 adK adV U) (QcRead 0) 0 0 (fun _ => False) := by
  refine Met.ofW (cc := prog_42_method_152_code) (maxL := 1) (ret := (some .byte)) (by decide +kernel) rfl ?_
  intro p e s m args below meth c s₁ B hml hv
  obtain ⟨hx, hb, hr, hown, hlocks, hin, htsB, S⟩ := xb_all (C := "java/lang/String") B hml rfl rfl
  obtain ⟨rfl, hpre⟩ := hv
  have hE := hpre.1
  have hZ := hpre.2.1

  have hS : va_S (fun _ => False) s.heap s.heap [] := va_S.rf
  have hl := lv_entry ([.ref (adK i)]) (n := 1) (Nat.le_of_ble_eq_true rfl)
  rw [lg_entry_eq]
  generalize (lg_sl ([.ref (adK i)]) ++ List.replicate (1 - (lg_sl ([.ref (adK i)])).length) Slot.unset).toArray = ls at hl ⊢
  have hl : lv_has ls 1 [(0, .ref (adK i))] := hl
  refine va_gets hx hb hZ hS hown (htsB _ xw_1455) (fun _ h => h) (show decode prog_42_method_152_code 0 = .ok (.getstatic 38, 3) by decide +kernel) ?_
  refine lv_if_eq hx hb (show decode prog_42_method_152_code 3 = .ok (.ifCond .eq 10, 3) by decide +kernel) (tgt := 13) (by decide +kernel) (fun h => by cases h) (fun _ => ?_)
  refine lv_aload_n hx hb (show decode prog_42_method_152_code 6 = .ok (.aload_n 0, 1) by decide +kernel) rfl (lv_at hl 0 rfl) ?_
  refine vk_getf hx hb (hE.1 i hi).2.1 hS hown (htsB _ xw_1456) (fun _ h => h) (show decode prog_42_method_152_code 7 = .ok (.getfield 15, 3) by decide +kernel) ?_
  refine lv_goto hx hb (show decode prog_42_method_152_code 10 = .ok (.goto 4, 3) by decide +kernel) (tgt := 14) (by decide +kernel) ?_
  exact W.zret hx hb hr rfl  (fun t ht _ => ⟨rfl, ht⟩) (fun q hq => by cases hq)  (show decode prog_42_method_152_code 14 = .ok (.ireturn, 1) by decide +kernel)
theorem xj_isL (l : Launch) (adK adV : Nat → Nat) (i : Nat) (hi : i < x_strs.length) : Met l ⟨"java/lang/String", "isLatin1", "()Z"⟩ (.code ⟨"java/lang/String", "isLatin1", "()Z"⟩ prog_42_method_154_code 1 (some .boolean) :: xBIG) ({ frames := 0, cells := 0, slots := 0, locals := 0 }) (fun v U => v = #[.ref (adK i)] ∧ xS0 adK adV U) (QcRead 1) 0 0 (fun _ => False) := by
  refine Met.ofW (cc := prog_42_method_154_code) (maxL := 1) (ret := (some .boolean)) (by decide +kernel) rfl ?_
  intro p e s m args below meth c s₁ B hml hv
  obtain ⟨hx, hb, hr, hown, hlocks, hin, htsB, S⟩ := xb_all (C := "java/lang/String") B hml rfl rfl
  obtain ⟨rfl, hpre⟩ := hv
  have hE := hpre.1
  have hZ := hpre.2.1

  have hS : va_S (fun _ => False) s.heap s.heap [] := va_S.rf
  have hl := lv_entry ([.ref (adK i)]) (n := 1) (Nat.le_of_ble_eq_true rfl)
  rw [lg_entry_eq]
  generalize (lg_sl ([.ref (adK i)]) ++ List.replicate (1 - (lg_sl ([.ref (adK i)])).length) Slot.unset).toArray = ls at hl ⊢
  have hl : lv_has ls 1 [(0, .ref (adK i))] := hl
  refine va_gets hx hb hZ hS hown (htsB _ xw_1455) (fun _ h => h) (show decode prog_42_method_154_code 0 = .ok (.getstatic 38, 3) by decide +kernel) ?_
  refine lv_if_eq hx hb (show decode prog_42_method_154_code 3 = .ok (.ifCond .eq 14, 3) by decide +kernel) (tgt := 17) (by decide +kernel) (fun h => by cases h) (fun _ => ?_)
  refine lv_aload_n hx hb (show decode prog_42_method_154_code 6 = .ok (.aload_n 0, 1) by decide +kernel) rfl (lv_at hl 0 rfl) ?_
  refine vk_getf hx hb (hE.1 i hi).2.1 hS hown (htsB _ xw_1456) (fun _ h => h) (show decode prog_42_method_154_code 7 = .ok (.getfield 15, 3) by decide +kernel) ?_
  refine lv_if_ne hx hb (show decode prog_42_method_154_code 10 = .ok (.ifCond .ne 7, 3) by decide +kernel) (tgt := 17) (by decide +kernel) (fun h => absurd rfl h) (fun _ => ?_)
  refine lv_iconst (v := 1) hx hb (show decode prog_42_method_154_code 13 = .ok (.iconst 1, 1) by decide +kernel) (by decide +kernel) ?_
  refine lv_goto hx hb (show decode prog_42_method_154_code 14 = .ok (.goto 4, 3) by decide +kernel) (tgt := 18) (by decide +kernel) ?_
  exact W.zret hx hb hr rfl  (fun t ht _ => ⟨rfl, ht⟩) (fun q hq => by cases hq)  (show decode prog_42_method_154_code 18 = .ok (.ireturn, 1) by decide +kernel)
theorem xj_length (l : Launch) (adK adV : Nat → Nat) (i : Nat) (hi : i < x_strs.length) : Met l ⟨"java/lang/String", "length", "()I"⟩ (.code ⟨"java/lang/String", "length", "()I"⟩ prog_42_method_54_code 1 (some .int) :: xBIG) ({ frames := 1, cells := 0, slots := 0, locals := 20 }) (fun v U => v = #[.ref (adK i)] ∧ xS0 adK adV U) (QcRead (Int32.ofNat (xSn.getD i 0))) 0 0 (fun _ => False) := by
  refine Met.ofW (cc := prog_42_method_54_code) (maxL := 1) (ret := (some .int)) (by decide +kernel) rfl ?_
  intro p e s m args below meth c s₁ B hml hv
  obtain ⟨hx, hb, hr, hown, hlocks, hin, htsB, S⟩ := xb_all (C := "java/lang/String") B hml rfl rfl
  obtain ⟨rfl, hpre⟩ := hv
  have hE := hpre.1
  have hZ := hpre.2.1

  have hS : va_S (fun _ => False) s.heap s.heap [] := va_S.rf
  have hl := lv_entry ([.ref (adK i)]) (n := 1) (Nat.le_of_ble_eq_true rfl)
  rw [lg_entry_eq]
  generalize (lg_sl ([.ref (adK i)]) ++ List.replicate (1 - (lg_sl ([.ref (adK i)])).length) Slot.unset).toArray = ls at hl ⊢
  have hl : lv_has ls 1 [(0, .ref (adK i))] := hl
  refine lv_aload_n hx hb (show decode prog_42_method_54_code 0 = .ok (.aload_n 0, 1) by decide +kernel) rfl (lv_at hl 0 rfl) ?_
  refine vk_getf hx hb (hE.1 i hi).2.2.1 hS hown (htsB _ xw_1457) (fun _ h => h) (show decode prog_42_method_54_code 1 = .ok (.getfield 9, 3) by decide +kernel) ?_
  refine va_tlen hx hb (hE.1 i hi).2.2.2 hS rfl (show decode prog_42_method_54_code 4 = .ok (.arraylength, 1) by decide +kernel) ?_
  refine lv_aload_n hx hb (show decode prog_42_method_54_code 5 = .ok (.aload_n 0, 1) by decide +kernel) rfl (lv_at hl 0 rfl) ?_
  refine W.callR (W.runV (C := "java/lang/String") S (xj_coder l adK adV i hi) ⟨callB_of 0 htsB (xg_of xw_1459) rfl rfl rfl (htsB _ xw_1460) (htsB _ xw_1458) ⟨by decide, by decide, by decide +kernel⟩ (by exact ⟨by decide, by decide⟩), htsB _ xw_1461, htsB _ xw_1462⟩ ⟨(fun a U g mk q => by obtain ⟨q0, q1⟩ := q; exact ⟨q0, xS0_calling q1⟩), vk_recv hE hi hS, fun U hU hW => ⟨rfl, xS0_to hU hW hpre⟩⟩ rfl rfl hl.1 rfl (lv_room (Nat.le_of_ble_eq_true rfl)) (show decode prog_42_method_54_code 6 = .ok (.invokevirtual 335, 3) by decide +kernel) ⟨Nat.zero_le _, Nat.zero_le _⟩) ?_
  refine lv_ishr hx hb (show decode prog_42_method_54_code 9 = .ok (.ishr, 1) by decide +kernel) ?_
  have e : Int32.ofNat (xSn.getD i 0) >>> ((0 : Int32) &&& 31) = Int32.ofNat (xSn.getD i 0) := by
    have := xi_shr (xS_len i hi) 0
    exact this
  rw [e]
  exact W.iret hx hb hr  (fun t ht _ => ⟨rfl, ht⟩) (fun q hq => by cases hq)  (show decode prog_42_method_54_code 10 = .ok (.ireturn, 1) by decide +kernel)
theorem xj_pcR (l : Launch) (a b : Nat) (hab : a < b) (hb31 : b < 2 ^ 31) (z : Nat) : Met l ⟨"jdk/internal/util/Preconditions", "checkIndex", "(IILjava/util/function/BiFunction;)I"⟩ (.code ⟨"jdk/internal/util/Preconditions", "checkIndex", "(IILjava/util/function/BiFunction;)I"⟩ prog_47_method_11_code 3 (some .int) :: xBIG) ({ frames := 0, cells := 0, slots := 0, locals := 0 }) (fun v U => v = #[.int (nI a), .int (nI b), .ref z] ∧ True) (QcRead (nI a)) 0 0 (fun _ => False) := by
  refine Met.ofW (cc := prog_47_method_11_code) (maxL := 3) (ret := (some .int)) (by decide +kernel) rfl ?_
  intro p e s m args below meth c s₁ B hml hv
  obtain ⟨hx, hb, hr, hown, hlocks, hin, htsB, S⟩ := xb_all (C := "jdk/internal/util/Preconditions") B hml rfl rfl
  obtain ⟨rfl, hpre⟩ := hv

  have hS : va_S (fun _ => False) s.heap s.heap [] := va_S.rf
  have hl := lv_entry ([.int (nI a), .int (nI b), .ref z]) (n := 3) (Nat.le_of_ble_eq_true rfl)
  rw [lg_entry_eq]
  generalize (lg_sl ([.int (nI a), .int (nI b), .ref z]) ++ List.replicate (3 - (lg_sl ([.int (nI a), .int (nI b), .ref z])).length) Slot.unset).toArray = ls at hl ⊢
  have hl : lv_has ls 3 [(0, .int (nI a)), (1, .int (nI b)), (2, .ref z)] := hl
  refine lv_iload_n hx hb (show decode prog_47_method_11_code 0 = .ok (.iload_n 0, 1) by decide +kernel) rfl (lv_at hl 0 rfl) ?_
  refine lv_if_lt hx hb (show decode prog_47_method_11_code 1 = .ok (.ifCond .lt 8, 3) by decide +kernel) (tgt := 9) (by decide +kernel) (fun h => absurd h (nI_pos (by omega))) (fun _ => ?_)
  refine lv_iload_n hx hb (show decode prog_47_method_11_code 4 = .ok (.iload_n 0, 1) by decide +kernel) rfl (lv_at hl 0 rfl) ?_
  refine lv_iload_n hx hb (show decode prog_47_method_11_code 5 = .ok (.iload_n 1, 1) by decide +kernel) rfl (lv_at hl 1 rfl) ?_
  refine lv_icmp_lt hx hb (show decode prog_47_method_11_code 6 = .ok (.if_icmp .lt 10, 3) by decide +kernel) (tgt := 16) (by decide +kernel) (fun _ => ?_) (fun h => absurd (nI_lt hab hb31) h)
  refine lv_iload_n hx hb (show decode prog_47_method_11_code 16 = .ok (.iload_n 0, 1) by decide +kernel) rfl (lv_at hl 0 rfl) ?_
  exact W.iret hx hb hr  (fun t ht _ => ⟨rfl, ht⟩) (fun q hq => by cases hq)  (show decode prog_47_method_11_code 17 = .ok (.ireturn, 1) by decide +kernel)
theorem xj_pcN (l : Launch) (a b : Nat) (hab : a < b) (hb31 : b < 2 ^ 31)  : Met l ⟨"jdk/internal/util/Preconditions", "checkIndex", "(IILjava/util/function/BiFunction;)I"⟩ (.code ⟨"jdk/internal/util/Preconditions", "checkIndex", "(IILjava/util/function/BiFunction;)I"⟩ prog_47_method_11_code 3 (some .int) :: xBIG) ({ frames := 0, cells := 0, slots := 0, locals := 0 }) (fun v U => v = #[.int (nI a), .int (nI b), .null] ∧ True) (QcRead (nI a)) 0 0 (fun _ => False) := by
  refine Met.ofW (cc := prog_47_method_11_code) (maxL := 3) (ret := (some .int)) (by decide +kernel) rfl ?_
  intro p e s m args below meth c s₁ B hml hv
  obtain ⟨hx, hb, hr, hown, hlocks, hin, htsB, S⟩ := xb_all (C := "jdk/internal/util/Preconditions") B hml rfl rfl
  obtain ⟨rfl, hpre⟩ := hv

  have hS : va_S (fun _ => False) s.heap s.heap [] := va_S.rf
  have hl := lv_entry ([.int (nI a), .int (nI b), .null]) (n := 3) (Nat.le_of_ble_eq_true rfl)
  rw [lg_entry_eq]
  generalize (lg_sl ([.int (nI a), .int (nI b), .null]) ++ List.replicate (3 - (lg_sl ([.int (nI a), .int (nI b), .null])).length) Slot.unset).toArray = ls at hl ⊢
  have hl : lv_has ls 3 [(0, .int (nI a)), (1, .int (nI b)), (2, .null)] := hl
  refine lv_iload_n hx hb (show decode prog_47_method_11_code 0 = .ok (.iload_n 0, 1) by decide +kernel) rfl (lv_at hl 0 rfl) ?_
  refine lv_if_lt hx hb (show decode prog_47_method_11_code 1 = .ok (.ifCond .lt 8, 3) by decide +kernel) (tgt := 9) (by decide +kernel) (fun h => absurd h (nI_pos (by omega))) (fun _ => ?_)
  refine lv_iload_n hx hb (show decode prog_47_method_11_code 4 = .ok (.iload_n 0, 1) by decide +kernel) rfl (lv_at hl 0 rfl) ?_
  refine lv_iload_n hx hb (show decode prog_47_method_11_code 5 = .ok (.iload_n 1, 1) by decide +kernel) rfl (lv_at hl 1 rfl) ?_
  refine lv_icmp_lt hx hb (show decode prog_47_method_11_code 6 = .ok (.if_icmp .lt 10, 3) by decide +kernel) (tgt := 16) (by decide +kernel) (fun _ => ?_) (fun h => absurd (nI_lt hab hb31) h)
  refine lv_iload_n hx hb (show decode prog_47_method_11_code 16 = .ok (.iload_n 0, 1) by decide +kernel) rfl (lv_at hl 0 rfl) ?_
  exact W.iret hx hb hr  (fun t ht _ => ⟨rfl, ht⟩) (fun q hq => by cases hq)  (show decode prog_47_method_11_code 17 = .ok (.ireturn, 1) by decide +kernel)
theorem xj_ci (l : Launch) (adK adV : Nat → Nat) (a b : Nat) (hab : a < b) (hb31 : b < 2 ^ 31) : Met l ⟨"java/lang/String", "checkIndex", "(II)V"⟩ (.code ⟨"java/lang/String", "checkIndex", "(II)V"⟩ prog_42_method_155_code 2 none :: xBIG) ({ frames := 1, cells := 0, slots := 0, locals := 22 }) (fun v U => v = #[.int (nI a), .int (nI b)] ∧ xS0 adK adV U) (va_Sv (fun _ => True)) 0 0 (fun _ => False) := by
  refine Met.ofW (cc := prog_42_method_155_code) (maxL := 2) (ret := none) (by decide +kernel) rfl ?_
  intro p e s m args below meth c s₁ B hml hv
  obtain ⟨hx, hb, hr, hown, hlocks, hin, htsB, S⟩ := xb_all (C := "java/lang/String") B hml rfl rfl
  obtain ⟨rfl, hpre⟩ := hv

  have hS : va_S (fun _ => False) s.heap s.heap [] := va_S.rf
  have hl := lv_entry ([.int (nI a), .int (nI b)]) (n := 2) (Nat.le_of_ble_eq_true rfl)
  rw [lg_entry_eq]
  generalize (lg_sl ([.int (nI a), .int (nI b)]) ++ List.replicate (2 - (lg_sl ([.int (nI a), .int (nI b)])).length) Slot.unset).toArray = ls at hl ⊢
  have hl : lv_has ls 2 [(0, .int (nI a)), (1, .int (nI b))] := hl
  refine lv_iload_n hx hb (show decode prog_42_method_155_code 0 = .ok (.iload_n 0, 1) by decide +kernel) rfl (lv_at hl 0 rfl) ?_
  refine lv_iload_n hx hb (show decode prog_42_method_155_code 1 = .ok (.iload_n 1, 1) by decide +kernel) rfl (lv_at hl 1 rfl) ?_
  rcases hpre.2.2 with hq | ⟨z, hq⟩
  · refine va_gets hx hb hq hS hown (htsB _ xw_1464) (fun _ h => h) (show decode prog_42_method_155_code 2 = .ok (.getstatic 1053, 3) by decide +kernel) ?_
    refine W.callR (W.runS S (xj_pcN l a b hab hb31) ⟨callB_of 3 htsB (xg_of xw_1465) rfl rfl rfl (htsB _ xw_1466) (htsB _ xw_1463) ⟨by decide, by decide, by decide +kernel⟩ (by exact ⟨by decide, by decide⟩), htsB _ xw_1467⟩ ⟨fun a U g mk q => q, fun U hU hW => ⟨rfl, trivial⟩⟩ rfl rfl hl.1 rfl (lv_room (Nat.le_of_ble_eq_true rfl)) (show decode prog_42_method_155_code 5 = .ok (.invokestatic 1059, 3) by decide +kernel) ⟨Nat.zero_le _, Nat.zero_le _⟩) ?_
    refine lv_pop hx hb (show decode prog_42_method_155_code 8 = .ok (.pop, 1) by decide +kernel) rfl ?_
    exact W.vret hx hb hr (fun t ht _ => ⟨rfl, trivial, ht⟩) (fun q hq => by cases hq) (show decode prog_42_method_155_code 9 = .ok (.return_, 1) by decide +kernel)
  · refine va_gets hx hb hq hS hown (htsB _ xw_1464) (fun _ h => h) (show decode prog_42_method_155_code 2 = .ok (.getstatic 1053, 3) by decide +kernel) ?_
    refine W.callR (W.runS S (xj_pcR l a b hab hb31 z) ⟨callB_of 3 htsB (xg_of xw_1465) rfl rfl rfl (htsB _ xw_1466) (htsB _ xw_1463) ⟨by decide, by decide, by decide +kernel⟩ (by exact ⟨by decide, by decide⟩), htsB _ xw_1467⟩ ⟨fun a U g mk q => q, fun U hU hW => ⟨rfl, trivial⟩⟩ rfl rfl hl.1 rfl (lv_room (Nat.le_of_ble_eq_true rfl)) (show decode prog_42_method_155_code 5 = .ok (.invokestatic 1059, 3) by decide +kernel) ⟨Nat.zero_le _, Nat.zero_le _⟩) ?_
    refine lv_pop hx hb (show decode prog_42_method_155_code 8 = .ok (.pop, 1) by decide +kernel) rfl ?_
    exact W.vret hx hb hr (fun t ht _ => ⟨rfl, trivial, ht⟩) (fun q hq => by cases hq) (show decode prog_42_method_155_code 9 = .ok (.return_, 1) by decide +kernel)
theorem xj_l1 (l : Launch) (adK adV : Nat → Nat) (i k : Nat) (hi : i < x_strs.length) (hk : k < xSn.getD i 0) : Met l ⟨"java/lang/StringLatin1", "charAt", "([BI)C"⟩ (.code ⟨"java/lang/StringLatin1", "charAt", "([BI)C"⟩ prog_43_method_2_code 2 (some .char) :: xBIG) ({ frames := 2, cells := 0, slots := 0, locals := 43 }) (fun v U => v = #[.ref (adV i), .int (nI k)] ∧ xS0 adK adV U) (QcRead ((xSb.getD i []).getD k 0)) 0 0 (fun _ => False) := by
  refine Met.ofW (cc := prog_43_method_2_code) (maxL := 2) (ret := (some .char)) (by decide +kernel) rfl ?_
  intro p e s m args below meth c s₁ B hml hv
  obtain ⟨hx, hb, hr, hown, hlocks, hin, htsB, S⟩ := xb_all (C := "java/lang/StringLatin1") B hml rfl rfl
  obtain ⟨rfl, hpre⟩ := hv
  have hE := hpre.1
  have hZ := hpre.2.1

  have hS : va_S (fun _ => False) s.heap s.heap [] := va_S.rf
  have hl := lv_entry ([.ref (adV i), .int (nI k)]) (n := 2) (Nat.le_of_ble_eq_true rfl)
  rw [lg_entry_eq]
  generalize (lg_sl ([.ref (adV i), .int (nI k)]) ++ List.replicate (2 - (lg_sl ([.ref (adV i), .int (nI k)])).length) Slot.unset).toArray = ls at hl ⊢
  have hl : lv_has ls 2 [(0, .ref (adV i)), (1, .int (nI k))] := hl
  refine lv_iload_n hx hb (show decode prog_43_method_2_code 0 = .ok (.iload_n 1, 1) by decide +kernel) rfl (lv_at hl 1 rfl) ?_
  refine lv_aload_n hx hb (show decode prog_43_method_2_code 1 = .ok (.aload_n 0, 1) by decide +kernel) rfl (lv_at hl 0 rfl) ?_
  refine va_tlen hx hb (hE.1 i hi).2.2.2 hS rfl (show decode prog_43_method_2_code 2 = .ok (.arraylength, 1) by decide +kernel) ?_
  refine va_csv (W.runS S (xj_ci l adK adV k (xSn.getD i 0) hk (xS_len i hi)) ⟨callB_of 2 htsB (xg_of xw_1469) rfl rfl rfl (htsB _ xw_1460) (htsB _ xw_1468) ⟨by decide, by decide, by decide +kernel⟩ (by exact ⟨by decide, by decide⟩), htsB _ xw_1470⟩ ⟨(fun a U g mk q => by obtain ⟨q0, q1⟩ := q; exact ⟨q0, xS0_calling q1⟩), fun U hU hW => ⟨rfl, xS0_to hU hW hpre⟩⟩ rfl rfl hl.1 rfl (lv_room (Nat.le_of_ble_eq_true rfl)) (show decode prog_43_method_2_code 3 = .ok (.invokestatic 9, 3) by decide +kernel) ⟨Nat.zero_le _, Nat.zero_le _⟩) (fun _ => ?_)
  refine lv_aload_n hx hb (show decode prog_43_method_2_code 6 = .ok (.aload_n 0, 1) by decide +kernel) rfl (lv_at hl 0 rfl) ?_
  refine lv_iload_n hx hb (show decode prog_43_method_2_code 7 = .ok (.iload_n 1, 1) by decide +kernel) rfl (lv_at hl 1 rfl) ?_
  refine va_tb hx hb (hE.1 i hi).2.2.2 hS (vp_in_nI hk (xS_len i hi)) (by rw [nI_clamp (Nat.lt_trans hk (xS_len i hi))]) (show decode prog_43_method_2_code 8 = .ok (.baload, 1) by decide +kernel) ?_
  refine lv_sipush (v := 255) hx hb (show decode prog_43_method_2_code 9 = .ok (.sipush 255, 3) by decide +kernel) (by decide +kernel) ?_
  refine lv_iand hx hb (show decode prog_43_method_2_code 12 = .ok (.iand, 1) by decide +kernel) ?_
  refine lv_i2c hx hb (show decode prog_43_method_2_code 13 = .ok (.i2c, 1) by decide +kernel) (xS_ch i hi k hk).1 ?_
  exact W.zret hx hb hr (xS_ch i hi k hk).2  (fun t ht _ => ⟨rfl, ht⟩) (fun q hq => by cases hq)  (show decode prog_43_method_2_code 14 = .ok (.ireturn, 1) by decide +kernel)
theorem xj_charAt (l : Launch) (adK adV : Nat → Nat) (i k : Nat) (hi : i < x_strs.length) (hk : k < xSn.getD i 0) : Met l ⟨"java/lang/String", "charAt", "(I)C"⟩ (.code ⟨"java/lang/String", "charAt", "(I)C"⟩ prog_42_method_56_code 2 (some .char) :: xBIG) ({ frames := 3, cells := 0, slots := 0, locals := 64 }) (fun v U => v = #[.ref (adK i), .int (nI k)] ∧ xS0 adK adV U) (QcRead ((xSb.getD i []).getD k 0)) 0 0 (fun _ => False) := by
  refine Met.ofW (cc := prog_42_method_56_code) (maxL := 2) (ret := (some .char)) (by decide +kernel) rfl ?_
  intro p e s m args below meth c s₁ B hml hv
  obtain ⟨hx, hb, hr, hown, hlocks, hin, htsB, S⟩ := xb_all (C := "java/lang/String") B hml rfl rfl
  obtain ⟨rfl, hpre⟩ := hv
  have hE := hpre.1
  have hZ := hpre.2.1

  have hS : va_S (fun _ => False) s.heap s.heap [] := va_S.rf
  have hl := lv_entry ([.ref (adK i), .int (nI k)]) (n := 2) (Nat.le_of_ble_eq_true rfl)
  rw [lg_entry_eq]
  generalize (lg_sl ([.ref (adK i), .int (nI k)]) ++ List.replicate (2 - (lg_sl ([.ref (adK i), .int (nI k)])).length) Slot.unset).toArray = ls at hl ⊢
  have hl : lv_has ls 2 [(0, .ref (adK i)), (1, .int (nI k))] := hl
  refine lv_aload_n hx hb (show decode prog_42_method_56_code 0 = .ok (.aload_n 0, 1) by decide +kernel) rfl (lv_at hl 0 rfl) ?_
  refine W.callR (W.runV (C := "java/lang/String") S (xj_isL l adK adV i hi) ⟨callB_of 0 htsB (xg_of xw_1473) rfl rfl rfl (htsB _ xw_1460) (htsB _ xw_1471) ⟨by decide, by decide, by decide +kernel⟩ (by exact ⟨by decide, by decide⟩), htsB _ xw_1474, htsB _ xw_1475⟩ ⟨(fun a U g mk q => by obtain ⟨q0, q1⟩ := q; exact ⟨q0, xS0_calling q1⟩), vk_recv hE hi hS, fun U hU hW => ⟨rfl, xS0_to hU hW hpre⟩⟩ rfl rfl hl.1 rfl (lv_room (Nat.le_of_ble_eq_true rfl)) (show decode prog_42_method_56_code 1 = .ok (.invokevirtual 492, 3) by decide +kernel) ⟨Nat.zero_le _, Nat.zero_le _⟩) ?_
  refine W.eq (g2 := F0 m 4 ls [Value.int 1]) rfl ?_
  refine lv_if_eq hx hb (show decode prog_42_method_56_code 4 = .ok (.ifCond .eq 12, 3) by decide +kernel) (tgt := 16) (by decide +kernel) (fun h => by cases h) (fun _ => ?_)
  refine lv_aload_n hx hb (show decode prog_42_method_56_code 7 = .ok (.aload_n 0, 1) by decide +kernel) rfl (lv_at hl 0 rfl) ?_
  refine vk_getf hx hb (hE.1 i hi).2.2.1 hS hown (htsB _ xw_1457) (fun _ h => h) (show decode prog_42_method_56_code 8 = .ok (.getfield 9, 3) by decide +kernel) ?_
  refine lv_iload_n hx hb (show decode prog_42_method_56_code 11 = .ok (.iload_n 1, 1) by decide +kernel) rfl (lv_at hl 1 rfl) ?_
  refine W.callR (W.runS S (xj_l1 l adK adV i k hi hk) ⟨callB_of 2 htsB (xg_of xw_1476) rfl rfl rfl (htsB _ xw_1477) (htsB _ xw_1472) ⟨by decide, by decide, by decide +kernel⟩ (by exact ⟨by decide, by decide⟩), htsB _ xw_1478⟩ ⟨(fun a U g mk q => by obtain ⟨q0, q1⟩ := q; exact ⟨q0, xS0_calling q1⟩), fun U hU hW => ⟨rfl, xS0_to hU hW hpre⟩⟩ rfl rfl hl.1 rfl (lv_room (Nat.le_of_ble_eq_true rfl)) (show decode prog_42_method_56_code 12 = .ok (.invokestatic 495, 3) by decide +kernel) ⟨Nat.zero_le _, Nat.zero_le _⟩) ?_
  exact W.zret hx hb hr (xS_ch i hi k hk).2  (fun t ht _ => ⟨rfl, ht⟩) (fun q hq => by cases hq)  (show decode prog_42_method_56_code 15 = .ok (.ireturn, 1) by decide +kernel)
theorem xc_slen {p : Program} {l : Launch} {e : Env} {R : Room} {s : State} {m : MethodId} {args : Array Value} {below : List Frame} {meth : Method} {c : Code} {Q : State → Prop} {cc : ByteArray} {A : Nat → Prop} {en : XE} {rp : Nat → Nat} {nL pc : Nat} {own : String} {index : Nat} (S : CallFix p m c cc nL s args xBIG own) (f1 : 8 ≤ R.frames) (f2 : 128 ≤ R.locals) (hg : xS_all en.2.2 A s s.heap) (hl : (Cond.methodLink own index ⟨"java/lang/String", "length", "()I"⟩) ∈ xBIG) (hd : x_at cc rp pc (.invokevirtual index) 3) : xs_slen p l e R s m args below meth c Q A en rp nL pc := by
  have hx := S.1
  have hts := S.2.2.2.2
  obtain ⟨⟨adV, g1⟩, g2, g3⟩ := hg
  intro H locs ls cells slots st k t hk hS hcl hsl hsz hcat kk
  have hlt : k < x_strs.length := (List.getElem?_eq_some_iff.mp hk).1
  have hpre : ∀ U : State, U.heap = H → s.WarmedH U.vm → xS0 en.2.2 adV U := by
    intro U hU hW
    unfold xS0
    rw [hU]
    exact ⟨vk_S.moved hW.alike (vk_S.narrow (vk_S.kept g1 hS.2.1) (fun _ h => h.elim)), va_Z.moved hW.alike (va_Z.narrow (va_Z.kept g2 hS.2.1) (fun _ h => h.elim)), va_Zq.moved hW.alike (va_Zq.narrow (va_Zq.kept g3 hS.2.1) (fun _ h => h.elim))⟩
  have hn : xSn.getD k 0 = t.length := by
    unfold xSn
    rw [List.getD_eq_getElem?_getD, List.getElem?_map, hk]; rfl
  rw [← hn] at kk
  rw [hd.2] at kk
  exact W.callR (W.runV (C := "java/lang/String") S (xj_length l en.2.2 adV k hlt) ⟨callB_of 0 hts (xg_of xw_1479) rfl rfl rfl (hts _ xw_1460) (hts _ hl) ⟨by decide, by decide, by decide +kernel⟩ ⟨Nat.le_trans (Nat.le_of_ble_eq_true rfl) f1, Nat.le_trans (Nat.le_of_ble_eq_true rfl) f2⟩, hts _ xw_1480, hts _ xw_1481⟩ ⟨(fun a U g mk q => by obtain ⟨q0, q1⟩ := q; exact ⟨q0, xS0_calling q1⟩), vk_recv g1 hlt hS, fun U hU hW => ⟨rfl, hpre U hU hW⟩⟩ rfl rfl hsz rfl (lv_room hcat) hd.1 ⟨hcl, hsl⟩) kk
theorem xc_sat {p : Program} {l : Launch} {e : Env} {R : Room} {s : State} {m : MethodId} {args : Array Value} {below : List Frame} {meth : Method} {c : Code} {Q : State → Prop} {cc : ByteArray} {A : Nat → Prop} {en : XE} {rp : Nat → Nat} {nL pc : Nat} {own : String} {index : Nat} (S : CallFix p m c cc nL s args xBIG own) (f1 : 8 ≤ R.frames) (f2 : 128 ≤ R.locals) (hg : xS_all en.2.2 A s s.heap) (hl : (Cond.methodLink own index ⟨"java/lang/String", "charAt", "(I)C"⟩) ∈ xBIG) (hd : x_at cc rp pc (.invokevirtual index) 3) : xs_sat p l e R s m args below meth c Q A en rp nL pc := by
  have hx := S.1
  have hts := S.2.2.2.2
  obtain ⟨⟨adV, g1⟩, g2, g3⟩ := hg
  intro H locs ls cells slots st k j v t hk hj hS hcl hsl hsz hcat kk
  have hlt : k < x_strs.length := (List.getElem?_eq_some_iff.mp hk).1
  have hpre : ∀ U : State, U.heap = H → s.WarmedH U.vm → xS0 en.2.2 adV U := by
    intro U hU hW
    unfold xS0
    rw [hU]
    exact ⟨vk_S.moved hW.alike (vk_S.narrow (vk_S.kept g1 hS.2.1) (fun _ h => h.elim)), va_Z.moved hW.alike (va_Z.narrow (va_Z.kept g2 hS.2.1) (fun _ h => h.elim)), va_Zq.moved hW.alike (va_Zq.narrow (va_Zq.kept g3 hS.2.1) (fun _ h => h.elim))⟩
  have hn : xSn.getD k 0 = t.length := by
    unfold xSn
    rw [List.getD_eq_getElem?_getD, List.getElem?_map, hk]; rfl
  have hjl : j < xSn.getD k 0 := by rw [hn]; exact (List.getElem?_eq_some_iff.mp hj).1
  have hch : (xSb.getD k []).getD j 0 = Int32.ofNat v := by
    unfold xSb
    rw [List.getD_eq_getElem?_getD, List.getD_eq_getElem?_getD, List.getElem?_map, hk]
    show ((t.map (fun n => Int32.ofNat n))[j]?).getD 0 = _
    rw [List.getElem?_map, hj]; rfl
  rw [← hch] at kk
  rw [hd.2] at kk
  exact W.callR (W.runV (C := "java/lang/String") S (xj_charAt l en.2.2 adV k j hlt hjl) ⟨callB_of 1 hts (xg_of xw_1482) rfl rfl rfl (hts _ xw_1460) (hts _ hl) ⟨by decide, by decide, by decide +kernel⟩ ⟨Nat.le_trans (Nat.le_of_ble_eq_true rfl) f1, Nat.le_trans (Nat.le_of_ble_eq_true rfl) f2⟩, hts _ xw_1483, hts _ xw_1484⟩ ⟨(fun a U g mk q => by obtain ⟨q0, q1⟩ := q; exact ⟨q0, xS0_calling q1⟩), vk_recv g1 hlt hS, fun U hU hW => ⟨rfl, hpre U hU hW⟩⟩ rfl rfl hsz rfl (lv_room hcat) hd.1 ⟨hcl, hsl⟩) kk
end AMSTR
