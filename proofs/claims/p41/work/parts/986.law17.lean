section LAW17
set_option maxRecDepth 100000
theorem zin_1 {w : Cond} (h : w ∈ tables_1_1) : w ∈ lw_tbl := List.mem_append_right _ (show w ∈ tables_1 from List.mem_append_left _ h)
theorem zin_2 {w : Cond} (h : w ∈ tables_1_2) : w ∈ lw_tbl := List.mem_append_right _ (show w ∈ tables_1 from List.mem_append_right _ (List.mem_append_left _ h))
theorem zin_3 {w : Cond} (h : w ∈ tables_1_3) : w ∈ lw_tbl := List.mem_append_right _ (show w ∈ tables_1 from List.mem_append_right _ (List.mem_append_right _ (List.mem_append_left _ h)))
theorem zin_4 {w : Cond} (h : w ∈ tables_1_4) : w ∈ lw_tbl := List.mem_append_right _ (show w ∈ tables_1 from List.mem_append_right _ (List.mem_append_right _ (List.mem_append_right _ (List.mem_append_left _ h))))
theorem zin_5 {w : Cond} (h : w ∈ tables_1_5) : w ∈ lw_tbl := List.mem_append_right _ (show w ∈ tables_1 from List.mem_append_right _ (List.mem_append_right _ (List.mem_append_right _ (List.mem_append_right _ (List.mem_append_left _ h)))))
theorem zin_6 {w : Cond} (h : w ∈ tables_1_6) : w ∈ lw_tbl := List.mem_append_right _ (show w ∈ tables_1 from List.mem_append_right _ (List.mem_append_right _ (List.mem_append_right _ (List.mem_append_right _ (List.mem_append_right _ (List.mem_append_left _ h))))))
theorem zin_7 {w : Cond} (h : w ∈ tables_1_7) : w ∈ lw_tbl := List.mem_append_right _ (show w ∈ tables_1 from List.mem_append_right _ (List.mem_append_right _ (List.mem_append_right _ (List.mem_append_right _ (List.mem_append_right _ (List.mem_append_right _ (List.mem_append_left _ h)))))))
theorem zin_8 {w : Cond} (h : w ∈ tables_1_8) : w ∈ lw_tbl := List.mem_append_right _ (show w ∈ tables_1 from List.mem_append_right _ (List.mem_append_right _ (List.mem_append_right _ (List.mem_append_right _ (List.mem_append_right _ (List.mem_append_right _ (List.mem_append_right _ (List.mem_append_left _ h))))))))
theorem zin_9 {w : Cond} (h : w ∈ tables_1_9) : w ∈ lw_tbl := List.mem_append_right _ (show w ∈ tables_1 from List.mem_append_right _ (List.mem_append_right _ (List.mem_append_right _ (List.mem_append_right _ (List.mem_append_right _ (List.mem_append_right _ (List.mem_append_right _ (List.mem_append_right _ (List.mem_append_left _ h)))))))))
theorem zin_10 {w : Cond} (h : w ∈ tables_1_10) : w ∈ lw_tbl := List.mem_append_right _ (show w ∈ tables_1 from List.mem_append_right _ (List.mem_append_right _ (List.mem_append_right _ (List.mem_append_right _ (List.mem_append_right _ (List.mem_append_right _ (List.mem_append_right _ (List.mem_append_right _ (List.mem_append_right _ (h))))))))))
theorem zK0 {args : Array Value} {s : State} (htB : ∀ w ∈ xBIG, w.before args s = true) : ∃ D : va_G, va_K D xcl [] s := by
  obtain ⟨c0, i0, h0⟩ := u_known (n := 15) htB xC_0.1 (htB _ (xin_1 (List.mem_of_getElem? (i := 24) rfl) rfl))
  obtain ⟨c1, i1, h1⟩ := u_known (n := 15) htB xC_1.1 (htB _ (xin_1 (List.mem_of_getElem? (i := 32) rfl) rfl))
  obtain ⟨c2, i2, h2⟩ := u_known (n := 12) htB xC_2.1 (htB _ (xin_1 (List.mem_of_getElem? (i := 151) rfl) rfl))
  obtain ⟨c3, i3, h3⟩ := u_known (n := 19) htB xC_3.1 (htB _ (xin_1 (List.mem_of_getElem? (i := 153) rfl) rfl))
  obtain ⟨c4, i4, h4⟩ := u_known (n := 12) htB xC_4.1 (htB _ (xin_2 (List.mem_of_getElem? (i := 141) rfl) rfl))
  obtain ⟨c5, i5, h5⟩ := u_known (n := 10) htB xC_5.1 (htB _ (xin_2 (List.mem_of_getElem? (i := 186) rfl) rfl))
  obtain ⟨c6, i6, h6⟩ := u_known (n := 20) htB xC_6.1 (htB _ (xin_2 (List.mem_of_getElem? (i := 225) rfl) rfl))
  obtain ⟨c7, i7, h7⟩ := u_known (n := 6) htB xC_7.1 (htB _ (xin_3 (List.mem_of_getElem? (i := 73) rfl) rfl))
  obtain ⟨c8, i8, h8⟩ := u_known (n := 20) htB xC_8.1 (htB _ (xin_3 (List.mem_of_getElem? (i := 101) rfl) rfl))
  obtain ⟨c9, i9, h9⟩ := u_known (n := 5) htB xC_9.1 (htB _ (xin_3 (List.mem_of_getElem? (i := 169) rfl) rfl))
  obtain ⟨c10, i10, h10⟩ := u_known (n := 7) htB xC_10.1 (htB _ (xin_2 (List.mem_of_getElem? (i := 25) rfl) rfl))
  obtain ⟨c11, i11, h11⟩ := u_known (n := 3) htB xC_11.1 (htB _ (xin_2 (List.mem_of_getElem? (i := 232) rfl) rfl))
  refine ⟨((fun k => ([c0, c1, c2, c3, c4, c5, c6, c7, c8, c9, c10, c11] : List ClassId).getD k 0), (fun k => ([i0, i1, i2, i3, i4, i5, i6, i7, i8, i9, i10, i11] : List (Nat → Nat)).getD k (fun _ => 0))), ⟨fun c q hq => ?_, fun k q hq => by cases hq⟩⟩
  match c, hq with
  | 0, hq => cases hq; exact h0
  | 1, hq => cases hq; exact h1
  | 2, hq => cases hq; exact h2
  | 3, hq => cases hq; exact h3
  | 4, hq => cases hq; exact h4
  | 5, hq => cases hq; exact h5
  | 6, hq => cases hq; exact h6
  | 7, hq => cases hq; exact h7
  | 8, hq => cases hq; exact h8
  | 9, hq => cases hq; exact h9
  | 10, hq => cases hq; exact h10
  | 11, hq => cases hq; exact h11
  | n + 12, hq => cases hq
theorem zNl_in : ∀ w ∈ xNl.map (fun q => Cond.methodLinkNest q.1 q.2.1 q.2.2.1 q.2.2.2), w ∈ lw_tbl := by
  intro w hw
  obtain ⟨k, hk⟩ := List.getElem?_of_mem hw
  match k, hk with
  | 0, hk => cases hk; exact zin_1 (List.mem_of_getElem? (i := 33) rfl)
  | 1, hk => cases hk; exact zin_1 (List.mem_of_getElem? (i := 154) rfl)
  | 2, hk => cases hk; exact zin_3 (List.mem_of_getElem? (i := 193) rfl)
  | 3, hk => cases hk; exact zin_2 (List.mem_of_getElem? (i := 26) rfl)
  | 4, hk => cases hk; exact zin_2 (List.mem_of_getElem? (i := 192) rfl)
  | 5, hk => cases hk; exact zin_9 (List.mem_of_getElem? (i := 160) rfl)
  | 6, hk => cases hk; exact zin_4 (List.mem_of_getElem? (i := 191) rfl)
  | 7, hk => cases hk; exact zin_6 (List.mem_of_getElem? (i := 92) rfl)
  | 8, hk => cases hk; exact zin_4 (List.mem_of_getElem? (i := 162) rfl)
  | 9, hk => cases hk; exact zin_8 (List.mem_of_getElem? (i := 12) rfl)
  | 10, hk => cases hk; exact zin_4 (List.mem_of_getElem? (i := 231) rfl)
  | 11, hk => cases hk; exact zin_5 (List.mem_of_getElem? (i := 1) rfl)
  | 12, hk => cases hk; exact zin_5 (List.mem_of_getElem? (i := 135) rfl)
  | 13, hk => cases hk; exact zin_10 (List.mem_of_getElem? (i := 42) rfl)
  | 14, hk => cases hk; exact zin_10 (List.mem_of_getElem? (i := 61) rfl)
  | n + 15, hk => cases hk
theorem zN0 {args : Array Value} {s : State} (hts : ∀ w ∈ lw_tbl, w.before args s = true) : xN_all s :=
  ⟨fun w hw => va_Nw.of (by
      obtain ⟨q, -, rfl⟩ := List.mem_map.mp hw
      rfl) (hts w (zNl_in w hw)), va_AO.of (A := args) (hts _ (zin_2 (List.mem_of_getElem? (i := 89) rfl))), va_AOA.of (A := args) (hts _ (zin_1 (List.mem_of_getElem? (i := 163) rfl))), va_AOA.of (A := args) (hts _ (zin_1 (List.mem_of_getElem? (i := 161) rfl))), va_Nw.of rfl (hts _ (zin_4 (List.mem_of_getElem? (i := 185) rfl)))⟩
def zTm : Nat → Term := fun i => Term.string (["ExpressHouse$Tokens", "ExpressHouse$Schema"].getD i "") 11
def zElm (i j : Nat) : Cond := Cond.eq (.elem (.field (zTm i) "java/lang/String" "value" "[B") (.int (Int32.ofNat j))) (.int ((xSb.getD i []).getD j 0))
theorem zel_0 : ((flatC (Jvm.Cond.and given_1 narrow_1)).drop 16).take 275 = (List.range 275).map (zElm 0) := by decide +kernel
theorem zel_1 : ((flatC (Jvm.Cond.and given_1 narrow_1)).drop 295).take 89 = (List.range 89).map (zElm 1) := by decide +kernel
theorem zel {i j : Nat} (hi : i < x_strs.length) (hj : j < xSn.getD i 0) : zElm i j ∈ flatC (Jvm.Cond.and given_1 narrow_1) := by
  match i, hi with
  | 0, _ =>
    have hj : j < 275 := hj
    have h : zElm 0 j ∈ (List.range 275).map (zElm 0) := List.mem_map.mpr ⟨j, List.mem_range.mpr hj, rfl⟩
    rw [← zel_0] at h
    exact List.mem_of_mem_drop (List.mem_of_mem_take h)
  | 1, _ =>
    have hj : j < 89 := hj
    have h : zElm 1 j ∈ (List.range 89).map (zElm 1) := List.mem_map.mpr ⟨j, List.mem_range.mpr hj, rfl⟩
    rw [← zel_1] at h
    exact List.mem_of_mem_drop (List.mem_of_mem_take h)
  | n + 2, hi => exact absurd hi (Nat.not_lt.mpr (Nat.le_add_left 2 n))
theorem zflat (P : Cond → Prop) (L : List Cond) (h : ∀ c ∈ L, P c) {c : Cond} (k : Nat) (hk : L[k]? = some c) : P c := h c (List.mem_of_getElem? hk)
theorem zG0 {b : Nat} {s : State} (hts : ∀ w ∈ lw_tbl, w.before #[Value.ref b] s = true) (hN : (Jvm.Cond.and given_1 narrow_1).before #[Value.ref b] s = true) : ∃ en : XE, xG en (fun q => s.heap.size ≤ q) s s.heap := by
  have hs := flat_of_before _ hN
  have hA : ∀ a : Nat, a < s.heap.size → ¬ (fun q => s.heap.size ≤ q) a := fun a h => Nat.not_le.mpr h
  obtain ⟨adK, adV, hS, hT⟩ := vk_Sof (args := #[Value.ref b]) (s := s) (N := x_strs.length) (tm := zTm) (len := xSn) (byt := xSb) (A := fun q => s.heap.size ≤ q) xS_len
    (fun i hi => by
      match i, hi with
      | 0, _ => exact hs _ (by decide +kernel)
      | 1, _ => exact hs _ (by decide +kernel)
      | n + 2, hi => exact absurd hi (Nat.not_lt.mpr (Nat.le_add_left 2 n)))
    (fun i hi => by
      match i, hi with
      | 0, _ => exact hs _ (by decide +kernel)
      | 1, _ => exact hs _ (by decide +kernel)
      | n + 2, hi => exact absurd hi (Nat.not_lt.mpr (Nat.le_add_left 2 n)))
    (fun i hi => by
      match i, hi with
      | 0, _ => exact hs _ (by decide +kernel)
      | 1, _ => exact hs _ (by decide +kernel)
      | n + 2, hi => exact absurd hi (Nat.not_lt.mpr (Nat.le_add_left 2 n)))
    (fun i hi => by
      match i, hi with
      | 0, _ => exact hs _ (by decide +kernel)
      | 1, _ => exact hs _ (by decide +kernel)
      | n + 2, hi => exact absurd hi (Nat.not_lt.mpr (Nat.le_add_left 2 n)))
    (fun i hi j hj => hs _ (zel hi hj))
    (fun i j hi hj hij => by
      match i, hi, j, hj, hij with
      | 0, _, 0, _, hij => exact absurd rfl hij
      | 0, _, 1, _, _ => exact Or.inl (hs _ (by decide +kernel))
      | 1, _, 0, _, _ => exact Or.inr (hs _ (by decide +kernel))
      | 1, _, 1, _, hij => exact absurd rfl hij
      | n + 2, hi, _, _, _ => exact absurd hi (Nat.not_lt.mpr (Nat.le_add_left 2 n))
      | _, _, n + 2, hj, _ => exact absurd hj (Nat.not_lt.mpr (Nat.le_add_left 2 n)))
    hA
  obtain ⟨t, ht, hTn⟩ := va_Tof (args := #[Value.ref b]) (s := s) (tm := .static "ExpressHouse$Value" "NO_CELLS" "[J") (ty := .long) (N := 0) (f := fun _ => .long 0) (A := fun q => s.heap.size ≤ q) (by decide) (hs _ (by decide +kernel)) (va_eqt (hs _ (by decide +kernel))) (fun j hj => absurd hj (Nat.not_lt_zero _)) hA
  refine ⟨(b, t, adK), zN0 hts, va_Zof (hts _ (zin_2 (List.mem_of_getElem? (i := 31) rfl))) (hts _ (zin_1 (List.mem_of_getElem? (i := 9) rfl))) ht hA, fun q hq => ?_, hTn, ⟨adV, hS⟩, va_Zof (hts _ (zin_1 (List.mem_of_getElem? (i := 50) rfl))) (hts _ (zin_1 (List.mem_of_getElem? (i := 3) rfl))) (va_eqt (hs _ (by decide +kernel))) hA, va_Zqof (hts _ (zin_1 (List.mem_of_getElem? (i := 66) rfl))) (hts _ (zin_1 (List.mem_of_getElem? (i := 5) rfl))) (hs _ (by decide +kernel)) hA⟩
  obtain ⟨k, hk⟩ := List.getElem?_of_mem hq
  match k, hk with
  | 0, hk => cases hk; exact vk_R.of (hts _ (zin_1 (List.mem_of_getElem? (i := 37) rfl))) (hT 0 (Nat.le_of_ble_eq_true rfl))
  | 1, hk => cases hk; exact vk_R.of (hts _ (zin_1 (List.mem_of_getElem? (i := 158) rfl))) (hT 1 (Nat.le_of_ble_eq_true rfl))
  | n + 2, hk => cases hk
end LAW17
