section LAW16
set_option maxRecDepth 100000
variable {p : Program} {l : Launch} {e : Env} {R : Room} {s : State} {m : MethodId} {args : Array Value} {below : List Frame} {meth : Method} {c : Code} {Q : State → Prop} {D : va_G} {en : XE} {ao au : Nat}
variable {cells slots k n n' : Nat} {st : List Value} {lv : List (Nat × Value)} {h h' : XH}
/-- from this place of the law on, over two houses whose cells are known, the end comes -/
def zLX (p : Program) (l : Launch) (e : Env) (R : Room) (s : State) (m : MethodId) (args : Array Value) (below : List Frame) (meth : Method) (c : Code) (Q : State → Prop) (D : va_G) (en : XE) (ao au : Nat) (cells slots k : Nat) (st : List Value) (lv : List (Nat × Value)) (h : XH) (n : Nat) (h' : XH) (n' : Nat) : Prop :=
  ∀ (H : Heap) (locs : List Loc) (ls : Array Slot) (ad ad' : List Nat), lv_has ls 10 lv → x_M D xcl (fun q => s.heap.size ≤ q) en xrn s H h n ad → x_M D xcl (fun q => s.heap.size ≤ q) en xrn s H h' n' ad' → (∀ q ∈ ad, q ∉ ad') → va_S (fun q => s.heap.size ≤ q) s.heap H locs → ad[0]? = some ao → ad'[0]? = some au →
    W p l e R s m args below meth c H locs cells slots Q (F0 m (lawrp k) ls st)
theorem zx_aload {j : Fin 4} {q x : Nat} (hA : zAm p l R s m args meth c D en) (hd : x_at code lawrp k (.aload_n j) 1) (hp : lv[q]? = some ((j : Nat), .ref x)) (kk : zLX p l e R s m args below meth c Q D en ao au cells slots (k + 1) (.ref x :: st) lv h n h' n') : zLX p l e R s m args below meth c Q D en ao au cells slots k st lv h n h' n' := by
  intro H locs ls ad ad' g1 g2 g3 g4 g5 g6 g7
  exact lv_aload_n hA.1 hA.2.1 hd.1 rfl (lv_at g1 q hp) (hd.2 ▸ kk H locs ls ad ad' g1 g2 g3 g4 g5 g6 g7)
theorem zx_iconst {z : Int} {v : Int32} (hA : zAm p l R s m args meth c D en) (hd : x_at code lawrp k (.iconst z) 1) (hv : Int32.ofInt z = v) (kk : zLX p l e R s m args below meth c Q D en ao au cells slots (k + 1) (.int v :: st) lv h n h' n') : zLX p l e R s m args below meth c Q D en ao au cells slots k st lv h n h' n' := by
  intro H locs ls ad ad' g1 g2 g3 g4 g5 g6 g7
  exact lv_iconst hA.1 hA.2.1 hd.1 hv (hd.2 ▸ kk H locs ls ad ad' g1 g2 g3 g4 g5 g6 g7)
theorem zx_bipush {z : Int} {v : Int32} (hA : zAm p l R s m args meth c D en) (hd : x_at code lawrp k (.bipush z) 2) (hv : (Int8.ofInt z).toInt32 = v) (kk : zLX p l e R s m args below meth c Q D en ao au cells slots (k + 1) (.int v :: st) lv h n h' n') : zLX p l e R s m args below meth c Q D en ao au cells slots k st lv h n h' n' := by
  intro H locs ls ad ad' g1 g2 g3 g4 g5 g6 g7
  exact lv_bipush hA.1 hA.2.1 hd.1 hv (hd.2 ▸ kk H locs ls ad ad' g1 g2 g3 g4 g5 g6 g7)
theorem zx_icmp_ne {off : Int} {t : Nat} {x y : Int32} (hA : zAm p l R s m args meth c D en) (hd : x_at code lawrp k (.if_icmp .ne off) 3) (ht : ((lawrp k : Nat) : Int) + off = ((lawrp t : Nat) : Int)) (he : x = y) (kf : zLX p l e R s m args below meth c Q D en ao au cells slots (k + 1) st lv h n h' n') : zLX p l e R s m args below meth c Q D en ao au cells slots k (.int y :: .int x :: st) lv h n h' n' := by
  intro H locs ls ad ad' g1 g2 g3 g4 g5 g6 g7
  exact lv_icmp_ne hA.1 hA.2.1 hd.1 ht (fun g => absurd he g) (fun g => hd.2 ▸ kf H locs ls ad ad' g1 g2 g3 g4 g5 g6 g7)
theorem zx_icmp_eq {off : Int} {t : Nat} {x y : Int32} (hA : zAm p l R s m args meth c D en) (hd : x_at code lawrp k (.if_icmp .eq off) 3) (ht : ((lawrp k : Nat) : Int) + off = ((lawrp t : Nat) : Int)) (he : x = y) (kt : zLX p l e R s m args below meth c Q D en ao au cells slots t st lv h n h' n') : zLX p l e R s m args below meth c Q D en ao au cells slots k (.int y :: .int x :: st) lv h n h' n' := by
  intro H locs ls ad ad' g1 g2 g3 g4 g5 g6 g7
  exact lv_icmp_eq hA.1 hA.2.1 hd.1 ht (fun g => kt H locs ls ad ad' g1 g2 g3 g4 g5 g6 g7) (fun g => absurd he g)
theorem zx_if_eq {off : Int} {t : Nat} {x : Int32} (hA : zAm p l R s m args meth c D en) (hd : x_at code lawrp k (.ifCond .eq off) 3) (ht : ((lawrp k : Nat) : Int) + off = ((lawrp t : Nat) : Int)) (he : ¬ x = 0) (kf : zLX p l e R s m args below meth c Q D en ao au cells slots (k + 1) st lv h n h' n') : zLX p l e R s m args below meth c Q D en ao au cells slots k (.int x :: st) lv h n h' n' := by
  intro H locs ls ad ad' g1 g2 g3 g4 g5 g6 g7
  exact lv_if_eq hA.1 hA.2.1 hd.1 ht (fun g => absurd g he) (fun g => hd.2 ▸ kf H locs ls ad ad' g1 g2 g3 g4 g5 g6 g7)
theorem zx_if_ne {off : Int} {t : Nat} {x : Int32} (hA : zAm p l R s m args meth c D en) (hd : x_at code lawrp k (.ifCond .ne off) 3) (ht : ((lawrp k : Nat) : Int) + off = ((lawrp t : Nat) : Int)) (he : x = 0) (kf : zLX p l e R s m args below meth c Q D en ao au cells slots (k + 1) st lv h n h' n') : zLX p l e R s m args below meth c Q D en ao au cells slots k (.int x :: st) lv h n h' n' := by
  intro H locs ls ad ad' g1 g2 g3 g4 g5 g6 g7
  exact lv_if_ne hA.1 hA.2.1 hd.1 ht (fun g => absurd he g) (fun g => hd.2 ▸ kf H locs ls ad ad' g1 g2 g3 g4 g5 g6 g7)
theorem zx_callO {M d F1 sl n2 sl2 : Nat} {i : XI} {w : XV} {h2 : XH} (as : List Nat) (hA : zAm p l R s m args meth c D en) (hs : xs_call p l e R s m args below meth c D xcl (xT.1 M) (xT.2.1 M) (xT.2.2 M) lawrp 10 k i)
    (hrun : x_dep x_P F1 d M (x_pad (x_flat (((6, 0, 0) : XV) :: as.map (fun a => ((0, a, 0) : XV)))) (xT.2.2 M)) h n sl = some (1, w, h2, n2, sl2)) (hw : w.1 = 0 ∨ w.1 = 2) (hfl : (x_flat (((6, 0, 0) : XV) :: as.map (fun a => ((0, a, 0) : XV)))).length ≤ xT.2.2 M) (hlen : as.length + 1 = i.2.2.1)
    (hrc : x_hd2 i.2.2.2 = 0 ∨ x_rcv h (x_flat (((6, 0, 0) : XV) :: as.map (fun a => ((0, a, 0) : XV)))) (x_hd2 i.2.2.2) = true) (hcat : (st.map fun v => v.category).sum ≤ 8) (hfr : d + 9 ≤ 2048) (hlo : 8 + (xT.2.2 M + 11) + (64 * d + 128) ≤ 84000)
    (c1 : n ≤ n2) (c2 : sl ≤ sl2) (c3 : cells + (n2 - n) ≤ 600000) (c4 : slots + (sl2 - sl) ≤ 7302250)
    (kk : zLX p l e R s m args below meth c Q D en ao au (cells + (n2 - n)) (slots + (sl2 - sl)) (k + 1) (zval w :: st) lv h2 n2 h' n') : zLX p l e R s m args below meth c Q D en ao au cells slots k ((Value.ref ao :: as.map (fun a => Value.int (Int32.ofNat a))).reverse ++ st) lv h n h' n' := by
  intro H locs ls ad ad' g1 g2 g3 g4 g5 g6 g7
  obtain ⟨a1, a2, a3, a4, a5, a6, a7, a8, a9⟩ := hA
  have hx : x_SR ad en (((6, 0, 0) : XV) :: as.map (fun a => ((0, a, 0) : XV))) (.ref ao :: as.map (fun a => Value.int (Int32.ofNat a))) := ⟨_, _, rfl, ⟨ao, g6, rfl⟩, x_SR_ints as⟩
  refine zL_callX (rest := st) (cells := cells) (slots := slots) (H := H) (locs := locs) (ls := ls) (Q := Q) a9 (xG_3 en) a4 (fun q hq => hq) hs hrun hfl (by rw [List.length_cons, List.length_map]; exact hlen) g2 hx g5 hrc g1.1 hcat (by omega) (by omega) c1 c2 (by rw [a5]; exact c3) (by rw [a6]; exact c4) (fun H2 locs2 ad2 o ho v2 v3 v4 v5 v6 => ?_)
  rcases ho with ⟨z, -⟩ | ⟨-, v, z, z2⟩
  · cases z
  · subst z
    rw [zval_of z2 hw]
    have hlt := x_M_lt g3
    exact kk H2 locs2 ls (ad ++ ad2) ad' g1 v2 (x_M_kept g3 (fun q hq => v4 q (hlt q hq) (fun z => g4 q z hq))) (fun q hq hq2 => (v3 q hq).elim (fun z => g4 q z hq2) (fun z => absurd z (Nat.not_le.mpr (hlt q hq2)))) v6 (by rw [List.getElem?_append_left (List.getElem?_eq_some_iff.mp g6).1]; exact g6) g7
theorem zx_callU {M d F1 sl n2 sl2 : Nat} {i : XI} {w : XV} {h2 : XH} (as : List Nat) (hA : zAm p l R s m args meth c D en) (hs : xs_call p l e R s m args below meth c D xcl (xT.1 M) (xT.2.1 M) (xT.2.2 M) lawrp 10 k i)
    (hrun : x_dep x_P F1 d M (x_pad (x_flat (((6, 0, 0) : XV) :: as.map (fun a => ((0, a, 0) : XV)))) (xT.2.2 M)) h' n' sl = some (1, w, h2, n2, sl2)) (hw : w.1 = 0 ∨ w.1 = 2) (hfl : (x_flat (((6, 0, 0) : XV) :: as.map (fun a => ((0, a, 0) : XV)))).length ≤ xT.2.2 M) (hlen : as.length + 1 = i.2.2.1)
    (hrc : x_hd2 i.2.2.2 = 0 ∨ x_rcv h' (x_flat (((6, 0, 0) : XV) :: as.map (fun a => ((0, a, 0) : XV)))) (x_hd2 i.2.2.2) = true) (hcat : (st.map fun v => v.category).sum ≤ 8) (hfr : d + 9 ≤ 2048) (hlo : 8 + (xT.2.2 M + 11) + (64 * d + 128) ≤ 84000)
    (c1 : n' ≤ n2) (c2 : sl ≤ sl2) (c3 : cells + (n2 - n') ≤ 600000) (c4 : slots + (sl2 - sl) ≤ 7302250)
    (kk : zLX p l e R s m args below meth c Q D en ao au (cells + (n2 - n')) (slots + (sl2 - sl)) (k + 1) (zval w :: st) lv h n h2 n2) : zLX p l e R s m args below meth c Q D en ao au cells slots k ((Value.ref au :: as.map (fun a => Value.int (Int32.ofNat a))).reverse ++ st) lv h n h' n' := by
  intro H locs ls ad ad' g1 g2 g3 g4 g5 g6 g7
  obtain ⟨a1, a2, a3, a4, a5, a6, a7, a8, a9⟩ := hA
  have hx : x_SR ad' en (((6, 0, 0) : XV) :: as.map (fun a => ((0, a, 0) : XV))) (.ref au :: as.map (fun a => Value.int (Int32.ofNat a))) := ⟨_, _, rfl, ⟨au, g7, rfl⟩, x_SR_ints as⟩
  refine zL_callX (rest := st) (cells := cells) (slots := slots) (H := H) (locs := locs) (ls := ls) (Q := Q) a9 (xG_3 en) a4 (fun q hq => hq) hs hrun hfl (by rw [List.length_cons, List.length_map]; exact hlen) g3 hx g5 hrc g1.1 hcat (by omega) (by omega) c1 c2 (by rw [a5]; exact c3) (by rw [a6]; exact c4) (fun H2 locs2 ad2 o ho v2 v3 v4 v5 v6 => ?_)
  rcases ho with ⟨z, -⟩ | ⟨-, v, z, z2⟩
  · cases z
  · subst z
    rw [zval_of z2 hw]
    have hlt := x_M_lt g2
    exact kk H2 locs2 ls ad (ad' ++ ad2) g1 (x_M_kept g2 (fun q hq => v4 q (hlt q hq) (fun z => g4 q hq z))) v2 (fun q hq hq2 => (v3 q hq2).elim (fun z => g4 q hq z) (fun z => absurd z (Nat.not_le.mpr (hlt q hq)))) v6 g6 (by rw [List.getElem?_append_left (List.getElem?_eq_some_iff.mp g7).1]; exact g7)
/-- the first questions: from index 8 to 44 -/
theorem zx_8 {b : Nat} (hA : zAm p l R s m args meth c D en)
    (hend : zLX p l e R s m args below meth c Q D en ao au 972 129068 44 [] [(2, .ref au), (1, .ref ao), (0, .ref b)] zh_c0 486 zh_schema 486) :
    zLX p l e R s m args below meth c Q D en ao au 970 129054 8 [] [(2, .ref au), (1, .ref ao), (0, .ref b)] zh_init 485 zh_init 485 := by
  refine zx_aload (j := 1) (q := 1) hA ⟨by decide +kernel, rfl⟩ rfl ?_
  refine zx_callO (M := 3) (d := 30) (sl := 64512) (i := (11, 3, 1, [(1, 0)])) (st := []) [] hA (zs_9 hA.2.2.1) zs_tell (Or.inl rfl) (Nat.le_of_ble_eq_true rfl) rfl (Or.inl rfl) (Nat.le_of_ble_eq_true rfl) (Nat.le_of_ble_eq_true rfl) (Nat.le_of_ble_eq_true rfl) (by omega) (by omega) (by omega) (by omega) ?_
  show zLX p l e R s m args below meth c Q D en ao au 971 129061 10 [.int (Int32.ofNat 1)] [(2, .ref au), (1, .ref ao), (0, .ref b)] zh_schema 486 zh_init 485
  refine zx_if_eq (off := 63) (t := 42) hA ⟨by decide +kernel, rfl⟩ (by decide +kernel) (by decide +kernel) ?_
  refine zx_aload (j := 2) (q := 0) hA ⟨by decide +kernel, rfl⟩ rfl ?_
  refine zx_callU (M := 3) (d := 30) (sl := 64512) (i := (11, 3, 1, [(1, 0)])) (st := []) [] hA (zs_12 hA.2.2.1) zs_tell (Or.inl rfl) (Nat.le_of_ble_eq_true rfl) rfl (Or.inl rfl) (Nat.le_of_ble_eq_true rfl) (Nat.le_of_ble_eq_true rfl) (Nat.le_of_ble_eq_true rfl) (by omega) (by omega) (by omega) (by omega) ?_
  show zLX p l e R s m args below meth c Q D en ao au 972 129068 13 [.int (Int32.ofNat 1)] [(2, .ref au), (1, .ref ao), (0, .ref b)] zh_schema 486 zh_schema 486
  refine zx_if_eq (off := 56) (t := 42) hA ⟨by decide +kernel, rfl⟩ (by decide +kernel) (by decide +kernel) ?_
  refine zx_aload (j := 1) (q := 1) hA ⟨by decide +kernel, rfl⟩ rfl ?_
  refine zx_iconst (z := 0) (v := Int32.ofNat 0) hA ⟨by decide +kernel, rfl⟩ (by decide +kernel) ?_
  refine zx_callO (M := 36) (d := 30) (sl := 64519) (i := (11, 36, 2, [(2, 1)])) (st := []) [0] hA (zs_16 hA.2.2.1) zs_c0 (Or.inl rfl) (Nat.le_of_ble_eq_true rfl) rfl (Or.inr (by decide +kernel)) (Nat.le_of_ble_eq_true rfl) (Nat.le_of_ble_eq_true rfl) (Nat.le_of_ble_eq_true rfl) (by omega) (by omega) (by omega) (by omega) ?_
  show zLX p l e R s m args below meth c Q D en ao au 972 129068 17 [.int (Int32.ofNat 2)] [(2, .ref au), (1, .ref ao), (0, .ref b)] zh_c0 486 zh_schema 486
  refine zx_iconst (z := 2) (v := Int32.ofNat 2) hA ⟨by decide +kernel, rfl⟩ (by decide +kernel) ?_
  refine zx_icmp_ne (off := 47) (t := 42) hA ⟨by decide +kernel, rfl⟩ (by decide +kernel) rfl ?_
  refine zx_aload (j := 1) (q := 1) hA ⟨by decide +kernel, rfl⟩ rfl ?_
  refine zx_iconst (z := 1) (v := Int32.ofNat 1) hA ⟨by decide +kernel, rfl⟩ (by decide +kernel) ?_
  refine zx_callO (M := 36) (d := 30) (sl := 64519) (i := (11, 36, 2, [(2, 1)])) (st := []) [1] hA (zs_21 hA.2.2.1) zs_c1 (Or.inl rfl) (Nat.le_of_ble_eq_true rfl) rfl (Or.inr (by decide +kernel)) (Nat.le_of_ble_eq_true rfl) (Nat.le_of_ble_eq_true rfl) (Nat.le_of_ble_eq_true rfl) (by omega) (by omega) (by omega) (by omega) ?_
  show zLX p l e R s m args below meth c Q D en ao au 972 129068 22 [.int (Int32.ofNat 1)] [(2, .ref au), (1, .ref ao), (0, .ref b)] zh_c0 486 zh_schema 486
  refine zx_iconst (z := 1) (v := Int32.ofNat 1) hA ⟨by decide +kernel, rfl⟩ (by decide +kernel) ?_
  refine zx_icmp_ne (off := 38) (t := 42) hA ⟨by decide +kernel, rfl⟩ (by decide +kernel) rfl ?_
  refine zx_aload (j := 1) (q := 1) hA ⟨by decide +kernel, rfl⟩ rfl ?_
  refine zx_iconst (z := 3) (v := Int32.ofNat 3) hA ⟨by decide +kernel, rfl⟩ (by decide +kernel) ?_
  refine zx_callO (M := 333) (d := 30) (sl := 64519) (i := (11, 333, 2, [(2, 1)])) (st := []) [3] hA (zs_26 hA.2.2.1) zs_a3 (Or.inl rfl) (Nat.le_of_ble_eq_true rfl) rfl (Or.inr (by decide +kernel)) (Nat.le_of_ble_eq_true rfl) (Nat.le_of_ble_eq_true rfl) (Nat.le_of_ble_eq_true rfl) (by omega) (by omega) (by omega) (by omega) ?_
  show zLX p l e R s m args below meth c Q D en ao au 972 129068 27 [.int (Int32.ofNat 0)] [(2, .ref au), (1, .ref ao), (0, .ref b)] zh_a3 486 zh_schema 486
  refine zx_if_ne (off := 30) (t := 42) hA ⟨by decide +kernel, rfl⟩ (by decide +kernel) (by decide +kernel) ?_
  refine zx_aload (j := 1) (q := 1) hA ⟨by decide +kernel, rfl⟩ rfl ?_
  refine zx_iconst (z := 5) (v := Int32.ofNat 5) hA ⟨by decide +kernel, rfl⟩ (by decide +kernel) ?_
  refine zx_callO (M := 333) (d := 30) (sl := 64519) (i := (11, 333, 2, [(2, 1)])) (st := []) [5] hA (zs_30 hA.2.2.1) zs_a5 (Or.inl rfl) (Nat.le_of_ble_eq_true rfl) rfl (Or.inr (by decide +kernel)) (Nat.le_of_ble_eq_true rfl) (Nat.le_of_ble_eq_true rfl) (Nat.le_of_ble_eq_true rfl) (by omega) (by omega) (by omega) (by omega) ?_
  show zLX p l e R s m args below meth c Q D en ao au 972 129068 31 [.int (Int32.ofNat 0)] [(2, .ref au), (1, .ref ao), (0, .ref b)] zh_a5 486 zh_schema 486
  refine zx_if_ne (off := 22) (t := 42) hA ⟨by decide +kernel, rfl⟩ (by decide +kernel) (by decide +kernel) ?_
  refine zx_aload (j := 1) (q := 1) hA ⟨by decide +kernel, rfl⟩ rfl ?_
  refine zx_bipush (z := 7) (v := Int32.ofNat 7) hA ⟨by decide +kernel, rfl⟩ (by decide +kernel) ?_
  refine zx_callO (M := 333) (d := 30) (sl := 64519) (i := (11, 333, 2, [(2, 1)])) (st := []) [7] hA (zs_34 hA.2.2.1) zs_a7 (Or.inl rfl) (Nat.le_of_ble_eq_true rfl) rfl (Or.inr (by decide +kernel)) (Nat.le_of_ble_eq_true rfl) (Nat.le_of_ble_eq_true rfl) (Nat.le_of_ble_eq_true rfl) (by omega) (by omega) (by omega) (by omega) ?_
  show zLX p l e R s m args below meth c Q D en ao au 972 129068 35 [.int (Int32.ofNat 5)] [(2, .ref au), (1, .ref ao), (0, .ref b)] zh_c0 486 zh_schema 486
  refine zx_iconst (z := 5) (v := Int32.ofNat 5) hA ⟨by decide +kernel, rfl⟩ (by decide +kernel) ?_
  refine zx_icmp_ne (off := 12) (t := 42) hA ⟨by decide +kernel, rfl⟩ (by decide +kernel) rfl ?_
  refine zx_aload (j := 1) (q := 1) hA ⟨by decide +kernel, rfl⟩ rfl ?_
  refine zx_iconst (z := 2) (v := Int32.ofNat 2) hA ⟨by decide +kernel, rfl⟩ (by decide +kernel) ?_
  refine zx_callO (M := 333) (d := 30) (sl := 64519) (i := (11, 333, 2, [(2, 1)])) (st := []) [2] hA (zs_39 hA.2.2.1) zs_a2 (Or.inl rfl) (Nat.le_of_ble_eq_true rfl) rfl (Or.inr (by decide +kernel)) (Nat.le_of_ble_eq_true rfl) (Nat.le_of_ble_eq_true rfl) (Nat.le_of_ble_eq_true rfl) (by omega) (by omega) (by omega) (by omega) ?_
  show zLX p l e R s m args below meth c Q D en ao au 972 129068 40 [.int (Int32.ofNat 2)] [(2, .ref au), (1, .ref ao), (0, .ref b)] zh_c0 486 zh_schema 486
  refine zx_iconst (z := 2) (v := Int32.ofNat 2) hA ⟨by decide +kernel, rfl⟩ (by decide +kernel) ?_
  refine zx_icmp_eq (off := 5) (t := 44) hA ⟨by decide +kernel, rfl⟩ (by decide +kernel) rfl ?_
  exact hend
theorem zM_nil (hK : va_K D xcl [] s) {H : Heap} : x_M D xcl (fun q => s.heap.size ≤ q) en xrn s H [] 0 [] :=
  ⟨[], [], rfl, rfl, hK, (fun k q h => by cases (show (none : Option (Nat × va_E)) = some q from h)), ⟨(fun i j p q h => by cases (show (none : Option (Nat × va_E)) = some p from h)), (fun k q h => by cases (show (none : Option (Nat × va_E)) = some q from h))⟩, (fun k c h => by cases (show (none : Option XC) = some c from h))⟩
/-- the constructor, and what is beside it -/
theorem zx_init {x k : Nat} {hb : XH} {nb : Nat} {adb : List Nat} {H : Heap} {locs : List Loc} {ls : Array Slot} (hA : zAm p l R s m args meth c D en) (hs : xs_call p l e R s m args below meth c D xcl (xT.1 0) (xT.2.1 0) (xT.2.2 0) lawrp 10 k (11, 0, 1, [(1, 1)])) (hl : ls.size = 10) (hq : x_M D xcl (fun q => s.heap.size ≤ q) en xrn s H zh_b_init 1 [x]) (hb0 : x_M D xcl (fun q => s.heap.size ≤ q) en xrn s H hb nb adb) (hx : x ∉ adb) (hS : va_S (fun q => s.heap.size ≤ q) s.heap H locs) (c3 : cells + 484 ≤ 600000) (c4 : slots + 64512 ≤ 7302250)
    (kk : ∀ (H2 : Heap) (locs2 : List Loc) (ad2 : List Nat), x_M D xcl (fun q => s.heap.size ≤ q) en xrn s H2 zh_init 485 ([x] ++ ad2) → x_M D xcl (fun q => s.heap.size ≤ q) en xrn s H2 hb nb adb → (∀ q ∈ [x] ++ ad2, q ∉ adb) → va_S (fun q => s.heap.size ≤ q) s.heap H2 locs2 → W p l e R s m args below meth c H2 locs2 (cells + 484) (slots + 64512) Q (F0 m (lawrp (k + 1)) ls [.ref x])) :
    W p l e R s m args below meth c H locs cells slots Q (F0 m (lawrp k) ls [.ref x, .ref x]) := by
  obtain ⟨a1, a2, a3, a4, a5, a6, a7, a8, a9⟩ := hA
  have hx1 : x_SR [x] en [((6, 0, 0) : XV)] [.ref x] := ⟨_, _, rfl, ⟨x, rfl, rfl⟩, rfl⟩
  refine zL_callX (xs := [((6, 0, 0) : XV)]) (av := [.ref x]) (rest := [.ref x]) (cells := cells) (slots := slots) (H := H) (locs := locs) (ls := ls) (Q := Q) (M := 0) (n := 1) (sl := 0) (d := 6) a9 (xG_3 en) a4 (fun q hq => hq) hs zs_init (Nat.le_of_ble_eq_true rfl) rfl hq hx1 hS (Or.inr (by decide +kernel)) hl (Nat.le_of_ble_eq_true rfl) (by omega) (by rw [a8]; exact Nat.le_of_ble_eq_true rfl) (Nat.le_of_ble_eq_true rfl) (Nat.zero_le _) (by rw [a5]; exact c3) (by rw [a6]; exact c4) (fun H2 locs2 ad2 o ho v2 v3 v4 v5 v6 => ?_)
  rcases ho with ⟨-, z⟩ | ⟨z, -⟩
  · subst z
    have hlt := x_M_lt hb0
    exact kk H2 locs2 ad2 v2 (x_M_kept hb0 (fun q hq => v4 q (hlt q hq) (fun z => hx (List.mem_singleton.mp z ▸ hq)))) (fun q hq hq2 => (v3 q hq).elim (fun z => hx (List.mem_singleton.mp z ▸ hq2)) (fun z => absurd z (Nat.not_le.mpr (hlt q hq2)))) v6
  · cases z
/-- the law, from its first byte to index 44 -/
theorem zx_0 {b : Nat} {ls : Array Slot} (hA : zAm p l R s m args meth c D en) (hK : va_K D xcl [] s) (hl : lv_has ls 10 [(0, .ref b)])
    (hend : ∀ ao au, zLX p l e R s m args below meth c Q D en ao au 972 129068 44 [] [(2, .ref au), (1, .ref ao), (0, .ref b)] zh_c0 486 zh_schema 486) :
    W p l e R s m args below meth c s.heap [] 0 0 Q (F0 m 0 ls []) := by
  have hA0 := hA
  obtain ⟨a1, a2, a3, a4, a5, a6, a7, a8, a9⟩ := hA0
  refine zL_new (en := en) (rp := lawrp) (pc := 0) (zs_0 a3 (fun q hq => hq)) (zM_nil (H := s.heap) hK) va_S.rf (by omega) (by rw [a6]; exact Nat.le_of_ble_eq_true rfl) (fun q H1 _ m1 _ s1 => ?_)
  refine lv_dup a1 a2 (cc := code) (pc := lawrp 1) (by decide +kernel) rfl ?_
  refine zx_init (k := 2) hA (zs_2 a3) hl.1 m1 (zM_nil hK) (fun z => by cases z) s1 (by omega) (Nat.le_of_ble_eq_true rfl) (fun H2 locs2 ad2 m2 _ _ s2 => ?_)
  refine lv_astore_n (k := 1) (i := 1) (lv' := [(1, .ref q), (0, .ref b)]) a1 a2 (cc := code) (pc := lawrp 3) (by decide +kernel) rfl hl (by decide) rfl (fun ls2 l2 => ?_)
  refine zL_new (en := en) (rp := lawrp) (pc := 4) (zs_4 a3 (fun q hq => hq)) m2 s2 (by omega) (by rw [a6]; exact Nat.le_of_ble_eq_true rfl) (fun q3 H3 m3 m3' hq3 s3 => ?_)
  refine lv_dup a1 a2 (cc := code) (pc := lawrp 5) (by decide +kernel) rfl ?_
  refine zx_init (k := 6) hA (zs_6 a3) l2.1 m3' m3 hq3 s3 (by omega) (Nat.le_of_ble_eq_true rfl) (fun H4 locs4 ad4 m4 m4' hd4 s4 => ?_)
  refine lv_astore_n (k := 2) (i := 2) (lv' := [(2, .ref q3), (1, .ref q), (0, .ref b)]) a1 a2 (cc := code) (pc := lawrp 7) (by decide +kernel) rfl l2 (by decide) rfl (fun ls3 l3 => ?_)
  exact zx_8 hA (hend q q3) H4 locs4 ls3 _ _ l3 m4' m4 (fun x h1 h2 => hd4 x h2 h1) s4 rfl rfl
/-- the whole law but its end -/
theorem zx_law {b L : Nat} {xs : Nat → Int32} {ls : Array Slot} (hA : zAm p l R s m args meth c D en) (hK : va_K D xcl [] s) (hl : lv_has ls 10 [(0, .ref b)]) (hX : va_X b L xs s s.heap) (hbl : b < s.heap.size) (hL : L ≤ 260)
    (hend : ∀ (ao au CB SB : Nat) (lv : List (Nat × Value)) (φ ψ : FH), CB ≤ 600000 → SB ≤ 7302249 → zLW p l e R s m args below meth c Q D en ao au CB SB 323 [] lv φ ψ) :
    W p l e R s m args below meth c s.heap [] 0 0 Q (F0 m 0 ls []) :=
  zx_0 hA hK hl (fun ao au H locs ls ad ad' g1 g2 g3 g4 g5 g6 g7 =>
    zs_44 (CB := 2000) (SB := 200000) hA hX hbl hL zGv_o zGv_u (Nat.le_refl _) (Nat.le_refl _) (fun CB SB lv φ ψ => hend ao au CB SB lv φ ψ) H locs 972 129068 ls 486 64534 ad 486 64534 ad' g1 ⟨⟨_, zrh_o, g2⟩, ⟨_, zrh_u, g3⟩, g4, g5, rfl, rfl⟩ (Nat.le_refl _) (Nat.le_refl _) (by omega) (by omega) g6 g7)
end LAW16
