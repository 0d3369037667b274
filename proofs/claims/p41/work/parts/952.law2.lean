section LAW2
set_option maxRecDepth 100000
def lawrp : Nat → Nat := fun k => ([0, 3, 4, 7, 8, 11, 12, 15, 16, 17, 20, 23, 24, 27, 30, 31, 32, 35, 36, 39, 40, 41, 44, 45, 48, 49, 50, 53, 56, 57, 58, 61, 64, 65, 67, 70, 71, 74, 75, 76, 79, 80, 83, 84, 85, 86, 87, 88, 91, 93, 96, 97, 98, 99, 100, 103, 104, 107, 109, 110, 112, 114, 115, 118, 119, 120, 122, 123, 126, 128, 129, 131, 134, 135, 137, 140, 143, 144, 145, 147, 149, 150, 151, 152, 155, 156, 158, 161, 164, 165, 166, 168, 170, 173, 174, 177, 178, 181, 182, 185, 187, 190, 191, 192, 193, 195, 197, 199, 202, 203, 204, 206, 208, 209, 212, 215, 217, 220, 223, 224, 227, 228, 231, 232, 233, 236, 239, 240, 241, 244, 247, 248, 251, 253, 254, 257, 259, 262, 263, 265, 268, 269, 271, 274, 277, 278, 280, 283, 284, 286, 289, 292, 293, 294, 295, 297, 299, 301, 304, 305, 307, 310, 311, 313, 316, 319, 320, 321, 324, 327, 328, 330, 333, 335, 336, 338, 340, 342, 345, 346, 348, 351, 353, 354, 356, 359, 361, 364, 366, 367, 370, 371, 372, 373, 376, 377, 378, 379, 382, 385, 386, 387, 388, 391, 392, 393, 394, 397, 400, 402, 403, 406, 407, 408, 409, 412, 413, 416, 417, 418, 421, 424, 425, 427, 429, 431, 434, 435, 437, 440, 441, 443, 446, 449, 450, 452, 453, 456, 457, 459, 460, 463, 466, 467, 468, 469, 471, 474, 477, 480, 481, 483, 486, 487, 489, 492, 493, 496, 497, 498, 501, 502, 503, 506, 509, 510, 511, 512, 513, 516, 517, 520, 521, 523, 526, 528, 529, 531, 532, 535, 536, 539, 542, 543, 545, 548, 549, 551, 552, 555, 556, 557, 558, 560, 561, 564, 565, 567, 568, 571, 574, 575, 576, 579, 580, 581, 584, 587, 588, 589, 592, 593, 594, 597, 600, 601, 602, 605, 606, 609, 610, 611, 614, 617, 618] : List Nat).getD k 0
variable {p : Program} {l : Launch} {e : Env} {R : Room} {s : State} {m : MethodId} {args : Array Value} {below : List Frame} {meth : Method} {c : Code} {Q : State → Prop} {D : va_G} {en : XE} {ao au : Nat}
variable {CB SB k : Nat} {st : List Value} {lv : List (Nat × Value)} {φ ψ : FH}
/-- what holds all along the law -/
def zAm (p : Program) (l : Launch) (R : Room) (s : State) (m : MethodId) (args : Array Value) (meth : Method) (c : Code) (D : va_G) (en : XE) : Prop :=
  p.tables.exec = Jvm.exec ∧ c.code = code ∧ CallFix p m c code 10 s args xBIG "ExpressHouseLaw" ∧ xG en (fun q => s.heap.size ≤ q) s s.heap ∧ R.cells = 600000 ∧ R.slots = 7302250 ∧ R.frames = 2048 ∧ R.locals = 84000 ∧ zAll xT l D xcl en xrn (xG en) x_P
/-- from this place of the law on, over two houses, the end comes -/
def zLW (p : Program) (l : Launch) (e : Env) (R : Room) (s : State) (m : MethodId) (args : Array Value) (below : List Frame) (meth : Method) (c : Code) (Q : State → Prop) (D : va_G) (en : XE) (ao au : Nat) (CB SB k : Nat) (st : List Value) (lv : List (Nat × Value)) (φ ψ : FH) : Prop :=
  ∀ (H : Heap) (locs : List Loc) (cells slots : Nat) (ls : Array Slot) (n sl : Nat) (ad : List Nat) (n' sl' : Nat) (ad' : List Nat), lv_has ls 10 lv → zWd D xcl (fun q => s.heap.size ≤ q) en xrn s H locs cells slots φ n sl ad ψ n' sl' ad' → 486 ≤ n → 486 ≤ n' → cells ≤ CB → slots ≤ SB → ad[0]? = some ao → ad'[0]? = some au →
    W p l e R s m args below meth c H locs cells slots Q (F0 m (lawrp k) ls st)
theorem zl_aload {j : Fin 4} {q x : Nat} (hA : zAm p l R s m args meth c D en) (hd : x_at code lawrp k (.aload_n j) 1) (hp : lv[q]? = some ((j : Nat), .ref x)) (kk : zLW p l e R s m args below meth c Q D en ao au CB SB (k + 1) (.ref x :: st) lv φ ψ) : zLW p l e R s m args below meth c Q D en ao au CB SB k st lv φ ψ := by
  intro H locs cells slots ls n sl ad n' sl' ad' h1 h2 h3 h4 h5 h6 h7 h8
  exact lv_aload_n hA.1 hA.2.1 hd.1 rfl (lv_at h1 q hp) (hd.2 ▸ kk H locs cells slots ls n sl ad n' sl' ad' h1 h2 h3 h4 h5 h6 h7 h8)
theorem zl_iload3 {j : Fin 4} {q : Nat} {x : Int32} (hA : zAm p l R s m args meth c D en) (hd : x_at code lawrp k (.iload_n j) 1) (hp : lv[q]? = some ((j : Nat), .int x)) (kk : zLW p l e R s m args below meth c Q D en ao au CB SB (k + 1) (.int x :: st) lv φ ψ) : zLW p l e R s m args below meth c Q D en ao au CB SB k st lv φ ψ := by
  intro H locs cells slots ls n sl ad n' sl' ad' h1 h2 h3 h4 h5 h6 h7 h8
  exact lv_iload_n hA.1 hA.2.1 hd.1 rfl (lv_at h1 q hp) (hd.2 ▸ kk H locs cells slots ls n sl ad n' sl' ad' h1 h2 h3 h4 h5 h6 h7 h8)
theorem zl_iload {i q : Nat} {x : Int32} (hA : zAm p l R s m args meth c D en) (hd : x_at code lawrp k (.iload i) 2) (hp : lv[q]? = some (i, .int x)) (kk : zLW p l e R s m args below meth c Q D en ao au CB SB (k + 1) (.int x :: st) lv φ ψ) : zLW p l e R s m args below meth c Q D en ao au CB SB k st lv φ ψ := by
  intro H locs cells slots ls n sl ad n' sl' ad' h1 h2 h3 h4 h5 h6 h7 h8
  exact lv_iload hA.1 hA.2.1 hd.1 (lv_at h1 q hp) (hd.2 ▸ kk H locs cells slots ls n sl ad n' sl' ad' h1 h2 h3 h4 h5 h6 h7 h8)
theorem zl_lload {i q : Nat} {x : Int64} (hA : zAm p l R s m args meth c D en) (hd : x_at code lawrp k (.lload i) 2) (hp : lv[q]? = some (i, .long x)) (kk : zLW p l e R s m args below meth c Q D en ao au CB SB (k + 1) (.long x :: st) lv φ ψ) : zLW p l e R s m args below meth c Q D en ao au CB SB k st lv φ ψ := by
  intro H locs cells slots ls n sl ad n' sl' ad' h1 h2 h3 h4 h5 h6 h7 h8
  exact lv_lload hA.1 hA.2.1 hd.1 (lv_at h1 q hp) (hd.2 ▸ kk H locs cells slots ls n sl ad n' sl' ad' h1 h2 h3 h4 h5 h6 h7 h8)
theorem zl_iconst {z : Int} {v : Int32} (hA : zAm p l R s m args meth c D en) (hd : x_at code lawrp k (.iconst z) 1) (hv : Int32.ofInt z = v) (kk : zLW p l e R s m args below meth c Q D en ao au CB SB (k + 1) (.int v :: st) lv φ ψ) : zLW p l e R s m args below meth c Q D en ao au CB SB k st lv φ ψ := by
  intro H locs cells slots ls n sl ad n' sl' ad' h1 h2 h3 h4 h5 h6 h7 h8
  exact lv_iconst hA.1 hA.2.1 hd.1 hv (hd.2 ▸ kk H locs cells slots ls n sl ad n' sl' ad' h1 h2 h3 h4 h5 h6 h7 h8)
theorem zl_bipush {z : Int} {v : Int32} (hA : zAm p l R s m args meth c D en) (hd : x_at code lawrp k (.bipush z) 2) (hv : (Int8.ofInt z).toInt32 = v) (kk : zLW p l e R s m args below meth c Q D en ao au CB SB (k + 1) (.int v :: st) lv φ ψ) : zLW p l e R s m args below meth c Q D en ao au CB SB k st lv φ ψ := by
  intro H locs cells slots ls n sl ad n' sl' ad' h1 h2 h3 h4 h5 h6 h7 h8
  exact lv_bipush hA.1 hA.2.1 hd.1 hv (hd.2 ▸ kk H locs cells slots ls n sl ad n' sl' ad' h1 h2 h3 h4 h5 h6 h7 h8)
theorem zl_istore3 {j : Fin 4} {x : Int32} {lv2 : List (Nat × Value)} (hA : zAm p l R s m args meth c D en) (hd : x_at code lawrp k (.istore_n j) 1) (hn : (j : Nat) < 10) (hl : ((j : Nat), Value.int x) :: lv.filter (fun q => !(q.1 == (j : Nat)) && !(q.1 + 1 == (j : Nat) && q.2.category == 2)) = lv2) (kk : zLW p l e R s m args below meth c Q D en ao au CB SB (k + 1) st lv2 φ ψ) : zLW p l e R s m args below meth c Q D en ao au CB SB k (.int x :: st) lv φ ψ := by
  intro H locs cells slots ls n sl ad n' sl' ad' h1 h2 h3 h4 h5 h6 h7 h8
  exact lv_istore_n hA.1 hA.2.1 hd.1 rfl h1 hn hl (fun ls2 g1 => hd.2 ▸ kk H locs cells slots ls2 n sl ad n' sl' ad' g1 h2 h3 h4 h5 h6 h7 h8)
theorem zl_istore {i : Nat} {x : Int32} {lv2 : List (Nat × Value)} (hA : zAm p l R s m args meth c D en) (hd : x_at code lawrp k (.istore i) 2) (hn : i < 10) (hl : (i, Value.int x) :: lv.filter (fun q => !(q.1 == i) && !(q.1 + 1 == i && q.2.category == 2)) = lv2) (kk : zLW p l e R s m args below meth c Q D en ao au CB SB (k + 1) st lv2 φ ψ) : zLW p l e R s m args below meth c Q D en ao au CB SB k (.int x :: st) lv φ ψ := by
  intro H locs cells slots ls n sl ad n' sl' ad' h1 h2 h3 h4 h5 h6 h7 h8
  exact lv_istore hA.1 hA.2.1 hd.1 h1 hn hl (fun ls2 g1 => hd.2 ▸ kk H locs cells slots ls2 n sl ad n' sl' ad' g1 h2 h3 h4 h5 h6 h7 h8)
theorem zl_lstore {i : Nat} {x : Int64} {lv2 : List (Nat × Value)} (hA : zAm p l R s m args meth c D en) (hd : x_at code lawrp k (.lstore i) 2) (hn : i + 1 < 10) (hl : (i, Value.long x) :: lv.filter (fun q => !(q.1 == i) && (!(q.1 == i + 1) && !(q.1 + 1 == i && q.2.category == 2))) = lv2) (kk : zLW p l e R s m args below meth c Q D en ao au CB SB (k + 1) st lv2 φ ψ) : zLW p l e R s m args below meth c Q D en ao au CB SB k (.long x :: st) lv φ ψ := by
  intro H locs cells slots ls n sl ad n' sl' ad' h1 h2 h3 h4 h5 h6 h7 h8
  exact lv_lstore hA.1 hA.2.1 hd.1 h1 hn hl (fun ls2 g1 => hd.2 ▸ kk H locs cells slots ls2 n sl ad n' sl' ad' g1 h2 h3 h4 h5 h6 h7 h8)
theorem zl_iinc {i q : Nat} {z : Int} {x v : Int32} {lv2 : List (Nat × Value)} (hA : zAm p l R s m args meth c D en) (hd : x_at code lawrp k (.iinc i z) 3) (hp : lv[q]? = some (i, .int x)) (hv : x + Int32.ofInt z = v) (hn : i < 10) (hl : (i, Value.int v) :: lv.filter (fun q => !(q.1 == i) && !(q.1 + 1 == i && q.2.category == 2)) = lv2) (kk : zLW p l e R s m args below meth c Q D en ao au CB SB (k + 1) st lv2 φ ψ) : zLW p l e R s m args below meth c Q D en ao au CB SB k st lv φ ψ := by
  intro H locs cells slots ls n sl ad n' sl' ad' h1 h2 h3 h4 h5 h6 h7 h8
  exact lv_iinc hA.1 hA.2.1 hd.1 h1 hp hv hn hl (fun ls2 g1 => hd.2 ▸ kk H locs cells slots ls2 n sl ad n' sl' ad' g1 h2 h3 h4 h5 h6 h7 h8)
theorem zl_goto {off : Int} {t : Nat} (hA : zAm p l R s m args meth c D en) (hd : decode code (lawrp k) = .ok (.goto off, 3)) (ht : ((lawrp k : Nat) : Int) + off = ((lawrp t : Nat) : Int)) (kk : zLW p l e R s m args below meth c Q D en ao au CB SB t st lv φ ψ) : zLW p l e R s m args below meth c Q D en ao au CB SB k st lv φ ψ := by
  intro H locs cells slots ls n sl ad n' sl' ad' h1 h2 h3 h4 h5 h6 h7 h8
  exact lv_goto hA.1 hA.2.1 hd ht (kk H locs cells slots ls n sl ad n' sl' ad' h1 h2 h3 h4 h5 h6 h7 h8)
theorem zl_icmp_eq {off : Int} {t : Nat} {x y : Int32} (hA : zAm p l R s m args meth c D en) (hd : x_at code lawrp k (.if_icmp .eq off) 3) (ht : ((lawrp k : Nat) : Int) + off = ((lawrp t : Nat) : Int)) (kt : x = y → zLW p l e R s m args below meth c Q D en ao au CB SB t st lv φ ψ) (kf : ¬ x = y → zLW p l e R s m args below meth c Q D en ao au CB SB (k + 1) st lv φ ψ) : zLW p l e R s m args below meth c Q D en ao au CB SB k (.int y :: .int x :: st) lv φ ψ := by
  intro H locs cells slots ls n sl ad n' sl' ad' h1 h2 h3 h4 h5 h6 h7 h8
  exact lv_icmp_eq hA.1 hA.2.1 hd.1 ht (fun g => kt g H locs cells slots ls n sl ad n' sl' ad' h1 h2 h3 h4 h5 h6 h7 h8) (fun g => hd.2 ▸ kf g H locs cells slots ls n sl ad n' sl' ad' h1 h2 h3 h4 h5 h6 h7 h8)
theorem zl_icmp_ne {off : Int} {t : Nat} {x y : Int32} (hA : zAm p l R s m args meth c D en) (hd : x_at code lawrp k (.if_icmp .ne off) 3) (ht : ((lawrp k : Nat) : Int) + off = ((lawrp t : Nat) : Int)) (kt : x ≠ y → zLW p l e R s m args below meth c Q D en ao au CB SB t st lv φ ψ) (kf : x = y → zLW p l e R s m args below meth c Q D en ao au CB SB (k + 1) st lv φ ψ) : zLW p l e R s m args below meth c Q D en ao au CB SB k (.int y :: .int x :: st) lv φ ψ := by
  intro H locs cells slots ls n sl ad n' sl' ad' h1 h2 h3 h4 h5 h6 h7 h8
  exact lv_icmp_ne hA.1 hA.2.1 hd.1 ht (fun g => kt g H locs cells slots ls n sl ad n' sl' ad' h1 h2 h3 h4 h5 h6 h7 h8) (fun g => hd.2 ▸ kf g H locs cells slots ls n sl ad n' sl' ad' h1 h2 h3 h4 h5 h6 h7 h8)
theorem zl_icmp_ge {off : Int} {t : Nat} {x y : Int32} (hA : zAm p l R s m args meth c D en) (hd : x_at code lawrp k (.if_icmp .ge off) 3) (ht : ((lawrp k : Nat) : Int) + off = ((lawrp t : Nat) : Int)) (kt : y ≤ x → zLW p l e R s m args below meth c Q D en ao au CB SB t st lv φ ψ) (kf : ¬ y ≤ x → zLW p l e R s m args below meth c Q D en ao au CB SB (k + 1) st lv φ ψ) : zLW p l e R s m args below meth c Q D en ao au CB SB k (.int y :: .int x :: st) lv φ ψ := by
  intro H locs cells slots ls n sl ad n' sl' ad' h1 h2 h3 h4 h5 h6 h7 h8
  exact lv_icmp_ge hA.1 hA.2.1 hd.1 ht (fun g => kt g H locs cells slots ls n sl ad n' sl' ad' h1 h2 h3 h4 h5 h6 h7 h8) (fun g => hd.2 ▸ kf g H locs cells slots ls n sl ad n' sl' ad' h1 h2 h3 h4 h5 h6 h7 h8)
theorem zl_if_eq {off : Int} {t : Nat} {x : Int32} (hA : zAm p l R s m args meth c D en) (hd : x_at code lawrp k (.ifCond .eq off) 3) (ht : ((lawrp k : Nat) : Int) + off = ((lawrp t : Nat) : Int)) (kt : x = 0 → zLW p l e R s m args below meth c Q D en ao au CB SB t st lv φ ψ) (kf : ¬ x = 0 → zLW p l e R s m args below meth c Q D en ao au CB SB (k + 1) st lv φ ψ) : zLW p l e R s m args below meth c Q D en ao au CB SB k (.int x :: st) lv φ ψ := by
  intro H locs cells slots ls n sl ad n' sl' ad' h1 h2 h3 h4 h5 h6 h7 h8
  exact lv_if_eq hA.1 hA.2.1 hd.1 ht (fun g => kt g H locs cells slots ls n sl ad n' sl' ad' h1 h2 h3 h4 h5 h6 h7 h8) (fun g => hd.2 ▸ kf g H locs cells slots ls n sl ad n' sl' ad' h1 h2 h3 h4 h5 h6 h7 h8)
theorem zl_if_ne {off : Int} {t : Nat} {x : Int32} (hA : zAm p l R s m args meth c D en) (hd : x_at code lawrp k (.ifCond .ne off) 3) (ht : ((lawrp k : Nat) : Int) + off = ((lawrp t : Nat) : Int)) (kt : x ≠ 0 → zLW p l e R s m args below meth c Q D en ao au CB SB t st lv φ ψ) (kf : x = 0 → zLW p l e R s m args below meth c Q D en ao au CB SB (k + 1) st lv φ ψ) : zLW p l e R s m args below meth c Q D en ao au CB SB k (.int x :: st) lv φ ψ := by
  intro H locs cells slots ls n sl ad n' sl' ad' h1 h2 h3 h4 h5 h6 h7 h8
  exact lv_if_ne hA.1 hA.2.1 hd.1 ht (fun g => kt g H locs cells slots ls n sl ad n' sl' ad' h1 h2 h3 h4 h5 h6 h7 h8) (fun g => hd.2 ▸ kf g H locs cells slots ls n sl ad n' sl' ad' h1 h2 h3 h4 h5 h6 h7 h8)
theorem zl_iadd {x y : Int32} (hA : zAm p l R s m args meth c D en) (hd : x_at code lawrp k .iadd 1) (kk : zLW p l e R s m args below meth c Q D en ao au CB SB (k + 1) (.int (x + y) :: st) lv φ ψ) : zLW p l e R s m args below meth c Q D en ao au CB SB k (.int y :: .int x :: st) lv φ ψ := by
  intro H locs cells slots ls n sl ad n' sl' ad' h1 h2 h3 h4 h5 h6 h7 h8
  exact lv_iadd hA.1 hA.2.1 hd.1 (hd.2 ▸ kk H locs cells slots ls n sl ad n' sl' ad' h1 h2 h3 h4 h5 h6 h7 h8)
theorem zl_iand {x y : Int32} (hA : zAm p l R s m args meth c D en) (hd : x_at code lawrp k .iand 1) (kk : zLW p l e R s m args below meth c Q D en ao au CB SB (k + 1) (.int (x &&& y) :: st) lv φ ψ) : zLW p l e R s m args below meth c Q D en ao au CB SB k (.int y :: .int x :: st) lv φ ψ := by
  intro H locs cells slots ls n sl ad n' sl' ad' h1 h2 h3 h4 h5 h6 h7 h8
  exact lv_iand hA.1 hA.2.1 hd.1 (hd.2 ▸ kk H locs cells slots ls n sl ad n' sl' ad' h1 h2 h3 h4 h5 h6 h7 h8)
theorem zl_iushr {x y : Int32} (hA : zAm p l R s m args meth c D en) (hd : x_at code lawrp k .iushr 1) (kk : ∀ v : Int32, zLW p l e R s m args below meth c Q D en ao au CB SB (k + 1) (.int v :: st) lv φ ψ) : zLW p l e R s m args below meth c Q D en ao au CB SB k (.int y :: .int x :: st) lv φ ψ := by
  intro H locs cells slots ls n sl ad n' sl' ad' h1 h2 h3 h4 h5 h6 h7 h8
  exact lv_iushr hA.1 hA.2.1 hd.1 rfl (hd.2 ▸ kk _ H locs cells slots ls n sl ad n' sl' ad' h1 h2 h3 h4 h5 h6 h7 h8)
theorem zl_lmul {x y : Int64} (hA : zAm p l R s m args meth c D en) (hd : x_at code lawrp k .lmul 1) (kk : zLW p l e R s m args below meth c Q D en ao au CB SB (k + 1) (.long (x * y) :: st) lv φ ψ) : zLW p l e R s m args below meth c Q D en ao au CB SB k (.long y :: .long x :: st) lv φ ψ := by
  intro H locs cells slots ls n sl ad n' sl' ad' h1 h2 h3 h4 h5 h6 h7 h8
  exact lv_lmul hA.1 hA.2.1 hd.1 (hd.2 ▸ kk H locs cells slots ls n sl ad n' sl' ad' h1 h2 h3 h4 h5 h6 h7 h8)
theorem zLW_mono {CB2 SB2 : Nat} (h : zLW p l e R s m args below meth c Q D en ao au CB2 SB2 k st lv φ ψ) (g1 : CB ≤ CB2) (g2 : SB ≤ SB2) : zLW p l e R s m args below meth c Q D en ao au CB SB k st lv φ ψ :=
  fun H locs cells slots ls n sl ad n' sl' ad' h1 h2 h3 h4 h5 h6 h7 h8 => h H locs cells slots ls n sl ad n' sl' ad' h1 h2 h3 h4 (Nat.le_trans h5 g1) (Nat.le_trans h6 g2) h7 h8
/-- an answer's value -/
def zval (w : XV) : Value := if w.1 = 2 then .long (Int64.ofNat w.2.1) else .int (Int32.ofNat w.2.1)
theorem zval_of {ad : List Nat} {w : XV} {v : Value} (h : x_V ad en w v) (hw : w.1 = 0 ∨ w.1 = 2) : v = zval w := by
  obtain ⟨t, a, b⟩ := w
  rcases hw with h0 | h0
  · have h0 : t = 0 := h0
    subst h0; exact h
  · have h0 : t = 2 := h0
    subst h0; exact h
theorem x_SR_ints {ad : List Nat} : ∀ (as : List Nat), x_SR ad en (as.map (fun a => ((0, a, 0) : XV))) (as.map (fun a => Value.int (Int32.ofNat a)))
  | [] => rfl
  | a :: t => ⟨_, _, rfl, rfl, x_SR_ints t⟩
theorem bR_of_r {d M n sl : Nat} {loc : List XV} {v : XV} (h : x_f x_P d M loc φ n sl (x_r φ n sl v)) : x_f x_P d M loc φ n sl (x_bR n sl 0 0 (fun w φ2 => w = v ∧ φ2 = φ)) := by
  refine x_f_mono h (fun u w φ2 n2 sl2 q => ?_)
  obtain ⟨q1, q2, q3, q4, q5⟩ := q
  exact ⟨q1, ⟨by omega, by omega⟩, ⟨by omega, by omega⟩, q2, q3⟩
theorem bR_of_rR {d M n sl : Nat} {loc : List XV} {v : XV} {R1 : FH → Prop} (h : x_f x_P d M loc φ n sl (x_rR v n sl R1)) : x_f x_P d M loc φ n sl (x_bR n sl 0 0 (fun w φ2 => w = v ∧ R1 φ2)) := by
  refine x_f_mono h (fun u w φ2 n2 sl2 q => ?_)
  obtain ⟨q1, q2, q3, q4, q5⟩ := q
  exact ⟨q1, ⟨by omega, by omega⟩, ⟨by omega, by omega⟩, q2, q5⟩
theorem zl_callO {M d CN CS : Nat} {i : XI} (as : List Nat) {Post : XV → FH → Prop} (hA : zAm p l R s m args meth c D en) (hs : xs_call p l e R s m args below meth c D xcl (xT.1 M) (xT.2.1 M) (xT.2.2 M) lawrp 10 k i)
    (hc : ∀ n sl, 486 ≤ n → x_f x_P d M (x_pad (x_flat (((6, 0, 0) : XV) :: as.map (fun a => ((0, a, 0) : XV)))) (xT.2.2 M)) φ n sl (x_bR n sl CN CS Post)) (hw : ∀ w φ2, Post w φ2 → w.1 = 0 ∨ w.1 = 2)
    (hfl : (x_flat (((6, 0, 0) : XV) :: as.map (fun a => ((0, a, 0) : XV)))).length ≤ xT.2.2 M) (hlen : as.length + 1 = i.2.2.1) (hrc : x_hd2 i.2.2.2 = 0 ∨ (x_hd2 i.2.2.2 = 1 ∧ ∃ (N : Nat) (f : Nat → XV), φ 0 = some (0, 0, N, f))) (hcat : (st.map fun v => v.category).sum ≤ 8) (hfr : d + 9 ≤ 2048) (hlo : 8 + (xT.2.2 M + 11) + (64 * d + 128) ≤ 84000) (hCB : CB + CN ≤ 600000) (hSB : SB + CS ≤ 7302249)
    (kk : ∀ w φ2, Post w φ2 → zLW p l e R s m args below meth c Q D en ao au (CB + CN) (SB + CS) (k + 1) (zval w :: st) lv φ2 ψ) : zLW p l e R s m args below meth c Q D en ao au CB SB k ((Value.ref ao :: as.map (fun a => Value.int (Int32.ofNat a))).reverse ++ st) lv φ ψ := by
  intro H locs cells slots ls n sl ad n' sl' ad' h1 h2 h3 h4 h5 h6 h7 h8
  obtain ⟨a1, a2, a3, a4, a5, a6, a7, a8, a9⟩ := hA
  have hx : x_SR ad en (((6, 0, 0) : XV) :: as.map (fun a => ((0, a, 0) : XV))) (.ref ao :: as.map (fun a => Value.int (Int32.ofNat a))) := ⟨_, _, rfl, ⟨ao, h7, rfl⟩, x_SR_ints as⟩
  have hrun := zL_call (rest := st) (cells := cells) (slots := slots) (H := H) (locs := locs) (ls := ls) (Q := Q) a9 (xG_3 en) a4 (fun q hq => hq) hs (hc n sl h3) hfl (by rw [List.length_cons, List.length_map]; exact hlen) h2.1 hx h2.2.2.2.1 (by
      rcases hrc with z | ⟨z, N, f, z2⟩
      · exact Or.inl z
      · exact Or.inr ⟨0, N, f, _, z, z2, rfl⟩) h1.1 hcat (by omega) (by omega)
    (fun u w φ2 n2 sl2 q => by
      obtain ⟨q1, ⟨q2, q3⟩, ⟨q4, q5⟩, q6⟩ := q
      exact ⟨q2, q4, by omega, by omega⟩)
    (fun u w φ2 n2 sl2 q H2 locs2 ad2 o ho v1 v2 v3 v4 v5 => by
      obtain ⟨q1, ⟨q2, q3⟩, ⟨q4, q5⟩, q6⟩ := q
      rcases ho with ⟨z, -⟩ | ⟨-, v, z, z2⟩
      · omega
      · subst z
        rw [zval_of z2 (hw _ _ q6)]
        exact kk _ _ q6 H2 locs2 _ _ ls n2 sl2 (ad ++ ad2) n' sl' ad' h1 (zWd.call h2 v1 v2 v3 v5 q2 q4) (by omega) h4 (by omega) (by omega) (by rw [List.getElem?_append_left (List.getElem?_eq_some_iff.mp h7).1]; exact h7) h8)
  exact hrun
theorem zl_callU {M d CN CS : Nat} {i : XI} (as : List Nat) {Post : XV → FH → Prop} (hA : zAm p l R s m args meth c D en) (hs : xs_call p l e R s m args below meth c D xcl (xT.1 M) (xT.2.1 M) (xT.2.2 M) lawrp 10 k i)
    (hc : ∀ n sl, 486 ≤ n → x_f x_P d M (x_pad (x_flat (((6, 0, 0) : XV) :: as.map (fun a => ((0, a, 0) : XV)))) (xT.2.2 M)) ψ n sl (x_bR n sl CN CS Post)) (hw : ∀ w φ2, Post w φ2 → w.1 = 0 ∨ w.1 = 2)
    (hfl : (x_flat (((6, 0, 0) : XV) :: as.map (fun a => ((0, a, 0) : XV)))).length ≤ xT.2.2 M) (hlen : as.length + 1 = i.2.2.1) (hrc : x_hd2 i.2.2.2 = 0 ∨ (x_hd2 i.2.2.2 = 1 ∧ ∃ (N : Nat) (f : Nat → XV), ψ 0 = some (0, 0, N, f))) (hcat : (st.map fun v => v.category).sum ≤ 8) (hfr : d + 9 ≤ 2048) (hlo : 8 + (xT.2.2 M + 11) + (64 * d + 128) ≤ 84000) (hCB : CB + CN ≤ 600000) (hSB : SB + CS ≤ 7302249)
    (kk : ∀ w φ2, Post w φ2 → zLW p l e R s m args below meth c Q D en ao au (CB + CN) (SB + CS) (k + 1) (zval w :: st) lv φ φ2) : zLW p l e R s m args below meth c Q D en ao au CB SB k ((Value.ref au :: as.map (fun a => Value.int (Int32.ofNat a))).reverse ++ st) lv φ ψ := by
  intro H locs cells slots ls n sl ad n' sl' ad' h1 h2 h3 h4 h5 h6 h7 h8
  obtain ⟨a1, a2, a3, a4, a5, a6, a7, a8, a9⟩ := hA
  have hx : x_SR ad' en (((6, 0, 0) : XV) :: as.map (fun a => ((0, a, 0) : XV))) (.ref au :: as.map (fun a => Value.int (Int32.ofNat a))) := ⟨_, _, rfl, ⟨au, h8, rfl⟩, x_SR_ints as⟩
  have hrun := zL_call (rest := st) (cells := cells) (slots := slots) (H := H) (locs := locs) (ls := ls) (Q := Q) a9 (xG_3 en) a4 (fun q hq => hq) hs (hc n' sl' h4) hfl (by rw [List.length_cons, List.length_map]; exact hlen) h2.2.1 hx h2.2.2.2.1 (by
      rcases hrc with z | ⟨z, N, f, z2⟩
      · exact Or.inl z
      · exact Or.inr ⟨0, N, f, _, z, z2, rfl⟩) h1.1 hcat (by omega) (by omega)
    (fun u w φ2 n2 sl2 q => by
      obtain ⟨q1, ⟨q2, q3⟩, ⟨q4, q5⟩, q6⟩ := q
      exact ⟨q2, q4, by omega, by omega⟩)
    (fun u w φ2 n2 sl2 q H2 locs2 ad2 o ho v1 v2 v3 v4 v5 => by
      obtain ⟨q1, ⟨q2, q3⟩, ⟨q4, q5⟩, q6⟩ := q
      rcases ho with ⟨z, -⟩ | ⟨-, v, z, z2⟩
      · omega
      · subst z
        rw [zval_of z2 (hw _ _ q6)]
        exact kk _ _ q6 H2 locs2 _ _ ls n sl ad n2 sl2 (ad' ++ ad2) h1 (zWd.call h2.swap v1 v2 v3 v5 q2 q4).swap h3 (by omega) (by omega) (by omega) h7 (by rw [List.getElem?_append_left (List.getElem?_eq_some_iff.mp h8).1]; exact h8))
  exact hrun
theorem zl_callS {M d CN CS : Nat} {i : XI} (as : List Nat) {Post : XV → FH → Prop} (hA : zAm p l R s m args meth c D en) (hs : xs_call p l e R s m args below meth c D xcl (xT.1 M) (xT.2.1 M) (xT.2.2 M) lawrp 10 k i)
    (hc : ∀ n sl, 486 ≤ n → x_f x_P d M (x_pad (x_flat (as.map (fun a => ((0, a, 0) : XV)))) (xT.2.2 M)) φ n sl (x_bR n sl CN CS Post)) (hw : ∀ w φ2, Post w φ2 → w.1 = 0 ∨ w.1 = 2)
    (hfl : (x_flat (as.map (fun a => ((0, a, 0) : XV)))).length ≤ xT.2.2 M) (hlen : as.length = i.2.2.1) (hrc : x_hd2 i.2.2.2 = 0) (hcat : (st.map fun v => v.category).sum ≤ 8) (hfr : d + 9 ≤ 2048) (hlo : 8 + (xT.2.2 M + 11) + (64 * d + 128) ≤ 84000) (hCB : CB + CN ≤ 600000) (hSB : SB + CS ≤ 7302249)
    (kk : ∀ w φ2, Post w φ2 → zLW p l e R s m args below meth c Q D en ao au (CB + CN) (SB + CS) (k + 1) (zval w :: st) lv φ2 ψ) : zLW p l e R s m args below meth c Q D en ao au CB SB k ((as.map (fun a => Value.int (Int32.ofNat a))).reverse ++ st) lv φ ψ := by
  intro H locs cells slots ls n sl ad n' sl' ad' h1 h2 h3 h4 h5 h6 h7 h8
  obtain ⟨a1, a2, a3, a4, a5, a6, a7, a8, a9⟩ := hA
  have hx : x_SR ad en (as.map (fun a => ((0, a, 0) : XV))) (as.map (fun a => Value.int (Int32.ofNat a))) := x_SR_ints as
  have hrun := zL_call (rest := st) (cells := cells) (slots := slots) (H := H) (locs := locs) (ls := ls) (Q := Q) a9 (xG_3 en) a4 (fun q hq => hq) hs (hc n sl h3) hfl (by rw [List.length_map]; exact hlen) h2.1 hx h2.2.2.2.1 (Or.inl hrc) h1.1 hcat (by omega) (by omega)
    (fun u w φ2 n2 sl2 q => by
      obtain ⟨q1, ⟨q2, q3⟩, ⟨q4, q5⟩, q6⟩ := q
      exact ⟨q2, q4, by omega, by omega⟩)
    (fun u w φ2 n2 sl2 q H2 locs2 ad2 o ho v1 v2 v3 v4 v5 => by
      obtain ⟨q1, ⟨q2, q3⟩, ⟨q4, q5⟩, q6⟩ := q
      rcases ho with ⟨z, -⟩ | ⟨-, v, z, z2⟩
      · omega
      · subst z
        rw [zval_of z2 (hw _ _ q6)]
        exact kk _ _ q6 H2 locs2 _ _ ls n2 sl2 (ad ++ ad2) n' sl' ad' h1 (zWd.call h2 v1 v2 v3 v5 q2 q4) (by omega) h4 (by omega) (by omega) (by rw [List.getElem?_append_left (List.getElem?_eq_some_iff.mp h7).1]; exact h7) h8)
  exact hrun
end LAW2
