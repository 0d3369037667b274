section AMG
theorem x_AOA_moved {t : FieldType} {u U : State} (hvm : u.vm.Alike U.vm) (h : va_AOA t u) : va_AOA t U := by
  obtain ⟨comp, c, k, h1, h2, h3, h4, h5⟩ := arrayOverA_spec h
  obtain ⟨k', hk', he⟩ := hvm.2.2 _ _ h3
  have hi : (U.vm.classes.findIdx? fun (x : Class) => match x.kind with | .array component _ => component == comp | _ => false) = some c := by
    refine (va_idx_bare U.vm comp).symm.trans ?_
    first | rw [hvm.bare_eq] | rw [← hvm.bare_eq]
    exact (va_idx_bare u.vm comp).trans h2
  have hkind : k'.kind = .array comp (.array t) := by rw [he]; exact h4
  have f1 : U.vm.findClass (FieldType.array t).toString = some comp := by rw [hvm.findClass]; exact h1
  have f2 : U.vm.findClass ("[" ++ (FieldType.array t).toString) = some c := by rw [hvm.findClass]; exact h5
  unfold va_AOA Cond.before Cond.holds
  simp only [Cond.value]
  rw [f1, Option.bind_some]
  refine (congrArg (fun o : Option Nat => (o.bind (fun c => (U.vm.classes[c]?).map fun (k : Class) => match k.kind with | .array _ ty => decide (ty = FieldType.array t) && decide (U.vm.findClass ("[" ++ (FieldType.array t).toString) = some c) | _ => false) == some true)) hi).trans ?_
  simp [hk', hkind, f2]
/-- what lies in the String constants: their signs, by their places -/
def xSb : List (List Int32) := x_strs.map (fun t => t.map (fun n => Int32.ofNat n))
def xSn : List Nat := x_strs.map List.length
/-- links of nest mates, classes of arrays of arrays, casts: what isn't a word that a method may carry -/
def xN_all (U : State) : Prop := (∀ w ∈ xNl.map (fun q => Cond.methodLinkNest q.1 q.2.1 q.2.2.1 q.2.2.2), va_Nw w U) ∧ va_AO "ExpressHouse$Value" U ∧ va_AOA .int U ∧ va_AOA .long U ∧ va_Nw (.castable "[J" "java/lang/Cloneable") U
theorem xN_warm {s U : State} (hW : s.WarmedH U.vm) (h : xN_all s) : xN_all U := by
  refine ⟨fun w hw => ?_, va_AO.moved hW.alike h.2.1, x_AOA_moved hW.alike h.2.2.1, x_AOA_moved hW.alike h.2.2.2.1, va_Nw.warmC hW h.2.2.2.2⟩
  have h1 := h.1 w hw
  obtain ⟨q, -, rfl⟩ := List.mem_map.mp hw
  exact va_Nw.warmM hW h1
theorem xN_same {u U : State} (hv : U.vm = u.vm) (h : xN_all u) : xN_all U := by
  refine ⟨fun w hw => ?_, va_AO.moved (hv ▸ Vm.Alike.refl u.vm) h.2.1, x_AOA_moved (hv ▸ Vm.Alike.refl u.vm) h.2.2.1, x_AOA_moved (hv ▸ Vm.Alike.refl u.vm) h.2.2.2.1, va_Nw.same rfl hv.symm h.2.2.2.2⟩
  have h1 := h.1 w hw
  obtain ⟨q, -, rfl⟩ := List.mem_map.mp hw
  exact va_Nw.same rfl hv.symm h1
/-- the String constants: what they are, and what String's own code reads -/
def xS_all (adK : Nat → Nat) (A : Nat → Prop) (U : State) (H : Heap) : Prop :=
  (∃ adV, vk_S x_strs.length xSn xSb adK adV A U H) ∧ va_Z "java/lang/String" "COMPACT_STRINGS" "Z" (.int 1) A U H ∧ va_Zq "jdk/internal/util/Preconditions" "SIOOBE_FORMATTER" "Ljava/util/function/BiFunction;" A U H
/-- what the methods lean on, besides the world: links of nest mates, the row NO_CELLS, the String constants -/
def xG (en : XE) (A : Nat → Prop) (U : State) (H : Heap) : Prop :=
  xN_all U ∧ va_Z "ExpressHouse$Value" "NO_CELLS" "[J" (.ref en.2.1) A U H ∧ (∀ q ∈ xSl, vk_R q.1 q.2.1 q.2.2.1 (en.2.2 q.2.2.2) U) ∧ va_T .long en.2.1 0 (fun _ => .long 0) A U H ∧ xS_all en.2.2 A U H
theorem xG_all {en : XE} {A : Nat → Prop} {s : State} (h : xG en A s s.heap) : xN_all s ∧ va_Z "ExpressHouse$Value" "NO_CELLS" "[J" (.ref en.2.1) A s s.heap ∧ (∀ q ∈ xSl, vk_R q.1 q.2.1 q.2.2.1 (en.2.2 q.2.2.2) s) ∧ xS_all en.2.2 A s s.heap :=
  ⟨h.1, h.2.1, h.2.2.1, h.2.2.2.2⟩
theorem xG_no {en : XE} (A : Nat → Prop) (s : State) (h : xG en A s s.heap) : ∃ (ty : FieldType) (f : Nat → Value), va_T ty en.2.1 0 f A s s.heap := ⟨_, _, h.2.2.2.1⟩
theorem xS_moved {adK : Nat → Nat} {A : Nat → Prop} {u U : State} {H : Heap} (hvm : u.vm.Alike U.vm) (h : xS_all adK A u H) : xS_all adK A U H := by
  obtain ⟨⟨adV, h1⟩, h2, h3⟩ := h
  exact ⟨⟨adV, vk_S.moved hvm h1⟩, va_Z.moved hvm h2, va_Zq.moved hvm h3⟩
theorem xG_3 (en : XE) : x_G3 (xG en) := by
  refine ⟨fun A u U H hW h => ⟨xN_warm hW h.1, va_Z.moved hW.alike h.2.1, fun q hq => vk_R.warm hW (h.2.2.1 q hq), va_T.moved hW.alike h.2.2.2.1, xS_moved hW.alike h.2.2.2.2⟩,
    fun A U H H1 hq h => ⟨h.1, va_Z.kept h.2.1 hq, h.2.2.1, va_T.kept h.2.2.2.1 hq, ?_⟩,
    fun A B U H hAB h => ⟨h.1, va_Z.narrow h.2.1 hAB, h.2.2.1, va_T.narrow h.2.2.2.1 hAB, ?_⟩,
    fun A u U H hv h => ⟨xN_same hv h.1, va_Z.moved (hv ▸ Vm.Alike.refl u.vm) h.2.1, fun q hq => vk_R.same hv (h.2.2.1 q hq), va_T.moved (hv ▸ Vm.Alike.refl u.vm) h.2.2.2.1, xS_moved (hv ▸ Vm.Alike.refl u.vm) h.2.2.2.2⟩⟩
  · obtain ⟨⟨adV, h1⟩, h2, h3⟩ := h.2.2.2.2
    exact ⟨⟨adV, vk_S.kept h1 hq⟩, va_Z.kept h2 hq, va_Zq.kept h3 hq⟩
  · obtain ⟨⟨adV, h1⟩, h2, h3⟩ := h.2.2.2.2
    exact ⟨⟨adV, vk_S.narrow h1 hAB⟩, va_Z.narrow h2 hAB, va_Zq.narrow h3 hAB⟩
theorem xb_all {C : String} {w : Cond} {p : Program} {l : Launch} {y : MethodName} {ws : List Cond} {R : Room} {cc : ByteArray} {nL : Nat} {ret : Option FieldType} {e : Env} {s : State} {m : MethodId} {args : Array Value} {below : List Frame} {meth : Method} {c : Code} {s₁ : State} (B : BodyLoose p l y (headSpec ws R) cc nL ret e s m args below meth c s₁) (hml : c.maxLocals = nL) (hC : y.cls = C) (hws : ws = w :: xBIG) :
    p.tables.exec = Jvm.exec ∧ c.code = cc ∧ meth.sig.returnType = ret ∧ s.vm.findClass C = some m.cls ∧ meth.locks = false ∧ meth.name = y.name ∧ (∀ w ∈ xBIG, w.before args s = true) ∧ CallFix p m c cc nL s args xBIG C := by
  have hts := atoms_spec (ws := ws) B.pre
  have htsB : ∀ w ∈ xBIG, w.before args s = true := fun w h => hts w (by rw [hws]; exact List.mem_cons_of_mem _ h)
  have hown : s.vm.findClass C = some m.cls := by rw [← hC]; exact findClass_of_methodNamed B.named
  exact ⟨B.exec, B.bytes, B.returns, hown, B.notSynchronized, (name_of_methodNamed B.named B.method).1, htsB, B.exec, B.bytes, hml, hown, htsB⟩
/-- all rows of a list -/
def xa_all (F : Nat → XI → Prop) : Nat → List XI → Prop
  | _, [] => True
  | k, i :: r => F k i ∧ xa_all F (k + 1) r
theorem xa_nil {F : Nat → XI → Prop} {k : Nat} : xa_all F k [] := trivial
theorem xa_cons {F : Nat → XI → Prop} (k : Nat) {i : XI} {r : List XI} (h : F k i) (t : xa_all F (k + 1) r) : xa_all F k (i :: r) := ⟨h, t⟩
theorem xa_from {F : Nat → XI → Prop} : ∀ {cd : List XI} {k0 pc : Nat} {i : XI}, xa_all F k0 cd → cd[pc]? = some i → F (k0 + pc) i
  | [], _, _, _, _, h => by cases h
  | j :: r, k0, 0, i, h, hi => by rw [← Option.some.inj hi]; exact h.1
  | j :: r, k0, n + 1, i, h, hi => by
    have := xa_from (k0 := k0 + 1) (pc := n) h.2 hi
    rw [show k0 + (n + 1) = k0 + 1 + n by omega]
    exact this
theorem xa_at {F : Nat → XI → Prop} {cd : List XI} {pc : Nat} {i : XI} (h : xa_all F 0 cd) (hi : cd[pc]? = some i) : F pc i := by
  have := xa_from h hi
  rw [Nat.zero_add] at this
  exact this
theorem xc_gets {p : Program} {l : Launch} {e : Env} {R : Room} {s : State} {m : MethodId} {args : Array Value} {below : List Frame} {meth : Method} {c : Code} {Q : State → Prop} {cc : ByteArray} {A : Nat → Prop} {en : XE} {rp : Nat → Nat} {pc : Nat} {i : XI} (hexec : p.tables.exec = Jvm.exec) (hb : c.code = cc) {C n d own : String} {index : Nat} (hZ : va_Z C n d (.ref en.2.1) A s s.heap) (hown : s.vm.findClass own = some m.cls) (hlink : (Cond.fieldLink own index C n d).before args s = true) (hd : x_at cc rp pc (.getstatic index) 3) (hi : i.2.1 = 12) : xs_gets p l e R s m args below meth c Q A en rp pc i := by
  exact ⟨.ref en.2.1, fun ad => by rw [hi]; exact rfl, fun H locs ls cells slots st hS kk => va_gets hexec hb hZ hS hown hlink (fun _ h => h) hd.1 (hd.2 ▸ kk)⟩
end AMG
