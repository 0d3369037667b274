section LAW15
variable {p : Program} {l : Launch} {e : Env} {R : Room} {s : State} {m : MethodId} {args : Array Value} {below : List Frame} {meth : Method} {c : Code} {Q : State → Prop} {D : va_G} {en : XE} {A : Nat → Prop}
theorem zw_10 : Cond.classLink "ExpressHouseLaw" 10 "ExpressHouse" ∈ xBIG := xin_1 (List.mem_of_getElem? (i := 23) rfl) rfl
theorem zw_15 : Cond.instantiable "ExpressHouse" 15 ∈ xBIG := xin_1 (List.mem_of_getElem? (i := 24) rfl) rfl
theorem zs_0 (S : CallFix p m c code 10 s args xBIG "ExpressHouseLaw") (hA : ∀ q, s.heap.size ≤ q → A q) : xs_new p l e R s m args below meth c Q D xcl A lawrp 0 (17, 0, 15, [(1, 5), (1, 0), (11, 5), (2, 0)]) :=
  xc_new (own := "ExpressHouseLaw") (index := 10) S.1 S.2.1 S.2.2.2.2 xC_0 S.2.2.2.1 hA rfl rfl zw_10 zw_15 xw_64 (by decide) (by decide +kernel) (And.intro (by decide +kernel) rfl)
theorem zs_4 (S : CallFix p m c code 10 s args xBIG "ExpressHouseLaw") (hA : ∀ q, s.heap.size ≤ q → A q) : xs_new p l e R s m args below meth c Q D xcl A lawrp 4 (17, 0, 15, [(1, 5), (1, 0), (11, 5), (2, 0)]) :=
  xc_new (own := "ExpressHouseLaw") (index := 10) S.1 S.2.1 S.2.2.2.2 xC_0 S.2.2.2.1 hA rfl rfl zw_10 zw_15 xw_64 (by decide) (by decide +kernel) (And.intro (by decide +kernel) rfl)
theorem zGv_u : zGv (x_phi zr_u) 0 0 0 0 (x_rl [(512, 0, 0, 0)]) (fun _ => MV0) (x_rl [(40, 0, 0, 0)]) (fun _ => MV0) MV9 := ⟨_, _, _, _, _, _, _, _, zG_u⟩
theorem zGv_o : zGv (x_phi zr_o) 0 0 0 0 (x_rl [(512, 0, 0, 0)]) (fun _ => MV0) (x_rl [(40, 0, 0, 0)]) (fun _ => MV0) MV9 := ⟨_, _, _, _, _, _, _, _, zG_o⟩
end LAW15
