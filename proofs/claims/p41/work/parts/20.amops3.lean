section AMOPS3
variable {p : Program} {l : Launch} {e : Env} {R : Room} {s : State} {m : MethodId} {args : Array Value} {below : List Frame} {meth : Method} {c : Code} {Q : State → Prop}
variable {cc : ByteArray} {D : va_G} {cl : List vw_C} {A : Nat → Prop} {en : XE} {rn : Nat → FieldType} {rp : Nat → Nat} {nL n0 sl0 nF slF : Nat} {ad0 : List Nat}
variable {P : XK} {ih : XF} {code : List XI} {i : XI} {pc n sl : Nat} {stk loc : List XV} {h : XH} {r : Nat × XV × XH × Nat × Nat}
theorem x_V_tag0 {ad : List Nat} {x : XV} {v : Value} (hv : x_V ad en x v) (h0 : Nat.beq x.1 0 = true) : v = .int (Int32.ofNat x.2.1) := by
  obtain ⟨t, u, w⟩ := x
  have ht : t = 0 := x_beq h0
  subst ht
  exact hv
theorem x_V_tag2 {ad : List Nat} {x : XV} {v : Value} (hv : x_V ad en x v) (h0 : Nat.beq x.1 2 = true) : v = .long (Int64.ofNat x.2.1) := by
  obtain ⟨t, u, w⟩ := x
  have ht : t = 2 := x_beq h0
  subst ht
  exact hv
theorem x_I_some {q : Nat} {k : XV → XR} (hr : x_I q k = some r) : k (0, q % 4294967296, 0) = some r := by
  unfold x_I at hr
  rw [x_force_eq] at hr
  exact hr
theorem x_L_some {q : Nat} {k : XV → XR} (hr : x_L q k = some r) : k (2, q % 18446744073709551616, 0) = some r := by
  unfold x_L at hr
  rw [x_force_eq] at hr
  exact hr
theorem x_V_I {ad : List Nat} {q : Nat} {y : Int32} (hy : y = Int32.ofNat q) : x_V ad en (0, q % 4294967296, 0) (.int y) := by
  show Value.int y = .int (Int32.ofNat (q % 4294967296))
  rw [hy]
  exact congrArg Value.int (xi_ext (by omega))
theorem x_V_L {ad : List Nat} {q : Nat} {y : Int64} (hy : y = Int64.ofNat q) : x_V ad en (2, q % 18446744073709551616, 0) (.long y) := by
  show Value.long y = .long (Int64.ofNat (q % 18446744073709551616))
  rw [hy]
  exact congrArg Value.long (xl_ext (by omega))
theorem xi_add (a b : Nat) : Int32.ofNat a + Int32.ofNat b = Int32.ofNat (a + b) := nI_add a b
set_option maxHeartbeats 1000000 in
theorem xk_iinc (hexec : p.tables.exec = Jvm.exec) (hb : c.code = cc) (hs : xs_iinc cc rp pc i) (hr : xo_iinc P ih code i pc stk loc h n sl = some r)
    (hk : ∀ pc stk loc h n sl, ih code pc stk loc h n sl = some r → x_PR p l e R s m args below meth c Q D cl A en rn rp nL n0 sl0 nF slF ad0 pc stk loc h n sl) : x_PR p l e R s m args below meth c Q D cl A en rn rp nL n0 sl0 nF slF ad0 pc stk loc h n sl := by
  obtain ⟨v, h1, hr⟩ := x_bind_some hr
  rw [x_nth_eq] at h1
  obtain ⟨h2, hr⟩ := x_if_n hr
  have hr := x_I_some hr
  rw [x_force_eq] at hr
  obtain ⟨g1, g2, K⟩ := hk _ _ _ _ _ _ hr
  refine ⟨g1, g2, fun H locs ad st ls cells slots hst hls hw hc hsl => ?_⟩
  obtain ⟨z, ⟨hd, hn⟩, hz⟩ := hs
  obtain ⟨hlen, lv, hlv, h3⟩ := hls
  obtain ⟨w, w1, w2⟩ := h3 _ _ h1 (by rw [x_beq h2]; decide)
  have hw0 := x_V_tag0 w2 h2
  subst hw0
  obtain ⟨k9, hk9⟩ := List.getElem?_of_mem w1
  have hi : i.2.1 < nL := by rw [← hlen]; exact (List.getElem?_eq_some_iff.mp h1).1
  refine lv_iinc hexec hb hd hlv hk9 rfl hi rfl (fun ls1 hl1 => ?_)
  have hup := x_LR_upd1 (x := (0, (v.2.1 + i.2.2.1) % 4294967296, 0)) hlen h3 hi (x_V_I (ad := ad) (en := en) (q := v.2.1 + i.2.2.1) (by rw [hz]; exact xi_add _ _)) hl1
  exact hn ▸ K H locs ad st ls1 cells slots hst hup hw hc hsl
end AMOPS3
