section AMOPS9
variable {p : Program} {l : Launch} {e : Env} {R : Room} {s : State} {m : MethodId} {args : Array Value} {below : List Frame} {meth : Method} {c : Code} {Q : State → Prop}
variable {cc : ByteArray} {D : va_G} {cl : List vw_C} {A : Nat → Prop} {en : XE} {rn : Nat → FieldType} {rp : Nat → Nat} {nL n0 sl0 nF slF : Nat} {ad0 : List Nat}
variable {P : XK} {ih : XF} {code : List XI} {i : XI} {pc n sl : Nat} {stk loc : List XV} {h : XH} {r : Nat × XV × XH × Nat × Nat}
theorem x_W_set {tys : List (ClassId × FieldType)} {ws : va_W} {ad : List Nat} {h2 : XH} {q0 a : Nat} {e0 e1 : va_E} {c0 c1 : XC} (hC : ∀ k c, x_hget h k = some c → ∃ q : Nat × va_E, ws[k]? = some q ∧ x_C ad en rn tys c q.2) (hg : x_hget h q0 = some c0) (hh : x_hset h q0 c1 = some h2) (hq : ws[q0]? = some (a, e0)) (hc1 : x_C ad en rn tys c1 e1) :
    ∀ k c, x_hget h2 k = some c → ∃ q : Nat × va_E, (ws.set q0 (a, e1))[k]? = some q ∧ x_C ad en rn tys c q.2 := by
  intro k c hk
  rw [x_hget_hset hg hh] at hk
  rw [List.getElem?_set]
  by_cases hkq : k = q0
  · rw [if_pos hkq] at hk
    subst hkq
    rw [if_pos rfl, if_pos (List.getElem?_eq_some_iff.mp hq).1]
    exact ⟨_, rfl, Option.some.inj hk ▸ hc1⟩
  · rw [if_neg hkq] at hk
    rw [if_neg (Ne.symm hkq)]
    exact hC k c hk
theorem x_fst_set {ws : va_W} {q0 a : Nat} {e0 e1 : va_E} (hq : ws[q0]? = some (a, e0)) : (ws.set q0 (a, e1)).map Prod.fst = ws.map Prod.fst := by
  apply List.ext_getElem?
  intro k
  rw [List.getElem?_map, List.getElem?_map, List.getElem?_set]
  by_cases hk : q0 = k
  · subst hk
    rw [if_pos rfl, if_pos (List.getElem?_eq_some_iff.mp hq).1, hq]
    rfl
  · rw [if_neg hk]
/-- one cell changes -/
theorem x_W_mk {s : State} {H1 : Heap} {locs1 : List Loc} {tys : List (ClassId × FieldType)} {ws : va_W} {ad : List Nat} {h2 : XH} {q0 a : Nat} {e0 e1 : va_E} {c0 c1 : XC} (had : ad = ws.map Prod.fst) (hlen : ws.length = n) (hK : va_K D cl tys s) (hC : ∀ k c, x_hget h k = some c → ∃ q : Nat × va_E, ws[k]? = some q ∧ x_C ad en rn tys c q.2) (hg : x_hget h q0 = some c0) (hh : x_hset h q0 c1 = some h2) (hq : ws[q0]? = some (a, e0)) (hc1 : x_C ad en rn tys c1 e1)
    (hP : va_P D cl (ws.set q0 (a, e1)) H1) (hD : va_D A (ws.set q0 (a, e1))) (hS : va_S A s.heap H1 locs1) : x_W D cl A en rn s H1 locs1 h2 n ad :=
  ⟨ws.set q0 (a, e1), tys, by rw [x_fst_set hq]; exact had, by rw [List.length_set]; exact hlen, hK, hP, hD, hS, x_W_set hC hg hh hq hc1⟩
theorem x_nar_id {t : Nat} {v : XV} {k : XV → XR} (ht : t = 1 ∨ 6 ≤ t) (hr : x_nar t v k = some r) : k v = some r := by
  obtain ⟨-, hr⟩ := x_if_n hr
  have hb : x_if (Nat.beq t 1) true (Nat.ble 6 t) = true := by
    rcases ht with rfl | ht
    · rfl
    · rw [Nat.ble_eq_true_of_le ht]
      cases Nat.beq t 1 <;> rfl
  rw [hb] at hr
  exact hr
/-- storing into an array of ints -/
theorem x_C_seti {ad : List Nat} {tys : List (ClassId × FieldType)} {cell : XC} {j : Nat} {w : XV} {X : Int32} {cA : ClassId} {f : Nat → Int32} {t0 : Nat} (hk : 1 ≤ cell.1 ∧ cell.1 ≤ 5) (hj : j < x_glen cell.2.2) (hty : tys[t0]? = some (cA, x_ty rn cell.1 cell.2.1)) (hv : ∀ i x, x_gget cell.2.2 i = some x → x_V ad en x (.int (f i))) (hw : x_V ad en w (.int X)) :
    x_C ad en rn tys (cell.1, cell.2.1, x_gset cell.2.2 j w) (.inl (cA, x_glen cell.2.2, .inl (upd f j X))) := by
  refine Or.inr (Or.inl ⟨hk, cA, _, t0, by rw [x_glen_gset], hty, fun i x hx => ?_⟩)
  rw [x_gget_gset _ _ _ _ hj] at hx
  by_cases hij : i = j
  · rw [if_pos hij] at hx
    rw [← Option.some.inj hx]
    simp only [upd, if_pos hij]
    exact hw
  · rw [if_neg hij] at hx
    simp only [upd, if_neg hij]
    exact hv _ _ hx
theorem x_C_setl {ad : List Nat} {tys : List (ClassId × FieldType)} {cell : XC} {j : Nat} {w : XV} {X : Int64} {cA : ClassId} {f : Nat → Int64} {t0 : Nat} (hk : cell.1 = 6) (hj : j < x_glen cell.2.2) (hty : tys[t0]? = some (cA, .long)) (hv : ∀ i x, x_gget cell.2.2 i = some x → x_V ad en x (.long (f i))) (hw : x_V ad en w (.long X)) :
    x_C ad en rn tys (cell.1, cell.2.1, x_gset cell.2.2 j w) (.inl (cA, x_glen cell.2.2, .inr (.inl (vp_updL f j X)))) := by
  refine Or.inr (Or.inr (Or.inl ⟨hk, cA, _, t0, by rw [x_glen_gset], hty, fun i x hx => ?_⟩))
  rw [x_gget_gset _ _ _ _ hj] at hx
  by_cases hij : i = j
  · rw [if_pos hij] at hx
    rw [← Option.some.inj hx]
    simp only [vp_updL, if_pos hij]
    exact hw
  · rw [if_neg hij] at hx
    simp only [vp_updL, if_neg hij]
    exact hv _ _ hx
theorem x_C_setq {ad : List Nat} {tys : List (ClassId × FieldType)} {cell : XC} {j : Nat} {w : XV} {X : Option Nat} {cA : ClassId} {f : Nat → Option Nat} {t0 : Nat} (hk : cell.1 = 8) (hj : j < x_glen cell.2.2) (hty : tys[t0]? = some (cA, rn cell.2.1)) (hv : ∀ i x, x_gget cell.2.2 i = some x → x_V ad en x (va_rf (f i))) (hw : x_V ad en w (va_rf X)) :
    x_C ad en rn tys (cell.1, cell.2.1, x_gset cell.2.2 j w) (.inl (cA, x_glen cell.2.2, .inr (.inr (.inr (.inr (va_up f j X)))))) := by
  refine Or.inr (Or.inr (Or.inr ⟨hk, cA, _, t0, by rw [x_glen_gset], hty, fun i x hx => ?_⟩))
  rw [x_gget_gset _ _ _ _ hj] at hx
  by_cases hij : i = j
  · rw [if_pos hij] at hx
    rw [← Option.some.inj hx]
    simp only [va_up, if_pos hij]
    exact hw
  · rw [if_neg hij] at hx
    simp only [va_up, if_neg hij]
    exact hv _ _ hx
theorem x_okref_some {v : XV} {b : Nat} (hr : x_okref h v b = true) : (Nat.beq v.1 5 = true ∧ x_rob[b]? = some 1) ∨ (Nat.beq v.1 6 = true ∧ ∃ c, x_hget h v.2.1 = some c ∧ c.1 = 0 ∧ x_rcs[c.2.1]? = some b) := by
  unfold x_okref at hr
  cases h5 : Nat.beq v.1 5 with
  | true =>
    rw [h5, x_if_true, x_nth_eq] at hr
    cases hq : x_rob[b]? with
    | none => rw [hq] at hr; cases hr
    | some q =>
      rw [hq] at hr
      have e : q = 1 := x_beq hr
      rw [e]
      exact Or.inl ⟨rfl, rfl⟩
  | false =>
    rw [h5, x_if_false] at hr
    cases h6 : Nat.beq v.1 6 with
    | false => rw [h6] at hr; cases hr
    | true =>
      rw [h6, x_if_true] at hr
      cases hq : x_hget h v.2.1 with
      | none => rw [hq] at hr; cases hr
      | some c =>
        rw [hq] at hr
        have hr : x_if (Nat.beq c.1 0) (Option.rec (motive := fun _ => Bool) false (fun q => Nat.beq q b) (x_nth x_rcs c.2.1)) false = true := hr
        cases h0 : Nat.beq c.1 0 with
        | false => rw [h0] at hr; cases hr
        | true =>
          rw [h0, x_if_true, x_nth_eq] at hr
          cases hz : x_rcs[c.2.1]? with
          | none => rw [hz] at hr; cases hr
          | some q =>
            rw [hz] at hr
            have e : q = b := x_beq hr
            exact Or.inr ⟨rfl, c, rfl, x_beq h0, e ▸ hz⟩
set_option maxHeartbeats 1000000 in
theorem xk_ast (hexec : p.tables.exec = Jvm.exec) (hb : c.code = cc) (hrob : ∀ b : Nat, x_rob[b]? = some 1 → ∃ C, rn b = .object C) (hrcs : ∀ ci b : Nat, x_rcs[ci]? = some b → ∃ q : vw_C, cl[ci]? = some q ∧ rn b = .object q.1) (hs : xs_ast cc rp pc i) (hr : xo_ast P ih code i pc stk loc h n sl = some r)
    (hk : ∀ pc stk loc h n sl, ih code pc stk loc h n sl = some r → x_PR p l e R s m args below meth c Q D cl A en rn rp nL n0 sl0 nF slF ad0 pc stk loc h n sl) : x_PR p l e R s m args below meth c Q D cl A en rn rp nL n0 sl0 nF slF ad0 pc stk loc h n sl := by
  match stk, hr with
  | v :: j :: x :: t, hr =>
    obtain ⟨h1, hr⟩ := x_if_n hr
    obtain ⟨h2, hr⟩ := x_if_n hr
    obtain ⟨h3, hr⟩ := x_if_n' hr
    obtain ⟨cell, h4, hr⟩ := x_bind_some hr
    obtain ⟨h5, hr⟩ := x_if_n hr
    obtain ⟨h6, hr⟩ := x_if_n hr
    obtain ⟨h8, hrF⟩ := x_if_n hr
    have hlt : j.2.1 < x_glen cell.2.2 := x_ble h6
    have hkd : Nat.beq (x_kd v.1) (x_akd cell.1) = true := (x_if_n (b := Nat.beq (x_kd v.1) (x_akd cell.1)) hrF).1
    -- what the rest needs of a world
    have hgo : ∀ w : XV, (∃ h9, x_hset h x.2.1 (cell.1, cell.2.1, x_gset cell.2.2 j.2.1 w) = some h9 ∧ ih code (pc + 1) t loc h9 n sl = some r) → n ≤ nF ∧ sl ≤ slF := fun w ⟨h9, _, hz⟩ => ⟨(hk _ _ _ _ _ _ hz).1, (hk _ _ _ _ _ _ hz).2.1⟩
    have hkk : ∀ w : XV, x_bind (x_hset h x.2.1 (cell.1, cell.2.1, x_gset cell.2.2 j.2.1 w)) (fun h2 => x_force (Nat.succ pc) (fun p => ih code p t loc h2 n sl)) = some r → ∃ h9, x_hset h x.2.1 (cell.1, cell.2.1, x_gset cell.2.2 j.2.1 w) = some h9 ∧ ih code (pc + 1) t loc h9 n sl = some r := by
      intro w hz
      obtain ⟨h9, hz1, hz2⟩ := x_bind_some hz
      rw [x_force_eq] at hz2
      exact ⟨h9, hz1, hz2⟩
    obtain ⟨ho, hd, hn⟩ := hs
    have h7 := x_beq h5
    have hbnd : n ≤ nF ∧ sl ≤ slF := by
      by_cases hid : cell.1 = 1 ∨ 6 ≤ cell.1
      · exact hgo _ (hkk _ (x_nar_id hid hrF))
      · have hc24 : cell.1 = 2 ∨ cell.1 = 4 ∨ cell.1 = 3 := by omega
        obtain ⟨-, hr9⟩ := x_if_n (b := Nat.beq (x_kd v.1) (x_akd cell.1)) hrF
        rcases hc24 with e | e | e
        · rw [e] at hr9
          rcases x_if_some (b := Nat.beq v.1 0) hr9 with ⟨-, q⟩ | ⟨-, q⟩
          · exact hgo _ (hkk _ (by rw [e]; exact x_I_some (k := fun w => x_bind (x_hset h x.2.1 (2, cell.2.1, x_gset cell.2.2 j.2.1 w)) (fun h2 => x_force (Nat.succ pc) (fun p => ih code p t loc h2 n sl))) q))
          · exact hgo _ (hkk _ (by rw [e]; exact q))
        · rw [e] at hr9
          obtain ⟨-, q⟩ := x_if_n (b := Nat.beq v.1 0) hr9
          exact hgo _ (hkk _ (by rw [e]; exact x_I_some (k := fun w => x_bind (x_hset h x.2.1 (4, cell.2.1, x_gset cell.2.2 j.2.1 w)) (fun h2 => x_force (Nat.succ pc) (fun p => ih code p t loc h2 n sl))) q))
        · rw [e] at hr9
          obtain ⟨-, q⟩ := x_if_n (b := Nat.beq v.1 0) hr9
          exact hgo _ (hkk _ (by rw [e]; exact x_I_some (k := fun w => x_bind (x_hset h x.2.1 (3, cell.2.1, x_gset cell.2.2 j.2.1 w)) (fun h2 => x_force (Nat.succ pc) (fun p => ih code p t loc h2 n sl))) q))
    refine ⟨hbnd.1, hbnd.2, fun H locs ad st ls cells slots hst hls hw hc hsl => ?_⟩
    obtain ⟨vv, st1, rfl, hvv, hst1⟩ := x_SR_cons hst
    obtain ⟨vj, st2, rfl, hvj, hst2⟩ := x_SR_cons hst1
    obtain ⟨vx, st3, rfl, hvx, hst3⟩ := x_SR_cons hst2
    obtain ⟨a, ha, ev⟩ := x_ref hvx h1
    rw [ev, x_V_tag0 hvj h2]
    obtain ⟨ws, tys, had, hlen, hK, hP, hD, hS, hC⟩ := hw
    obtain ⟨q, hq, hcc⟩ := hC _ _ h4
    have hwq := x_wsq (had ▸ ha) hq
    have hin : vp_in (Int32.ofNat j.2.1) (x_glen cell.2.2) := xn_in h3 hlt
    -- how it goes on with w stored
    have kk : ∀ (w : XV) (e1 : va_E), x_C ad en rn tys (cell.1, cell.2.1, x_gset cell.2.2 j.2.1 w) e1 → x_bind (x_hset h x.2.1 (cell.1, cell.2.1, x_gset cell.2.2 j.2.1 w)) (fun h2 => x_force (Nat.succ pc) (fun p => ih code p t loc h2 n sl)) = some r →
        ∀ (H1 : Heap) (locs1 : List Loc), va_P D cl (ws.set x.2.1 (a, e1)) H1 → va_D A (ws.set x.2.1 (a, e1)) → va_S A s.heap H1 locs1 → W p l e R s m args below meth c H1 locs1 cells slots Q (F0 m (rp pc + 1) ls st3) := by
      intro w e1 hc1 hz H1 locs1 p1 d1 s1
      obtain ⟨h9, hz1, hz2⟩ := hkk w hz
      obtain ⟨-, -, K⟩ := hk _ _ _ _ _ _ hz2
      exact hn ▸ K H1 locs1 ad st3 ls cells slots hst3 hls (x_W_mk had hlen hK hC h4 hz1 hwq hc1 p1 d1 s1) hc hsl
    obtain ⟨k0, k1, k2, k3⟩ := x_V_kd hvv
    have hkd := x_beq hkd
    obtain ⟨op, ia, ib, itab⟩ := i
    dsimp only at ho hd h7
    rcases hcc with ⟨h0, -⟩ | ⟨hk5, cA, f, t0, he, hty, hv⟩ | ⟨h0, cA, f, t0, he, hty, hv⟩ | ⟨h0, cA, f, t0, he, hty, hv⟩
    · omega
    · rw [he] at hwq
      have hty0 := hty
      have hi3 : ia = 1 ∨ ia = 2 ∨ ia = 3 ∨ ia = 4 := by omega
      rcases hi3 with rfl | rfl | rfl | rfl
      · obtain ⟨X, rfl⟩ := k0 (by rw [hkd, h7]; rfl)
        rw [h7] at hty
        exact va_iast hexec hb hK hP hD hS _ t0 hwq hty hin hd (by rw [xn_cl h3]; exact kk _ _ (x_C_seti hk5 hlt hty0 hv hvv) (x_nar_id (Or.inl h7) hrF))
      · obtain ⟨X, rfl⟩ := k0 (by rw [hkd, h7]; rfl)
        rw [h7] at hty
        obtain ⟨w, hw1, hw2⟩ := x_nar_b hvv (h7 ▸ hrF)
        exact va_bast hexec hb hK hP hD hS _ t0 hwq hty hin hd (by rw [xn_cl h3]; exact kk _ _ (x_C_seti hk5 hlt hty0 hv hw2) (by rw [h7]; exact hw1))
      · obtain ⟨X, rfl⟩ := k0 (by rw [hkd, h7]; rfl)
        rw [h7] at hty
        obtain ⟨w, hw1, hw2⟩ := x_nar_z hvv (h7 ▸ hrF)
        exact va_zast hexec hb hK hP hD hS _ t0 hwq hty hin hd (by rw [xn_cl h3]; exact kk _ _ (x_C_seti hk5 hlt hty0 hv hw2) (by rw [h7]; exact hw1))
      · obtain ⟨X, rfl⟩ := k0 (by rw [hkd, h7]; rfl)
        rw [h7] at hty
        obtain ⟨w, hw1, hw2⟩ := x_nar_c hvv (h7 ▸ hrF)
        exact va_cast hexec hb hK hP hD hS _ t0 hwq hty hin hd (by rw [xn_cl h3]; exact kk _ _ (x_C_seti hk5 hlt hty0 hv hw2) (by rw [h7]; exact hw1))
    · rw [he] at hwq
      have hia : ia = 6 := by omega
      subst hia
      obtain ⟨X, rfl⟩ := k1 (by rw [hkd, h7]; rfl)
      exact va_last hexec hb hK hP hD hS _ t0 hwq hty hin hd (by rw [xn_cl h3]; exact kk _ _ (x_C_setl h0 hlt hty hv hvv) (x_nar_id (Or.inr (by omega)) hrF))
    · rw [he] at hwq
      have hia : ia = 8 := by omega
      subst hia
      rw [h0] at h8
      rcases x_okref_some h8 with ⟨h9, hb9⟩ | ⟨h9, c9, hg9, hc9, hr9⟩
      · have hvN : x_V ad en v (va_rf none) := by
          have q9 := hvv
          rw [x_V_tag5 hvv h9] at q9
          exact q9
        rw [x_V_tag5 hvv h9]
        obtain ⟨C, hC9⟩ := hrob _ hb9
        have hty0 := hty
        rw [hC9] at hty
        exact va_astqN hexec hb hK hP hD hS _ t0 hwq hty hin hd (by rw [xn_cl h3]; exact kk _ _ (x_C_setq (X := none) h0 hlt hty0 hv hvN) (x_nar_id (Or.inr (by omega)) hrF))
      · obtain ⟨av, hav, evv⟩ := x_ref hvv h9
        have hvR : x_V ad en v (va_rf (some av)) := by
          have q9 := hvv
          rw [evv] at q9
          exact q9
        rw [evv]
        obtain ⟨qv, hqv, hcv⟩ := hC _ _ hg9
        have hwv := x_wsq (had ▸ hav) hqv
        rcases hcv with ⟨-, vs, hev, -⟩ | ⟨hz, -⟩ | ⟨hz, -⟩ | ⟨hz, -⟩
        · obtain ⟨rc, hrc1, hrc2⟩ := hrcs _ _ hr9
          have hty0 := hty
          rw [hrc2] at hty
          exact va_astq hexec hb hK hP hD hS _ t0 _ _ hwq hty (hev ▸ hwv) hrc1 hin hd (by rw [xn_cl h3]; exact kk _ _ (x_C_setq (X := some av) h0 hlt hty0 hv hvR) (x_nar_id (Or.inr (by omega)) hrF))
        · omega
        · omega
        · omega
end AMOPS9
