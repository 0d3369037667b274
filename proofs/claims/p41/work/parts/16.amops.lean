section AMOPS
variable {p : Program} {l : Launch} {e : Env} {R : Room} {s : State} {m : MethodId} {args : Array Value} {below : List Frame} {meth : Method} {c : Code} {Q : State → Prop}
variable {cc : ByteArray} {D : va_G} {cl : List vw_C} {A : Nat → Prop} {en : XE} {rn : Nat → FieldType} {rp : Nat → Nat} {nL n0 sl0 nF slF : Nat} {ad0 : List Nat}
variable {P : XK} {ih : XF} {code : List XI} {i : XI} {pc n sl : Nat} {stk loc : List XV} {h : XH} {r : Nat × XV × XH × Nat × Nat}
theorem x_V_kd {ad : List Nat} {x : XV} {v : Value} (hv : x_V ad en x v) : (x_kd x.1 = 0 → ∃ y, v = .int y) ∧ (x_kd x.1 = 1 → ∃ y, v = .long y) ∧ (x_kd x.1 = 2 → v = .null ∨ ∃ a, v = .ref a) ∧ (x_kd x.1 = 3 → ∃ y, v = .double y) := by
  obtain ⟨t, a, b⟩ := x
  unfold x_V at hv
  dsimp only at hv ⊢
  split at hv
  · exact ⟨fun _ => ⟨_, hv⟩, fun q => absurd q (by decide), fun q => absurd q (by decide), fun q => absurd q (by decide)⟩
  · obtain ⟨y, h1, -⟩ := hv; exact ⟨fun _ => ⟨_, h1⟩, fun q => absurd q (by decide), fun q => absurd q (by decide), fun q => absurd q (by decide)⟩
  · exact ⟨fun q => absurd q (by decide), fun _ => ⟨_, hv⟩, fun q => absurd q (by decide), fun q => absurd q (by decide)⟩
  · obtain ⟨y, h1, -⟩ := hv; exact ⟨fun q => absurd q (by decide), fun _ => ⟨_, h1⟩, fun q => absurd q (by decide), fun q => absurd q (by decide)⟩
  · obtain ⟨y, h1⟩ := hv; exact ⟨fun q => absurd q (by decide), fun q => absurd q (by decide), fun q => absurd q (by decide), fun _ => ⟨_, h1⟩⟩
  · exact ⟨fun q => absurd q (by decide), fun q => absurd q (by decide), fun _ => Or.inl hv, fun q => absurd q (by decide)⟩
  · obtain ⟨y, -, h1⟩ := hv; exact ⟨fun q => absurd q (by decide), fun q => absurd q (by decide), fun _ => Or.inr ⟨_, h1⟩, fun q => absurd q (by decide)⟩
  · exact ⟨fun q => absurd q (by decide), fun q => absurd q (by decide), fun _ => hv, fun q => absurd q (by decide)⟩
  · exact ⟨fun q => absurd q (by decide), fun q => absurd q (by decide), fun _ => Or.inr ⟨_, hv⟩, fun q => absurd q (by decide)⟩
  · exact ⟨fun q => absurd q (by decide), fun q => absurd q (by decide), fun _ => Or.inr ⟨_, hv⟩, fun q => absurd q (by decide)⟩
  · obtain ⟨y, h1, -⟩ := hv; exact ⟨fun _ => ⟨_, h1⟩, fun q => absurd q (by decide), fun q => absurd q (by decide), fun q => absurd q (by decide)⟩
  · exact ⟨fun q => absurd q (by decide), fun q => absurd q (by decide), fun _ => Or.inr ⟨_, hv⟩, fun q => absurd q (by decide)⟩
  · exact hv.elim
theorem x_kd_11 {x : XV} {k : Nat} (hk : k < 9) (h1 : Nat.beq (x_kd x.1) k = true) : x.1 ≠ 11 := by
  intro h2
  rw [h2] at h1
  have := x_beq h1
  have h3 : x_kd 11 = 9 := rfl
  omega
def x_ldn (k : Nat) (q : Fin 4) : Instr := match k with
  | 0 => .iload_n q
  | 1 => .lload_n q
  | 2 => .aload_n q
  | _ => .dload_n q
def x_ld (k a : Nat) : Instr := match k with
  | 0 => .iload a
  | 1 => .lload a
  | 2 => .aload a
  | _ => .dload a
/-- where an instruction stands: its bytes, and the next one's place -/
def x_at (cc : ByteArray) (rp : Nat → Nat) (pc : Nat) (ins : Instr) (len : Nat) : Prop := decode cc (rp pc) = .ok (ins, len) ∧ rp (pc + 1) = rp pc + len
def xs_load (cc : ByteArray) (rp : Nat → Nat) (pc : Nat) (i : XI) : Prop := i.2.2.1 < 4 ∧ ((∃ q : Fin 4, (q : Nat) = i.2.1 ∧ x_at cc rp pc (x_ldn i.2.2.1 q) 1) ∨ x_at cc rp pc (x_ld i.2.2.1 i.2.1) 2)
set_option maxHeartbeats 1000000 in
theorem xk_load (hexec : p.tables.exec = Jvm.exec) (hb : c.code = cc) (hs : xs_load cc rp pc i) (hr : xo_load P ih code i pc stk loc h n sl = some r)
    (hk : ∀ pc stk loc h n sl, ih code pc stk loc h n sl = some r → x_PR p l e R s m args below meth c Q D cl A en rn rp nL n0 sl0 nF slF ad0 pc stk loc h n sl) : x_PR p l e R s m args below meth c Q D cl A en rn rp nL n0 sl0 nF slF ad0 pc stk loc h n sl := by
  obtain ⟨v, h1, hr⟩ := x_bind_some hr
  rw [x_nth_eq] at h1
  obtain ⟨h2, hr⟩ := x_if_n hr
  rw [x_force_eq] at hr
  obtain ⟨g1, g2, K⟩ := hk _ _ _ _ _ _ hr
  refine ⟨g1, g2, fun H locs ad st ls cells slots hst hls hw hc hsl => ?_⟩
  obtain ⟨w, hw1, hw2⟩ := x_LR_get hls h1 (x_kd_11 (Nat.lt_trans hs.1 (by decide)) h2)
  have kk := K H locs ad (w :: st) ls cells slots (x_SR_mk hw2 hst) hls hw hc hsl
  obtain ⟨a0, a1, a2, a3⟩ := x_V_kd hw2
  have hkd := x_beq h2
  obtain ⟨hlt, hs⟩ := hs
  obtain ⟨op, ia, ib, itab⟩ := i
  dsimp only at hkd hlt hs hw1
  rw [hkd] at a0 a1 a2 a3
  match ib, hlt, hs, a0, a1, a2, a3 with
  | 0, _, hs, a0, _, _, _ =>
    obtain ⟨y, rfl⟩ := a0 rfl
    rcases hs with ⟨q, hq, hd, hn⟩ | ⟨hd, hn⟩
    · exact lv_iload_n hexec hb hd hq hw1 (hn ▸ kk)
    · exact lv_iload hexec hb hd hw1 (hn ▸ kk)
  | 1, _, hs, _, a1, _, _ =>
    obtain ⟨y, rfl⟩ := a1 rfl
    rcases hs with ⟨q, hq, hd, hn⟩ | ⟨hd, hn⟩
    · exact lv_lload_n hexec hb hd hq hw1 (hn ▸ kk)
    · exact lv_lload hexec hb hd hw1 (hn ▸ kk)
  | 2, _, hs, _, _, a2, _ =>
    rcases a2 rfl with rfl | ⟨y, rfl⟩
    · rcases hs with ⟨q, hq, hd, hn⟩ | ⟨hd, hn⟩
      · exact lv_aload_nN hexec hb hd hq hw1 (hn ▸ kk)
      · exact lv_aloadN hexec hb hd hw1 (hn ▸ kk)
    · rcases hs with ⟨q, hq, hd, hn⟩ | ⟨hd, hn⟩
      · exact lv_aload_n hexec hb hd hq hw1 (hn ▸ kk)
      · exact lv_aload hexec hb hd hw1 (hn ▸ kk)
  | 3, _, hs, _, _, _, a3 =>
    obtain ⟨y, rfl⟩ := a3 rfl
    rcases hs with ⟨q, hq, hd, hn⟩ | ⟨hd, hn⟩
    · exact lv_dload_n hexec hb hd hq hw1 (hn ▸ kk)
    · exact lv_dload hexec hb hd hw1 (hn ▸ kk)
end AMOPS
