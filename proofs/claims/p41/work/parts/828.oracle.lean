section FORACLE
variable {K K' : XK} {ih : XF} {code : List XI} {i : XI} {pc n sl : Nat} {stk loc : List XV} {h : XH}
def x_leK (K K' : XK) : Prop := ∀ M loc h n sl, x_le (K M loc h n sl) (K' M loc h n sl)
theorem x_leK_rfl : x_leK K K := fun _ _ _ _ _ => x_le_rfl _
theorem x_leK_trans {K2 : XK} (h1 : x_leK K K') (h2 : x_leK K' K2) : x_leK K K2 := fun _ _ _ _ _ r hr => h2 _ _ _ _ _ r (h1 _ _ _ _ _ r hr)
theorem x_le_bind2 {α β : Type} {o o' : Option α} {k : α → Option β} (h : x_le o o') : x_le (x_bind o k) (x_bind o' k) := by
  cases o with
  | none => exact x_le_none _
  | some a => rw [h a rfl]; exact x_le_rfl _
theorem xm_callK (hK : x_leK K K') : x_le (xo_call K ih code i pc stk loc h n sl) (xo_call K' ih code i pc stk loc h n sl) :=
  x_le_take fun _ _ => x_le_if (x_le_if (x_le_if (x_le_bind2 (hK _ _ _ _ _)) (x_le_none _)) (x_le_none _)) (x_le_none _)
theorem xm_allK (hK : x_leK K K') {op : Nat} {f : XO} (hf : x_nth x_ops op = some f) : x_le (f K ih code i pc stk loc h n sl) (f K' ih code i pc stk loc h n sl) := by
  match op, hf with
  | 0, hf => cases hf; exact x_le_rfl _
  | 1, hf => cases hf; exact x_le_rfl _
  | 2, hf => cases hf; exact x_le_rfl _
  | 3, hf => cases hf; exact x_le_rfl _
  | 4, hf => cases hf; exact x_le_rfl _
  | 5, hf => cases hf; exact x_le_rfl _
  | 6, hf => cases hf; exact x_le_rfl _
  | 7, hf => cases hf; exact x_le_rfl _
  | 8, hf => cases hf; exact x_le_rfl _
  | 9, hf => cases hf; exact x_le_rfl _
  | 10, hf => cases hf; exact x_le_rfl _
  | 11, hf => cases hf; exact xm_callK hK
  | 12, hf => cases hf; exact x_le_rfl _
  | 13, hf => cases hf; exact x_le_rfl _
  | 14, hf => cases hf; exact x_le_rfl _
  | 15, hf => cases hf; exact x_le_rfl _
  | 16, hf => cases hf; exact x_le_rfl _
  | 17, hf => cases hf; exact x_le_rfl _
  | 18, hf => cases hf; exact x_le_rfl _
  | 19, hf => cases hf; exact x_le_rfl _
  | 20, hf => cases hf; exact x_le_rfl _
  | 21, hf => cases hf; exact x_le_rfl _
  | 22, hf => cases hf; exact x_le_rfl _
  | 23, hf => cases hf; exact x_le_rfl _
  | 24, hf => cases hf; exact x_le_rfl _
  | 25, hf => cases hf; exact x_le_rfl _
  | 26, hf => cases hf; exact x_le_rfl _
  | 27, hf => cases hf; exact x_le_rfl _
  | 28, hf => cases hf; exact x_le_rfl _
  | 29, hf => cases hf; exact x_le_rfl _
  | 30, hf => cases hf; exact x_le_rfl _
  | 31, hf => cases hf; exact x_le_rfl _
  | 32, hf => cases hf; exact x_le_rfl _
  | 33, hf => cases hf; exact x_le_rfl _
  | 34, hf => cases hf; exact x_le_rfl _
  | 35, hf => cases hf; exact x_le_rfl _
  | 36, hf => cases hf; exact x_le_rfl _
  | 37, hf => cases hf; exact x_le_none _
  | 38, hf => cases hf; exact x_le_none _
  | 39, hf => cases hf; exact x_le_none _
  | 40, hf => cases hf; exact x_le_rfl _
  | 41, hf => cases hf; exact x_le_rfl _
  | 42, hf => cases hf; exact x_le_rfl _
  | n + 43, hf => cases hf
theorem x_run_K (hK : x_leK K K') (f : Nat) : x_leF (x_run K f) (x_run K' f) := by
  induction f with
  | zero => intro code pc stk loc h n sl; exact x_le_none _
  | succ f ih =>
    intro code pc stk loc h n sl
    refine x_le_orec (o := x_nth code pc) fun i => ?_
    cases ho : x_nth x_ops i.1 with
    | none => exact x_le_none _
    | some g => exact fun r hr => xm_allK hK ho r (xm_all ih ho r hr)
theorem x_dep_F {P : List (List XI)} {F F' : Nat} (hF : F ≤ F') (d : Nat) : x_leK (x_dep P F d) (x_dep P F' d) := by
  induction d with
  | zero => exact fun _ _ _ _ _ => x_le_none _
  | succ d ih =>
    intro M loc h n sl
    refine x_le_bind (o := x_nth P M) fun cd => ?_
    exact fun r hr => x_run_K ih F' _ _ _ _ _ _ _ r (x_run_mono hF _ _ _ _ _ _ _ r hr)
theorem x_dep_d1 {P : List (List XI)} {F : Nat} (d : Nat) : x_leK (x_dep P F d) (x_dep P F (d + 1)) := by
  induction d with
  | zero => exact fun _ _ _ _ _ => x_le_none _
  | succ d ih =>
    intro M loc h n sl
    refine x_le_bind (o := x_nth P M) fun cd => ?_
    exact fun r hr => x_run_K ih F _ _ _ _ _ _ _ r hr
theorem x_dep_d {P : List (List XI)} {F : Nat} (d k : Nat) : x_leK (x_dep P F d) (x_dep P F (d + k)) := by
  induction k with
  | zero => exact x_leK_rfl
  | succ k ih => exact x_leK_trans ih (x_dep_d1 _)
theorem x_dep_up {P : List (List XI)} {F F' d d' : Nat} (hF : F ≤ F') (hd : d ≤ d') : x_leK (x_dep P F d) (x_dep P F' d') := by
  obtain ⟨k, rfl⟩ := Nat.exists_eq_add_of_le hd
  exact x_leK_trans (x_dep_F hF d) (x_dep_d d k)
/-- a call that is known: method, locals, cells, how many, their slots; how it ends -/
abbrev XOr : Type := Nat × List XV × XH × Nat × Nat × (Nat × XV × XH × Nat × Nat)
def zd2 : DecidableEq (List (Nat × Nat × Nat × Nat)) := inferInstance
def zd3 : DecidableEq (Nat × Nat × List (Nat × Nat × Nat × Nat)) := haveI := zd2; inferInstance
def zd4 : DecidableEq (List (List (Nat × Nat × List (Nat × Nat × Nat × Nat)))) := haveI := zd3; inferInstance
def zd6 : DecidableEq (List (List (Nat × Nat × List (Nat × Nat × Nat × Nat))) × Nat × Nat) := haveI := zd4; inferInstance
def zd7 : DecidableEq (Nat × (Nat × Nat × Nat) × List (List (Nat × Nat × List (Nat × Nat × Nat × Nat))) × Nat × Nat) := haveI := zd6; inferInstance
def zd5 : DecidableEq XR := haveI := zd7; (inferInstance : DecidableEq (Option (Nat × (Nat × Nat × Nat) × List (List (Nat × Nat × List (Nat × Nat × Nat × Nat))) × Nat × Nat)))
def zd8 : DecidableEq (List (Nat × Nat × Nat)) := inferInstance
noncomputable def x_or1 (e : XOr) (M : Nat) (loc : List XV) (h : XH) (n sl : Nat) (k : XR) : XR :=
  x_if (Nat.beq e.1 M) (x_if (Nat.beq e.2.2.2.1 n) (x_if (Nat.beq e.2.2.2.2.1 sl) (x_if (@decide _ (zd8 e.2.1 loc)) (x_if (@decide _ (zd4 e.2.2.1 h)) (some e.2.2.2.2.2) k) k) k) k) k
noncomputable def x_or (L : List XOr) (K : XK) : XK := fun M loc h n sl => List.rec (motive := fun _ => XR) (K M loc h n sl) (fun e _ r => x_or1 e M loc h n sl r) L
theorem x_or_le (hK : x_leK K K') : ∀ (L : List XOr), (∀ e ∈ L, K' e.1 e.2.1 e.2.2.1 e.2.2.2.1 e.2.2.2.2.1 = some e.2.2.2.2.2) → x_leK (x_or L K) K'
  | [], _ => hK
  | e :: t, hL => by
    intro M loc h n sl
    have hrec := x_or_le hK t (fun q hq => hL q (List.mem_cons_of_mem _ hq)) M loc h n sl
    show x_le (x_or1 e M loc h n sl (x_or t K M loc h n sl)) _
    unfold x_or1
    cases h1 : Nat.beq e.1 M with
    | false => exact hrec
    | true =>
      cases h2 : Nat.beq e.2.2.2.1 n with
      | false => exact hrec
      | true =>
        cases h3 : Nat.beq e.2.2.2.2.1 sl with
        | false => exact hrec
        | true =>
          cases h4 : @decide _ (zd8 e.2.1 loc) with
          | false => exact hrec
          | true =>
            cases h5 : @decide _ (zd4 e.2.2.1 h) with
            | false => exact hrec
            | true =>
              intro r hr
              have e1 := x_beq h1
              have e2 := x_beq h2
              have e3 := x_beq h3
              have e4 := @of_decide_eq_true _ (zd8 e.2.1 loc) h4
              have e5 := @of_decide_eq_true _ (zd4 e.2.2.1 h) h5
              have hr : some e.2.2.2.2.2 = some r := hr
              rw [← hr, ← e1, ← e2, ← e3, ← e4, ← e5]
              exact hL e List.mem_cons_self
theorem x_dep_or {P : List (List XI)} {F d M : Nat} {cd : List XI} {r : Nat × XV × XH × Nat × Nat} (L : List XOr) (hL : ∀ e ∈ L, x_dep P F d e.1 e.2.1 e.2.2.1 e.2.2.2.1 e.2.2.2.2.1 = some e.2.2.2.2.2) (hcd : x_nth P M = some cd) (hr : x_run (x_or L (x_dep P F d)) F cd 0 [] loc h n sl = some r) : x_dep P F (d + 1) M loc h n sl = some r := by
  show x_bind (x_nth P M) (fun cd => x_run (x_dep P F d) F cd 0 [] loc h n sl) = some r
  rw [hcd]
  exact x_run_K (x_or_le x_leK_rfl L hL) F _ _ _ _ _ _ _ r hr
end FORACLE
