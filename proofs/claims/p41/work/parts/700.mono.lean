section FMONO
/-- what one gives, the other gives too -/
def x_le {α : Type} (a b : Option α) : Prop := ∀ r, a = some r → b = some r
theorem x_le_rfl {α : Type} (a : Option α) : x_le a a := fun _ h => h
theorem x_le_none {α : Type} (a : Option α) : x_le none a := fun _ h => by cases h
theorem x_le_if {α : Type} {b : Bool} {x y x' y' : Option α} (h1 : x_le x x') (h2 : x_le y y') : x_le (x_if b x y) (x_if b x' y') := by
  cases b
  · exact h2
  · exact h1
theorem x_le_bind {α β : Type} {o : Option α} {k k' : α → Option β} (h : ∀ a, x_le (k a) (k' a)) : x_le (x_bind o k) (x_bind o k') := by
  cases o with
  | none => exact x_le_none _
  | some a => exact h a
theorem x_le_orec {α β : Type} {o : Option α} {k k' : α → Option β} (h : ∀ a, x_le (k a) (k' a)) : x_le (Option.rec (motive := fun _ => Option β) none k o) (Option.rec (motive := fun _ => Option β) none k' o) := x_le_bind (o := o) h
theorem x_le_force {α : Type} {n : Nat} {k k' : Nat → Option α} (h : ∀ m, x_le (k m) (k' m)) : x_le (x_force n k) (x_force n k') := by
  rw [x_force_eq, x_force_eq]
  exact h n
theorem x_le_goif {o : Option Bool} {t p : Nat} {k k' : Nat → XR} (h : ∀ m, x_le (k m) (k' m)) : x_le (x_goif o t p k) (x_goif o t p k') :=
  x_le_orec (fun _ => x_le_if (x_le_force h) (x_le_force h))
theorem x_le_I {n : Nat} {k k' : XV → XR} (h : ∀ m, x_le (k m) (k' m)) : x_le (x_I n k) (x_I n k') := x_le_force (fun _ => h _)
theorem x_le_L {n : Nat} {k k' : XV → XR} (h : ∀ m, x_le (k m) (k' m)) : x_le (x_L n k) (x_L n k') := x_le_force (fun _ => h _)
theorem x_le_nar {t : Nat} {v : XV} {k k' : XV → XR} (h : ∀ m, x_le (k m) (k' m)) : x_le (x_nar t v k) (x_nar t v k') :=
  x_le_if (x_le_if (h _) (x_le_if (x_le_if (x_le_I h) (x_le_if (x_le_I h) (x_le_if (x_le_I h) (x_le_none _)))) (x_le_if (h _) (x_le_none _)))) (x_le_none _)
theorem x_le_take {m : Nat} : ∀ {stk acc : List XV} {k k' : List XV → List XV → XR}, (∀ a t, x_le (k a t) (k' a t)) → x_le (x_take m stk acc k) (x_take m stk acc k') := by
  induction m with
  | zero => intro stk acc k k' h; exact h _ _
  | succ m ih =>
    intro stk acc k k' h
    cases stk with
    | nil => exact x_le_none _
    | cons v t => exact ih h
section
variable {P : XK} {ih ih' : XF} {code : List XI} {i : XI} {pc n sl : Nat} {stk loc : List XV} {h : XH}
def x_leF (ih ih' : XF) : Prop := ∀ code pc stk loc h n sl, x_le (ih code pc stk loc h n sl) (ih' code pc stk loc h n sl)
theorem xm_load (hm : x_leF ih ih') : x_le (xo_load P ih code i pc stk loc h n sl) (xo_load P ih' code i pc stk loc h n sl) := x_le_bind fun _ => x_le_if (x_le_force fun _ => hm _ _ _ _ _ _ _) (x_le_none _)
theorem xm_getf (hm : x_leF ih ih') : x_le (xo_getf P ih code i pc stk loc h n sl) (xo_getf P ih' code i pc stk loc h n sl) := by
  cases stk with
  | nil => exact x_le_none _
  | cons r t => exact x_le_if (x_le_orec fun _ => x_le_if (x_le_if (x_le_orec fun _ => x_le_force fun _ => hm _ _ _ _ _ _ _) (x_le_none _)) (x_le_none _)) (x_le_none _)
theorem xm_const (hm : x_leF ih ih') : x_le (xo_const P ih code i pc stk loc h n sl) (xo_const P ih' code i pc stk loc h n sl) := x_le_force fun _ => hm _ _ _ _ _ _ _
theorem xm_icmp (hm : x_leF ih ih') : x_le (xo_icmp P ih code i pc stk loc h n sl) (xo_icmp P ih' code i pc stk loc h n sl) := by
  rcases stk with _ | ⟨y, _ | ⟨x, t⟩⟩
  · exact x_le_none _
  · exact x_le_none _
  · exact x_le_goif fun _ => hm _ _ _ _ _ _ _
theorem xm_if0 (hm : x_leF ih ih') : x_le (xo_if0 P ih code i pc stk loc h n sl) (xo_if0 P ih' code i pc stk loc h n sl) := by
  rcases stk with _ | ⟨y, t⟩
  · exact x_le_none _
  · exact x_le_goif fun _ => hm _ _ _ _ _ _ _
theorem xm_goto (hm : x_leF ih ih') : x_le (xo_goto P ih code i pc stk loc h n sl) (xo_goto P ih' code i pc stk loc h n sl) := x_le_force fun _ => hm _ _ _ _ _ _ _
theorem xm_iinc (hm : x_leF ih ih') : x_le (xo_iinc P ih code i pc stk loc h n sl) (xo_iinc P ih' code i pc stk loc h n sl) := x_le_bind fun _ => x_le_if (x_le_I fun _ => x_le_force fun _ => hm _ _ _ _ _ _ _) (x_le_none _)
theorem xm_store (hm : x_leF ih ih') : x_le (xo_store P ih code i pc stk loc h n sl) (xo_store P ih' code i pc stk loc h n sl) := by
  rcases stk with _ | ⟨y, t⟩
  · exact x_le_none _
  · exact x_le_if (x_le_if (x_le_force fun _ => hm _ _ _ _ _ _ _) (x_le_none _)) (x_le_none _)
theorem xm_store2 (hm : x_leF ih ih') : x_le (xo_store2 P ih code i pc stk loc h n sl) (xo_store2 P ih' code i pc stk loc h n sl) := by
  rcases stk with _ | ⟨y, t⟩
  · exact x_le_none _
  · exact x_le_if (x_le_if (x_le_force fun _ => hm _ _ _ _ _ _ _) (x_le_none _)) (x_le_none _)
theorem xm_ast (hm : x_leF ih ih') : x_le (xo_ast P ih code i pc stk loc h n sl) (xo_ast P ih' code i pc stk loc h n sl) := by
  rcases stk with _ | ⟨v, _ | ⟨j, _ | ⟨r, t⟩⟩⟩
  · exact x_le_none _
  · exact x_le_none _
  · exact x_le_none _
  · exact x_le_if (x_le_if (x_le_if (x_le_none _) (x_le_bind fun _ => x_le_if (x_le_if (x_le_if (x_le_nar fun _ => x_le_bind fun _ => x_le_force fun _ => hm _ _ _ _ _ _ _) (x_le_none _)) (x_le_none _)) (x_le_none _))) (x_le_none _)) (x_le_none _)
theorem xm_alen (hm : x_leF ih ih') : x_le (xo_alen P ih code i pc stk loc h n sl) (xo_alen P ih' code i pc stk loc h n sl) := by
  rcases stk with _ | ⟨y, t⟩
  · exact x_le_none _
  · exact x_le_if (x_le_bind fun _ => x_le_if (x_le_none _) (x_le_I fun _ => x_le_force fun _ => hm _ _ _ _ _ _ _)) (x_le_if (x_le_force fun _ => hm _ _ _ _ _ _ _) (x_le_none _))
theorem xm_putf (hm : x_leF ih ih') : x_le (xo_putf P ih code i pc stk loc h n sl) (xo_putf P ih' code i pc stk loc h n sl) := by
  rcases stk with _ | ⟨v, _ | ⟨r, t⟩⟩
  · exact x_le_none _
  · exact x_le_none _
  · exact x_le_if (x_le_if (x_le_bind fun _ => x_le_if (x_le_if (x_le_bind fun _ => x_le_bind fun _ => x_le_force fun _ => hm _ _ _ _ _ _ _) (x_le_none _)) (x_le_none _)) (x_le_none _)) (x_le_none _)
theorem xm_call (hm : x_leF ih ih') : x_le (xo_call P ih code i pc stk loc h n sl) (xo_call P ih' code i pc stk loc h n sl) :=
  x_le_take fun _ _ => x_le_if (x_le_if (x_le_if (x_le_bind fun _ => x_le_if (x_le_if (x_le_if (x_le_force fun _ => hm _ _ _ _ _ _ _) (x_le_if (x_le_force fun _ => hm _ _ _ _ _ _ _) (x_le_none _))) (x_le_none _)) (x_le_none _)) (x_le_none _)) (x_le_none _)) (x_le_none _)
theorem xm_dup (hm : x_leF ih ih') : x_le (xo_dup P ih code i pc stk loc h n sl) (xo_dup P ih' code i pc stk loc h n sl) := by
  rcases stk with _ | ⟨y, t⟩
  · exact x_le_none _
  · exact x_le_if (x_le_none _) (x_le_force fun _ => hm _ _ _ _ _ _ _)
theorem xm_pop (hm : x_leF ih ih') : x_le (xo_pop P ih code i pc stk loc h n sl) (xo_pop P ih' code i pc stk loc h n sl) := by
  rcases stk with _ | ⟨y, t⟩
  · exact x_le_none _
  · exact x_le_if (x_le_none _) (x_le_force fun _ => hm _ _ _ _ _ _ _)
theorem xm_iop (hm : x_leF ih ih') : x_le (xo_iop P ih code i pc stk loc h n sl) (xo_iop P ih' code i pc stk loc h n sl) := by
  rcases stk with _ | ⟨y, _ | ⟨x, t⟩⟩
  · exact x_le_none _
  · exact x_le_none _
  · exact x_le_if (x_le_if (x_le_bind fun _ => x_le_I fun _ => x_le_force fun _ => hm _ _ _ _ _ _ _) (x_le_none _)) (x_le_none _)
theorem xm_lop (hm : x_leF ih ih') : x_le (xo_lop P ih code i pc stk loc h n sl) (xo_lop P ih' code i pc stk loc h n sl) := by
  rcases stk with _ | ⟨y, _ | ⟨x, t⟩⟩
  · exact x_le_none _
  · exact x_le_none _
  · exact x_le_if (x_le_if (x_le_bind fun _ => x_le_L fun _ => x_le_force fun _ => hm _ _ _ _ _ _ _) (x_le_none _)) (x_le_none _)
theorem xm_ald (hm : x_leF ih ih') : x_le (xo_ald P ih code i pc stk loc h n sl) (xo_ald P ih' code i pc stk loc h n sl) := by
  rcases stk with _ | ⟨j, _ | ⟨r, t⟩⟩
  · exact x_le_none _
  · exact x_le_none _
  · exact x_le_if (x_le_if (x_le_if (x_le_none _) (x_le_bind fun _ => x_le_if (x_le_bind fun _ => x_le_force fun _ => hm _ _ _ _ _ _ _) (x_le_none _))) (x_le_none _)) (x_le_none _)
theorem xm_new (hm : x_leF ih ih') : x_le (xo_new P ih code i pc stk loc h n sl) (xo_new P ih' code i pc stk loc h n sl) := x_le_bind fun _ => x_le_force fun _ => x_le_force fun _ => hm _ _ _ _ _ _ _
theorem xm_newa (hm : x_leF ih ih') : x_le (xo_newa P ih code i pc stk loc h n sl) (xo_newa P ih' code i pc stk loc h n sl) := by
  rcases stk with _ | ⟨y, t⟩
  · exact x_le_none _
  · exact x_le_if (x_le_if (x_le_bind fun _ => x_le_force fun _ => x_le_force fun _ => hm _ _ _ _ _ _ _) (x_le_none _)) (x_le_none _)
theorem xm_mna (hm : x_leF ih ih') : x_le (xo_mna P ih code i pc stk loc h n sl) (xo_mna P ih' code i pc stk loc h n sl) := by
  rcases stk with _ | ⟨k, _ | ⟨v, t⟩⟩
  · exact x_le_none _
  · exact x_le_none _
  · exact x_le_if (x_le_if (x_le_if (x_le_if (x_le_bind fun _ => x_le_bind fun _ => x_le_force fun _ => x_le_force fun _ => hm _ _ _ _ _ _ _) (x_le_none _)) (x_le_none _)) (x_le_none _)) (x_le_none _)
theorem xm_i2l (hm : x_leF ih ih') : x_le (xo_i2l P ih code i pc stk loc h n sl) (xo_i2l P ih' code i pc stk loc h n sl) := by
  rcases stk with _ | ⟨y, t⟩
  · exact x_le_none _
  · exact x_le_if (x_le_force fun _ => x_le_force fun _ => x_le_force fun _ => hm _ _ _ _ _ _ _) (x_le_none _)
theorem xm_l2i (hm : x_leF ih ih') : x_le (xo_l2i P ih code i pc stk loc h n sl) (xo_l2i P ih' code i pc stk loc h n sl) := by
  rcases stk with _ | ⟨y, t⟩
  · exact x_le_none _
  · exact x_le_if (x_le_I fun _ => x_le_force fun _ => hm _ _ _ _ _ _ _) (x_le_none _)
theorem xm_i2n (hm : x_leF ih ih') : x_le (xo_i2n P ih code i pc stk loc h n sl) (xo_i2n P ih' code i pc stk loc h n sl) := by
  rcases stk with _ | ⟨y, t⟩
  · exact x_le_none _
  · exact x_le_nar fun _ => x_le_force fun _ => hm _ _ _ _ _ _ _
theorem xm_lcmp (hm : x_leF ih ih') : x_le (xo_lcmp P ih code i pc stk loc h n sl) (xo_lcmp P ih' code i pc stk loc h n sl) := by
  rcases stk with _ | ⟨y, _ | ⟨x, t⟩⟩
  · exact x_le_none _
  · exact x_le_none _
  · exact x_le_bind fun _ => x_le_bind fun _ => x_le_bind fun _ => x_le_force fun _ => hm _ _ _ _ _ _ _
theorem xm_dup2 (hm : x_leF ih ih') : x_le (xo_dup2 P ih code i pc stk loc h n sl) (xo_dup2 P ih' code i pc stk loc h n sl) := by
  rcases stk with _ | ⟨y, _ | ⟨x, t⟩⟩
  · exact x_le_none _
  · exact x_le_none _
  · exact x_le_if (x_le_force fun _ => hm _ _ _ _ _ _ _) (x_le_if (x_le_none _) (x_le_force fun _ => hm _ _ _ _ _ _ _))
theorem xm_gets (hm : x_leF ih ih') : x_le (xo_gets P ih code i pc stk loc h n sl) (xo_gets P ih' code i pc stk loc h n sl) := x_le_force fun _ => hm _ _ _ _ _ _ _
theorem xm_ifnull (hm : x_leF ih ih') : x_le (xo_ifnull P ih code i pc stk loc h n sl) (xo_ifnull P ih' code i pc stk loc h n sl) := by
  rcases stk with _ | ⟨y, t⟩
  · exact x_le_none _
  · exact x_le_goif fun _ => hm _ _ _ _ _ _ _
theorem xm_switch (hm : x_leF ih ih') : x_le (xo_switch P ih code i pc stk loc h n sl) (xo_switch P ih' code i pc stk loc h n sl) := by
  rcases stk with _ | ⟨y, t⟩
  · exact x_le_none _
  · exact x_le_if (x_le_force fun _ => x_le_force fun _ => hm _ _ _ _ _ _ _) (x_le_none _)
theorem xm_objinit (hm : x_leF ih ih') : x_le (xo_objinit P ih code i pc stk loc h n sl) (xo_objinit P ih' code i pc stk loc h n sl) := by
  rcases stk with _ | ⟨y, t⟩
  · exact x_le_none _
  · exact x_le_if (x_le_bind fun _ => x_le_if (x_le_if (x_le_force fun _ => hm _ _ _ _ _ _ _) (x_le_none _)) (x_le_none _)) (x_le_none _)
theorem xm_slen (hm : x_leF ih ih') : x_le (xo_slen P ih code i pc stk loc h n sl) (xo_slen P ih' code i pc stk loc h n sl) := by
  rcases stk with _ | ⟨y, t⟩
  · exact x_le_none _
  · exact x_le_if (x_le_if (x_le_bind fun _ => x_le_force fun _ => x_le_force fun _ => hm _ _ _ _ _ _ _) (x_le_none _)) (x_le_none _)
theorem xm_sat (hm : x_leF ih ih') : x_le (xo_sat P ih code i pc stk loc h n sl) (xo_sat P ih' code i pc stk loc h n sl) := by
  rcases stk with _ | ⟨y, _ | ⟨x, t⟩⟩
  · exact x_le_none _
  · exact x_le_none _
  · exact x_le_if (x_le_if (x_le_if (x_le_bind fun _ => x_le_bind fun _ => x_le_force fun _ => hm _ _ _ _ _ _ _) (x_le_none _)) (x_le_none _)) (x_le_none _)
theorem xm_copy (hm : x_leF ih ih') : x_le (xo_copy P ih code i pc stk loc h n sl) (xo_copy P ih' code i pc stk loc h n sl) := by
  rcases stk with _ | ⟨a, _ | ⟨b, _ | ⟨c, _ | ⟨e, _ | ⟨f, t⟩⟩⟩⟩⟩
  · exact x_le_none _
  · exact x_le_none _
  · exact x_le_none _
  · exact x_le_none _
  · exact x_le_none _
  · exact x_le_if (x_le_if (x_le_if (x_le_if (x_le_if (x_le_if (x_le_bind fun _ => x_le_bind fun _ => x_le_if (x_le_if (x_le_if (x_le_if (x_le_if (x_le_if (x_le_if (x_le_bind fun _ => x_le_force fun _ => hm _ _ _ _ _ _ _) (x_le_none _)) (x_le_none _)) (x_le_none _)) (x_le_none _)) (x_le_none _)) (x_le_none _)) (x_le_none _)) (x_le_none _)) (x_le_none _)) (x_le_none _)) (x_le_none _)) (x_le_none _)) (x_le_none _)
theorem xm_clone (hm : x_leF ih ih') : x_le (xo_clone P ih code i pc stk loc h n sl) (xo_clone P ih' code i pc stk loc h n sl) := by
  rcases stk with _ | ⟨y, t⟩
  · exact x_le_none _
  · exact x_le_if (x_le_if (x_le_bind fun _ => x_le_if (x_le_bind fun _ => x_le_force fun _ => x_le_force fun _ => hm _ _ _ _ _ _ _) (x_le_none _)) (x_le_none _)) (x_le_none _)
theorem xm_cast (hm : x_leF ih ih') : x_le (xo_cast P ih code i pc stk loc h n sl) (xo_cast P ih' code i pc stk loc h n sl) := by
  rcases stk with _ | ⟨y, t⟩
  · exact x_le_none _
  · exact x_le_if (x_le_bind fun _ => x_le_if (x_le_force fun _ => hm _ _ _ _ _ _ _) (x_le_none _)) (x_le_none _)
theorem xm_ineg (hm : x_leF ih ih') : x_le (xo_ineg P ih code i pc stk loc h n sl) (xo_ineg P ih' code i pc stk loc h n sl) := by
  rcases stk with _ | ⟨y, t⟩
  · exact x_le_none _
  · exact x_le_if (x_le_I fun _ => x_le_force fun _ => hm _ _ _ _ _ _ _) (x_le_none _)
theorem xm_iushr (hm : x_leF ih ih') : x_le (xo_iushr P ih code i pc stk loc h n sl) (xo_iushr P ih' code i pc stk loc h n sl) := by
  rcases stk with _ | ⟨y, _ | ⟨x, t⟩⟩
  · exact x_le_none _
  · exact x_le_none _
  · exact x_le_if (x_le_if (x_le_I fun _ => x_le_force fun _ => hm _ _ _ _ _ _ _) (x_le_none _)) (x_le_none _)
theorem xm_imm (hm : x_leF ih ih') : x_le (xo_imm P ih code i pc stk loc h n sl) (xo_imm P ih' code i pc stk loc h n sl) := by
  rcases stk with _ | ⟨y, _ | ⟨x, t⟩⟩
  · exact x_le_none _
  · exact x_le_none _
  · exact x_le_if (x_le_if (x_le_if (x_le_force fun _ => x_le_force fun _ => hm _ _ _ _ _ _ _) (x_le_none _)) (x_le_none _)) (x_le_none _)
set_option maxHeartbeats 4000000 in
theorem xm_all (hm : x_leF ih ih') {op : Nat} {f : XO} (hf : x_nth x_ops op = some f) : x_le (f P ih code i pc stk loc h n sl) (f P ih' code i pc stk loc h n sl) := by
  match op, hf with
  | 0, hf => cases hf; exact xm_load hm
  | 1, hf => cases hf; exact xm_getf hm
  | 2, hf => cases hf; exact xm_const hm
  | 3, hf => cases hf; exact xm_icmp hm
  | 4, hf => cases hf; exact xm_if0 hm
  | 5, hf => cases hf; exact xm_goto hm
  | 6, hf => cases hf; exact xm_iinc hm
  | 7, hf => cases hf; exact xm_store hm
  | 8, hf => cases hf; exact xm_ast hm
  | 9, hf => cases hf; exact xm_alen hm
  | 10, hf => cases hf; exact xm_putf hm
  | 11, hf => cases hf; exact xm_call hm
  | 12, hf => cases hf; exact x_le_rfl _
  | 13, hf => cases hf; exact x_le_rfl _
  | 14, hf => cases hf; exact xm_dup hm
  | 15, hf => cases hf; exact xm_iop hm
  | 16, hf => cases hf; exact xm_ald hm
  | 17, hf => cases hf; exact xm_new hm
  | 18, hf => cases hf; exact xm_newa hm
  | 19, hf => cases hf; exact xm_ineg hm
  | 20, hf => cases hf; exact xm_mna hm
  | 21, hf => cases hf; exact xm_store2 hm
  | 22, hf => cases hf; exact xm_lop hm
  | 23, hf => cases hf; exact xm_i2l hm
  | 24, hf => cases hf; exact xm_l2i hm
  | 25, hf => cases hf; exact xm_i2n hm
  | 26, hf => cases hf; exact xm_iushr hm
  | 27, hf => cases hf; exact xm_lcmp hm
  | 28, hf => cases hf; exact xm_pop hm
  | 29, hf => cases hf; exact xm_dup2 hm
  | 30, hf => cases hf; exact xm_copy hm
  | 31, hf => cases hf; exact xm_gets hm
  | 32, hf => cases hf; exact xm_ifnull hm
  | 33, hf => cases hf; exact xm_switch hm
  | 34, hf => cases hf; exact xm_clone hm
  | 35, hf => cases hf; exact xm_cast hm
  | 36, hf => cases hf; exact xm_imm hm
  | 37, hf => cases hf; exact x_le_none _
  | 38, hf => cases hf; exact x_le_none _
  | 39, hf => cases hf; exact x_le_none _
  | 40, hf => cases hf; exact xm_objinit hm
  | 41, hf => cases hf; exact xm_slen hm
  | 42, hf => cases hf; exact xm_sat hm
  | n + 43, hf => cases hf
end
theorem x_run_succ {K : XK} (f : Nat) : x_leF (x_run K f) (x_run K (f + 1)) := by
  induction f with
  | zero => intro code pc stk loc h n sl; exact x_le_none _
  | succ f ih =>
    intro code pc stk loc h n sl
    refine x_le_orec (o := x_nth code pc) fun i => ?_
    cases ho : x_nth x_ops i.1 with
    | none => exact x_le_none _
    | some g => exact xm_all ih ho
theorem x_run_mono {K : XK} {f g : Nat} (h : f ≤ g) : x_leF (x_run K f) (x_run K g) := by
  intro code pc stk loc hh n sl
  induction g with
  | zero => rw [Nat.le_zero.mp h]; exact x_le_rfl _
  | succ g ih =>
    rcases Nat.lt_or_ge f (g + 1) with q | q
    · exact fun r hr => x_run_succ g _ _ _ _ _ _ _ r (ih (by omega) r hr)
    · rw [show f = g + 1 by omega]; exact x_le_rfl _
end FMONO
