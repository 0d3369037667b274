section FS837
set_option maxRecDepth 100000
theorem zs_tell : x_dep x_P 300000 30 3 [(6, 0, 0)] zh_init 485 64512 = some (1, (0, 1, 0), zh_schema, 486, 64519) :=
  x_dep_or (cd := xc_3) [(22, [(6, 0, 0), (11, 0, 0)], zh_b_schema, 485, 64512, (1, (0, 3, 0), zh_schema, 486, 64519))] (List.forall_mem_cons.mpr ⟨x_dep_up (Nat.le_refl _) (by decide) _ _ _ _ _ _ zs_schema, fun _ h => absurd h List.not_mem_nil⟩) rfl (@of_decide_eq_true _ (zd5 _ _) (by decide +kernel))
end FS837
