section FS830
set_option maxRecDepth 100000
theorem zs_init : x_dep x_P 300000 6 0 [(6, 0, 0)] zh_b_init 1 0 = some (0, (5, 0, 0), zh_init, 485, 64512) := @of_decide_eq_true _ (zd5 _ _) (by decide +kernel)
end FS830
