section FS832
set_option maxRecDepth 100000
theorem zs_t_start : x_dep x_P 300000 26 43 [(6, 236, 0)] zh_b_t_start 485 64512 = some (0, (5, 0, 0), zh_t_start, 485, 64512) := @of_decide_eq_true _ (zd5 _ _) (by decide +kernel)
end FS832
