section FS831
set_option maxRecDepth 100000
theorem zs_t_load : x_dep x_P 300000 26 42 [(6, 2, 0), (6, 1, 0), (0, 274, 0), (11, 0, 0), (11, 0, 0), (11, 0, 0), (11, 0, 0), (11, 0, 0)] zh_b_schema 485 64512 = some (0, (5, 0, 0), zh_t_load, 485, 64512) := @of_decide_eq_true _ (zd5 _ _) (by decide +kernel)
end FS831
