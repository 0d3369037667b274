section FS835
set_option maxRecDepth 100000
theorem zs_t_rt3 : x_dep x_P 300000 26 44 [(6, 236, 0), (0, 3, 0), (11, 0, 0), (11, 0, 0)] zh_t_rt2 485 64512 = some (0, (5, 0, 0), zh_t_rt3, 485, 64512) := @of_decide_eq_true _ (zd5 _ _) (by decide +kernel)
end FS835
