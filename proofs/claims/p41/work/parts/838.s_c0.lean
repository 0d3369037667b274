section FS838
set_option maxRecDepth 100000
theorem zs_c0 : x_dep x_P 300000 30 36 [(6, 0, 0), (0, 0, 0)] zh_schema 486 64519 = some (1, (0, 2, 0), zh_c0, 486, 64519) := @of_decide_eq_true _ (zd5 _ _) (by decide +kernel)
theorem zs_c1 : x_dep x_P 300000 30 36 [(6, 0, 0), (0, 1, 0)] zh_c0 486 64519 = some (1, (0, 1, 0), zh_c0, 486, 64519) := @of_decide_eq_true _ (zd5 _ _) (by decide +kernel)
theorem zs_a3 : x_dep x_P 300000 30 333 [(6, 0, 0), (0, 3, 0)] zh_c0 486 64519 = some (1, (0, 0, 0), zh_a3, 486, 64519) := @of_decide_eq_true _ (zd5 _ _) (by decide +kernel)
theorem zs_a5 : x_dep x_P 300000 30 333 [(6, 0, 0), (0, 5, 0)] zh_a3 486 64519 = some (1, (0, 0, 0), zh_a5, 486, 64519) := @of_decide_eq_true _ (zd5 _ _) (by decide +kernel)
theorem zs_a7 : x_dep x_P 300000 30 333 [(6, 0, 0), (0, 7, 0)] zh_a5 486 64519 = some (1, (0, 5, 0), zh_c0, 486, 64519) := @of_decide_eq_true _ (zd5 _ _) (by decide +kernel)
theorem zs_a2 : x_dep x_P 300000 30 333 [(6, 0, 0), (0, 2, 0)] zh_c0 486 64519 = some (1, (0, 2, 0), zh_c0, 486, 64519) := @of_decide_eq_true _ (zd5 _ _) (by decide +kernel)
end FS838
