/-! the tables are as the code has them -/
theorem bo_L_law_53 : bi_okkB bt_M bt_P 223 ((yL_law, cL_law, 7, (some .boolean), RL, 8, 185, [])) (bt_L_law.getD 53 bi_kd) [[]] [] = true := by decide +kernel
theorem bo_L_law_54 : bi_okkB bt_M bt_P 223 ((yL_law, cL_law, 7, (some .boolean), RL, 8, 185, [])) (bt_L_law.getD 54 bi_kd) [] [] = true := by decide +kernel
theorem bo_L_law_55 : bi_okkB bt_M bt_P 223 ((yL_law, cL_law, 7, (some .boolean), RL, 8, 185, [])) (bt_L_law.getD 55 bi_kd) [[], [], [], [], [], [], [], [], [], [], [], [], [5041, 1000, 5039, 5040], [], [], [], [], [], [], [], [], [], [], [], [], [7194, 1007, 7191, 7192, 7193], [], [], [5067, 1007, 5064, 5065, 5066], []] [] = true := by decide +kernel
theorem bo_L_law_56 : bi_okkB bt_M bt_P 223 ((yL_law, cL_law, 7, (some .boolean), RL, 8, 185, [])) (bt_L_law.getD 56 bi_kd) [[]] [] = true := by decide +kernel
theorem bo_L_law_57 : bi_okkB bt_M bt_P 223 ((yL_law, cL_law, 7, (some .boolean), RL, 8, 185, [])) (bt_L_law.getD 57 bi_kd) [[]] [] = true := by decide +kernel
theorem bo_L_law_58 : bi_okkB bt_M bt_P 223 ((yL_law, cL_law, 7, (some .boolean), RL, 8, 185, [])) (bt_L_law.getD 58 bi_kd) [[], [], [], [], [], []] [] = true := by decide +kernel
theorem bo_L_law_59 : bi_okkB bt_M bt_P 223 ((yL_law, cL_law, 7, (some .boolean), RL, 8, 185, [])) (bt_L_law.getD 59 bi_kd) [[]] [] = true := by decide +kernel
theorem bo_L_law_60 : bi_okkB bt_M bt_P 223 ((yL_law, cL_law, 7, (some .boolean), RL, 8, 185, [])) (bt_L_law.getD 60 bi_kd) [] [] = true := by decide +kernel
theorem bo_L_law_61 : bi_okkB bt_M bt_P 223 ((yL_law, cL_law, 7, (some .boolean), RL, 8, 185, [])) (bt_L_law.getD 61 bi_kd) [[], [], [], [], [], [], [], [], [], [], [], [], [], [], [], [], [], [5049, 1000, 5047, 5048], [], [], [], [], [], [], [], [], [], [], [], [], [], [], [], [], [], [7198, 1007, 7195, 7196, 7197], [], [], [5067, 1007, 5064, 5065, 5066], []] [] = true := by decide +kernel
theorem bo_L_law_62 : bi_okkB bt_M bt_P 223 ((yL_law, cL_law, 7, (some .boolean), RL, 8, 185, [])) (bt_L_law.getD 62 bi_kd) [[]] [] = true := by decide +kernel
theorem bo_L_law_63 : bi_okkB bt_M bt_P 223 ((yL_law, cL_law, 7, (some .boolean), RL, 8, 185, [])) (bt_L_law.getD 63 bi_kd) [[]] [] = true := by decide +kernel
theorem bo_L_law_64 : bi_okkB bt_M bt_P 223 ((yL_law, cL_law, 7, (some .boolean), RL, 8, 185, [])) (bt_L_law.getD 64 bi_kd) [[], [], [], [], [], []] [] = true := by decide +kernel
theorem bo_L_law_65 : bi_okkB bt_M bt_P 223 ((yL_law, cL_law, 7, (some .boolean), RL, 8, 185, [])) (bt_L_law.getD 65 bi_kd) [[]] [] = true := by decide +kernel
theorem bo_L_law_66 : bi_okkB bt_M bt_P 223 ((yL_law, cL_law, 7, (some .boolean), RL, 8, 185, [])) (bt_L_law.getD 66 bi_kd) [] [] = true := by decide +kernel
