/-! the tables are as the code has them -/
theorem bo_L_law_53 : bi_okkB bt_M bt_P 222 ((yL_law, cL_law, 7, (some .boolean), RL, 8, 185, [])) (bt_L_law.getD 53 bi_kd) [[]] [] = true := by decide +kernel
theorem bo_L_law_54 : bi_okkB bt_M bt_P 222 ((yL_law, cL_law, 7, (some .boolean), RL, 8, 185, [])) (bt_L_law.getD 54 bi_kd) [] [] = true := by decide +kernel
theorem bo_L_law_55 : bi_okkB bt_M bt_P 222 ((yL_law, cL_law, 7, (some .boolean), RL, 8, 185, [])) (bt_L_law.getD 55 bi_kd) [[], [], [], [], [], [], [], [], [], [], [], [], [5025, 1000, 5023, 5024], [], [], [], [], [], [], [], [], [], [], [], [], [7178, 1011, 7175, 7176, 7177], [], [], [5051, 1011, 5048, 5049, 5050], []] [] = true := by decide +kernel
theorem bo_L_law_56 : bi_okkB bt_M bt_P 222 ((yL_law, cL_law, 7, (some .boolean), RL, 8, 185, [])) (bt_L_law.getD 56 bi_kd) [[]] [] = true := by decide +kernel
theorem bo_L_law_57 : bi_okkB bt_M bt_P 222 ((yL_law, cL_law, 7, (some .boolean), RL, 8, 185, [])) (bt_L_law.getD 57 bi_kd) [[]] [] = true := by decide +kernel
theorem bo_L_law_58 : bi_okkB bt_M bt_P 222 ((yL_law, cL_law, 7, (some .boolean), RL, 8, 185, [])) (bt_L_law.getD 58 bi_kd) [[], [], [], [], [], []] [] = true := by decide +kernel
theorem bo_L_law_59 : bi_okkB bt_M bt_P 222 ((yL_law, cL_law, 7, (some .boolean), RL, 8, 185, [])) (bt_L_law.getD 59 bi_kd) [[]] [] = true := by decide +kernel
theorem bo_L_law_60 : bi_okkB bt_M bt_P 222 ((yL_law, cL_law, 7, (some .boolean), RL, 8, 185, [])) (bt_L_law.getD 60 bi_kd) [] [] = true := by decide +kernel
theorem bo_L_law_61 : bi_okkB bt_M bt_P 222 ((yL_law, cL_law, 7, (some .boolean), RL, 8, 185, [])) (bt_L_law.getD 61 bi_kd) [[], [], [], [], [], [], [], [], [], [], [], [], [], [], [], [], [], [5033, 1000, 5031, 5032], [], [], [], [], [], [], [], [], [], [], [], [], [], [], [], [], [], [7182, 1011, 7179, 7180, 7181], [], [], [5051, 1011, 5048, 5049, 5050], []] [] = true := by decide +kernel
theorem bo_L_law_62 : bi_okkB bt_M bt_P 222 ((yL_law, cL_law, 7, (some .boolean), RL, 8, 185, [])) (bt_L_law.getD 62 bi_kd) [[]] [] = true := by decide +kernel
theorem bo_L_law_63 : bi_okkB bt_M bt_P 222 ((yL_law, cL_law, 7, (some .boolean), RL, 8, 185, [])) (bt_L_law.getD 63 bi_kd) [[]] [] = true := by decide +kernel
theorem bo_L_law_64 : bi_okkB bt_M bt_P 222 ((yL_law, cL_law, 7, (some .boolean), RL, 8, 185, [])) (bt_L_law.getD 64 bi_kd) [[], [], [], [], [], []] [] = true := by decide +kernel
theorem bo_L_law_65 : bi_okkB bt_M bt_P 222 ((yL_law, cL_law, 7, (some .boolean), RL, 8, 185, [])) (bt_L_law.getD 65 bi_kd) [[]] [] = true := by decide +kernel
theorem bo_L_law_66 : bi_okkB bt_M bt_P 222 ((yL_law, cL_law, 7, (some .boolean), RL, 8, 185, [])) (bt_L_law.getD 66 bi_kd) [] [] = true := by decide +kernel
