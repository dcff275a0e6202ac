abbrev b_Law_cell : ByteArray := method_2_code
def y_Law_cell : MethodName := ⟨"WallDampLaw", "cell", "([II)I"⟩
def ws_Law_cell : List Cond := .code y_Law_cell b_Law_cell 2 (some (.int)) :: x_tb
theorem pd_Law_cell : y_Law_cell.cls ≠ "java/lang/invoke/MethodHandle" ∧ y_Law_cell.cls ≠ "java/lang/invoke/VarHandle" ∧ (parseMethodDescriptor y_Law_cell.desc).map (fun d => d.parameters.length) = some 2 := by decide +kernel
theorem d_Law_cell_0 : decode b_Law_cell 0 = .ok (.iload_n 1, 1) := by decide +kernel
theorem d_Law_cell_1 : decode b_Law_cell 1 = .ok (.aload_n 0, 1) := by decide +kernel
theorem d_Law_cell_2 : decode b_Law_cell 2 = .ok (.arraylength, 1) := by decide +kernel
theorem d_Law_cell_3 : decode b_Law_cell 3 = .ok (.if_icmp .ge 9, 3) := by decide +kernel
theorem d_Law_cell_6 : decode b_Law_cell 6 = .ok (.aload_n 0, 1) := by decide +kernel
theorem d_Law_cell_7 : decode b_Law_cell 7 = .ok (.iload_n 1, 1) := by decide +kernel
theorem d_Law_cell_8 : decode b_Law_cell 8 = .ok (.iaload, 1) := by decide +kernel
theorem d_Law_cell_9 : decode b_Law_cell 9 = .ok (.goto 4, 3) := by decide +kernel
theorem d_Law_cell_12 : decode b_Law_cell 12 = .ok (.iconst 0, 1) := by decide +kernel
theorem d_Law_cell_13 : decode b_Law_cell 13 = .ok (.ireturn, 1) := by decide +kernel
abbrev b_Law_curve : ByteArray := method_3_code
def y_Law_curve : MethodName := ⟨"WallDampLaw", "curve", "(LWallDamp;III[J)I"⟩
theorem d_Law_curve_0 : decode b_Law_curve 0 = .ok (.aload 4, 2) := by decide +kernel
theorem d_Law_curve_2 : decode b_Law_curve 2 = .ok (.iconst 0, 1) := by decide +kernel
theorem d_Law_curve_3 : decode b_Law_curve 3 = .ok (.aload_n 0, 1) := by decide +kernel
theorem d_Law_curve_4 : decode b_Law_curve 4 = .ok (.iload_n 1, 1) := by decide +kernel
theorem d_Law_curve_5 : decode b_Law_curve 5 = .ok (.iload_n 2, 1) := by decide +kernel
theorem d_Law_curve_6 : decode b_Law_curve 6 = .ok (.iload_n 3, 1) := by decide +kernel
theorem d_Law_curve_7 : decode b_Law_curve 7 = .ok (.invokevirtual 7, 3) := by decide +kernel
theorem d_Law_curve_10 : decode b_Law_curve 10 = .ok (.i2l, 1) := by decide +kernel
theorem d_Law_curve_11 : decode b_Law_curve 11 = .ok (.lastore, 1) := by decide +kernel
theorem d_Law_curve_12 : decode b_Law_curve 12 = .ok (.goto 11, 3) := by decide +kernel
theorem d_Law_curve_15 : decode b_Law_curve 15 = .ok (.astore 5, 2) := by decide +kernel
theorem d_Law_curve_17 : decode b_Law_curve 17 = .ok (.iconst 1, 1) := by decide +kernel
theorem d_Law_curve_18 : decode b_Law_curve 18 = .ok (.ireturn, 1) := by decide +kernel
theorem d_Law_curve_19 : decode b_Law_curve 19 = .ok (.astore 5, 2) := by decide +kernel
theorem d_Law_curve_21 : decode b_Law_curve 21 = .ok (.iconst 2, 1) := by decide +kernel
theorem d_Law_curve_22 : decode b_Law_curve 22 = .ok (.ireturn, 1) := by decide +kernel
theorem d_Law_curve_23 : decode b_Law_curve 23 = .ok (.iconst 0, 1) := by decide +kernel
theorem d_Law_curve_24 : decode b_Law_curve 24 = .ok (.ireturn, 1) := by decide +kernel
abbrev b_Law_rates : ByteArray := method_4_code
def y_Law_rates : MethodName := ⟨"WallDampLaw", "rates", "(LWallDamp;IIII)I"⟩
theorem d_Law_rates_0 : decode b_Law_rates 0 = .ok (.aload_n 0, 1) := by decide +kernel
theorem d_Law_rates_1 : decode b_Law_rates 1 = .ok (.iload_n 1, 1) := by decide +kernel
theorem d_Law_rates_2 : decode b_Law_rates 2 = .ok (.iload_n 2, 1) := by decide +kernel
theorem d_Law_rates_3 : decode b_Law_rates 3 = .ok (.iload_n 3, 1) := by decide +kernel
theorem d_Law_rates_4 : decode b_Law_rates 4 = .ok (.iload 4, 2) := by decide +kernel
theorem d_Law_rates_6 : decode b_Law_rates 6 = .ok (.invokevirtual 17, 3) := by decide +kernel
theorem d_Law_rates_9 : decode b_Law_rates 9 = .ok (.goto 7, 3) := by decide +kernel
theorem d_Law_rates_12 : decode b_Law_rates 12 = .ok (.astore 5, 2) := by decide +kernel
theorem d_Law_rates_14 : decode b_Law_rates 14 = .ok (.iconst 1, 1) := by decide +kernel
theorem d_Law_rates_15 : decode b_Law_rates 15 = .ok (.ireturn, 1) := by decide +kernel
theorem d_Law_rates_16 : decode b_Law_rates 16 = .ok (.iconst 0, 1) := by decide +kernel
theorem d_Law_rates_17 : decode b_Law_rates 17 = .ok (.ireturn, 1) := by decide +kernel
abbrev b_Law_cell1 : ByteArray := method_5_code
def y_Law_cell1 : MethodName := ⟨"WallDampLaw", "cell", "(LWallDamp;III)I"⟩
theorem d_Law_cell1_0 : decode b_Law_cell1 0 = .ok (.aload_n 0, 1) := by decide +kernel
theorem d_Law_cell1_1 : decode b_Law_cell1 1 = .ok (.iload_n 1, 1) := by decide +kernel
theorem d_Law_cell1_2 : decode b_Law_cell1 2 = .ok (.iload_n 2, 1) := by decide +kernel
theorem d_Law_cell1_3 : decode b_Law_cell1 3 = .ok (.iload_n 3, 1) := by decide +kernel
theorem d_Law_cell1_4 : decode b_Law_cell1 4 = .ok (.invokevirtual 21, 3) := by decide +kernel
theorem d_Law_cell1_7 : decode b_Law_cell1 7 = .ok (.goto 11, 3) := by decide +kernel
theorem d_Law_cell1_10 : decode b_Law_cell1 10 = .ok (.astore 4, 2) := by decide +kernel
theorem d_Law_cell1_12 : decode b_Law_cell1 12 = .ok (.iconst 1, 1) := by decide +kernel
theorem d_Law_cell1_13 : decode b_Law_cell1 13 = .ok (.ireturn, 1) := by decide +kernel
theorem d_Law_cell1_14 : decode b_Law_cell1 14 = .ok (.astore 4, 2) := by decide +kernel
theorem d_Law_cell1_16 : decode b_Law_cell1 16 = .ok (.iconst 2, 1) := by decide +kernel
theorem d_Law_cell1_17 : decode b_Law_cell1 17 = .ok (.ireturn, 1) := by decide +kernel
theorem d_Law_cell1_18 : decode b_Law_cell1 18 = .ok (.iconst 0, 1) := by decide +kernel
theorem d_Law_cell1_19 : decode b_Law_cell1 19 = .ok (.ireturn, 1) := by decide +kernel
abbrev b_Law_table : ByteArray := method_6_code
def y_Law_table : MethodName := ⟨"WallDampLaw", "table", "(LWallDamp;II[J)I"⟩
theorem d_Law_table_0 : decode b_Law_table 0 = .ok (.aload_n 3, 1) := by decide +kernel
theorem d_Law_table_1 : decode b_Law_table 1 = .ok (.iconst 0, 1) := by decide +kernel
theorem d_Law_table_2 : decode b_Law_table 2 = .ok (.aload_n 0, 1) := by decide +kernel
theorem d_Law_table_3 : decode b_Law_table 3 = .ok (.iload_n 1, 1) := by decide +kernel
theorem d_Law_table_4 : decode b_Law_table 4 = .ok (.iload_n 2, 1) := by decide +kernel
theorem d_Law_table_5 : decode b_Law_table 5 = .ok (.invokevirtual 25, 3) := by decide +kernel
theorem d_Law_table_8 : decode b_Law_table 8 = .ok (.i2l, 1) := by decide +kernel
theorem d_Law_table_9 : decode b_Law_table 9 = .ok (.lastore, 1) := by decide +kernel
theorem d_Law_table_10 : decode b_Law_table 10 = .ok (.goto 11, 3) := by decide +kernel
theorem d_Law_table_13 : decode b_Law_table 13 = .ok (.astore 4, 2) := by decide +kernel
theorem d_Law_table_15 : decode b_Law_table 15 = .ok (.iconst 1, 1) := by decide +kernel
theorem d_Law_table_16 : decode b_Law_table 16 = .ok (.ireturn, 1) := by decide +kernel
theorem d_Law_table_17 : decode b_Law_table 17 = .ok (.astore 4, 2) := by decide +kernel
theorem d_Law_table_19 : decode b_Law_table 19 = .ok (.iconst 2, 1) := by decide +kernel
theorem d_Law_table_20 : decode b_Law_table 20 = .ok (.ireturn, 1) := by decide +kernel
theorem d_Law_table_21 : decode b_Law_table 21 = .ok (.iconst 0, 1) := by decide +kernel
theorem d_Law_table_22 : decode b_Law_table 22 = .ok (.ireturn, 1) := by decide +kernel
abbrev b_Law_full : ByteArray := method_7_code
def y_Law_full : MethodName := ⟨"WallDampLaw", "full", "(LWallDamp;I[J)I"⟩
theorem d_Law_full_0 : decode b_Law_full 0 = .ok (.aload_n 2, 1) := by decide +kernel
theorem d_Law_full_1 : decode b_Law_full 1 = .ok (.iconst 0, 1) := by decide +kernel
theorem d_Law_full_2 : decode b_Law_full 2 = .ok (.aload_n 0, 1) := by decide +kernel
theorem d_Law_full_3 : decode b_Law_full 3 = .ok (.iload_n 1, 1) := by decide +kernel
theorem d_Law_full_4 : decode b_Law_full 4 = .ok (.invokevirtual 29, 3) := by decide +kernel
theorem d_Law_full_7 : decode b_Law_full 7 = .ok (.i2l, 1) := by decide +kernel
theorem d_Law_full_8 : decode b_Law_full 8 = .ok (.lastore, 1) := by decide +kernel
theorem d_Law_full_9 : decode b_Law_full 9 = .ok (.goto 6, 3) := by decide +kernel
theorem d_Law_full_12 : decode b_Law_full 12 = .ok (.astore_n 3, 1) := by decide +kernel
theorem d_Law_full_13 : decode b_Law_full 13 = .ok (.iconst 1, 1) := by decide +kernel
theorem d_Law_full_14 : decode b_Law_full 14 = .ok (.ireturn, 1) := by decide +kernel
theorem d_Law_full_15 : decode b_Law_full 15 = .ok (.iconst 0, 1) := by decide +kernel
theorem d_Law_full_16 : decode b_Law_full 16 = .ok (.ireturn, 1) := by decide +kernel
abbrev b_Law_films : ByteArray := method_8_code
def y_Law_films : MethodName := ⟨"WallDampLaw", "films", "(LWallDamp;II)I"⟩
theorem d_Law_films_0 : decode b_Law_films 0 = .ok (.aload_n 0, 1) := by decide +kernel
theorem d_Law_films_1 : decode b_Law_films 1 = .ok (.iload_n 1, 1) := by decide +kernel
theorem d_Law_films_2 : decode b_Law_films 2 = .ok (.iload_n 2, 1) := by decide +kernel
theorem d_Law_films_3 : decode b_Law_films 3 = .ok (.invokevirtual 33, 3) := by decide +kernel
theorem d_Law_films_6 : decode b_Law_films 6 = .ok (.goto 6, 3) := by decide +kernel
theorem d_Law_films_9 : decode b_Law_films 9 = .ok (.astore_n 3, 1) := by decide +kernel
theorem d_Law_films_10 : decode b_Law_films 10 = .ok (.iconst 1, 1) := by decide +kernel
theorem d_Law_films_11 : decode b_Law_films 11 = .ok (.ireturn, 1) := by decide +kernel
theorem d_Law_films_12 : decode b_Law_films 12 = .ok (.iconst 0, 1) := by decide +kernel
theorem d_Law_films_13 : decode b_Law_films 13 = .ok (.ireturn, 1) := by decide +kernel
abbrev b_Law_outside : ByteArray := method_9_code
def y_Law_outside : MethodName := ⟨"WallDampLaw", "outside", "(LWallDamp;IIIII)I"⟩
theorem d_Law_outside_0 : decode b_Law_outside 0 = .ok (.aload_n 0, 1) := by decide +kernel
theorem d_Law_outside_1 : decode b_Law_outside 1 = .ok (.iload_n 1, 1) := by decide +kernel
theorem d_Law_outside_2 : decode b_Law_outside 2 = .ok (.iload_n 2, 1) := by decide +kernel
theorem d_Law_outside_3 : decode b_Law_outside 3 = .ok (.iload_n 3, 1) := by decide +kernel
theorem d_Law_outside_4 : decode b_Law_outside 4 = .ok (.iload 4, 2) := by decide +kernel
theorem d_Law_outside_6 : decode b_Law_outside 6 = .ok (.iload 5, 2) := by decide +kernel
theorem d_Law_outside_8 : decode b_Law_outside 8 = .ok (.invokevirtual 37, 3) := by decide +kernel
theorem d_Law_outside_11 : decode b_Law_outside 11 = .ok (.goto 7, 3) := by decide +kernel
theorem d_Law_outside_14 : decode b_Law_outside 14 = .ok (.astore 6, 2) := by decide +kernel
theorem d_Law_outside_16 : decode b_Law_outside 16 = .ok (.iconst 1, 1) := by decide +kernel
theorem d_Law_outside_17 : decode b_Law_outside 17 = .ok (.ireturn, 1) := by decide +kernel
theorem d_Law_outside_18 : decode b_Law_outside 18 = .ok (.iconst 0, 1) := by decide +kernel
theorem d_Law_outside_19 : decode b_Law_outside 19 = .ok (.ireturn, 1) := by decide +kernel
abbrev b_Law_inside : ByteArray := method_10_code
def y_Law_inside : MethodName := ⟨"WallDampLaw", "inside", "(LWallDamp;III)I"⟩
theorem d_Law_inside_0 : decode b_Law_inside 0 = .ok (.aload_n 0, 1) := by decide +kernel
theorem d_Law_inside_1 : decode b_Law_inside 1 = .ok (.iload_n 1, 1) := by decide +kernel
theorem d_Law_inside_2 : decode b_Law_inside 2 = .ok (.iload_n 2, 1) := by decide +kernel
theorem d_Law_inside_3 : decode b_Law_inside 3 = .ok (.iload_n 3, 1) := by decide +kernel
theorem d_Law_inside_4 : decode b_Law_inside 4 = .ok (.invokevirtual 41, 3) := by decide +kernel
theorem d_Law_inside_7 : decode b_Law_inside 7 = .ok (.goto 7, 3) := by decide +kernel
theorem d_Law_inside_10 : decode b_Law_inside 10 = .ok (.astore 4, 2) := by decide +kernel
theorem d_Law_inside_12 : decode b_Law_inside 12 = .ok (.iconst 1, 1) := by decide +kernel
theorem d_Law_inside_13 : decode b_Law_inside 13 = .ok (.ireturn, 1) := by decide +kernel
theorem d_Law_inside_14 : decode b_Law_inside 14 = .ok (.iconst 0, 1) := by decide +kernel
theorem d_Law_inside_15 : decode b_Law_inside 15 = .ok (.ireturn, 1) := by decide +kernel
abbrev b_Law_water : ByteArray := method_11_code
def y_Law_water : MethodName := ⟨"WallDampLaw", "water", "(LWallDamp;II[J)I"⟩
theorem d_Law_water_0 : decode b_Law_water 0 = .ok (.aload_n 3, 1) := by decide +kernel
theorem d_Law_water_1 : decode b_Law_water 1 = .ok (.iconst 0, 1) := by decide +kernel
theorem d_Law_water_2 : decode b_Law_water 2 = .ok (.aload_n 0, 1) := by decide +kernel
theorem d_Law_water_3 : decode b_Law_water 3 = .ok (.iload_n 1, 1) := by decide +kernel
theorem d_Law_water_4 : decode b_Law_water 4 = .ok (.iload_n 2, 1) := by decide +kernel
theorem d_Law_water_5 : decode b_Law_water 5 = .ok (.invokevirtual 44, 3) := by decide +kernel
theorem d_Law_water_8 : decode b_Law_water 8 = .ok (.i2l, 1) := by decide +kernel
theorem d_Law_water_9 : decode b_Law_water 9 = .ok (.lastore, 1) := by decide +kernel
theorem d_Law_water_10 : decode b_Law_water 10 = .ok (.goto 7, 3) := by decide +kernel
theorem d_Law_water_13 : decode b_Law_water 13 = .ok (.astore 4, 2) := by decide +kernel
theorem d_Law_water_15 : decode b_Law_water 15 = .ok (.iconst 1, 1) := by decide +kernel
theorem d_Law_water_16 : decode b_Law_water 16 = .ok (.ireturn, 1) := by decide +kernel
theorem d_Law_water_17 : decode b_Law_water 17 = .ok (.iconst 0, 1) := by decide +kernel
theorem d_Law_water_18 : decode b_Law_water 18 = .ok (.ireturn, 1) := by decide +kernel
abbrev b_Law_leak : ByteArray := method_12_code
def y_Law_leak : MethodName := ⟨"WallDampLaw", "leak", "(LWallDamp;II[J)I"⟩
theorem d_Law_leak_0 : decode b_Law_leak 0 = .ok (.aload_n 3, 1) := by decide +kernel
theorem d_Law_leak_1 : decode b_Law_leak 1 = .ok (.iconst 0, 1) := by decide +kernel
theorem d_Law_leak_2 : decode b_Law_leak 2 = .ok (.aload_n 0, 1) := by decide +kernel
theorem d_Law_leak_3 : decode b_Law_leak 3 = .ok (.iload_n 1, 1) := by decide +kernel
theorem d_Law_leak_4 : decode b_Law_leak 4 = .ok (.iload_n 2, 1) := by decide +kernel
theorem d_Law_leak_5 : decode b_Law_leak 5 = .ok (.invokevirtual 47, 3) := by decide +kernel
theorem d_Law_leak_8 : decode b_Law_leak 8 = .ok (.i2l, 1) := by decide +kernel
theorem d_Law_leak_9 : decode b_Law_leak 9 = .ok (.lastore, 1) := by decide +kernel
theorem d_Law_leak_10 : decode b_Law_leak 10 = .ok (.goto 7, 3) := by decide +kernel
theorem d_Law_leak_13 : decode b_Law_leak 13 = .ok (.astore 4, 2) := by decide +kernel
theorem d_Law_leak_15 : decode b_Law_leak 15 = .ok (.iconst 1, 1) := by decide +kernel
theorem d_Law_leak_16 : decode b_Law_leak 16 = .ok (.ireturn, 1) := by decide +kernel
theorem d_Law_leak_17 : decode b_Law_leak 17 = .ok (.iconst 0, 1) := by decide +kernel
theorem d_Law_leak_18 : decode b_Law_leak 18 = .ok (.ireturn, 1) := by decide +kernel
abbrev b_Law_growth : ByteArray := method_13_code
def y_Law_growth : MethodName := ⟨"WallDampLaw", "growth", "(LWallDamp;IIII[J)I"⟩
theorem d_Law_growth_0 : decode b_Law_growth 0 = .ok (.aload 5, 2) := by decide +kernel
theorem d_Law_growth_2 : decode b_Law_growth 2 = .ok (.iconst 0, 1) := by decide +kernel
theorem d_Law_growth_3 : decode b_Law_growth 3 = .ok (.aload_n 0, 1) := by decide +kernel
theorem d_Law_growth_4 : decode b_Law_growth 4 = .ok (.iload_n 1, 1) := by decide +kernel
theorem d_Law_growth_5 : decode b_Law_growth 5 = .ok (.iload_n 2, 1) := by decide +kernel
theorem d_Law_growth_6 : decode b_Law_growth 6 = .ok (.iload_n 3, 1) := by decide +kernel
theorem d_Law_growth_7 : decode b_Law_growth 7 = .ok (.iload 4, 2) := by decide +kernel
theorem d_Law_growth_9 : decode b_Law_growth 9 = .ok (.invokevirtual 50, 3) := by decide +kernel
theorem d_Law_growth_12 : decode b_Law_growth 12 = .ok (.i2l, 1) := by decide +kernel
theorem d_Law_growth_13 : decode b_Law_growth 13 = .ok (.lastore, 1) := by decide +kernel
theorem d_Law_growth_14 : decode b_Law_growth 14 = .ok (.goto 11, 3) := by decide +kernel
theorem d_Law_growth_17 : decode b_Law_growth 17 = .ok (.astore 6, 2) := by decide +kernel
theorem d_Law_growth_19 : decode b_Law_growth 19 = .ok (.iconst 1, 1) := by decide +kernel
theorem d_Law_growth_20 : decode b_Law_growth 20 = .ok (.ireturn, 1) := by decide +kernel
theorem d_Law_growth_21 : decode b_Law_growth 21 = .ok (.astore 6, 2) := by decide +kernel
theorem d_Law_growth_23 : decode b_Law_growth 23 = .ok (.iconst 2, 1) := by decide +kernel
theorem d_Law_growth_24 : decode b_Law_growth 24 = .ok (.ireturn, 1) := by decide +kernel
theorem d_Law_growth_25 : decode b_Law_growth 25 = .ok (.iconst 0, 1) := by decide +kernel
theorem d_Law_growth_26 : decode b_Law_growth 26 = .ok (.ireturn, 1) := by decide +kernel
abbrev b_Law_run : ByteArray := method_14_code
def y_Law_run : MethodName := ⟨"WallDampLaw", "run", "(LWallDamp;I[J)I"⟩
theorem d_Law_run_0 : decode b_Law_run 0 = .ok (.aload_n 2, 1) := by decide +kernel
theorem d_Law_run_1 : decode b_Law_run 1 = .ok (.iconst 0, 1) := by decide +kernel
theorem d_Law_run_2 : decode b_Law_run 2 = .ok (.aload_n 0, 1) := by decide +kernel
theorem d_Law_run_3 : decode b_Law_run 3 = .ok (.iload_n 1, 1) := by decide +kernel
theorem d_Law_run_4 : decode b_Law_run 4 = .ok (.invokevirtual 54, 3) := by decide +kernel
theorem d_Law_run_7 : decode b_Law_run 7 = .ok (.i2l, 1) := by decide +kernel
theorem d_Law_run_8 : decode b_Law_run 8 = .ok (.lastore, 1) := by decide +kernel
theorem d_Law_run_9 : decode b_Law_run 9 = .ok (.goto 9, 3) := by decide +kernel
theorem d_Law_run_12 : decode b_Law_run 12 = .ok (.astore_n 3, 1) := by decide +kernel
theorem d_Law_run_13 : decode b_Law_run 13 = .ok (.iconst 1, 1) := by decide +kernel
theorem d_Law_run_14 : decode b_Law_run 14 = .ok (.ireturn, 1) := by decide +kernel
theorem d_Law_run_15 : decode b_Law_run 15 = .ok (.astore_n 3, 1) := by decide +kernel
theorem d_Law_run_16 : decode b_Law_run 16 = .ok (.iconst 2, 1) := by decide +kernel
theorem d_Law_run_17 : decode b_Law_run 17 = .ok (.ireturn, 1) := by decide +kernel
theorem d_Law_run_18 : decode b_Law_run 18 = .ok (.iconst 0, 1) := by decide +kernel
theorem d_Law_run_19 : decode b_Law_run 19 = .ok (.ireturn, 1) := by decide +kernel
abbrev b_Law_told : ByteArray := method_15_code
def y_Law_told : MethodName := ⟨"WallDampLaw", "told", "(LWallDamp;II[J)I"⟩
theorem d_Law_told_0 : decode b_Law_told 0 = .ok (.aload_n 3, 1) := by decide +kernel
theorem d_Law_told_1 : decode b_Law_told 1 = .ok (.iconst 0, 1) := by decide +kernel
theorem d_Law_told_2 : decode b_Law_told 2 = .ok (.aload_n 0, 1) := by decide +kernel
theorem d_Law_told_3 : decode b_Law_told 3 = .ok (.iload_n 1, 1) := by decide +kernel
theorem d_Law_told_4 : decode b_Law_told 4 = .ok (.iload_n 2, 1) := by decide +kernel
theorem d_Law_told_5 : decode b_Law_told 5 = .ok (.invokevirtual 57, 3) := by decide +kernel
theorem d_Law_told_8 : decode b_Law_told 8 = .ok (.i2l, 1) := by decide +kernel
theorem d_Law_told_9 : decode b_Law_told 9 = .ok (.lastore, 1) := by decide +kernel
theorem d_Law_told_10 : decode b_Law_told 10 = .ok (.goto 7, 3) := by decide +kernel
theorem d_Law_told_13 : decode b_Law_told 13 = .ok (.astore 4, 2) := by decide +kernel
theorem d_Law_told_15 : decode b_Law_told 15 = .ok (.iconst 1, 1) := by decide +kernel
theorem d_Law_told_16 : decode b_Law_told 16 = .ok (.ireturn, 1) := by decide +kernel
theorem d_Law_told_17 : decode b_Law_told 17 = .ok (.iconst 0, 1) := by decide +kernel
theorem d_Law_told_18 : decode b_Law_told 18 = .ok (.ireturn, 1) := by decide +kernel
abbrev b_Law_balance : ByteArray := method_16_code
def y_Law_balance : MethodName := ⟨"WallDampLaw", "balance", "(LWallDamp;I[J)I"⟩
theorem d_Law_balance_0 : decode b_Law_balance 0 = .ok (.aload_n 2, 1) := by decide +kernel
theorem d_Law_balance_1 : decode b_Law_balance 1 = .ok (.iconst 0, 1) := by decide +kernel
theorem d_Law_balance_2 : decode b_Law_balance 2 = .ok (.aload_n 0, 1) := by decide +kernel
theorem d_Law_balance_3 : decode b_Law_balance 3 = .ok (.iload_n 1, 1) := by decide +kernel
theorem d_Law_balance_4 : decode b_Law_balance 4 = .ok (.invokevirtual 60, 3) := by decide +kernel
theorem d_Law_balance_7 : decode b_Law_balance 7 = .ok (.lastore, 1) := by decide +kernel
theorem d_Law_balance_8 : decode b_Law_balance 8 = .ok (.goto 6, 3) := by decide +kernel
theorem d_Law_balance_11 : decode b_Law_balance 11 = .ok (.astore_n 3, 1) := by decide +kernel
theorem d_Law_balance_12 : decode b_Law_balance 12 = .ok (.iconst 1, 1) := by decide +kernel
theorem d_Law_balance_13 : decode b_Law_balance 13 = .ok (.ireturn, 1) := by decide +kernel
theorem d_Law_balance_14 : decode b_Law_balance 14 = .ok (.iconst 0, 1) := by decide +kernel
theorem d_Law_balance_15 : decode b_Law_balance 15 = .ok (.ireturn, 1) := by decide +kernel
abbrev b_Law_order : ByteArray := method_17_code
def y_Law_order : MethodName := ⟨"WallDampLaw", "order", "(LWallDamp;II[J)I"⟩
theorem d_Law_order_0 : decode b_Law_order 0 = .ok (.aload_n 3, 1) := by decide +kernel
theorem d_Law_order_1 : decode b_Law_order 1 = .ok (.iconst 0, 1) := by decide +kernel
theorem d_Law_order_2 : decode b_Law_order 2 = .ok (.aload_n 0, 1) := by decide +kernel
theorem d_Law_order_3 : decode b_Law_order 3 = .ok (.iload_n 1, 1) := by decide +kernel
theorem d_Law_order_4 : decode b_Law_order 4 = .ok (.iload_n 2, 1) := by decide +kernel
theorem d_Law_order_5 : decode b_Law_order 5 = .ok (.invokevirtual 64, 3) := by decide +kernel
theorem d_Law_order_8 : decode b_Law_order 8 = .ok (.i2l, 1) := by decide +kernel
theorem d_Law_order_9 : decode b_Law_order 9 = .ok (.lastore, 1) := by decide +kernel
theorem d_Law_order_10 : decode b_Law_order 10 = .ok (.goto 11, 3) := by decide +kernel
theorem d_Law_order_13 : decode b_Law_order 13 = .ok (.astore 4, 2) := by decide +kernel
theorem d_Law_order_15 : decode b_Law_order 15 = .ok (.iconst 1, 1) := by decide +kernel
theorem d_Law_order_16 : decode b_Law_order 16 = .ok (.ireturn, 1) := by decide +kernel
theorem d_Law_order_17 : decode b_Law_order 17 = .ok (.astore 4, 2) := by decide +kernel
theorem d_Law_order_19 : decode b_Law_order 19 = .ok (.iconst 2, 1) := by decide +kernel
theorem d_Law_order_20 : decode b_Law_order 20 = .ok (.ireturn, 1) := by decide +kernel
theorem d_Law_order_21 : decode b_Law_order 21 = .ok (.iconst 0, 1) := by decide +kernel
theorem d_Law_order_22 : decode b_Law_order 22 = .ok (.ireturn, 1) := by decide +kernel
abbrev b_Law_law : ByteArray := code
def y_Law_law : MethodName := ⟨"WallDampLaw", "law", "([I)Z"⟩
theorem d_Law_law_0 : decode b_Law_law 0 = .ok (.new 8, 3) := by decide +kernel
theorem d_Law_law_3 : decode b_Law_law 3 = .ok (.dup, 1) := by decide +kernel
theorem d_Law_law_4 : decode b_Law_law 4 = .ok (.aload_n 0, 1) := by decide +kernel
theorem d_Law_law_5 : decode b_Law_law 5 = .ok (.iconst 0, 1) := by decide +kernel
theorem d_Law_law_6 : decode b_Law_law 6 = .ok (.invokestatic 67, 3) := by decide +kernel
theorem d_Law_law_9 : decode b_Law_law 9 = .ok (.invokespecial 72, 3) := by decide +kernel
theorem d_Law_law_12 : decode b_Law_law 12 = .ok (.astore_n 1, 1) := by decide +kernel
theorem d_Law_law_13 : decode b_Law_law 13 = .ok (.new 75, 3) := by decide +kernel
theorem d_Law_law_16 : decode b_Law_law 16 = .ok (.dup, 1) := by decide +kernel
theorem d_Law_law_17 : decode b_Law_law 17 = .ok (.aload_n 0, 1) := by decide +kernel
theorem d_Law_law_18 : decode b_Law_law 18 = .ok (.iconst 0, 1) := by decide +kernel
theorem d_Law_law_19 : decode b_Law_law 19 = .ok (.invokestatic 67, 3) := by decide +kernel
theorem d_Law_law_22 : decode b_Law_law 22 = .ok (.invokespecial 77, 3) := by decide +kernel
theorem d_Law_law_25 : decode b_Law_law 25 = .ok (.astore_n 2, 1) := by decide +kernel
theorem d_Law_law_26 : decode b_Law_law 26 = .ok (.iconst 1, 1) := by decide +kernel
theorem d_Law_law_27 : decode b_Law_law 27 = .ok (.newarray .long, 2) := by decide +kernel
theorem d_Law_law_29 : decode b_Law_law 29 = .ok (.astore_n 3, 1) := by decide +kernel
theorem d_Law_law_30 : decode b_Law_law 30 = .ok (.iconst 1, 1) := by decide +kernel
theorem d_Law_law_31 : decode b_Law_law 31 = .ok (.istore 4, 2) := by decide +kernel
theorem d_Law_law_33 : decode b_Law_law 33 = .ok (.iload 4, 2) := by decide +kernel
theorem d_Law_law_35 : decode b_Law_law 35 = .ok (.aload_n 0, 1) := by decide +kernel
theorem d_Law_law_36 : decode b_Law_law 36 = .ok (.arraylength, 1) := by decide +kernel
theorem d_Law_law_37 : decode b_Law_law 37 = .ok (.bipush 6, 2) := by decide +kernel
theorem d_Law_law_39 : decode b_Law_law 39 = .ok (.isub, 1) := by decide +kernel
theorem d_Law_law_40 : decode b_Law_law 40 = .ok (.if_icmp .gt 1110, 3) := by decide +kernel
theorem d_Law_law_43 : decode b_Law_law 43 = .ok (.aload_n 0, 1) := by decide +kernel
theorem d_Law_law_44 : decode b_Law_law 44 = .ok (.iload 4, 2) := by decide +kernel
theorem d_Law_law_46 : decode b_Law_law 46 = .ok (.iaload, 1) := by decide +kernel
theorem d_Law_law_47 : decode b_Law_law 47 = .ok (.bipush 15, 2) := by decide +kernel
theorem d_Law_law_49 : decode b_Law_law 49 = .ok (.iand, 1) := by decide +kernel
theorem d_Law_law_50 : decode b_Law_law 50 = .ok (.tableswitch 1094 0 15 #[78, 158, 230, 290, 358, 414, 462, 546, 606, 674, 742, 834, 890, 958, 1013, 1026], 78) := by decide +kernel
theorem d_Law_law_128 : decode b_Law_law 128 = .ok (.aload_n 1, 1) := by decide +kernel
theorem d_Law_law_129 : decode b_Law_law 129 = .ok (.aload_n 0, 1) := by decide +kernel
theorem d_Law_law_130 : decode b_Law_law 130 = .ok (.iload 4, 2) := by decide +kernel
theorem d_Law_law_132 : decode b_Law_law 132 = .ok (.iconst 1, 1) := by decide +kernel
theorem d_Law_law_133 : decode b_Law_law 133 = .ok (.iadd, 1) := by decide +kernel
theorem d_Law_law_134 : decode b_Law_law 134 = .ok (.iaload, 1) := by decide +kernel
theorem d_Law_law_135 : decode b_Law_law 135 = .ok (.aload_n 0, 1) := by decide +kernel
theorem d_Law_law_136 : decode b_Law_law 136 = .ok (.iload 4, 2) := by decide +kernel
theorem d_Law_law_138 : decode b_Law_law 138 = .ok (.iconst 2, 1) := by decide +kernel
theorem d_Law_law_139 : decode b_Law_law 139 = .ok (.iadd, 1) := by decide +kernel
theorem d_Law_law_140 : decode b_Law_law 140 = .ok (.iaload, 1) := by decide +kernel
theorem d_Law_law_141 : decode b_Law_law 141 = .ok (.aload_n 0, 1) := by decide +kernel
theorem d_Law_law_142 : decode b_Law_law 142 = .ok (.iload 4, 2) := by decide +kernel
theorem d_Law_law_144 : decode b_Law_law 144 = .ok (.iconst 3, 1) := by decide +kernel
theorem d_Law_law_145 : decode b_Law_law 145 = .ok (.iadd, 1) := by decide +kernel
theorem d_Law_law_146 : decode b_Law_law 146 = .ok (.iaload, 1) := by decide +kernel
theorem d_Law_law_147 : decode b_Law_law 147 = .ok (.aload_n 3, 1) := by decide +kernel
theorem d_Law_law_148 : decode b_Law_law 148 = .ok (.invokestatic 78, 3) := by decide +kernel
theorem d_Law_law_151 : decode b_Law_law 151 = .ok (.istore 5, 2) := by decide +kernel
theorem d_Law_law_153 : decode b_Law_law 153 = .ok (.aload_n 2, 1) := by decide +kernel
theorem d_Law_law_154 : decode b_Law_law 154 = .ok (.aload_n 0, 1) := by decide +kernel
theorem d_Law_law_155 : decode b_Law_law 155 = .ok (.iload 4, 2) := by decide +kernel
theorem d_Law_law_157 : decode b_Law_law 157 = .ok (.iconst 1, 1) := by decide +kernel
theorem d_Law_law_158 : decode b_Law_law 158 = .ok (.iadd, 1) := by decide +kernel
theorem d_Law_law_159 : decode b_Law_law 159 = .ok (.iaload, 1) := by decide +kernel
theorem d_Law_law_160 : decode b_Law_law 160 = .ok (.aload_n 0, 1) := by decide +kernel
theorem d_Law_law_161 : decode b_Law_law 161 = .ok (.iload 4, 2) := by decide +kernel
theorem d_Law_law_163 : decode b_Law_law 163 = .ok (.iconst 2, 1) := by decide +kernel
theorem d_Law_law_164 : decode b_Law_law 164 = .ok (.iadd, 1) := by decide +kernel
theorem d_Law_law_165 : decode b_Law_law 165 = .ok (.iaload, 1) := by decide +kernel
theorem d_Law_law_166 : decode b_Law_law 166 = .ok (.aload_n 0, 1) := by decide +kernel
theorem d_Law_law_167 : decode b_Law_law 167 = .ok (.iload 4, 2) := by decide +kernel
theorem d_Law_law_169 : decode b_Law_law 169 = .ok (.iconst 3, 1) := by decide +kernel
theorem d_Law_law_170 : decode b_Law_law 170 = .ok (.iadd, 1) := by decide +kernel
theorem d_Law_law_171 : decode b_Law_law 171 = .ok (.iaload, 1) := by decide +kernel
theorem d_Law_law_172 : decode b_Law_law 172 = .ok (.invokevirtual 81, 3) := by decide +kernel
theorem d_Law_law_175 : decode b_Law_law 175 = .ok (.istore 6, 2) := by decide +kernel
theorem d_Law_law_177 : decode b_Law_law 177 = .ok (.aload_n 2, 1) := by decide +kernel
theorem d_Law_law_178 : decode b_Law_law 178 = .ok (.invokevirtual 82, 3) := by decide +kernel
theorem d_Law_law_181 : decode b_Law_law 181 = .ok (.iload 5, 2) := by decide +kernel
theorem d_Law_law_183 : decode b_Law_law 183 = .ok (.if_icmp .eq 5, 3) := by decide +kernel
theorem d_Law_law_186 : decode b_Law_law 186 = .ok (.iconst 0, 1) := by decide +kernel
theorem d_Law_law_187 : decode b_Law_law 187 = .ok (.ireturn, 1) := by decide +kernel
theorem d_Law_law_188 : decode b_Law_law 188 = .ok (.iload 5, 2) := by decide +kernel
theorem d_Law_law_190 : decode b_Law_law 190 = .ok (.ifCond .ne 15, 3) := by decide +kernel
theorem d_Law_law_193 : decode b_Law_law 193 = .ok (.aload_n 3, 1) := by decide +kernel
theorem d_Law_law_194 : decode b_Law_law 194 = .ok (.iconst 0, 1) := by decide +kernel
theorem d_Law_law_195 : decode b_Law_law 195 = .ok (.laload, 1) := by decide +kernel
theorem d_Law_law_196 : decode b_Law_law 196 = .ok (.iload 6, 2) := by decide +kernel
theorem d_Law_law_198 : decode b_Law_law 198 = .ok (.i2l, 1) := by decide +kernel
theorem d_Law_law_199 : decode b_Law_law 199 = .ok (.lcmp, 1) := by decide +kernel
theorem d_Law_law_200 : decode b_Law_law 200 = .ok (.ifCond .eq 5, 3) := by decide +kernel
theorem d_Law_law_203 : decode b_Law_law 203 = .ok (.iconst 0, 1) := by decide +kernel
theorem d_Law_law_204 : decode b_Law_law 204 = .ok (.ireturn, 1) := by decide +kernel
theorem d_Law_law_205 : decode b_Law_law 205 = .ok (.goto 939, 3) := by decide +kernel
theorem d_Law_law_208 : decode b_Law_law 208 = .ok (.aload_n 1, 1) := by decide +kernel
theorem d_Law_law_209 : decode b_Law_law 209 = .ok (.aload_n 0, 1) := by decide +kernel
theorem d_Law_law_210 : decode b_Law_law 210 = .ok (.iload 4, 2) := by decide +kernel
theorem d_Law_law_212 : decode b_Law_law 212 = .ok (.iconst 1, 1) := by decide +kernel
theorem d_Law_law_213 : decode b_Law_law 213 = .ok (.iadd, 1) := by decide +kernel
theorem d_Law_law_214 : decode b_Law_law 214 = .ok (.iaload, 1) := by decide +kernel
theorem d_Law_law_215 : decode b_Law_law 215 = .ok (.aload_n 0, 1) := by decide +kernel
theorem d_Law_law_216 : decode b_Law_law 216 = .ok (.iload 4, 2) := by decide +kernel
theorem d_Law_law_218 : decode b_Law_law 218 = .ok (.iconst 2, 1) := by decide +kernel
theorem d_Law_law_219 : decode b_Law_law 219 = .ok (.iadd, 1) := by decide +kernel
theorem d_Law_law_220 : decode b_Law_law 220 = .ok (.iaload, 1) := by decide +kernel
theorem d_Law_law_221 : decode b_Law_law 221 = .ok (.aload_n 0, 1) := by decide +kernel
theorem d_Law_law_222 : decode b_Law_law 222 = .ok (.iload 4, 2) := by decide +kernel
theorem d_Law_law_224 : decode b_Law_law 224 = .ok (.iconst 3, 1) := by decide +kernel
theorem d_Law_law_225 : decode b_Law_law 225 = .ok (.iadd, 1) := by decide +kernel
theorem d_Law_law_226 : decode b_Law_law 226 = .ok (.iaload, 1) := by decide +kernel
theorem d_Law_law_227 : decode b_Law_law 227 = .ok (.aload_n 0, 1) := by decide +kernel
theorem d_Law_law_228 : decode b_Law_law 228 = .ok (.iload 4, 2) := by decide +kernel
theorem d_Law_law_230 : decode b_Law_law 230 = .ok (.iconst 4, 1) := by decide +kernel
theorem d_Law_law_231 : decode b_Law_law 231 = .ok (.iadd, 1) := by decide +kernel
theorem d_Law_law_232 : decode b_Law_law 232 = .ok (.iaload, 1) := by decide +kernel
theorem d_Law_law_233 : decode b_Law_law 233 = .ok (.invokestatic 86, 3) := by decide +kernel
theorem d_Law_law_236 : decode b_Law_law 236 = .ok (.istore 5, 2) := by decide +kernel
theorem d_Law_law_238 : decode b_Law_law 238 = .ok (.aload_n 2, 1) := by decide +kernel
theorem d_Law_law_239 : decode b_Law_law 239 = .ok (.aload_n 0, 1) := by decide +kernel
theorem d_Law_law_240 : decode b_Law_law 240 = .ok (.iload 4, 2) := by decide +kernel
theorem d_Law_law_242 : decode b_Law_law 242 = .ok (.iconst 1, 1) := by decide +kernel
theorem d_Law_law_243 : decode b_Law_law 243 = .ok (.iadd, 1) := by decide +kernel
theorem d_Law_law_244 : decode b_Law_law 244 = .ok (.iaload, 1) := by decide +kernel
theorem d_Law_law_245 : decode b_Law_law 245 = .ok (.aload_n 0, 1) := by decide +kernel
theorem d_Law_law_246 : decode b_Law_law 246 = .ok (.iload 4, 2) := by decide +kernel
theorem d_Law_law_248 : decode b_Law_law 248 = .ok (.iconst 2, 1) := by decide +kernel
theorem d_Law_law_249 : decode b_Law_law 249 = .ok (.iadd, 1) := by decide +kernel
theorem d_Law_law_250 : decode b_Law_law 250 = .ok (.iaload, 1) := by decide +kernel
theorem d_Law_law_251 : decode b_Law_law 251 = .ok (.aload_n 0, 1) := by decide +kernel
theorem d_Law_law_252 : decode b_Law_law 252 = .ok (.iload 4, 2) := by decide +kernel
theorem d_Law_law_254 : decode b_Law_law 254 = .ok (.iconst 3, 1) := by decide +kernel
theorem d_Law_law_255 : decode b_Law_law 255 = .ok (.iadd, 1) := by decide +kernel
theorem d_Law_law_256 : decode b_Law_law 256 = .ok (.iaload, 1) := by decide +kernel
theorem d_Law_law_257 : decode b_Law_law 257 = .ok (.aload_n 0, 1) := by decide +kernel
theorem d_Law_law_258 : decode b_Law_law 258 = .ok (.iload 4, 2) := by decide +kernel
theorem d_Law_law_260 : decode b_Law_law 260 = .ok (.iconst 4, 1) := by decide +kernel
theorem d_Law_law_261 : decode b_Law_law 261 = .ok (.iadd, 1) := by decide +kernel
theorem d_Law_law_262 : decode b_Law_law 262 = .ok (.iaload, 1) := by decide +kernel
theorem d_Law_law_263 : decode b_Law_law 263 = .ok (.invokevirtual 89, 3) := by decide +kernel
theorem d_Law_law_266 : decode b_Law_law 266 = .ok (.aload_n 2, 1) := by decide +kernel
theorem d_Law_law_267 : decode b_Law_law 267 = .ok (.invokevirtual 82, 3) := by decide +kernel
theorem d_Law_law_270 : decode b_Law_law 270 = .ok (.iload 5, 2) := by decide +kernel
theorem d_Law_law_272 : decode b_Law_law 272 = .ok (.if_icmp .eq 5, 3) := by decide +kernel
theorem d_Law_law_275 : decode b_Law_law 275 = .ok (.iconst 0, 1) := by decide +kernel
theorem d_Law_law_276 : decode b_Law_law 276 = .ok (.ireturn, 1) := by decide +kernel
theorem d_Law_law_277 : decode b_Law_law 277 = .ok (.goto 867, 3) := by decide +kernel
theorem d_Law_law_280 : decode b_Law_law 280 = .ok (.aload_n 1, 1) := by decide +kernel
theorem d_Law_law_281 : decode b_Law_law 281 = .ok (.aload_n 0, 1) := by decide +kernel
theorem d_Law_law_282 : decode b_Law_law 282 = .ok (.iload 4, 2) := by decide +kernel
theorem d_Law_law_284 : decode b_Law_law 284 = .ok (.iconst 1, 1) := by decide +kernel
theorem d_Law_law_285 : decode b_Law_law 285 = .ok (.iadd, 1) := by decide +kernel
theorem d_Law_law_286 : decode b_Law_law 286 = .ok (.iaload, 1) := by decide +kernel
theorem d_Law_law_287 : decode b_Law_law 287 = .ok (.aload_n 0, 1) := by decide +kernel
theorem d_Law_law_288 : decode b_Law_law 288 = .ok (.iload 4, 2) := by decide +kernel
theorem d_Law_law_290 : decode b_Law_law 290 = .ok (.iconst 2, 1) := by decide +kernel
theorem d_Law_law_291 : decode b_Law_law 291 = .ok (.iadd, 1) := by decide +kernel
theorem d_Law_law_292 : decode b_Law_law 292 = .ok (.iaload, 1) := by decide +kernel
theorem d_Law_law_293 : decode b_Law_law 293 = .ok (.aload_n 0, 1) := by decide +kernel
theorem d_Law_law_294 : decode b_Law_law 294 = .ok (.iload 4, 2) := by decide +kernel
theorem d_Law_law_296 : decode b_Law_law 296 = .ok (.iconst 3, 1) := by decide +kernel
theorem d_Law_law_297 : decode b_Law_law 297 = .ok (.iadd, 1) := by decide +kernel
theorem d_Law_law_298 : decode b_Law_law 298 = .ok (.iaload, 1) := by decide +kernel
theorem d_Law_law_299 : decode b_Law_law 299 = .ok (.invokestatic 90, 3) := by decide +kernel
theorem d_Law_law_302 : decode b_Law_law 302 = .ok (.istore 5, 2) := by decide +kernel
theorem d_Law_law_304 : decode b_Law_law 304 = .ok (.aload_n 2, 1) := by decide +kernel
theorem d_Law_law_305 : decode b_Law_law 305 = .ok (.aload_n 0, 1) := by decide +kernel
theorem d_Law_law_306 : decode b_Law_law 306 = .ok (.iload 4, 2) := by decide +kernel
theorem d_Law_law_308 : decode b_Law_law 308 = .ok (.iconst 1, 1) := by decide +kernel
theorem d_Law_law_309 : decode b_Law_law 309 = .ok (.iadd, 1) := by decide +kernel
theorem d_Law_law_310 : decode b_Law_law 310 = .ok (.iaload, 1) := by decide +kernel
theorem d_Law_law_311 : decode b_Law_law 311 = .ok (.aload_n 0, 1) := by decide +kernel
theorem d_Law_law_312 : decode b_Law_law 312 = .ok (.iload 4, 2) := by decide +kernel
theorem d_Law_law_314 : decode b_Law_law 314 = .ok (.iconst 2, 1) := by decide +kernel
theorem d_Law_law_315 : decode b_Law_law 315 = .ok (.iadd, 1) := by decide +kernel
theorem d_Law_law_316 : decode b_Law_law 316 = .ok (.iaload, 1) := by decide +kernel
theorem d_Law_law_317 : decode b_Law_law 317 = .ok (.aload_n 0, 1) := by decide +kernel
theorem d_Law_law_318 : decode b_Law_law 318 = .ok (.iload 4, 2) := by decide +kernel
theorem d_Law_law_320 : decode b_Law_law 320 = .ok (.iconst 3, 1) := by decide +kernel
theorem d_Law_law_321 : decode b_Law_law 321 = .ok (.iadd, 1) := by decide +kernel
theorem d_Law_law_322 : decode b_Law_law 322 = .ok (.iaload, 1) := by decide +kernel
theorem d_Law_law_323 : decode b_Law_law 323 = .ok (.invokevirtual 93, 3) := by decide +kernel
theorem d_Law_law_326 : decode b_Law_law 326 = .ok (.aload_n 2, 1) := by decide +kernel
theorem d_Law_law_327 : decode b_Law_law 327 = .ok (.invokevirtual 82, 3) := by decide +kernel
theorem d_Law_law_330 : decode b_Law_law 330 = .ok (.iload 5, 2) := by decide +kernel
theorem d_Law_law_332 : decode b_Law_law 332 = .ok (.if_icmp .eq 5, 3) := by decide +kernel
theorem d_Law_law_335 : decode b_Law_law 335 = .ok (.iconst 0, 1) := by decide +kernel
theorem d_Law_law_336 : decode b_Law_law 336 = .ok (.ireturn, 1) := by decide +kernel
theorem d_Law_law_337 : decode b_Law_law 337 = .ok (.goto 807, 3) := by decide +kernel
theorem d_Law_law_340 : decode b_Law_law 340 = .ok (.aload_n 1, 1) := by decide +kernel
theorem d_Law_law_341 : decode b_Law_law 341 = .ok (.aload_n 0, 1) := by decide +kernel
theorem d_Law_law_342 : decode b_Law_law 342 = .ok (.iload 4, 2) := by decide +kernel
theorem d_Law_law_344 : decode b_Law_law 344 = .ok (.iconst 1, 1) := by decide +kernel
theorem d_Law_law_345 : decode b_Law_law 345 = .ok (.iadd, 1) := by decide +kernel
theorem d_Law_law_346 : decode b_Law_law 346 = .ok (.iaload, 1) := by decide +kernel
theorem d_Law_law_347 : decode b_Law_law 347 = .ok (.aload_n 0, 1) := by decide +kernel
theorem d_Law_law_348 : decode b_Law_law 348 = .ok (.iload 4, 2) := by decide +kernel
theorem d_Law_law_350 : decode b_Law_law 350 = .ok (.iconst 2, 1) := by decide +kernel
theorem d_Law_law_351 : decode b_Law_law 351 = .ok (.iadd, 1) := by decide +kernel
theorem d_Law_law_352 : decode b_Law_law 352 = .ok (.iaload, 1) := by decide +kernel
theorem d_Law_law_353 : decode b_Law_law 353 = .ok (.aload_n 3, 1) := by decide +kernel
theorem d_Law_law_354 : decode b_Law_law 354 = .ok (.invokestatic 94, 3) := by decide +kernel
theorem d_Law_law_357 : decode b_Law_law 357 = .ok (.istore 5, 2) := by decide +kernel
theorem d_Law_law_359 : decode b_Law_law 359 = .ok (.aload_n 2, 1) := by decide +kernel
theorem d_Law_law_360 : decode b_Law_law 360 = .ok (.aload_n 0, 1) := by decide +kernel
theorem d_Law_law_361 : decode b_Law_law 361 = .ok (.iload 4, 2) := by decide +kernel
theorem d_Law_law_363 : decode b_Law_law 363 = .ok (.iconst 1, 1) := by decide +kernel
theorem d_Law_law_364 : decode b_Law_law 364 = .ok (.iadd, 1) := by decide +kernel
theorem d_Law_law_365 : decode b_Law_law 365 = .ok (.iaload, 1) := by decide +kernel
theorem d_Law_law_366 : decode b_Law_law 366 = .ok (.aload_n 0, 1) := by decide +kernel
theorem d_Law_law_367 : decode b_Law_law 367 = .ok (.iload 4, 2) := by decide +kernel
theorem d_Law_law_369 : decode b_Law_law 369 = .ok (.iconst 2, 1) := by decide +kernel
theorem d_Law_law_370 : decode b_Law_law 370 = .ok (.iadd, 1) := by decide +kernel
theorem d_Law_law_371 : decode b_Law_law 371 = .ok (.iaload, 1) := by decide +kernel
theorem d_Law_law_372 : decode b_Law_law 372 = .ok (.invokevirtual 97, 3) := by decide +kernel
theorem d_Law_law_375 : decode b_Law_law 375 = .ok (.istore 6, 2) := by decide +kernel
theorem d_Law_law_377 : decode b_Law_law 377 = .ok (.aload_n 2, 1) := by decide +kernel
theorem d_Law_law_378 : decode b_Law_law 378 = .ok (.invokevirtual 82, 3) := by decide +kernel
theorem d_Law_law_381 : decode b_Law_law 381 = .ok (.iload 5, 2) := by decide +kernel
theorem d_Law_law_383 : decode b_Law_law 383 = .ok (.if_icmp .eq 5, 3) := by decide +kernel
theorem d_Law_law_386 : decode b_Law_law 386 = .ok (.iconst 0, 1) := by decide +kernel
theorem d_Law_law_387 : decode b_Law_law 387 = .ok (.ireturn, 1) := by decide +kernel
theorem d_Law_law_388 : decode b_Law_law 388 = .ok (.iload 5, 2) := by decide +kernel
theorem d_Law_law_390 : decode b_Law_law 390 = .ok (.ifCond .ne 15, 3) := by decide +kernel
theorem d_Law_law_393 : decode b_Law_law 393 = .ok (.aload_n 3, 1) := by decide +kernel
theorem d_Law_law_394 : decode b_Law_law 394 = .ok (.iconst 0, 1) := by decide +kernel
theorem d_Law_law_395 : decode b_Law_law 395 = .ok (.laload, 1) := by decide +kernel
theorem d_Law_law_396 : decode b_Law_law 396 = .ok (.iload 6, 2) := by decide +kernel
theorem d_Law_law_398 : decode b_Law_law 398 = .ok (.i2l, 1) := by decide +kernel
theorem d_Law_law_399 : decode b_Law_law 399 = .ok (.lcmp, 1) := by decide +kernel
theorem d_Law_law_400 : decode b_Law_law 400 = .ok (.ifCond .eq 5, 3) := by decide +kernel
theorem d_Law_law_403 : decode b_Law_law 403 = .ok (.iconst 0, 1) := by decide +kernel
theorem d_Law_law_404 : decode b_Law_law 404 = .ok (.ireturn, 1) := by decide +kernel
theorem d_Law_law_405 : decode b_Law_law 405 = .ok (.goto 739, 3) := by decide +kernel
theorem d_Law_law_408 : decode b_Law_law 408 = .ok (.aload_n 1, 1) := by decide +kernel
theorem d_Law_law_409 : decode b_Law_law 409 = .ok (.aload_n 0, 1) := by decide +kernel
theorem d_Law_law_410 : decode b_Law_law 410 = .ok (.iload 4, 2) := by decide +kernel
theorem d_Law_law_412 : decode b_Law_law 412 = .ok (.iconst 1, 1) := by decide +kernel
theorem d_Law_law_413 : decode b_Law_law 413 = .ok (.iadd, 1) := by decide +kernel
theorem d_Law_law_414 : decode b_Law_law 414 = .ok (.iaload, 1) := by decide +kernel
theorem d_Law_law_415 : decode b_Law_law 415 = .ok (.aload_n 3, 1) := by decide +kernel
theorem d_Law_law_416 : decode b_Law_law 416 = .ok (.invokestatic 98, 3) := by decide +kernel
theorem d_Law_law_419 : decode b_Law_law 419 = .ok (.istore 5, 2) := by decide +kernel
theorem d_Law_law_421 : decode b_Law_law 421 = .ok (.aload_n 2, 1) := by decide +kernel
theorem d_Law_law_422 : decode b_Law_law 422 = .ok (.aload_n 0, 1) := by decide +kernel
theorem d_Law_law_423 : decode b_Law_law 423 = .ok (.iload 4, 2) := by decide +kernel
theorem d_Law_law_425 : decode b_Law_law 425 = .ok (.iconst 1, 1) := by decide +kernel
theorem d_Law_law_426 : decode b_Law_law 426 = .ok (.iadd, 1) := by decide +kernel
theorem d_Law_law_427 : decode b_Law_law 427 = .ok (.iaload, 1) := by decide +kernel
theorem d_Law_law_428 : decode b_Law_law 428 = .ok (.invokevirtual 101, 3) := by decide +kernel
theorem d_Law_law_431 : decode b_Law_law 431 = .ok (.istore 6, 2) := by decide +kernel
theorem d_Law_law_433 : decode b_Law_law 433 = .ok (.aload_n 2, 1) := by decide +kernel
theorem d_Law_law_434 : decode b_Law_law 434 = .ok (.invokevirtual 82, 3) := by decide +kernel
theorem d_Law_law_437 : decode b_Law_law 437 = .ok (.iload 5, 2) := by decide +kernel
theorem d_Law_law_439 : decode b_Law_law 439 = .ok (.if_icmp .eq 5, 3) := by decide +kernel
theorem d_Law_law_442 : decode b_Law_law 442 = .ok (.iconst 0, 1) := by decide +kernel
theorem d_Law_law_443 : decode b_Law_law 443 = .ok (.ireturn, 1) := by decide +kernel
theorem d_Law_law_444 : decode b_Law_law 444 = .ok (.iload 5, 2) := by decide +kernel
theorem d_Law_law_446 : decode b_Law_law 446 = .ok (.ifCond .ne 15, 3) := by decide +kernel
theorem d_Law_law_449 : decode b_Law_law 449 = .ok (.aload_n 3, 1) := by decide +kernel
theorem d_Law_law_450 : decode b_Law_law 450 = .ok (.iconst 0, 1) := by decide +kernel
theorem d_Law_law_451 : decode b_Law_law 451 = .ok (.laload, 1) := by decide +kernel
theorem d_Law_law_452 : decode b_Law_law 452 = .ok (.iload 6, 2) := by decide +kernel
theorem d_Law_law_454 : decode b_Law_law 454 = .ok (.i2l, 1) := by decide +kernel
theorem d_Law_law_455 : decode b_Law_law 455 = .ok (.lcmp, 1) := by decide +kernel
theorem d_Law_law_456 : decode b_Law_law 456 = .ok (.ifCond .eq 5, 3) := by decide +kernel
theorem d_Law_law_459 : decode b_Law_law 459 = .ok (.iconst 0, 1) := by decide +kernel
theorem d_Law_law_460 : decode b_Law_law 460 = .ok (.ireturn, 1) := by decide +kernel
theorem d_Law_law_461 : decode b_Law_law 461 = .ok (.goto 683, 3) := by decide +kernel
theorem d_Law_law_464 : decode b_Law_law 464 = .ok (.aload_n 1, 1) := by decide +kernel
theorem d_Law_law_465 : decode b_Law_law 465 = .ok (.aload_n 0, 1) := by decide +kernel
theorem d_Law_law_466 : decode b_Law_law 466 = .ok (.iload 4, 2) := by decide +kernel
theorem d_Law_law_468 : decode b_Law_law 468 = .ok (.iconst 1, 1) := by decide +kernel
theorem d_Law_law_469 : decode b_Law_law 469 = .ok (.iadd, 1) := by decide +kernel
theorem d_Law_law_470 : decode b_Law_law 470 = .ok (.iaload, 1) := by decide +kernel
theorem d_Law_law_471 : decode b_Law_law 471 = .ok (.aload_n 0, 1) := by decide +kernel
theorem d_Law_law_472 : decode b_Law_law 472 = .ok (.iload 4, 2) := by decide +kernel
theorem d_Law_law_474 : decode b_Law_law 474 = .ok (.iconst 2, 1) := by decide +kernel
theorem d_Law_law_475 : decode b_Law_law 475 = .ok (.iadd, 1) := by decide +kernel
theorem d_Law_law_476 : decode b_Law_law 476 = .ok (.iaload, 1) := by decide +kernel
theorem d_Law_law_477 : decode b_Law_law 477 = .ok (.invokestatic 102, 3) := by decide +kernel
theorem d_Law_law_480 : decode b_Law_law 480 = .ok (.istore 5, 2) := by decide +kernel
theorem d_Law_law_482 : decode b_Law_law 482 = .ok (.aload_n 2, 1) := by decide +kernel
theorem d_Law_law_483 : decode b_Law_law 483 = .ok (.aload_n 0, 1) := by decide +kernel
theorem d_Law_law_484 : decode b_Law_law 484 = .ok (.iload 4, 2) := by decide +kernel
theorem d_Law_law_486 : decode b_Law_law 486 = .ok (.iconst 1, 1) := by decide +kernel
theorem d_Law_law_487 : decode b_Law_law 487 = .ok (.iadd, 1) := by decide +kernel
theorem d_Law_law_488 : decode b_Law_law 488 = .ok (.iaload, 1) := by decide +kernel
theorem d_Law_law_489 : decode b_Law_law 489 = .ok (.aload_n 0, 1) := by decide +kernel
theorem d_Law_law_490 : decode b_Law_law 490 = .ok (.iload 4, 2) := by decide +kernel
theorem d_Law_law_492 : decode b_Law_law 492 = .ok (.iconst 2, 1) := by decide +kernel
theorem d_Law_law_493 : decode b_Law_law 493 = .ok (.iadd, 1) := by decide +kernel
theorem d_Law_law_494 : decode b_Law_law 494 = .ok (.iaload, 1) := by decide +kernel
theorem d_Law_law_495 : decode b_Law_law 495 = .ok (.invokevirtual 105, 3) := by decide +kernel
theorem d_Law_law_498 : decode b_Law_law 498 = .ok (.aload_n 2, 1) := by decide +kernel
theorem d_Law_law_499 : decode b_Law_law 499 = .ok (.invokevirtual 82, 3) := by decide +kernel
theorem d_Law_law_502 : decode b_Law_law 502 = .ok (.iload 5, 2) := by decide +kernel
theorem d_Law_law_504 : decode b_Law_law 504 = .ok (.if_icmp .eq 5, 3) := by decide +kernel
theorem d_Law_law_507 : decode b_Law_law 507 = .ok (.iconst 0, 1) := by decide +kernel
theorem d_Law_law_508 : decode b_Law_law 508 = .ok (.ireturn, 1) := by decide +kernel
theorem d_Law_law_509 : decode b_Law_law 509 = .ok (.goto 635, 3) := by decide +kernel
theorem d_Law_law_512 : decode b_Law_law 512 = .ok (.aload_n 1, 1) := by decide +kernel
theorem d_Law_law_513 : decode b_Law_law 513 = .ok (.aload_n 0, 1) := by decide +kernel
theorem d_Law_law_514 : decode b_Law_law 514 = .ok (.iload 4, 2) := by decide +kernel
theorem d_Law_law_516 : decode b_Law_law 516 = .ok (.iconst 1, 1) := by decide +kernel
theorem d_Law_law_517 : decode b_Law_law 517 = .ok (.iadd, 1) := by decide +kernel
theorem d_Law_law_518 : decode b_Law_law 518 = .ok (.iaload, 1) := by decide +kernel
theorem d_Law_law_519 : decode b_Law_law 519 = .ok (.aload_n 0, 1) := by decide +kernel
theorem d_Law_law_520 : decode b_Law_law 520 = .ok (.iload 4, 2) := by decide +kernel
theorem d_Law_law_522 : decode b_Law_law 522 = .ok (.iconst 2, 1) := by decide +kernel
theorem d_Law_law_523 : decode b_Law_law 523 = .ok (.iadd, 1) := by decide +kernel
theorem d_Law_law_524 : decode b_Law_law 524 = .ok (.iaload, 1) := by decide +kernel
theorem d_Law_law_525 : decode b_Law_law 525 = .ok (.aload_n 0, 1) := by decide +kernel
theorem d_Law_law_526 : decode b_Law_law 526 = .ok (.iload 4, 2) := by decide +kernel
theorem d_Law_law_528 : decode b_Law_law 528 = .ok (.iconst 3, 1) := by decide +kernel
theorem d_Law_law_529 : decode b_Law_law 529 = .ok (.iadd, 1) := by decide +kernel
theorem d_Law_law_530 : decode b_Law_law 530 = .ok (.iaload, 1) := by decide +kernel
theorem d_Law_law_531 : decode b_Law_law 531 = .ok (.aload_n 0, 1) := by decide +kernel
theorem d_Law_law_532 : decode b_Law_law 532 = .ok (.iload 4, 2) := by decide +kernel
theorem d_Law_law_534 : decode b_Law_law 534 = .ok (.iconst 4, 1) := by decide +kernel
theorem d_Law_law_535 : decode b_Law_law 535 = .ok (.iadd, 1) := by decide +kernel
theorem d_Law_law_536 : decode b_Law_law 536 = .ok (.iaload, 1) := by decide +kernel
theorem d_Law_law_537 : decode b_Law_law 537 = .ok (.aload_n 0, 1) := by decide +kernel
theorem d_Law_law_538 : decode b_Law_law 538 = .ok (.iload 4, 2) := by decide +kernel
theorem d_Law_law_540 : decode b_Law_law 540 = .ok (.iconst 5, 1) := by decide +kernel
theorem d_Law_law_541 : decode b_Law_law 541 = .ok (.iadd, 1) := by decide +kernel
theorem d_Law_law_542 : decode b_Law_law 542 = .ok (.iaload, 1) := by decide +kernel
theorem d_Law_law_543 : decode b_Law_law 543 = .ok (.invokestatic 106, 3) := by decide +kernel
theorem d_Law_law_546 : decode b_Law_law 546 = .ok (.istore 5, 2) := by decide +kernel
theorem d_Law_law_548 : decode b_Law_law 548 = .ok (.aload_n 2, 1) := by decide +kernel
theorem d_Law_law_549 : decode b_Law_law 549 = .ok (.aload_n 0, 1) := by decide +kernel
theorem d_Law_law_550 : decode b_Law_law 550 = .ok (.iload 4, 2) := by decide +kernel
theorem d_Law_law_552 : decode b_Law_law 552 = .ok (.iconst 1, 1) := by decide +kernel
theorem d_Law_law_553 : decode b_Law_law 553 = .ok (.iadd, 1) := by decide +kernel
theorem d_Law_law_554 : decode b_Law_law 554 = .ok (.iaload, 1) := by decide +kernel
theorem d_Law_law_555 : decode b_Law_law 555 = .ok (.aload_n 0, 1) := by decide +kernel
theorem d_Law_law_556 : decode b_Law_law 556 = .ok (.iload 4, 2) := by decide +kernel
theorem d_Law_law_558 : decode b_Law_law 558 = .ok (.iconst 2, 1) := by decide +kernel
theorem d_Law_law_559 : decode b_Law_law 559 = .ok (.iadd, 1) := by decide +kernel
theorem d_Law_law_560 : decode b_Law_law 560 = .ok (.iaload, 1) := by decide +kernel
theorem d_Law_law_561 : decode b_Law_law 561 = .ok (.aload_n 0, 1) := by decide +kernel
theorem d_Law_law_562 : decode b_Law_law 562 = .ok (.iload 4, 2) := by decide +kernel
theorem d_Law_law_564 : decode b_Law_law 564 = .ok (.iconst 3, 1) := by decide +kernel
theorem d_Law_law_565 : decode b_Law_law 565 = .ok (.iadd, 1) := by decide +kernel
theorem d_Law_law_566 : decode b_Law_law 566 = .ok (.iaload, 1) := by decide +kernel
theorem d_Law_law_567 : decode b_Law_law 567 = .ok (.aload_n 0, 1) := by decide +kernel
theorem d_Law_law_568 : decode b_Law_law 568 = .ok (.iload 4, 2) := by decide +kernel
theorem d_Law_law_570 : decode b_Law_law 570 = .ok (.iconst 4, 1) := by decide +kernel
theorem d_Law_law_571 : decode b_Law_law 571 = .ok (.iadd, 1) := by decide +kernel
theorem d_Law_law_572 : decode b_Law_law 572 = .ok (.iaload, 1) := by decide +kernel
theorem d_Law_law_573 : decode b_Law_law 573 = .ok (.aload_n 0, 1) := by decide +kernel
theorem d_Law_law_574 : decode b_Law_law 574 = .ok (.iload 4, 2) := by decide +kernel
theorem d_Law_law_576 : decode b_Law_law 576 = .ok (.iconst 5, 1) := by decide +kernel
theorem d_Law_law_577 : decode b_Law_law 577 = .ok (.iadd, 1) := by decide +kernel
theorem d_Law_law_578 : decode b_Law_law 578 = .ok (.iaload, 1) := by decide +kernel
theorem d_Law_law_579 : decode b_Law_law 579 = .ok (.invokevirtual 109, 3) := by decide +kernel
theorem d_Law_law_582 : decode b_Law_law 582 = .ok (.aload_n 2, 1) := by decide +kernel
theorem d_Law_law_583 : decode b_Law_law 583 = .ok (.invokevirtual 82, 3) := by decide +kernel
theorem d_Law_law_586 : decode b_Law_law 586 = .ok (.iload 5, 2) := by decide +kernel
theorem d_Law_law_588 : decode b_Law_law 588 = .ok (.if_icmp .eq 5, 3) := by decide +kernel
theorem d_Law_law_591 : decode b_Law_law 591 = .ok (.iconst 0, 1) := by decide +kernel
theorem d_Law_law_592 : decode b_Law_law 592 = .ok (.ireturn, 1) := by decide +kernel
theorem d_Law_law_593 : decode b_Law_law 593 = .ok (.goto 551, 3) := by decide +kernel
theorem d_Law_law_596 : decode b_Law_law 596 = .ok (.aload_n 1, 1) := by decide +kernel
theorem d_Law_law_597 : decode b_Law_law 597 = .ok (.aload_n 0, 1) := by decide +kernel
theorem d_Law_law_598 : decode b_Law_law 598 = .ok (.iload 4, 2) := by decide +kernel
theorem d_Law_law_600 : decode b_Law_law 600 = .ok (.iconst 1, 1) := by decide +kernel
theorem d_Law_law_601 : decode b_Law_law 601 = .ok (.iadd, 1) := by decide +kernel
theorem d_Law_law_602 : decode b_Law_law 602 = .ok (.iaload, 1) := by decide +kernel
theorem d_Law_law_603 : decode b_Law_law 603 = .ok (.aload_n 0, 1) := by decide +kernel
theorem d_Law_law_604 : decode b_Law_law 604 = .ok (.iload 4, 2) := by decide +kernel
theorem d_Law_law_606 : decode b_Law_law 606 = .ok (.iconst 2, 1) := by decide +kernel
theorem d_Law_law_607 : decode b_Law_law 607 = .ok (.iadd, 1) := by decide +kernel
theorem d_Law_law_608 : decode b_Law_law 608 = .ok (.iaload, 1) := by decide +kernel
theorem d_Law_law_609 : decode b_Law_law 609 = .ok (.aload_n 0, 1) := by decide +kernel
theorem d_Law_law_610 : decode b_Law_law 610 = .ok (.iload 4, 2) := by decide +kernel
theorem d_Law_law_612 : decode b_Law_law 612 = .ok (.iconst 3, 1) := by decide +kernel
theorem d_Law_law_613 : decode b_Law_law 613 = .ok (.iadd, 1) := by decide +kernel
theorem d_Law_law_614 : decode b_Law_law 614 = .ok (.iaload, 1) := by decide +kernel
theorem d_Law_law_615 : decode b_Law_law 615 = .ok (.invokestatic 110, 3) := by decide +kernel
theorem d_Law_law_618 : decode b_Law_law 618 = .ok (.istore 5, 2) := by decide +kernel
theorem d_Law_law_620 : decode b_Law_law 620 = .ok (.aload_n 2, 1) := by decide +kernel
theorem d_Law_law_621 : decode b_Law_law 621 = .ok (.aload_n 0, 1) := by decide +kernel
theorem d_Law_law_622 : decode b_Law_law 622 = .ok (.iload 4, 2) := by decide +kernel
theorem d_Law_law_624 : decode b_Law_law 624 = .ok (.iconst 1, 1) := by decide +kernel
theorem d_Law_law_625 : decode b_Law_law 625 = .ok (.iadd, 1) := by decide +kernel
theorem d_Law_law_626 : decode b_Law_law 626 = .ok (.iaload, 1) := by decide +kernel
theorem d_Law_law_627 : decode b_Law_law 627 = .ok (.aload_n 0, 1) := by decide +kernel
theorem d_Law_law_628 : decode b_Law_law 628 = .ok (.iload 4, 2) := by decide +kernel
theorem d_Law_law_630 : decode b_Law_law 630 = .ok (.iconst 2, 1) := by decide +kernel
theorem d_Law_law_631 : decode b_Law_law 631 = .ok (.iadd, 1) := by decide +kernel
theorem d_Law_law_632 : decode b_Law_law 632 = .ok (.iaload, 1) := by decide +kernel
theorem d_Law_law_633 : decode b_Law_law 633 = .ok (.aload_n 0, 1) := by decide +kernel
theorem d_Law_law_634 : decode b_Law_law 634 = .ok (.iload 4, 2) := by decide +kernel
theorem d_Law_law_636 : decode b_Law_law 636 = .ok (.iconst 3, 1) := by decide +kernel
theorem d_Law_law_637 : decode b_Law_law 637 = .ok (.iadd, 1) := by decide +kernel
theorem d_Law_law_638 : decode b_Law_law 638 = .ok (.iaload, 1) := by decide +kernel
theorem d_Law_law_639 : decode b_Law_law 639 = .ok (.invokevirtual 112, 3) := by decide +kernel
theorem d_Law_law_642 : decode b_Law_law 642 = .ok (.aload_n 2, 1) := by decide +kernel
theorem d_Law_law_643 : decode b_Law_law 643 = .ok (.invokevirtual 82, 3) := by decide +kernel
theorem d_Law_law_646 : decode b_Law_law 646 = .ok (.iload 5, 2) := by decide +kernel
theorem d_Law_law_648 : decode b_Law_law 648 = .ok (.if_icmp .eq 5, 3) := by decide +kernel
theorem d_Law_law_651 : decode b_Law_law 651 = .ok (.iconst 0, 1) := by decide +kernel
theorem d_Law_law_652 : decode b_Law_law 652 = .ok (.ireturn, 1) := by decide +kernel
theorem d_Law_law_653 : decode b_Law_law 653 = .ok (.goto 491, 3) := by decide +kernel
theorem d_Law_law_656 : decode b_Law_law 656 = .ok (.aload_n 1, 1) := by decide +kernel
theorem d_Law_law_657 : decode b_Law_law 657 = .ok (.aload_n 0, 1) := by decide +kernel
theorem d_Law_law_658 : decode b_Law_law 658 = .ok (.iload 4, 2) := by decide +kernel
theorem d_Law_law_660 : decode b_Law_law 660 = .ok (.iconst 1, 1) := by decide +kernel
theorem d_Law_law_661 : decode b_Law_law 661 = .ok (.iadd, 1) := by decide +kernel
theorem d_Law_law_662 : decode b_Law_law 662 = .ok (.iaload, 1) := by decide +kernel
theorem d_Law_law_663 : decode b_Law_law 663 = .ok (.aload_n 0, 1) := by decide +kernel
theorem d_Law_law_664 : decode b_Law_law 664 = .ok (.iload 4, 2) := by decide +kernel
theorem d_Law_law_666 : decode b_Law_law 666 = .ok (.iconst 2, 1) := by decide +kernel
theorem d_Law_law_667 : decode b_Law_law 667 = .ok (.iadd, 1) := by decide +kernel
theorem d_Law_law_668 : decode b_Law_law 668 = .ok (.iaload, 1) := by decide +kernel
theorem d_Law_law_669 : decode b_Law_law 669 = .ok (.aload_n 3, 1) := by decide +kernel
theorem d_Law_law_670 : decode b_Law_law 670 = .ok (.invokestatic 113, 3) := by decide +kernel
theorem d_Law_law_673 : decode b_Law_law 673 = .ok (.istore 5, 2) := by decide +kernel
theorem d_Law_law_675 : decode b_Law_law 675 = .ok (.aload_n 2, 1) := by decide +kernel
theorem d_Law_law_676 : decode b_Law_law 676 = .ok (.aload_n 0, 1) := by decide +kernel
theorem d_Law_law_677 : decode b_Law_law 677 = .ok (.iload 4, 2) := by decide +kernel
theorem d_Law_law_679 : decode b_Law_law 679 = .ok (.iconst 1, 1) := by decide +kernel
theorem d_Law_law_680 : decode b_Law_law 680 = .ok (.iadd, 1) := by decide +kernel
theorem d_Law_law_681 : decode b_Law_law 681 = .ok (.iaload, 1) := by decide +kernel
theorem d_Law_law_682 : decode b_Law_law 682 = .ok (.aload_n 0, 1) := by decide +kernel
theorem d_Law_law_683 : decode b_Law_law 683 = .ok (.iload 4, 2) := by decide +kernel
theorem d_Law_law_685 : decode b_Law_law 685 = .ok (.iconst 2, 1) := by decide +kernel
theorem d_Law_law_686 : decode b_Law_law 686 = .ok (.iadd, 1) := by decide +kernel
theorem d_Law_law_687 : decode b_Law_law 687 = .ok (.iaload, 1) := by decide +kernel
theorem d_Law_law_688 : decode b_Law_law 688 = .ok (.invokevirtual 115, 3) := by decide +kernel
theorem d_Law_law_691 : decode b_Law_law 691 = .ok (.istore 6, 2) := by decide +kernel
theorem d_Law_law_693 : decode b_Law_law 693 = .ok (.aload_n 2, 1) := by decide +kernel
theorem d_Law_law_694 : decode b_Law_law 694 = .ok (.invokevirtual 82, 3) := by decide +kernel
theorem d_Law_law_697 : decode b_Law_law 697 = .ok (.iload 5, 2) := by decide +kernel
theorem d_Law_law_699 : decode b_Law_law 699 = .ok (.if_icmp .eq 5, 3) := by decide +kernel
theorem d_Law_law_702 : decode b_Law_law 702 = .ok (.iconst 0, 1) := by decide +kernel
theorem d_Law_law_703 : decode b_Law_law 703 = .ok (.ireturn, 1) := by decide +kernel
theorem d_Law_law_704 : decode b_Law_law 704 = .ok (.iload 5, 2) := by decide +kernel
theorem d_Law_law_706 : decode b_Law_law 706 = .ok (.ifCond .ne 15, 3) := by decide +kernel
theorem d_Law_law_709 : decode b_Law_law 709 = .ok (.aload_n 3, 1) := by decide +kernel
theorem d_Law_law_710 : decode b_Law_law 710 = .ok (.iconst 0, 1) := by decide +kernel
theorem d_Law_law_711 : decode b_Law_law 711 = .ok (.laload, 1) := by decide +kernel
theorem d_Law_law_712 : decode b_Law_law 712 = .ok (.iload 6, 2) := by decide +kernel
theorem d_Law_law_714 : decode b_Law_law 714 = .ok (.i2l, 1) := by decide +kernel
theorem d_Law_law_715 : decode b_Law_law 715 = .ok (.lcmp, 1) := by decide +kernel
theorem d_Law_law_716 : decode b_Law_law 716 = .ok (.ifCond .eq 5, 3) := by decide +kernel
theorem d_Law_law_719 : decode b_Law_law 719 = .ok (.iconst 0, 1) := by decide +kernel
theorem d_Law_law_720 : decode b_Law_law 720 = .ok (.ireturn, 1) := by decide +kernel
theorem d_Law_law_721 : decode b_Law_law 721 = .ok (.goto 423, 3) := by decide +kernel
theorem d_Law_law_724 : decode b_Law_law 724 = .ok (.aload_n 1, 1) := by decide +kernel
theorem d_Law_law_725 : decode b_Law_law 725 = .ok (.aload_n 0, 1) := by decide +kernel
theorem d_Law_law_726 : decode b_Law_law 726 = .ok (.iload 4, 2) := by decide +kernel
theorem d_Law_law_728 : decode b_Law_law 728 = .ok (.iconst 1, 1) := by decide +kernel
theorem d_Law_law_729 : decode b_Law_law 729 = .ok (.iadd, 1) := by decide +kernel
theorem d_Law_law_730 : decode b_Law_law 730 = .ok (.iaload, 1) := by decide +kernel
theorem d_Law_law_731 : decode b_Law_law 731 = .ok (.aload_n 0, 1) := by decide +kernel
theorem d_Law_law_732 : decode b_Law_law 732 = .ok (.iload 4, 2) := by decide +kernel
theorem d_Law_law_734 : decode b_Law_law 734 = .ok (.iconst 2, 1) := by decide +kernel
theorem d_Law_law_735 : decode b_Law_law 735 = .ok (.iadd, 1) := by decide +kernel
theorem d_Law_law_736 : decode b_Law_law 736 = .ok (.iaload, 1) := by decide +kernel
theorem d_Law_law_737 : decode b_Law_law 737 = .ok (.aload_n 3, 1) := by decide +kernel
theorem d_Law_law_738 : decode b_Law_law 738 = .ok (.invokestatic 116, 3) := by decide +kernel
theorem d_Law_law_741 : decode b_Law_law 741 = .ok (.istore 5, 2) := by decide +kernel
theorem d_Law_law_743 : decode b_Law_law 743 = .ok (.aload_n 2, 1) := by decide +kernel
theorem d_Law_law_744 : decode b_Law_law 744 = .ok (.aload_n 0, 1) := by decide +kernel
theorem d_Law_law_745 : decode b_Law_law 745 = .ok (.iload 4, 2) := by decide +kernel
theorem d_Law_law_747 : decode b_Law_law 747 = .ok (.iconst 1, 1) := by decide +kernel
theorem d_Law_law_748 : decode b_Law_law 748 = .ok (.iadd, 1) := by decide +kernel
theorem d_Law_law_749 : decode b_Law_law 749 = .ok (.iaload, 1) := by decide +kernel
theorem d_Law_law_750 : decode b_Law_law 750 = .ok (.aload_n 0, 1) := by decide +kernel
theorem d_Law_law_751 : decode b_Law_law 751 = .ok (.iload 4, 2) := by decide +kernel
theorem d_Law_law_753 : decode b_Law_law 753 = .ok (.iconst 2, 1) := by decide +kernel
theorem d_Law_law_754 : decode b_Law_law 754 = .ok (.iadd, 1) := by decide +kernel
theorem d_Law_law_755 : decode b_Law_law 755 = .ok (.iaload, 1) := by decide +kernel
theorem d_Law_law_756 : decode b_Law_law 756 = .ok (.invokevirtual 118, 3) := by decide +kernel
theorem d_Law_law_759 : decode b_Law_law 759 = .ok (.istore 6, 2) := by decide +kernel
theorem d_Law_law_761 : decode b_Law_law 761 = .ok (.aload_n 2, 1) := by decide +kernel
theorem d_Law_law_762 : decode b_Law_law 762 = .ok (.invokevirtual 82, 3) := by decide +kernel
theorem d_Law_law_765 : decode b_Law_law 765 = .ok (.iload 5, 2) := by decide +kernel
theorem d_Law_law_767 : decode b_Law_law 767 = .ok (.if_icmp .eq 5, 3) := by decide +kernel
theorem d_Law_law_770 : decode b_Law_law 770 = .ok (.iconst 0, 1) := by decide +kernel
theorem d_Law_law_771 : decode b_Law_law 771 = .ok (.ireturn, 1) := by decide +kernel
theorem d_Law_law_772 : decode b_Law_law 772 = .ok (.iload 5, 2) := by decide +kernel
theorem d_Law_law_774 : decode b_Law_law 774 = .ok (.ifCond .ne 15, 3) := by decide +kernel
theorem d_Law_law_777 : decode b_Law_law 777 = .ok (.aload_n 3, 1) := by decide +kernel
theorem d_Law_law_778 : decode b_Law_law 778 = .ok (.iconst 0, 1) := by decide +kernel
theorem d_Law_law_779 : decode b_Law_law 779 = .ok (.laload, 1) := by decide +kernel
theorem d_Law_law_780 : decode b_Law_law 780 = .ok (.iload 6, 2) := by decide +kernel
theorem d_Law_law_782 : decode b_Law_law 782 = .ok (.i2l, 1) := by decide +kernel
theorem d_Law_law_783 : decode b_Law_law 783 = .ok (.lcmp, 1) := by decide +kernel
theorem d_Law_law_784 : decode b_Law_law 784 = .ok (.ifCond .eq 5, 3) := by decide +kernel
theorem d_Law_law_787 : decode b_Law_law 787 = .ok (.iconst 0, 1) := by decide +kernel
theorem d_Law_law_788 : decode b_Law_law 788 = .ok (.ireturn, 1) := by decide +kernel
theorem d_Law_law_789 : decode b_Law_law 789 = .ok (.goto 355, 3) := by decide +kernel
theorem d_Law_law_792 : decode b_Law_law 792 = .ok (.aload_n 1, 1) := by decide +kernel
theorem d_Law_law_793 : decode b_Law_law 793 = .ok (.aload_n 0, 1) := by decide +kernel
theorem d_Law_law_794 : decode b_Law_law 794 = .ok (.iload 4, 2) := by decide +kernel
theorem d_Law_law_796 : decode b_Law_law 796 = .ok (.iconst 1, 1) := by decide +kernel
theorem d_Law_law_797 : decode b_Law_law 797 = .ok (.iadd, 1) := by decide +kernel
theorem d_Law_law_798 : decode b_Law_law 798 = .ok (.iaload, 1) := by decide +kernel
theorem d_Law_law_799 : decode b_Law_law 799 = .ok (.aload_n 0, 1) := by decide +kernel
theorem d_Law_law_800 : decode b_Law_law 800 = .ok (.iload 4, 2) := by decide +kernel
theorem d_Law_law_802 : decode b_Law_law 802 = .ok (.iconst 2, 1) := by decide +kernel
theorem d_Law_law_803 : decode b_Law_law 803 = .ok (.iadd, 1) := by decide +kernel
theorem d_Law_law_804 : decode b_Law_law 804 = .ok (.iaload, 1) := by decide +kernel
theorem d_Law_law_805 : decode b_Law_law 805 = .ok (.aload_n 0, 1) := by decide +kernel
theorem d_Law_law_806 : decode b_Law_law 806 = .ok (.iload 4, 2) := by decide +kernel
theorem d_Law_law_808 : decode b_Law_law 808 = .ok (.iconst 3, 1) := by decide +kernel
theorem d_Law_law_809 : decode b_Law_law 809 = .ok (.iadd, 1) := by decide +kernel
theorem d_Law_law_810 : decode b_Law_law 810 = .ok (.iaload, 1) := by decide +kernel
theorem d_Law_law_811 : decode b_Law_law 811 = .ok (.aload_n 0, 1) := by decide +kernel
theorem d_Law_law_812 : decode b_Law_law 812 = .ok (.iload 4, 2) := by decide +kernel
theorem d_Law_law_814 : decode b_Law_law 814 = .ok (.iconst 4, 1) := by decide +kernel
theorem d_Law_law_815 : decode b_Law_law 815 = .ok (.iadd, 1) := by decide +kernel
theorem d_Law_law_816 : decode b_Law_law 816 = .ok (.iaload, 1) := by decide +kernel
theorem d_Law_law_817 : decode b_Law_law 817 = .ok (.aload_n 3, 1) := by decide +kernel
theorem d_Law_law_818 : decode b_Law_law 818 = .ok (.invokestatic 119, 3) := by decide +kernel
theorem d_Law_law_821 : decode b_Law_law 821 = .ok (.istore 5, 2) := by decide +kernel
theorem d_Law_law_823 : decode b_Law_law 823 = .ok (.aload_n 2, 1) := by decide +kernel
theorem d_Law_law_824 : decode b_Law_law 824 = .ok (.aload_n 0, 1) := by decide +kernel
theorem d_Law_law_825 : decode b_Law_law 825 = .ok (.iload 4, 2) := by decide +kernel
theorem d_Law_law_827 : decode b_Law_law 827 = .ok (.iconst 1, 1) := by decide +kernel
theorem d_Law_law_828 : decode b_Law_law 828 = .ok (.iadd, 1) := by decide +kernel
theorem d_Law_law_829 : decode b_Law_law 829 = .ok (.iaload, 1) := by decide +kernel
theorem d_Law_law_830 : decode b_Law_law 830 = .ok (.aload_n 0, 1) := by decide +kernel
theorem d_Law_law_831 : decode b_Law_law 831 = .ok (.iload 4, 2) := by decide +kernel
theorem d_Law_law_833 : decode b_Law_law 833 = .ok (.iconst 2, 1) := by decide +kernel
theorem d_Law_law_834 : decode b_Law_law 834 = .ok (.iadd, 1) := by decide +kernel
theorem d_Law_law_835 : decode b_Law_law 835 = .ok (.iaload, 1) := by decide +kernel
theorem d_Law_law_836 : decode b_Law_law 836 = .ok (.aload_n 0, 1) := by decide +kernel
theorem d_Law_law_837 : decode b_Law_law 837 = .ok (.iload 4, 2) := by decide +kernel
theorem d_Law_law_839 : decode b_Law_law 839 = .ok (.iconst 3, 1) := by decide +kernel
theorem d_Law_law_840 : decode b_Law_law 840 = .ok (.iadd, 1) := by decide +kernel
theorem d_Law_law_841 : decode b_Law_law 841 = .ok (.iaload, 1) := by decide +kernel
theorem d_Law_law_842 : decode b_Law_law 842 = .ok (.aload_n 0, 1) := by decide +kernel
theorem d_Law_law_843 : decode b_Law_law 843 = .ok (.iload 4, 2) := by decide +kernel
theorem d_Law_law_845 : decode b_Law_law 845 = .ok (.iconst 4, 1) := by decide +kernel
theorem d_Law_law_846 : decode b_Law_law 846 = .ok (.iadd, 1) := by decide +kernel
theorem d_Law_law_847 : decode b_Law_law 847 = .ok (.iaload, 1) := by decide +kernel
theorem d_Law_law_848 : decode b_Law_law 848 = .ok (.invokevirtual 122, 3) := by decide +kernel
theorem d_Law_law_851 : decode b_Law_law 851 = .ok (.istore 6, 2) := by decide +kernel
theorem d_Law_law_853 : decode b_Law_law 853 = .ok (.aload_n 2, 1) := by decide +kernel
theorem d_Law_law_854 : decode b_Law_law 854 = .ok (.invokevirtual 82, 3) := by decide +kernel
theorem d_Law_law_857 : decode b_Law_law 857 = .ok (.iload 5, 2) := by decide +kernel
theorem d_Law_law_859 : decode b_Law_law 859 = .ok (.if_icmp .eq 5, 3) := by decide +kernel
theorem d_Law_law_862 : decode b_Law_law 862 = .ok (.iconst 0, 1) := by decide +kernel
theorem d_Law_law_863 : decode b_Law_law 863 = .ok (.ireturn, 1) := by decide +kernel
theorem d_Law_law_864 : decode b_Law_law 864 = .ok (.iload 5, 2) := by decide +kernel
theorem d_Law_law_866 : decode b_Law_law 866 = .ok (.ifCond .ne 15, 3) := by decide +kernel
theorem d_Law_law_869 : decode b_Law_law 869 = .ok (.aload_n 3, 1) := by decide +kernel
theorem d_Law_law_870 : decode b_Law_law 870 = .ok (.iconst 0, 1) := by decide +kernel
theorem d_Law_law_871 : decode b_Law_law 871 = .ok (.laload, 1) := by decide +kernel
theorem d_Law_law_872 : decode b_Law_law 872 = .ok (.iload 6, 2) := by decide +kernel
theorem d_Law_law_874 : decode b_Law_law 874 = .ok (.i2l, 1) := by decide +kernel
theorem d_Law_law_875 : decode b_Law_law 875 = .ok (.lcmp, 1) := by decide +kernel
theorem d_Law_law_876 : decode b_Law_law 876 = .ok (.ifCond .eq 5, 3) := by decide +kernel
theorem d_Law_law_879 : decode b_Law_law 879 = .ok (.iconst 0, 1) := by decide +kernel
theorem d_Law_law_880 : decode b_Law_law 880 = .ok (.ireturn, 1) := by decide +kernel
theorem d_Law_law_881 : decode b_Law_law 881 = .ok (.goto 263, 3) := by decide +kernel
theorem d_Law_law_884 : decode b_Law_law 884 = .ok (.aload_n 1, 1) := by decide +kernel
theorem d_Law_law_885 : decode b_Law_law 885 = .ok (.aload_n 0, 1) := by decide +kernel
theorem d_Law_law_886 : decode b_Law_law 886 = .ok (.iload 4, 2) := by decide +kernel
theorem d_Law_law_888 : decode b_Law_law 888 = .ok (.iconst 1, 1) := by decide +kernel
theorem d_Law_law_889 : decode b_Law_law 889 = .ok (.iadd, 1) := by decide +kernel
theorem d_Law_law_890 : decode b_Law_law 890 = .ok (.iaload, 1) := by decide +kernel
theorem d_Law_law_891 : decode b_Law_law 891 = .ok (.aload_n 3, 1) := by decide +kernel
theorem d_Law_law_892 : decode b_Law_law 892 = .ok (.invokestatic 123, 3) := by decide +kernel
theorem d_Law_law_895 : decode b_Law_law 895 = .ok (.istore 5, 2) := by decide +kernel
theorem d_Law_law_897 : decode b_Law_law 897 = .ok (.aload_n 2, 1) := by decide +kernel
theorem d_Law_law_898 : decode b_Law_law 898 = .ok (.aload_n 0, 1) := by decide +kernel
theorem d_Law_law_899 : decode b_Law_law 899 = .ok (.iload 4, 2) := by decide +kernel
theorem d_Law_law_901 : decode b_Law_law 901 = .ok (.iconst 1, 1) := by decide +kernel
theorem d_Law_law_902 : decode b_Law_law 902 = .ok (.iadd, 1) := by decide +kernel
theorem d_Law_law_903 : decode b_Law_law 903 = .ok (.iaload, 1) := by decide +kernel
theorem d_Law_law_904 : decode b_Law_law 904 = .ok (.invokevirtual 125, 3) := by decide +kernel
theorem d_Law_law_907 : decode b_Law_law 907 = .ok (.istore 6, 2) := by decide +kernel
theorem d_Law_law_909 : decode b_Law_law 909 = .ok (.aload_n 2, 1) := by decide +kernel
theorem d_Law_law_910 : decode b_Law_law 910 = .ok (.invokevirtual 82, 3) := by decide +kernel
theorem d_Law_law_913 : decode b_Law_law 913 = .ok (.iload 5, 2) := by decide +kernel
theorem d_Law_law_915 : decode b_Law_law 915 = .ok (.if_icmp .eq 5, 3) := by decide +kernel
theorem d_Law_law_918 : decode b_Law_law 918 = .ok (.iconst 0, 1) := by decide +kernel
theorem d_Law_law_919 : decode b_Law_law 919 = .ok (.ireturn, 1) := by decide +kernel
theorem d_Law_law_920 : decode b_Law_law 920 = .ok (.iload 5, 2) := by decide +kernel
theorem d_Law_law_922 : decode b_Law_law 922 = .ok (.ifCond .ne 15, 3) := by decide +kernel
theorem d_Law_law_925 : decode b_Law_law 925 = .ok (.aload_n 3, 1) := by decide +kernel
theorem d_Law_law_926 : decode b_Law_law 926 = .ok (.iconst 0, 1) := by decide +kernel
theorem d_Law_law_927 : decode b_Law_law 927 = .ok (.laload, 1) := by decide +kernel
theorem d_Law_law_928 : decode b_Law_law 928 = .ok (.iload 6, 2) := by decide +kernel
theorem d_Law_law_930 : decode b_Law_law 930 = .ok (.i2l, 1) := by decide +kernel
theorem d_Law_law_931 : decode b_Law_law 931 = .ok (.lcmp, 1) := by decide +kernel
theorem d_Law_law_932 : decode b_Law_law 932 = .ok (.ifCond .eq 5, 3) := by decide +kernel
theorem d_Law_law_935 : decode b_Law_law 935 = .ok (.iconst 0, 1) := by decide +kernel
theorem d_Law_law_936 : decode b_Law_law 936 = .ok (.ireturn, 1) := by decide +kernel
theorem d_Law_law_937 : decode b_Law_law 937 = .ok (.goto 207, 3) := by decide +kernel
theorem d_Law_law_940 : decode b_Law_law 940 = .ok (.aload_n 1, 1) := by decide +kernel
theorem d_Law_law_941 : decode b_Law_law 941 = .ok (.aload_n 0, 1) := by decide +kernel
theorem d_Law_law_942 : decode b_Law_law 942 = .ok (.iload 4, 2) := by decide +kernel
theorem d_Law_law_944 : decode b_Law_law 944 = .ok (.iconst 1, 1) := by decide +kernel
theorem d_Law_law_945 : decode b_Law_law 945 = .ok (.iadd, 1) := by decide +kernel
theorem d_Law_law_946 : decode b_Law_law 946 = .ok (.iaload, 1) := by decide +kernel
theorem d_Law_law_947 : decode b_Law_law 947 = .ok (.aload_n 0, 1) := by decide +kernel
theorem d_Law_law_948 : decode b_Law_law 948 = .ok (.iload 4, 2) := by decide +kernel
theorem d_Law_law_950 : decode b_Law_law 950 = .ok (.iconst 2, 1) := by decide +kernel
theorem d_Law_law_951 : decode b_Law_law 951 = .ok (.iadd, 1) := by decide +kernel
theorem d_Law_law_952 : decode b_Law_law 952 = .ok (.iaload, 1) := by decide +kernel
theorem d_Law_law_953 : decode b_Law_law 953 = .ok (.aload_n 3, 1) := by decide +kernel
theorem d_Law_law_954 : decode b_Law_law 954 = .ok (.invokestatic 126, 3) := by decide +kernel
theorem d_Law_law_957 : decode b_Law_law 957 = .ok (.istore 5, 2) := by decide +kernel
theorem d_Law_law_959 : decode b_Law_law 959 = .ok (.aload_n 2, 1) := by decide +kernel
theorem d_Law_law_960 : decode b_Law_law 960 = .ok (.aload_n 0, 1) := by decide +kernel
theorem d_Law_law_961 : decode b_Law_law 961 = .ok (.iload 4, 2) := by decide +kernel
theorem d_Law_law_963 : decode b_Law_law 963 = .ok (.iconst 1, 1) := by decide +kernel
theorem d_Law_law_964 : decode b_Law_law 964 = .ok (.iadd, 1) := by decide +kernel
theorem d_Law_law_965 : decode b_Law_law 965 = .ok (.iaload, 1) := by decide +kernel
theorem d_Law_law_966 : decode b_Law_law 966 = .ok (.aload_n 0, 1) := by decide +kernel
theorem d_Law_law_967 : decode b_Law_law 967 = .ok (.iload 4, 2) := by decide +kernel
theorem d_Law_law_969 : decode b_Law_law 969 = .ok (.iconst 2, 1) := by decide +kernel
theorem d_Law_law_970 : decode b_Law_law 970 = .ok (.iadd, 1) := by decide +kernel
theorem d_Law_law_971 : decode b_Law_law 971 = .ok (.iaload, 1) := by decide +kernel
theorem d_Law_law_972 : decode b_Law_law 972 = .ok (.invokevirtual 128, 3) := by decide +kernel
theorem d_Law_law_975 : decode b_Law_law 975 = .ok (.istore 6, 2) := by decide +kernel
theorem d_Law_law_977 : decode b_Law_law 977 = .ok (.aload_n 2, 1) := by decide +kernel
theorem d_Law_law_978 : decode b_Law_law 978 = .ok (.invokevirtual 82, 3) := by decide +kernel
theorem d_Law_law_981 : decode b_Law_law 981 = .ok (.iload 5, 2) := by decide +kernel
theorem d_Law_law_983 : decode b_Law_law 983 = .ok (.if_icmp .eq 5, 3) := by decide +kernel
theorem d_Law_law_986 : decode b_Law_law 986 = .ok (.iconst 0, 1) := by decide +kernel
theorem d_Law_law_987 : decode b_Law_law 987 = .ok (.ireturn, 1) := by decide +kernel
theorem d_Law_law_988 : decode b_Law_law 988 = .ok (.iload 5, 2) := by decide +kernel
theorem d_Law_law_990 : decode b_Law_law 990 = .ok (.ifCond .ne 15, 3) := by decide +kernel
theorem d_Law_law_993 : decode b_Law_law 993 = .ok (.aload_n 3, 1) := by decide +kernel
theorem d_Law_law_994 : decode b_Law_law 994 = .ok (.iconst 0, 1) := by decide +kernel
theorem d_Law_law_995 : decode b_Law_law 995 = .ok (.laload, 1) := by decide +kernel
theorem d_Law_law_996 : decode b_Law_law 996 = .ok (.iload 6, 2) := by decide +kernel
theorem d_Law_law_998 : decode b_Law_law 998 = .ok (.i2l, 1) := by decide +kernel
theorem d_Law_law_999 : decode b_Law_law 999 = .ok (.lcmp, 1) := by decide +kernel
theorem d_Law_law_1000 : decode b_Law_law 1000 = .ok (.ifCond .eq 5, 3) := by decide +kernel
theorem d_Law_law_1003 : decode b_Law_law 1003 = .ok (.iconst 0, 1) := by decide +kernel
theorem d_Law_law_1004 : decode b_Law_law 1004 = .ok (.ireturn, 1) := by decide +kernel
theorem d_Law_law_1005 : decode b_Law_law 1005 = .ok (.goto 139, 3) := by decide +kernel
theorem d_Law_law_1008 : decode b_Law_law 1008 = .ok (.aload_n 1, 1) := by decide +kernel
theorem d_Law_law_1009 : decode b_Law_law 1009 = .ok (.aload_n 0, 1) := by decide +kernel
theorem d_Law_law_1010 : decode b_Law_law 1010 = .ok (.iload 4, 2) := by decide +kernel
theorem d_Law_law_1012 : decode b_Law_law 1012 = .ok (.iconst 1, 1) := by decide +kernel
theorem d_Law_law_1013 : decode b_Law_law 1013 = .ok (.iadd, 1) := by decide +kernel
theorem d_Law_law_1014 : decode b_Law_law 1014 = .ok (.iaload, 1) := by decide +kernel
theorem d_Law_law_1015 : decode b_Law_law 1015 = .ok (.aload_n 3, 1) := by decide +kernel
theorem d_Law_law_1016 : decode b_Law_law 1016 = .ok (.invokestatic 129, 3) := by decide +kernel
theorem d_Law_law_1019 : decode b_Law_law 1019 = .ok (.istore 5, 2) := by decide +kernel
theorem d_Law_law_1021 : decode b_Law_law 1021 = .ok (.aload_n 2, 1) := by decide +kernel
theorem d_Law_law_1022 : decode b_Law_law 1022 = .ok (.aload_n 0, 1) := by decide +kernel
theorem d_Law_law_1023 : decode b_Law_law 1023 = .ok (.iload 4, 2) := by decide +kernel
theorem d_Law_law_1025 : decode b_Law_law 1025 = .ok (.iconst 1, 1) := by decide +kernel
theorem d_Law_law_1026 : decode b_Law_law 1026 = .ok (.iadd, 1) := by decide +kernel
theorem d_Law_law_1027 : decode b_Law_law 1027 = .ok (.iaload, 1) := by decide +kernel
theorem d_Law_law_1028 : decode b_Law_law 1028 = .ok (.invokevirtual 131, 3) := by decide +kernel
theorem d_Law_law_1031 : decode b_Law_law 1031 = .ok (.lstore 6, 2) := by decide +kernel
theorem d_Law_law_1033 : decode b_Law_law 1033 = .ok (.aload_n 2, 1) := by decide +kernel
theorem d_Law_law_1034 : decode b_Law_law 1034 = .ok (.invokevirtual 82, 3) := by decide +kernel
theorem d_Law_law_1037 : decode b_Law_law 1037 = .ok (.iload 5, 2) := by decide +kernel
theorem d_Law_law_1039 : decode b_Law_law 1039 = .ok (.if_icmp .eq 5, 3) := by decide +kernel
theorem d_Law_law_1042 : decode b_Law_law 1042 = .ok (.iconst 0, 1) := by decide +kernel
theorem d_Law_law_1043 : decode b_Law_law 1043 = .ok (.ireturn, 1) := by decide +kernel
theorem d_Law_law_1044 : decode b_Law_law 1044 = .ok (.iload 5, 2) := by decide +kernel
theorem d_Law_law_1046 : decode b_Law_law 1046 = .ok (.ifCond .ne 14, 3) := by decide +kernel
theorem d_Law_law_1049 : decode b_Law_law 1049 = .ok (.aload_n 3, 1) := by decide +kernel
theorem d_Law_law_1050 : decode b_Law_law 1050 = .ok (.iconst 0, 1) := by decide +kernel
theorem d_Law_law_1051 : decode b_Law_law 1051 = .ok (.laload, 1) := by decide +kernel
theorem d_Law_law_1052 : decode b_Law_law 1052 = .ok (.lload 6, 2) := by decide +kernel
theorem d_Law_law_1054 : decode b_Law_law 1054 = .ok (.lcmp, 1) := by decide +kernel
theorem d_Law_law_1055 : decode b_Law_law 1055 = .ok (.ifCond .eq 5, 3) := by decide +kernel
theorem d_Law_law_1058 : decode b_Law_law 1058 = .ok (.iconst 0, 1) := by decide +kernel
theorem d_Law_law_1059 : decode b_Law_law 1059 = .ok (.ireturn, 1) := by decide +kernel
theorem d_Law_law_1060 : decode b_Law_law 1060 = .ok (.goto 84, 3) := by decide +kernel
theorem d_Law_law_1063 : decode b_Law_law 1063 = .ok (.aload_n 1, 1) := by decide +kernel
theorem d_Law_law_1064 : decode b_Law_law 1064 = .ok (.invokevirtual 132, 3) := by decide +kernel
theorem d_Law_law_1067 : decode b_Law_law 1067 = .ok (.aload_n 2, 1) := by decide +kernel
theorem d_Law_law_1068 : decode b_Law_law 1068 = .ok (.invokevirtual 135, 3) := by decide +kernel
theorem d_Law_law_1071 : decode b_Law_law 1071 = .ok (.if_icmp .eq 73, 3) := by decide +kernel
theorem d_Law_law_1074 : decode b_Law_law 1074 = .ok (.iconst 0, 1) := by decide +kernel
theorem d_Law_law_1075 : decode b_Law_law 1075 = .ok (.ireturn, 1) := by decide +kernel
theorem d_Law_law_1076 : decode b_Law_law 1076 = .ok (.aload_n 1, 1) := by decide +kernel
theorem d_Law_law_1077 : decode b_Law_law 1077 = .ok (.aload_n 0, 1) := by decide +kernel
theorem d_Law_law_1078 : decode b_Law_law 1078 = .ok (.iload 4, 2) := by decide +kernel
theorem d_Law_law_1080 : decode b_Law_law 1080 = .ok (.iconst 1, 1) := by decide +kernel
theorem d_Law_law_1081 : decode b_Law_law 1081 = .ok (.iadd, 1) := by decide +kernel
theorem d_Law_law_1082 : decode b_Law_law 1082 = .ok (.iaload, 1) := by decide +kernel
theorem d_Law_law_1083 : decode b_Law_law 1083 = .ok (.aload_n 0, 1) := by decide +kernel
theorem d_Law_law_1084 : decode b_Law_law 1084 = .ok (.iload 4, 2) := by decide +kernel
theorem d_Law_law_1086 : decode b_Law_law 1086 = .ok (.iconst 2, 1) := by decide +kernel
theorem d_Law_law_1087 : decode b_Law_law 1087 = .ok (.iadd, 1) := by decide +kernel
theorem d_Law_law_1088 : decode b_Law_law 1088 = .ok (.iaload, 1) := by decide +kernel
theorem d_Law_law_1089 : decode b_Law_law 1089 = .ok (.aload_n 3, 1) := by decide +kernel
theorem d_Law_law_1090 : decode b_Law_law 1090 = .ok (.invokestatic 136, 3) := by decide +kernel
theorem d_Law_law_1093 : decode b_Law_law 1093 = .ok (.istore 5, 2) := by decide +kernel
theorem d_Law_law_1095 : decode b_Law_law 1095 = .ok (.aload_n 2, 1) := by decide +kernel
theorem d_Law_law_1096 : decode b_Law_law 1096 = .ok (.aload_n 0, 1) := by decide +kernel
theorem d_Law_law_1097 : decode b_Law_law 1097 = .ok (.iload 4, 2) := by decide +kernel
theorem d_Law_law_1099 : decode b_Law_law 1099 = .ok (.iconst 1, 1) := by decide +kernel
theorem d_Law_law_1100 : decode b_Law_law 1100 = .ok (.iadd, 1) := by decide +kernel
theorem d_Law_law_1101 : decode b_Law_law 1101 = .ok (.iaload, 1) := by decide +kernel
theorem d_Law_law_1102 : decode b_Law_law 1102 = .ok (.aload_n 0, 1) := by decide +kernel
theorem d_Law_law_1103 : decode b_Law_law 1103 = .ok (.iload 4, 2) := by decide +kernel
theorem d_Law_law_1105 : decode b_Law_law 1105 = .ok (.iconst 2, 1) := by decide +kernel
theorem d_Law_law_1106 : decode b_Law_law 1106 = .ok (.iadd, 1) := by decide +kernel
theorem d_Law_law_1107 : decode b_Law_law 1107 = .ok (.iaload, 1) := by decide +kernel
theorem d_Law_law_1108 : decode b_Law_law 1108 = .ok (.invokevirtual 138, 3) := by decide +kernel
theorem d_Law_law_1111 : decode b_Law_law 1111 = .ok (.istore 6, 2) := by decide +kernel
theorem d_Law_law_1113 : decode b_Law_law 1113 = .ok (.aload_n 2, 1) := by decide +kernel
theorem d_Law_law_1114 : decode b_Law_law 1114 = .ok (.invokevirtual 82, 3) := by decide +kernel
theorem d_Law_law_1117 : decode b_Law_law 1117 = .ok (.iload 5, 2) := by decide +kernel
theorem d_Law_law_1119 : decode b_Law_law 1119 = .ok (.if_icmp .eq 5, 3) := by decide +kernel
theorem d_Law_law_1122 : decode b_Law_law 1122 = .ok (.iconst 0, 1) := by decide +kernel
theorem d_Law_law_1123 : decode b_Law_law 1123 = .ok (.ireturn, 1) := by decide +kernel
theorem d_Law_law_1124 : decode b_Law_law 1124 = .ok (.iload 5, 2) := by decide +kernel
theorem d_Law_law_1126 : decode b_Law_law 1126 = .ok (.ifCond .ne 15, 3) := by decide +kernel
theorem d_Law_law_1129 : decode b_Law_law 1129 = .ok (.aload_n 3, 1) := by decide +kernel
theorem d_Law_law_1130 : decode b_Law_law 1130 = .ok (.iconst 0, 1) := by decide +kernel
theorem d_Law_law_1131 : decode b_Law_law 1131 = .ok (.laload, 1) := by decide +kernel
theorem d_Law_law_1132 : decode b_Law_law 1132 = .ok (.iload 6, 2) := by decide +kernel
theorem d_Law_law_1134 : decode b_Law_law 1134 = .ok (.i2l, 1) := by decide +kernel
theorem d_Law_law_1135 : decode b_Law_law 1135 = .ok (.lcmp, 1) := by decide +kernel
theorem d_Law_law_1136 : decode b_Law_law 1136 = .ok (.ifCond .eq 5, 3) := by decide +kernel
theorem d_Law_law_1139 : decode b_Law_law 1139 = .ok (.iconst 0, 1) := by decide +kernel
theorem d_Law_law_1140 : decode b_Law_law 1140 = .ok (.ireturn, 1) := by decide +kernel
theorem d_Law_law_1141 : decode b_Law_law 1141 = .ok (.goto 3, 3) := by decide +kernel
theorem d_Law_law_1144 : decode b_Law_law 1144 = .ok (.iinc 4 6, 3) := by decide +kernel
theorem d_Law_law_1147 : decode b_Law_law 1147 = .ok (.goto (-1114), 3) := by decide +kernel
theorem d_Law_law_1150 : decode b_Law_law 1150 = .ok (.iconst 1, 1) := by decide +kernel
theorem d_Law_law_1151 : decode b_Law_law 1151 = .ok (.ireturn, 1) := by decide +kernel
