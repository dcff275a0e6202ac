abbrev b_WD_init : ByteArray := prog_1_method_1_code
def y_WD_init : MethodName := ⟨"WallDamp", "<init>", "(I)V"⟩
def ws_WD_init : List Cond := .code y_WD_init b_WD_init 4 none :: x_tb
theorem pd_WD_init : y_WD_init.cls ≠ "java/lang/invoke/MethodHandle" ∧ y_WD_init.cls ≠ "java/lang/invoke/VarHandle" ∧ (parseMethodDescriptor y_WD_init.desc).map (fun d => d.parameters.length) = some 1 := by decide +kernel
theorem d_WD_init_0 : decode b_WD_init 0 = .ok (.aload_n 0, 1) := by decide +kernel
theorem d_WD_init_1 : decode b_WD_init 1 = .ok (.invokespecial 1, 3) := by decide +kernel
theorem d_WD_init_4 : decode b_WD_init 4 = .ok (.iconst 1, 1) := by decide +kernel
theorem d_WD_init_5 : decode b_WD_init 5 = .ok (.bipush 12, 2) := by decide +kernel
theorem d_WD_init_7 : decode b_WD_init 7 = .ok (.iload_n 1, 1) := by decide +kernel
theorem d_WD_init_8 : decode b_WD_init 8 = .ok (.invokestatic 9, 3) := by decide +kernel
theorem d_WD_init_11 : decode b_WD_init 11 = .ok (.invokestatic 15, 3) := by decide +kernel
theorem d_WD_init_14 : decode b_WD_init 14 = .ok (.istore_n 2, 1) := by decide +kernel
theorem d_WD_init_15 : decode b_WD_init 15 = .ok (.aload_n 0, 1) := by decide +kernel
theorem d_WD_init_16 : decode b_WD_init 16 = .ok (.bipush 6, 2) := by decide +kernel
theorem d_WD_init_18 : decode b_WD_init 18 = .ok (.anewarray 18, 3) := by decide +kernel
theorem d_WD_init_21 : decode b_WD_init 21 = .ok (.putfield 20, 3) := by decide +kernel
theorem d_WD_init_24 : decode b_WD_init 24 = .ok (.iconst 0, 1) := by decide +kernel
theorem d_WD_init_25 : decode b_WD_init 25 = .ok (.istore_n 3, 1) := by decide +kernel
theorem d_WD_init_26 : decode b_WD_init 26 = .ok (.iload_n 3, 1) := by decide +kernel
theorem d_WD_init_27 : decode b_WD_init 27 = .ok (.aload_n 0, 1) := by decide +kernel
theorem d_WD_init_28 : decode b_WD_init 28 = .ok (.getfield 20, 3) := by decide +kernel
theorem d_WD_init_31 : decode b_WD_init 31 = .ok (.arraylength, 1) := by decide +kernel
theorem d_WD_init_32 : decode b_WD_init 32 = .ok (.if_icmp .ge 22, 3) := by decide +kernel
theorem d_WD_init_35 : decode b_WD_init 35 = .ok (.aload_n 0, 1) := by decide +kernel
theorem d_WD_init_36 : decode b_WD_init 36 = .ok (.getfield 20, 3) := by decide +kernel
theorem d_WD_init_39 : decode b_WD_init 39 = .ok (.iload_n 3, 1) := by decide +kernel
theorem d_WD_init_40 : decode b_WD_init 40 = .ok (.new 18, 3) := by decide +kernel
theorem d_WD_init_43 : decode b_WD_init 43 = .ok (.dup, 1) := by decide +kernel
theorem d_WD_init_44 : decode b_WD_init 44 = .ok (.invokespecial 24, 3) := by decide +kernel
theorem d_WD_init_47 : decode b_WD_init 47 = .ok (.aastore, 1) := by decide +kernel
theorem d_WD_init_48 : decode b_WD_init 48 = .ok (.iinc 3 1, 3) := by decide +kernel
theorem d_WD_init_51 : decode b_WD_init 51 = .ok (.goto (-25), 3) := by decide +kernel
theorem d_WD_init_54 : decode b_WD_init 54 = .ok (.aload_n 0, 1) := by decide +kernel
theorem d_WD_init_55 : decode b_WD_init 55 = .ok (.new 25, 3) := by decide +kernel
theorem d_WD_init_58 : decode b_WD_init 58 = .ok (.dup, 1) := by decide +kernel
theorem d_WD_init_59 : decode b_WD_init 59 = .ok (.invokespecial 27, 3) := by decide +kernel
theorem d_WD_init_62 : decode b_WD_init 62 = .ok (.putfield 28, 3) := by decide +kernel
theorem d_WD_init_65 : decode b_WD_init 65 = .ok (.aload_n 0, 1) := by decide +kernel
theorem d_WD_init_66 : decode b_WD_init 66 = .ok (.new 32, 3) := by decide +kernel
theorem d_WD_init_69 : decode b_WD_init 69 = .ok (.dup, 1) := by decide +kernel
theorem d_WD_init_70 : decode b_WD_init 70 = .ok (.invokespecial 34, 3) := by decide +kernel
theorem d_WD_init_73 : decode b_WD_init 73 = .ok (.putfield 35, 3) := by decide +kernel
theorem d_WD_init_76 : decode b_WD_init 76 = .ok (.aload_n 0, 1) := by decide +kernel
theorem d_WD_init_77 : decode b_WD_init 77 = .ok (.new 39, 3) := by decide +kernel
theorem d_WD_init_80 : decode b_WD_init 80 = .ok (.dup, 1) := by decide +kernel
theorem d_WD_init_81 : decode b_WD_init 81 = .ok (.iload_n 2, 1) := by decide +kernel
theorem d_WD_init_82 : decode b_WD_init 82 = .ok (.aload_n 0, 1) := by decide +kernel
theorem d_WD_init_83 : decode b_WD_init 83 = .ok (.getfield 20, 3) := by decide +kernel
theorem d_WD_init_86 : decode b_WD_init 86 = .ok (.iconst 0, 1) := by decide +kernel
theorem d_WD_init_87 : decode b_WD_init 87 = .ok (.aaload, 1) := by decide +kernel
theorem d_WD_init_88 : decode b_WD_init 88 = .ok (.invokespecial 41, 3) := by decide +kernel
theorem d_WD_init_91 : decode b_WD_init 91 = .ok (.putfield 44, 3) := by decide +kernel
theorem d_WD_init_94 : decode b_WD_init 94 = .ok (.aload_n 0, 1) := by decide +kernel
theorem d_WD_init_95 : decode b_WD_init 95 = .ok (.new 48, 3) := by decide +kernel
theorem d_WD_init_98 : decode b_WD_init 98 = .ok (.dup, 1) := by decide +kernel
theorem d_WD_init_99 : decode b_WD_init 99 = .ok (.new 39, 3) := by decide +kernel
theorem d_WD_init_102 : decode b_WD_init 102 = .ok (.dup, 1) := by decide +kernel
theorem d_WD_init_103 : decode b_WD_init 103 = .ok (.iload_n 2, 1) := by decide +kernel
theorem d_WD_init_104 : decode b_WD_init 104 = .ok (.aload_n 0, 1) := by decide +kernel
theorem d_WD_init_105 : decode b_WD_init 105 = .ok (.getfield 20, 3) := by decide +kernel
theorem d_WD_init_108 : decode b_WD_init 108 = .ok (.iconst 0, 1) := by decide +kernel
theorem d_WD_init_109 : decode b_WD_init 109 = .ok (.aaload, 1) := by decide +kernel
theorem d_WD_init_110 : decode b_WD_init 110 = .ok (.invokespecial 41, 3) := by decide +kernel
theorem d_WD_init_113 : decode b_WD_init 113 = .ok (.invokespecial 50, 3) := by decide +kernel
theorem d_WD_init_116 : decode b_WD_init 116 = .ok (.putfield 53, 3) := by decide +kernel
theorem d_WD_init_119 : decode b_WD_init 119 = .ok (.aload_n 0, 1) := by decide +kernel
theorem d_WD_init_120 : decode b_WD_init 120 = .ok (.iconst 0, 1) := by decide +kernel
theorem d_WD_init_121 : decode b_WD_init 121 = .ok (.putfield 57, 3) := by decide +kernel
theorem d_WD_init_124 : decode b_WD_init 124 = .ok (.aload_n 0, 1) := by decide +kernel
theorem d_WD_init_125 : decode b_WD_init 125 = .ok (.iconst 0, 1) := by decide +kernel
theorem d_WD_init_126 : decode b_WD_init 126 = .ok (.putfield 61, 3) := by decide +kernel
theorem d_WD_init_129 : decode b_WD_init 129 = .ok (.aload_n 0, 1) := by decide +kernel
theorem d_WD_init_130 : decode b_WD_init 130 = .ok (.lconst 0, 1) := by decide +kernel
theorem d_WD_init_131 : decode b_WD_init 131 = .ok (.putfield 64, 3) := by decide +kernel
theorem d_WD_init_134 : decode b_WD_init 134 = .ok (.return_, 1) := by decide +kernel
abbrev b_WD_curve : ByteArray := prog_1_method_2_code
def y_WD_curve : MethodName := ⟨"WallDamp", "curve", "(III)I"⟩
def ws_WD_curve : List Cond := .code y_WD_curve b_WD_curve 5 (some (.int)) :: x_tb
theorem pd_WD_curve : y_WD_curve.cls ≠ "java/lang/invoke/MethodHandle" ∧ y_WD_curve.cls ≠ "java/lang/invoke/VarHandle" ∧ (parseMethodDescriptor y_WD_curve.desc).map (fun d => d.parameters.length) = some 3 := by decide +kernel
theorem d_WD_curve_0 : decode b_WD_curve 0 = .ok (.aload_n 0, 1) := by decide +kernel
theorem d_WD_curve_1 : decode b_WD_curve 1 = .ok (.iload_n 1, 1) := by decide +kernel
theorem d_WD_curve_2 : decode b_WD_curve 2 = .ok (.invokevirtual 68, 3) := by decide +kernel
theorem d_WD_curve_5 : decode b_WD_curve 5 = .ok (.astore 4, 2) := by decide +kernel
theorem d_WD_curve_7 : decode b_WD_curve 7 = .ok (.iload_n 2, 1) := by decide +kernel
theorem d_WD_curve_8 : decode b_WD_curve 8 = .ok (.iconst 0, 1) := by decide +kernel
theorem d_WD_curve_9 : decode b_WD_curve 9 = .ok (.ldc 72, 2) := by decide +kernel
theorem d_WD_curve_11 : decode b_WD_curve 11 = .ok (.invokestatic 73, 3) := by decide +kernel
theorem d_WD_curve_14 : decode b_WD_curve 14 = .ok (.iload_n 3, 1) := by decide +kernel
theorem d_WD_curve_15 : decode b_WD_curve 15 = .ok (.iconst 0, 1) := by decide +kernel
theorem d_WD_curve_16 : decode b_WD_curve 16 = .ok (.sipush 10000, 3) := by decide +kernel
theorem d_WD_curve_19 : decode b_WD_curve 19 = .ok (.invokestatic 73, 3) := by decide +kernel
theorem d_WD_curve_22 : decode b_WD_curve 22 = .ok (.aload_n 0, 1) := by decide +kernel
theorem d_WD_curve_23 : decode b_WD_curve 23 = .ok (.invokevirtual 77, 3) := by decide +kernel
theorem d_WD_curve_26 : decode b_WD_curve 26 = .ok (.aload 4, 2) := by decide +kernel
theorem d_WD_curve_28 : decode b_WD_curve 28 = .ok (.getfield 80, 3) := by decide +kernel
theorem d_WD_curve_31 : decode b_WD_curve 31 = .ok (.iload_n 2, 1) := by decide +kernel
theorem d_WD_curve_32 : decode b_WD_curve 32 = .ok (.iload_n 3, 1) := by decide +kernel
theorem d_WD_curve_33 : decode b_WD_curve 33 = .ok (.invokestatic 84, 3) := by decide +kernel
theorem d_WD_curve_36 : decode b_WD_curve 36 = .ok (.ireturn, 1) := by decide +kernel
abbrev b_WD_rates : ByteArray := prog_1_method_3_code
def y_WD_rates : MethodName := ⟨"WallDamp", "rates", "(IIII)V"⟩
def ws_WD_rates : List Cond := .code y_WD_rates b_WD_rates 6 none :: x_tb
theorem pd_WD_rates : y_WD_rates.cls ≠ "java/lang/invoke/MethodHandle" ∧ y_WD_rates.cls ≠ "java/lang/invoke/VarHandle" ∧ (parseMethodDescriptor y_WD_rates.desc).map (fun d => d.parameters.length) = some 4 := by decide +kernel
theorem d_WD_rates_0 : decode b_WD_rates 0 = .ok (.aload_n 0, 1) := by decide +kernel
theorem d_WD_rates_1 : decode b_WD_rates 1 = .ok (.iload_n 1, 1) := by decide +kernel
theorem d_WD_rates_2 : decode b_WD_rates 2 = .ok (.invokevirtual 68, 3) := by decide +kernel
theorem d_WD_rates_5 : decode b_WD_rates 5 = .ok (.astore 5, 2) := by decide +kernel
theorem d_WD_rates_7 : decode b_WD_rates 7 = .ok (.iload_n 2, 1) := by decide +kernel
theorem d_WD_rates_8 : decode b_WD_rates 8 = .ok (.iconst 0, 1) := by decide +kernel
theorem d_WD_rates_9 : decode b_WD_rates 9 = .ok (.sipush 1000, 3) := by decide +kernel
theorem d_WD_rates_12 : decode b_WD_rates 12 = .ok (.invokestatic 73, 3) := by decide +kernel
theorem d_WD_rates_15 : decode b_WD_rates 15 = .ok (.iload_n 3, 1) := by decide +kernel
theorem d_WD_rates_16 : decode b_WD_rates 16 = .ok (.iconst 0, 1) := by decide +kernel
theorem d_WD_rates_17 : decode b_WD_rates 17 = .ok (.sipush 1000, 3) := by decide +kernel
theorem d_WD_rates_20 : decode b_WD_rates 20 = .ok (.invokestatic 73, 3) := by decide +kernel
theorem d_WD_rates_23 : decode b_WD_rates 23 = .ok (.iload 4, 2) := by decide +kernel
theorem d_WD_rates_25 : decode b_WD_rates 25 = .ok (.iconst 1, 1) := by decide +kernel
theorem d_WD_rates_26 : decode b_WD_rates 26 = .ok (.sipush 1000, 3) := by decide +kernel
theorem d_WD_rates_29 : decode b_WD_rates 29 = .ok (.invokestatic 73, 3) := by decide +kernel
theorem d_WD_rates_32 : decode b_WD_rates 32 = .ok (.aload 5, 2) := by decide +kernel
theorem d_WD_rates_34 : decode b_WD_rates 34 = .ok (.iload_n 2, 1) := by decide +kernel
theorem d_WD_rates_35 : decode b_WD_rates 35 = .ok (.putfield 88, 3) := by decide +kernel
theorem d_WD_rates_38 : decode b_WD_rates 38 = .ok (.aload 5, 2) := by decide +kernel
theorem d_WD_rates_40 : decode b_WD_rates 40 = .ok (.iload_n 3, 1) := by decide +kernel
theorem d_WD_rates_41 : decode b_WD_rates 41 = .ok (.putfield 91, 3) := by decide +kernel
theorem d_WD_rates_44 : decode b_WD_rates 44 = .ok (.aload 5, 2) := by decide +kernel
theorem d_WD_rates_46 : decode b_WD_rates 46 = .ok (.iload 4, 2) := by decide +kernel
theorem d_WD_rates_48 : decode b_WD_rates 48 = .ok (.putfield 94, 3) := by decide +kernel
theorem d_WD_rates_51 : decode b_WD_rates 51 = .ok (.return_, 1) := by decide +kernel
abbrev b_WD_cell : ByteArray := prog_1_method_4_code
def y_WD_cell : MethodName := ⟨"WallDamp", "cell", "(III)V"⟩
def ws_WD_cell : List Cond := .code y_WD_cell b_WD_cell 6 none :: x_tb
theorem pd_WD_cell : y_WD_cell.cls ≠ "java/lang/invoke/MethodHandle" ∧ y_WD_cell.cls ≠ "java/lang/invoke/VarHandle" ∧ (parseMethodDescriptor y_WD_cell.desc).map (fun d => d.parameters.length) = some 3 := by decide +kernel
theorem d_WD_cell_0 : decode b_WD_cell 0 = .ok (.aload_n 0, 1) := by decide +kernel
theorem d_WD_cell_1 : decode b_WD_cell 1 = .ok (.iload_n 1, 1) := by decide +kernel
theorem d_WD_cell_2 : decode b_WD_cell 2 = .ok (.invokevirtual 97, 3) := by decide +kernel
theorem d_WD_cell_5 : decode b_WD_cell 5 = .ok (.astore 4, 2) := by decide +kernel
theorem d_WD_cell_7 : decode b_WD_cell 7 = .ok (.aload_n 0, 1) := by decide +kernel
theorem d_WD_cell_8 : decode b_WD_cell 8 = .ok (.iload_n 2, 1) := by decide +kernel
theorem d_WD_cell_9 : decode b_WD_cell 9 = .ok (.invokevirtual 68, 3) := by decide +kernel
theorem d_WD_cell_12 : decode b_WD_cell 12 = .ok (.astore 5, 2) := by decide +kernel
theorem d_WD_cell_14 : decode b_WD_cell 14 = .ok (.iload_n 3, 1) := by decide +kernel
theorem d_WD_cell_15 : decode b_WD_cell 15 = .ok (.iconst 1, 1) := by decide +kernel
theorem d_WD_cell_16 : decode b_WD_cell 16 = .ok (.sipush 1000, 3) := by decide +kernel
theorem d_WD_cell_19 : decode b_WD_cell 19 = .ok (.invokestatic 73, 3) := by decide +kernel
theorem d_WD_cell_22 : decode b_WD_cell 22 = .ok (.aload_n 0, 1) := by decide +kernel
theorem d_WD_cell_23 : decode b_WD_cell 23 = .ok (.invokevirtual 77, 3) := by decide +kernel
theorem d_WD_cell_26 : decode b_WD_cell 26 = .ok (.aload_n 0, 1) := by decide +kernel
theorem d_WD_cell_27 : decode b_WD_cell 27 = .ok (.dup, 1) := by decide +kernel
theorem d_WD_cell_28 : decode b_WD_cell 28 = .ok (.getfield 64, 3) := by decide +kernel
theorem d_WD_cell_31 : decode b_WD_cell 31 = .ok (.aload 4, 2) := by decide +kernel
theorem d_WD_cell_33 : decode b_WD_cell 33 = .ok (.getfield 101, 3) := by decide +kernel
theorem d_WD_cell_36 : decode b_WD_cell 36 = .ok (.i2l, 1) := by decide +kernel
theorem d_WD_cell_37 : decode b_WD_cell 37 = .ok (.lsub, 1) := by decide +kernel
theorem d_WD_cell_38 : decode b_WD_cell 38 = .ok (.putfield 64, 3) := by decide +kernel
theorem d_WD_cell_41 : decode b_WD_cell 41 = .ok (.aload 4, 2) := by decide +kernel
theorem d_WD_cell_43 : decode b_WD_cell 43 = .ok (.iconst 0, 1) := by decide +kernel
theorem d_WD_cell_44 : decode b_WD_cell 44 = .ok (.putfield 101, 3) := by decide +kernel
theorem d_WD_cell_47 : decode b_WD_cell 47 = .ok (.aload 4, 2) := by decide +kernel
theorem d_WD_cell_49 : decode b_WD_cell 49 = .ok (.aload 5, 2) := by decide +kernel
theorem d_WD_cell_51 : decode b_WD_cell 51 = .ok (.putfield 106, 3) := by decide +kernel
theorem d_WD_cell_54 : decode b_WD_cell 54 = .ok (.aload 4, 2) := by decide +kernel
theorem d_WD_cell_56 : decode b_WD_cell 56 = .ok (.iload_n 3, 1) := by decide +kernel
theorem d_WD_cell_57 : decode b_WD_cell 57 = .ok (.putfield 110, 3) := by decide +kernel
theorem d_WD_cell_60 : decode b_WD_cell 60 = .ok (.return_, 1) := by decide +kernel
abbrev b_WD_table : ByteArray := prog_1_method_5_code
def y_WD_table : MethodName := ⟨"WallDamp", "table", "(II)I"⟩
def ws_WD_table : List Cond := .code y_WD_table b_WD_table 3 (some (.int)) :: x_tb
theorem pd_WD_table : y_WD_table.cls ≠ "java/lang/invoke/MethodHandle" ∧ y_WD_table.cls ≠ "java/lang/invoke/VarHandle" ∧ (parseMethodDescriptor y_WD_table.desc).map (fun d => d.parameters.length) = some 2 := by decide +kernel
theorem d_WD_table_0 : decode b_WD_table 0 = .ok (.iload_n 1, 1) := by decide +kernel
theorem d_WD_table_1 : decode b_WD_table 1 = .ok (.sipush (-5000), 3) := by decide +kernel
theorem d_WD_table_4 : decode b_WD_table 4 = .ok (.sipush 10000, 3) := by decide +kernel
theorem d_WD_table_7 : decode b_WD_table 7 = .ok (.invokestatic 73, 3) := by decide +kernel
theorem d_WD_table_10 : decode b_WD_table 10 = .ok (.iload_n 2, 1) := by decide +kernel
theorem d_WD_table_11 : decode b_WD_table 11 = .ok (.iconst 0, 1) := by decide +kernel
theorem d_WD_table_12 : decode b_WD_table 12 = .ok (.ldc 113, 2) := by decide +kernel
theorem d_WD_table_14 : decode b_WD_table 14 = .ok (.invokestatic 73, 3) := by decide +kernel
theorem d_WD_table_17 : decode b_WD_table 17 = .ok (.aload_n 0, 1) := by decide +kernel
theorem d_WD_table_18 : decode b_WD_table 18 = .ok (.getfield 28, 3) := by decide +kernel
theorem d_WD_table_21 : decode b_WD_table 21 = .ok (.getfield 114, 3) := by decide +kernel
theorem d_WD_table_24 : decode b_WD_table 24 = .ok (.iload_n 1, 1) := by decide +kernel
theorem d_WD_table_25 : decode b_WD_table 25 = .ok (.iload_n 2, 1) := by decide +kernel
theorem d_WD_table_26 : decode b_WD_table 26 = .ok (.invokestatic 84, 3) := by decide +kernel
theorem d_WD_table_29 : decode b_WD_table 29 = .ok (.ireturn, 1) := by decide +kernel
abbrev b_WD_full : ByteArray := prog_1_method_6_code
def y_WD_full : MethodName := ⟨"WallDamp", "full", "(I)I"⟩
def ws_WD_full : List Cond := .code y_WD_full b_WD_full 2 (some (.int)) :: x_tb
theorem pd_WD_full : y_WD_full.cls ≠ "java/lang/invoke/MethodHandle" ∧ y_WD_full.cls ≠ "java/lang/invoke/VarHandle" ∧ (parseMethodDescriptor y_WD_full.desc).map (fun d => d.parameters.length) = some 1 := by decide +kernel
theorem d_WD_full_0 : decode b_WD_full 0 = .ok (.iload_n 1, 1) := by decide +kernel
theorem d_WD_full_1 : decode b_WD_full 1 = .ok (.sipush (-5000), 3) := by decide +kernel
theorem d_WD_full_4 : decode b_WD_full 4 = .ok (.sipush 10000, 3) := by decide +kernel
theorem d_WD_full_7 : decode b_WD_full 7 = .ok (.invokestatic 73, 3) := by decide +kernel
theorem d_WD_full_10 : decode b_WD_full 10 = .ok (.aload_n 0, 1) := by decide +kernel
theorem d_WD_full_11 : decode b_WD_full 11 = .ok (.getfield 28, 3) := by decide +kernel
theorem d_WD_full_14 : decode b_WD_full 14 = .ok (.getfield 114, 3) := by decide +kernel
theorem d_WD_full_17 : decode b_WD_full 17 = .ok (.iload_n 1, 1) := by decide +kernel
theorem d_WD_full_18 : decode b_WD_full 18 = .ok (.invokevirtual 117, 3) := by decide +kernel
theorem d_WD_full_21 : decode b_WD_full 21 = .ok (.ireturn, 1) := by decide +kernel
abbrev b_WD_films : ByteArray := prog_1_method_7_code
def y_WD_films : MethodName := ⟨"WallDamp", "films", "(II)V"⟩
def ws_WD_films : List Cond := .code y_WD_films b_WD_films 3 none :: x_tb
theorem pd_WD_films : y_WD_films.cls ≠ "java/lang/invoke/MethodHandle" ∧ y_WD_films.cls ≠ "java/lang/invoke/VarHandle" ∧ (parseMethodDescriptor y_WD_films.desc).map (fun d => d.parameters.length) = some 2 := by decide +kernel
theorem d_WD_films_0 : decode b_WD_films 0 = .ok (.iload_n 1, 1) := by decide +kernel
theorem d_WD_films_1 : decode b_WD_films 1 = .ok (.iconst 0, 1) := by decide +kernel
theorem d_WD_films_2 : decode b_WD_films 2 = .ok (.sipush 1000, 3) := by decide +kernel
theorem d_WD_films_5 : decode b_WD_films 5 = .ok (.invokestatic 73, 3) := by decide +kernel
theorem d_WD_films_8 : decode b_WD_films 8 = .ok (.iload_n 2, 1) := by decide +kernel
theorem d_WD_films_9 : decode b_WD_films 9 = .ok (.iconst 0, 1) := by decide +kernel
theorem d_WD_films_10 : decode b_WD_films 10 = .ok (.sipush 1000, 3) := by decide +kernel
theorem d_WD_films_13 : decode b_WD_films 13 = .ok (.invokestatic 73, 3) := by decide +kernel
theorem d_WD_films_16 : decode b_WD_films 16 = .ok (.aload_n 0, 1) := by decide +kernel
theorem d_WD_films_17 : decode b_WD_films 17 = .ok (.getfield 28, 3) := by decide +kernel
theorem d_WD_films_20 : decode b_WD_films 20 = .ok (.iload_n 1, 1) := by decide +kernel
theorem d_WD_films_21 : decode b_WD_films 21 = .ok (.putfield 123, 3) := by decide +kernel
theorem d_WD_films_24 : decode b_WD_films 24 = .ok (.aload_n 0, 1) := by decide +kernel
theorem d_WD_films_25 : decode b_WD_films 25 = .ok (.getfield 28, 3) := by decide +kernel
theorem d_WD_films_28 : decode b_WD_films 28 = .ok (.iload_n 2, 1) := by decide +kernel
theorem d_WD_films_29 : decode b_WD_films 29 = .ok (.putfield 126, 3) := by decide +kernel
theorem d_WD_films_32 : decode b_WD_films 32 = .ok (.return_, 1) := by decide +kernel
abbrev b_WD_outside : ByteArray := prog_1_method_8_code
def y_WD_outside : MethodName := ⟨"WallDamp", "outside", "(IIIII)V"⟩
def ws_WD_outside : List Cond := .code y_WD_outside b_WD_outside 6 none :: x_tb
theorem pd_WD_outside : y_WD_outside.cls ≠ "java/lang/invoke/MethodHandle" ∧ y_WD_outside.cls ≠ "java/lang/invoke/VarHandle" ∧ (parseMethodDescriptor y_WD_outside.desc).map (fun d => d.parameters.length) = some 5 := by decide +kernel
theorem d_WD_outside_0 : decode b_WD_outside 0 = .ok (.iload_n 1, 1) := by decide +kernel
theorem d_WD_outside_1 : decode b_WD_outside 1 = .ok (.iload_n 2, 1) := by decide +kernel
theorem d_WD_outside_2 : decode b_WD_outside 2 = .ok (.iload_n 3, 1) := by decide +kernel
theorem d_WD_outside_3 : decode b_WD_outside 3 = .ok (.invokestatic 129, 3) := by decide +kernel
theorem d_WD_outside_6 : decode b_WD_outside 6 = .ok (.iload 4, 2) := by decide +kernel
theorem d_WD_outside_8 : decode b_WD_outside 8 = .ok (.iconst 0, 1) := by decide +kernel
theorem d_WD_outside_9 : decode b_WD_outside 9 = .ok (.sipush 1000, 3) := by decide +kernel
theorem d_WD_outside_12 : decode b_WD_outside 12 = .ok (.invokestatic 73, 3) := by decide +kernel
theorem d_WD_outside_15 : decode b_WD_outside 15 = .ok (.iload 5, 2) := by decide +kernel
theorem d_WD_outside_17 : decode b_WD_outside 17 = .ok (.iconst 0, 1) := by decide +kernel
theorem d_WD_outside_18 : decode b_WD_outside 18 = .ok (.sipush 1000, 3) := by decide +kernel
theorem d_WD_outside_21 : decode b_WD_outside 21 = .ok (.invokestatic 73, 3) := by decide +kernel
theorem d_WD_outside_24 : decode b_WD_outside 24 = .ok (.aload_n 0, 1) := by decide +kernel
theorem d_WD_outside_25 : decode b_WD_outside 25 = .ok (.getfield 28, 3) := by decide +kernel
theorem d_WD_outside_28 : decode b_WD_outside 28 = .ok (.getfield 132, 3) := by decide +kernel
theorem d_WD_outside_31 : decode b_WD_outside 31 = .ok (.iload_n 1, 1) := by decide +kernel
theorem d_WD_outside_32 : decode b_WD_outside 32 = .ok (.iload_n 2, 1) := by decide +kernel
theorem d_WD_outside_33 : decode b_WD_outside 33 = .ok (.iastore, 1) := by decide +kernel
theorem d_WD_outside_34 : decode b_WD_outside 34 = .ok (.aload_n 0, 1) := by decide +kernel
theorem d_WD_outside_35 : decode b_WD_outside 35 = .ok (.getfield 28, 3) := by decide +kernel
theorem d_WD_outside_38 : decode b_WD_outside 38 = .ok (.getfield 136, 3) := by decide +kernel
theorem d_WD_outside_41 : decode b_WD_outside 41 = .ok (.iload_n 1, 1) := by decide +kernel
theorem d_WD_outside_42 : decode b_WD_outside 42 = .ok (.iload_n 3, 1) := by decide +kernel
theorem d_WD_outside_43 : decode b_WD_outside 43 = .ok (.iastore, 1) := by decide +kernel
theorem d_WD_outside_44 : decode b_WD_outside 44 = .ok (.aload_n 0, 1) := by decide +kernel
theorem d_WD_outside_45 : decode b_WD_outside 45 = .ok (.getfield 28, 3) := by decide +kernel
theorem d_WD_outside_48 : decode b_WD_outside 48 = .ok (.getfield 139, 3) := by decide +kernel
theorem d_WD_outside_51 : decode b_WD_outside 51 = .ok (.iload_n 1, 1) := by decide +kernel
theorem d_WD_outside_52 : decode b_WD_outside 52 = .ok (.iload 4, 2) := by decide +kernel
theorem d_WD_outside_54 : decode b_WD_outside 54 = .ok (.iastore, 1) := by decide +kernel
theorem d_WD_outside_55 : decode b_WD_outside 55 = .ok (.aload_n 0, 1) := by decide +kernel
theorem d_WD_outside_56 : decode b_WD_outside 56 = .ok (.getfield 28, 3) := by decide +kernel
theorem d_WD_outside_59 : decode b_WD_outside 59 = .ok (.getfield 142, 3) := by decide +kernel
theorem d_WD_outside_62 : decode b_WD_outside 62 = .ok (.iload_n 1, 1) := by decide +kernel
theorem d_WD_outside_63 : decode b_WD_outside 63 = .ok (.iload 5, 2) := by decide +kernel
theorem d_WD_outside_65 : decode b_WD_outside 65 = .ok (.iastore, 1) := by decide +kernel
theorem d_WD_outside_66 : decode b_WD_outside 66 = .ok (.return_, 1) := by decide +kernel
abbrev b_WD_inside : ByteArray := prog_1_method_9_code
def y_WD_inside : MethodName := ⟨"WallDamp", "inside", "(III)V"⟩
def ws_WD_inside : List Cond := .code y_WD_inside b_WD_inside 4 none :: x_tb
theorem pd_WD_inside : y_WD_inside.cls ≠ "java/lang/invoke/MethodHandle" ∧ y_WD_inside.cls ≠ "java/lang/invoke/VarHandle" ∧ (parseMethodDescriptor y_WD_inside.desc).map (fun d => d.parameters.length) = some 3 := by decide +kernel
theorem d_WD_inside_0 : decode b_WD_inside 0 = .ok (.iload_n 1, 1) := by decide +kernel
theorem d_WD_inside_1 : decode b_WD_inside 1 = .ok (.iload_n 2, 1) := by decide +kernel
theorem d_WD_inside_2 : decode b_WD_inside 2 = .ok (.iload_n 3, 1) := by decide +kernel
theorem d_WD_inside_3 : decode b_WD_inside 3 = .ok (.invokestatic 129, 3) := by decide +kernel
theorem d_WD_inside_6 : decode b_WD_inside 6 = .ok (.aload_n 0, 1) := by decide +kernel
theorem d_WD_inside_7 : decode b_WD_inside 7 = .ok (.getfield 28, 3) := by decide +kernel
theorem d_WD_inside_10 : decode b_WD_inside 10 = .ok (.getfield 145, 3) := by decide +kernel
theorem d_WD_inside_13 : decode b_WD_inside 13 = .ok (.iload_n 1, 1) := by decide +kernel
theorem d_WD_inside_14 : decode b_WD_inside 14 = .ok (.iload_n 2, 1) := by decide +kernel
theorem d_WD_inside_15 : decode b_WD_inside 15 = .ok (.iastore, 1) := by decide +kernel
theorem d_WD_inside_16 : decode b_WD_inside 16 = .ok (.aload_n 0, 1) := by decide +kernel
theorem d_WD_inside_17 : decode b_WD_inside 17 = .ok (.getfield 28, 3) := by decide +kernel
theorem d_WD_inside_20 : decode b_WD_inside 20 = .ok (.getfield 148, 3) := by decide +kernel
theorem d_WD_inside_23 : decode b_WD_inside 23 = .ok (.iload_n 1, 1) := by decide +kernel
theorem d_WD_inside_24 : decode b_WD_inside 24 = .ok (.iload_n 3, 1) := by decide +kernel
theorem d_WD_inside_25 : decode b_WD_inside 25 = .ok (.iastore, 1) := by decide +kernel
theorem d_WD_inside_26 : decode b_WD_inside 26 = .ok (.return_, 1) := by decide +kernel
abbrev b_WD_water : ByteArray := prog_1_method_10_code
def y_WD_water : MethodName := ⟨"WallDamp", "water", "(II)I"⟩
def ws_WD_water : List Cond := .code y_WD_water b_WD_water 5 (some (.int)) :: x_tb
theorem pd_WD_water : y_WD_water.cls ≠ "java/lang/invoke/MethodHandle" ∧ y_WD_water.cls ≠ "java/lang/invoke/VarHandle" ∧ (parseMethodDescriptor y_WD_water.desc).map (fun d => d.parameters.length) = some 2 := by decide +kernel
theorem d_WD_water_0 : decode b_WD_water 0 = .ok (.aload_n 0, 1) := by decide +kernel
theorem d_WD_water_1 : decode b_WD_water 1 = .ok (.iload_n 1, 1) := by decide +kernel
theorem d_WD_water_2 : decode b_WD_water 2 = .ok (.invokevirtual 97, 3) := by decide +kernel
theorem d_WD_water_5 : decode b_WD_water 5 = .ok (.astore_n 3, 1) := by decide +kernel
theorem d_WD_water_6 : decode b_WD_water 6 = .ok (.iload_n 2, 1) := by decide +kernel
theorem d_WD_water_7 : decode b_WD_water 7 = .ok (.iconst 0, 1) := by decide +kernel
theorem d_WD_water_8 : decode b_WD_water 8 = .ok (.aload_n 3, 1) := by decide +kernel
theorem d_WD_water_9 : decode b_WD_water 9 = .ok (.getfield 106, 3) := by decide +kernel
theorem d_WD_water_12 : decode b_WD_water 12 = .ok (.invokevirtual 151, 3) := by decide +kernel
theorem d_WD_water_15 : decode b_WD_water 15 = .ok (.invokestatic 73, 3) := by decide +kernel
theorem d_WD_water_18 : decode b_WD_water 18 = .ok (.aload_n 3, 1) := by decide +kernel
theorem d_WD_water_19 : decode b_WD_water 19 = .ok (.getfield 101, 3) := by decide +kernel
theorem d_WD_water_22 : decode b_WD_water 22 = .ok (.istore 4, 2) := by decide +kernel
theorem d_WD_water_24 : decode b_WD_water 24 = .ok (.aload_n 0, 1) := by decide +kernel
theorem d_WD_water_25 : decode b_WD_water 25 = .ok (.dup, 1) := by decide +kernel
theorem d_WD_water_26 : decode b_WD_water 26 = .ok (.getfield 64, 3) := by decide +kernel
theorem d_WD_water_29 : decode b_WD_water 29 = .ok (.iload_n 2, 1) := by decide +kernel
theorem d_WD_water_30 : decode b_WD_water 30 = .ok (.iload 4, 2) := by decide +kernel
theorem d_WD_water_32 : decode b_WD_water 32 = .ok (.isub, 1) := by decide +kernel
theorem d_WD_water_33 : decode b_WD_water 33 = .ok (.i2l, 1) := by decide +kernel
theorem d_WD_water_34 : decode b_WD_water 34 = .ok (.ladd, 1) := by decide +kernel
theorem d_WD_water_35 : decode b_WD_water 35 = .ok (.putfield 64, 3) := by decide +kernel
theorem d_WD_water_38 : decode b_WD_water 38 = .ok (.aload_n 3, 1) := by decide +kernel
theorem d_WD_water_39 : decode b_WD_water 39 = .ok (.iload_n 2, 1) := by decide +kernel
theorem d_WD_water_40 : decode b_WD_water 40 = .ok (.putfield 101, 3) := by decide +kernel
theorem d_WD_water_43 : decode b_WD_water 43 = .ok (.iload 4, 2) := by decide +kernel
theorem d_WD_water_45 : decode b_WD_water 45 = .ok (.ireturn, 1) := by decide +kernel
abbrev b_WD_leak : ByteArray := prog_1_method_11_code
def y_WD_leak : MethodName := ⟨"WallDamp", "leak", "(II)I"⟩
def ws_WD_leak : List Cond := .code y_WD_leak b_WD_leak 5 (some (.int)) :: x_tb
theorem pd_WD_leak : y_WD_leak.cls ≠ "java/lang/invoke/MethodHandle" ∧ y_WD_leak.cls ≠ "java/lang/invoke/VarHandle" ∧ (parseMethodDescriptor y_WD_leak.desc).map (fun d => d.parameters.length) = some 2 := by decide +kernel
theorem d_WD_leak_0 : decode b_WD_leak 0 = .ok (.aload_n 0, 1) := by decide +kernel
theorem d_WD_leak_1 : decode b_WD_leak 1 = .ok (.iload_n 1, 1) := by decide +kernel
theorem d_WD_leak_2 : decode b_WD_leak 2 = .ok (.invokevirtual 97, 3) := by decide +kernel
theorem d_WD_leak_5 : decode b_WD_leak 5 = .ok (.astore_n 3, 1) := by decide +kernel
theorem d_WD_leak_6 : decode b_WD_leak 6 = .ok (.iload_n 2, 1) := by decide +kernel
theorem d_WD_leak_7 : decode b_WD_leak 7 = .ok (.iconst 0, 1) := by decide +kernel
theorem d_WD_leak_8 : decode b_WD_leak 8 = .ok (.sipush 1000, 3) := by decide +kernel
theorem d_WD_leak_11 : decode b_WD_leak 11 = .ok (.invokestatic 73, 3) := by decide +kernel
theorem d_WD_leak_14 : decode b_WD_leak 14 = .ok (.aload_n 3, 1) := by decide +kernel
theorem d_WD_leak_15 : decode b_WD_leak 15 = .ok (.getfield 155, 3) := by decide +kernel
theorem d_WD_leak_18 : decode b_WD_leak 18 = .ok (.istore 4, 2) := by decide +kernel
theorem d_WD_leak_20 : decode b_WD_leak 20 = .ok (.aload_n 3, 1) := by decide +kernel
theorem d_WD_leak_21 : decode b_WD_leak 21 = .ok (.iload_n 2, 1) := by decide +kernel
theorem d_WD_leak_22 : decode b_WD_leak 22 = .ok (.putfield 155, 3) := by decide +kernel
theorem d_WD_leak_25 : decode b_WD_leak 25 = .ok (.iload 4, 2) := by decide +kernel
theorem d_WD_leak_27 : decode b_WD_leak 27 = .ok (.ireturn, 1) := by decide +kernel
abbrev b_WD_growth : ByteArray := prog_1_method_12_code
def y_WD_growth : MethodName := ⟨"WallDamp", "growth", "(IIII)I"⟩
def ws_WD_growth : List Cond := .code y_WD_growth b_WD_growth 5 (some (.int)) :: x_tb
theorem pd_WD_growth : y_WD_growth.cls ≠ "java/lang/invoke/MethodHandle" ∧ y_WD_growth.cls ≠ "java/lang/invoke/VarHandle" ∧ (parseMethodDescriptor y_WD_growth.desc).map (fun d => d.parameters.length) = some 4 := by decide +kernel
theorem d_WD_growth_0 : decode b_WD_growth 0 = .ok (.iload_n 1, 1) := by decide +kernel
theorem d_WD_growth_1 : decode b_WD_growth 1 = .ok (.iconst 0, 1) := by decide +kernel
theorem d_WD_growth_2 : decode b_WD_growth 2 = .ok (.sipush 10000, 3) := by decide +kernel
theorem d_WD_growth_5 : decode b_WD_growth 5 = .ok (.invokestatic 73, 3) := by decide +kernel
theorem d_WD_growth_8 : decode b_WD_growth 8 = .ok (.iload_n 3, 1) := by decide +kernel
theorem d_WD_growth_9 : decode b_WD_growth 9 = .ok (.sipush (-5000), 3) := by decide +kernel
theorem d_WD_growth_12 : decode b_WD_growth 12 = .ok (.sipush 10000, 3) := by decide +kernel
theorem d_WD_growth_15 : decode b_WD_growth 15 = .ok (.invokestatic 73, 3) := by decide +kernel
theorem d_WD_growth_18 : decode b_WD_growth 18 = .ok (.iload_n 2, 1) := by decide +kernel
theorem d_WD_growth_19 : decode b_WD_growth 19 = .ok (.sipush (-5000), 3) := by decide +kernel
theorem d_WD_growth_22 : decode b_WD_growth 22 = .ok (.iload_n 3, 1) := by decide +kernel
theorem d_WD_growth_23 : decode b_WD_growth 23 = .ok (.invokestatic 73, 3) := by decide +kernel
theorem d_WD_growth_26 : decode b_WD_growth 26 = .ok (.iload 4, 2) := by decide +kernel
theorem d_WD_growth_28 : decode b_WD_growth 28 = .ok (.iconst 1, 1) := by decide +kernel
theorem d_WD_growth_29 : decode b_WD_growth 29 = .ok (.sipush 1000, 3) := by decide +kernel
theorem d_WD_growth_32 : decode b_WD_growth 32 = .ok (.invokestatic 73, 3) := by decide +kernel
theorem d_WD_growth_35 : decode b_WD_growth 35 = .ok (.aload_n 0, 1) := by decide +kernel
theorem d_WD_growth_36 : decode b_WD_growth 36 = .ok (.getfield 35, 3) := by decide +kernel
theorem d_WD_growth_39 : decode b_WD_growth 39 = .ok (.invokevirtual 158, 3) := by decide +kernel
theorem d_WD_growth_42 : decode b_WD_growth 42 = .ok (.ifCond .ne 13, 3) := by decide +kernel
theorem d_WD_growth_45 : decode b_WD_growth 45 = .ok (.new 162, 3) := by decide +kernel
theorem d_WD_growth_48 : decode b_WD_growth 48 = .ok (.dup, 1) := by decide +kernel
theorem d_WD_growth_49 : decode b_WD_growth 49 = .ok (.ldc 164, 2) := by decide +kernel
theorem d_WD_growth_51 : decode b_WD_growth 51 = .ok (.invokespecial 166, 3) := by decide +kernel
theorem d_WD_growth_54 : decode b_WD_growth 54 = .ok (.athrow, 1) := by decide +kernel
theorem d_WD_growth_55 : decode b_WD_growth 55 = .ok (.aload_n 0, 1) := by decide +kernel
theorem d_WD_growth_56 : decode b_WD_growth 56 = .ok (.getfield 35, 3) := by decide +kernel
theorem d_WD_growth_59 : decode b_WD_growth 59 = .ok (.iload_n 1, 1) := by decide +kernel
theorem d_WD_growth_60 : decode b_WD_growth 60 = .ok (.iload_n 2, 1) := by decide +kernel
theorem d_WD_growth_61 : decode b_WD_growth 61 = .ok (.iload_n 3, 1) := by decide +kernel
theorem d_WD_growth_62 : decode b_WD_growth 62 = .ok (.iload 4, 2) := by decide +kernel
theorem d_WD_growth_64 : decode b_WD_growth 64 = .ok (.invokevirtual 169, 3) := by decide +kernel
theorem d_WD_growth_67 : decode b_WD_growth 67 = .ok (.ireturn, 1) := by decide +kernel
abbrev b_WD_run : ByteArray := prog_1_method_13_code
def y_WD_run : MethodName := ⟨"WallDamp", "run", "(I)I"⟩
def ws_WD_run : List Cond := .code y_WD_run b_WD_run 3 (some (.int)) :: x_tb
theorem pd_WD_run : y_WD_run.cls ≠ "java/lang/invoke/MethodHandle" ∧ y_WD_run.cls ≠ "java/lang/invoke/VarHandle" ∧ (parseMethodDescriptor y_WD_run.desc).map (fun d => d.parameters.length) = some 1 := by decide +kernel
theorem d_WD_run_0 : decode b_WD_run 0 = .ok (.iload_n 1, 1) := by decide +kernel
theorem d_WD_run_1 : decode b_WD_run 1 = .ok (.iconst 1, 1) := by decide +kernel
theorem d_WD_run_2 : decode b_WD_run 2 = .ok (.sipush 240, 3) := by decide +kernel
theorem d_WD_run_5 : decode b_WD_run 5 = .ok (.invokestatic 73, 3) := by decide +kernel
theorem d_WD_run_8 : decode b_WD_run 8 = .ok (.aload_n 0, 1) := by decide +kernel
theorem d_WD_run_9 : decode b_WD_run 9 = .ok (.getfield 57, 3) := by decide +kernel
theorem d_WD_run_12 : decode b_WD_run 12 = .ok (.iload_n 1, 1) := by decide +kernel
theorem d_WD_run_13 : decode b_WD_run 13 = .ok (.iadd, 1) := by decide +kernel
theorem d_WD_run_14 : decode b_WD_run 14 = .ok (.sipush 10000, 3) := by decide +kernel
theorem d_WD_run_17 : decode b_WD_run 17 = .ok (.if_icmp .le 13, 3) := by decide +kernel
theorem d_WD_run_20 : decode b_WD_run 20 = .ok (.new 162, 3) := by decide +kernel
theorem d_WD_run_23 : decode b_WD_run 23 = .ok (.dup, 1) := by decide +kernel
theorem d_WD_run_24 : decode b_WD_run 24 = .ok (.ldc 173, 2) := by decide +kernel
theorem d_WD_run_26 : decode b_WD_run 26 = .ok (.invokespecial 166, 3) := by decide +kernel
theorem d_WD_run_29 : decode b_WD_run 29 = .ok (.athrow, 1) := by decide +kernel
theorem d_WD_run_30 : decode b_WD_run 30 = .ok (.iconst 0, 1) := by decide +kernel
theorem d_WD_run_31 : decode b_WD_run 31 = .ok (.istore_n 2, 1) := by decide +kernel
theorem d_WD_run_32 : decode b_WD_run 32 = .ok (.iload_n 2, 1) := by decide +kernel
theorem d_WD_run_33 : decode b_WD_run 33 = .ok (.iload_n 1, 1) := by decide +kernel
theorem d_WD_run_34 : decode b_WD_run 34 = .ok (.if_icmp .ge 13, 3) := by decide +kernel
theorem d_WD_run_37 : decode b_WD_run 37 = .ok (.aload_n 0, 1) := by decide +kernel
theorem d_WD_run_38 : decode b_WD_run 38 = .ok (.invokevirtual 175, 3) := by decide +kernel
theorem d_WD_run_41 : decode b_WD_run 41 = .ok (.iinc 2 1, 3) := by decide +kernel
theorem d_WD_run_44 : decode b_WD_run 44 = .ok (.goto (-12), 3) := by decide +kernel
theorem d_WD_run_47 : decode b_WD_run 47 = .ok (.aload_n 0, 1) := by decide +kernel
theorem d_WD_run_48 : decode b_WD_run 48 = .ok (.getfield 57, 3) := by decide +kernel
theorem d_WD_run_51 : decode b_WD_run 51 = .ok (.ireturn, 1) := by decide +kernel
abbrev b_WD_told : ByteArray := prog_1_method_14_code
def y_WD_told : MethodName := ⟨"WallDamp", "told", "(II)I"⟩
def ws_WD_told : List Cond := .code y_WD_told b_WD_told 4 (some (.int)) :: x_tb
theorem pd_WD_told : y_WD_told.cls ≠ "java/lang/invoke/MethodHandle" ∧ y_WD_told.cls ≠ "java/lang/invoke/VarHandle" ∧ (parseMethodDescriptor y_WD_told.desc).map (fun d => d.parameters.length) = some 2 := by decide +kernel
theorem d_WD_told_0 : decode b_WD_told 0 = .ok (.aload_n 0, 1) := by decide +kernel
theorem d_WD_told_1 : decode b_WD_told 1 = .ok (.iload_n 1, 1) := by decide +kernel
theorem d_WD_told_2 : decode b_WD_told 2 = .ok (.invokevirtual 97, 3) := by decide +kernel
theorem d_WD_told_5 : decode b_WD_told 5 = .ok (.astore_n 3, 1) := by decide +kernel
theorem d_WD_told_6 : decode b_WD_told 6 = .ok (.iload_n 2, 1) := by decide +kernel
theorem d_WD_told_7 : decode b_WD_told 7 = .ok (.iconst 0, 1) := by decide +kernel
theorem d_WD_told_8 : decode b_WD_told 8 = .ok (.iconst 5, 1) := by decide +kernel
theorem d_WD_told_9 : decode b_WD_told 9 = .ok (.invokestatic 73, 3) := by decide +kernel
theorem d_WD_told_12 : decode b_WD_told 12 = .ok (.iload_n 2, 1) := by decide +kernel
theorem d_WD_told_13 : decode b_WD_told 13 = .ok (.tableswitch 68 0 4 #[35, 40, 45, 50, 55], 35) := by decide +kernel
theorem d_WD_told_48 : decode b_WD_told 48 = .ok (.aload_n 3, 1) := by decide +kernel
theorem d_WD_told_49 : decode b_WD_told 49 = .ok (.getfield 101, 3) := by decide +kernel
theorem d_WD_told_52 : decode b_WD_told 52 = .ok (.ireturn, 1) := by decide +kernel
theorem d_WD_told_53 : decode b_WD_told 53 = .ok (.aload_n 3, 1) := by decide +kernel
theorem d_WD_told_54 : decode b_WD_told 54 = .ok (.invokevirtual 178, 3) := by decide +kernel
theorem d_WD_told_57 : decode b_WD_told 57 = .ok (.ireturn, 1) := by decide +kernel
theorem d_WD_told_58 : decode b_WD_told 58 = .ok (.aload_n 3, 1) := by decide +kernel
theorem d_WD_told_59 : decode b_WD_told 59 = .ok (.getfield 181, 3) := by decide +kernel
theorem d_WD_told_62 : decode b_WD_told 62 = .ok (.ireturn, 1) := by decide +kernel
theorem d_WD_told_63 : decode b_WD_told 63 = .ok (.aload_n 3, 1) := by decide +kernel
theorem d_WD_told_64 : decode b_WD_told 64 = .ok (.getfield 184, 3) := by decide +kernel
theorem d_WD_told_67 : decode b_WD_told 67 = .ok (.ireturn, 1) := by decide +kernel
theorem d_WD_told_68 : decode b_WD_told 68 = .ok (.aload_n 3, 1) := by decide +kernel
theorem d_WD_told_69 : decode b_WD_told 69 = .ok (.getfield 187, 3) := by decide +kernel
theorem d_WD_told_72 : decode b_WD_told 72 = .ok (.ifCond .eq 7, 3) := by decide +kernel
theorem d_WD_told_75 : decode b_WD_told 75 = .ok (.iconst 1, 1) := by decide +kernel
theorem d_WD_told_76 : decode b_WD_told 76 = .ok (.goto 4, 3) := by decide +kernel
theorem d_WD_told_79 : decode b_WD_told 79 = .ok (.iconst 0, 1) := by decide +kernel
theorem d_WD_told_80 : decode b_WD_told 80 = .ok (.ireturn, 1) := by decide +kernel
theorem d_WD_told_81 : decode b_WD_told 81 = .ok (.aload_n 3, 1) := by decide +kernel
theorem d_WD_told_82 : decode b_WD_told 82 = .ok (.getfield 191, 3) := by decide +kernel
theorem d_WD_told_85 : decode b_WD_told 85 = .ok (.ireturn, 1) := by decide +kernel
abbrev b_WD_balance : ByteArray := prog_1_method_15_code
def y_WD_balance : MethodName := ⟨"WallDamp", "balance", "(I)J"⟩
def ws_WD_balance : List Cond := .code y_WD_balance b_WD_balance 2 (some (.long)) :: x_tb
theorem pd_WD_balance : y_WD_balance.cls ≠ "java/lang/invoke/MethodHandle" ∧ y_WD_balance.cls ≠ "java/lang/invoke/VarHandle" ∧ (parseMethodDescriptor y_WD_balance.desc).map (fun d => d.parameters.length) = some 1 := by decide +kernel
theorem d_WD_balance_0 : decode b_WD_balance 0 = .ok (.iload_n 1, 1) := by decide +kernel
theorem d_WD_balance_1 : decode b_WD_balance 1 = .ok (.iconst 0, 1) := by decide +kernel
theorem d_WD_balance_2 : decode b_WD_balance 2 = .ok (.iconst 5, 1) := by decide +kernel
theorem d_WD_balance_3 : decode b_WD_balance 3 = .ok (.invokestatic 73, 3) := by decide +kernel
theorem d_WD_balance_6 : decode b_WD_balance 6 = .ok (.iload_n 1, 1) := by decide +kernel
theorem d_WD_balance_7 : decode b_WD_balance 7 = .ok (.tableswitch 85 0 4 #[33, 41, 52, 63, 74], 33) := by decide +kernel
theorem d_WD_balance_40 : decode b_WD_balance 40 = .ok (.aload_n 0, 1) := by decide +kernel
theorem d_WD_balance_41 : decode b_WD_balance 41 = .ok (.getfield 44, 3) := by decide +kernel
theorem d_WD_balance_44 : decode b_WD_balance 44 = .ok (.invokevirtual 194, 3) := by decide +kernel
theorem d_WD_balance_47 : decode b_WD_balance 47 = .ok (.lreturn, 1) := by decide +kernel
theorem d_WD_balance_48 : decode b_WD_balance 48 = .ok (.aload_n 0, 1) := by decide +kernel
theorem d_WD_balance_49 : decode b_WD_balance 49 = .ok (.getfield 44, 3) := by decide +kernel
theorem d_WD_balance_52 : decode b_WD_balance 52 = .ok (.getfield 198, 3) := by decide +kernel
theorem d_WD_balance_55 : decode b_WD_balance 55 = .ok (.getfield 202, 3) := by decide +kernel
theorem d_WD_balance_58 : decode b_WD_balance 58 = .ok (.lreturn, 1) := by decide +kernel
theorem d_WD_balance_59 : decode b_WD_balance 59 = .ok (.aload_n 0, 1) := by decide +kernel
theorem d_WD_balance_60 : decode b_WD_balance 60 = .ok (.getfield 44, 3) := by decide +kernel
theorem d_WD_balance_63 : decode b_WD_balance 63 = .ok (.getfield 207, 3) := by decide +kernel
theorem d_WD_balance_66 : decode b_WD_balance 66 = .ok (.getfield 202, 3) := by decide +kernel
theorem d_WD_balance_69 : decode b_WD_balance 69 = .ok (.lreturn, 1) := by decide +kernel
theorem d_WD_balance_70 : decode b_WD_balance 70 = .ok (.aload_n 0, 1) := by decide +kernel
theorem d_WD_balance_71 : decode b_WD_balance 71 = .ok (.getfield 44, 3) := by decide +kernel
theorem d_WD_balance_74 : decode b_WD_balance 74 = .ok (.getfield 198, 3) := by decide +kernel
theorem d_WD_balance_77 : decode b_WD_balance 77 = .ok (.getfield 210, 3) := by decide +kernel
theorem d_WD_balance_80 : decode b_WD_balance 80 = .ok (.lreturn, 1) := by decide +kernel
theorem d_WD_balance_81 : decode b_WD_balance 81 = .ok (.aload_n 0, 1) := by decide +kernel
theorem d_WD_balance_82 : decode b_WD_balance 82 = .ok (.getfield 44, 3) := by decide +kernel
theorem d_WD_balance_85 : decode b_WD_balance 85 = .ok (.getfield 207, 3) := by decide +kernel
theorem d_WD_balance_88 : decode b_WD_balance 88 = .ok (.getfield 210, 3) := by decide +kernel
theorem d_WD_balance_91 : decode b_WD_balance 91 = .ok (.lreturn, 1) := by decide +kernel
theorem d_WD_balance_92 : decode b_WD_balance 92 = .ok (.aload_n 0, 1) := by decide +kernel
theorem d_WD_balance_93 : decode b_WD_balance 93 = .ok (.getfield 64, 3) := by decide +kernel
theorem d_WD_balance_96 : decode b_WD_balance 96 = .ok (.lreturn, 1) := by decide +kernel
abbrev b_WD_mould : ByteArray := prog_1_method_16_code
def y_WD_mould : MethodName := ⟨"WallDamp", "mould", "()I"⟩
def ws_WD_mould : List Cond := .code y_WD_mould b_WD_mould 1 (some (.int)) :: x_tb
theorem pd_WD_mould : y_WD_mould.cls ≠ "java/lang/invoke/MethodHandle" ∧ y_WD_mould.cls ≠ "java/lang/invoke/VarHandle" ∧ (parseMethodDescriptor y_WD_mould.desc).map (fun d => d.parameters.length) = some 0 := by decide +kernel
theorem d_WD_mould_0 : decode b_WD_mould 0 = .ok (.aload_n 0, 1) := by decide +kernel
theorem d_WD_mould_1 : decode b_WD_mould 1 = .ok (.getfield 61, 3) := by decide +kernel
theorem d_WD_mould_4 : decode b_WD_mould 4 = .ok (.ireturn, 1) := by decide +kernel
abbrev b_WD_order : ByteArray := prog_1_method_17_code
def y_WD_order : MethodName := ⟨"WallDamp", "order", "(II)I"⟩
def ws_WD_order : List Cond := .code y_WD_order b_WD_order 3 (some (.int)) :: x_tb
theorem pd_WD_order : y_WD_order.cls ≠ "java/lang/invoke/MethodHandle" ∧ y_WD_order.cls ≠ "java/lang/invoke/VarHandle" ∧ (parseMethodDescriptor y_WD_order.desc).map (fun d => d.parameters.length) = some 2 := by decide +kernel
theorem d_WD_order_0 : decode b_WD_order 0 = .ok (.iload_n 1, 1) := by decide +kernel
theorem d_WD_order_1 : decode b_WD_order 1 = .ok (.iconst 1, 1) := by decide +kernel
theorem d_WD_order_2 : decode b_WD_order 2 = .ok (.bipush 48, 2) := by decide +kernel
theorem d_WD_order_4 : decode b_WD_order 4 = .ok (.invokestatic 73, 3) := by decide +kernel
theorem d_WD_order_7 : decode b_WD_order 7 = .ok (.iload_n 2, 1) := by decide +kernel
theorem d_WD_order_8 : decode b_WD_order 8 = .ok (.iconst 0, 1) := by decide +kernel
theorem d_WD_order_9 : decode b_WD_order 9 = .ok (.aload_n 0, 1) := by decide +kernel
theorem d_WD_order_10 : decode b_WD_order 10 = .ok (.getfield 44, 3) := by decide +kernel
theorem d_WD_order_13 : decode b_WD_order 13 = .ok (.getfield 213, 3) := by decide +kernel
theorem d_WD_order_16 : decode b_WD_order 16 = .ok (.arraylength, 1) := by decide +kernel
theorem d_WD_order_17 : decode b_WD_order 17 = .ok (.iconst 1, 1) := by decide +kernel
theorem d_WD_order_18 : decode b_WD_order 18 = .ok (.isub, 1) := by decide +kernel
theorem d_WD_order_19 : decode b_WD_order 19 = .ok (.invokestatic 73, 3) := by decide +kernel
theorem d_WD_order_22 : decode b_WD_order 22 = .ok (.aload_n 0, 1) := by decide +kernel
theorem d_WD_order_23 : decode b_WD_order 23 = .ok (.getfield 44, 3) := by decide +kernel
theorem d_WD_order_26 : decode b_WD_order 26 = .ok (.getfield 213, 3) := by decide +kernel
theorem d_WD_order_29 : decode b_WD_order 29 = .ok (.arraylength, 1) := by decide +kernel
theorem d_WD_order_30 : decode b_WD_order 30 = .ok (.iconst 5, 1) := by decide +kernel
theorem d_WD_order_31 : decode b_WD_order 31 = .ok (.if_icmp .le 13, 3) := by decide +kernel
theorem d_WD_order_34 : decode b_WD_order 34 = .ok (.new 162, 3) := by decide +kernel
theorem d_WD_order_37 : decode b_WD_order 37 = .ok (.dup, 1) := by decide +kernel
theorem d_WD_order_38 : decode b_WD_order 38 = .ok (.ldc 217, 2) := by decide +kernel
theorem d_WD_order_40 : decode b_WD_order 40 = .ok (.invokespecial 166, 3) := by decide +kernel
theorem d_WD_order_43 : decode b_WD_order 43 = .ok (.athrow, 1) := by decide +kernel
theorem d_WD_order_44 : decode b_WD_order 44 = .ok (.aload_n 0, 1) := by decide +kernel
theorem d_WD_order_45 : decode b_WD_order 45 = .ok (.getfield 53, 3) := by decide +kernel
theorem d_WD_order_48 : decode b_WD_order 48 = .ok (.aload_n 0, 1) := by decide +kernel
theorem d_WD_order_49 : decode b_WD_order 49 = .ok (.getfield 44, 3) := by decide +kernel
theorem d_WD_order_52 : decode b_WD_order 52 = .ok (.aload_n 0, 1) := by decide +kernel
theorem d_WD_order_53 : decode b_WD_order 53 = .ok (.getfield 28, 3) := by decide +kernel
theorem d_WD_order_56 : decode b_WD_order 56 = .ok (.iload_n 1, 1) := by decide +kernel
theorem d_WD_order_57 : decode b_WD_order 57 = .ok (.invokevirtual 219, 3) := by decide +kernel
theorem d_WD_order_60 : decode b_WD_order 60 = .ok (.aload_n 0, 1) := by decide +kernel
theorem d_WD_order_61 : decode b_WD_order 61 = .ok (.getfield 53, 3) := by decide +kernel
theorem d_WD_order_64 : decode b_WD_order 64 = .ok (.getfield 223, 3) := by decide +kernel
theorem d_WD_order_67 : decode b_WD_order 67 = .ok (.iload_n 2, 1) := by decide +kernel
theorem d_WD_order_68 : decode b_WD_order 68 = .ok (.iaload, 1) := by decide +kernel
theorem d_WD_order_69 : decode b_WD_order 69 = .ok (.ireturn, 1) := by decide +kernel
abbrev b_WD_requireWithin : ByteArray := prog_1_method_18_code
def y_WD_requireWithin : MethodName := ⟨"WallDamp", "requireWithin", "(III)V"⟩
def ws_WD_requireWithin : List Cond := .code y_WD_requireWithin b_WD_requireWithin 3 none :: x_tb
theorem pd_WD_requireWithin : y_WD_requireWithin.cls ≠ "java/lang/invoke/MethodHandle" ∧ y_WD_requireWithin.cls ≠ "java/lang/invoke/VarHandle" ∧ (parseMethodDescriptor y_WD_requireWithin.desc).map (fun d => d.parameters.length) = some 3 := by decide +kernel
theorem d_WD_requireWithin_0 : decode b_WD_requireWithin 0 = .ok (.iload_n 0, 1) := by decide +kernel
theorem d_WD_requireWithin_1 : decode b_WD_requireWithin 1 = .ok (.iload_n 1, 1) := by decide +kernel
theorem d_WD_requireWithin_2 : decode b_WD_requireWithin 2 = .ok (.if_icmp .lt 8, 3) := by decide +kernel
theorem d_WD_requireWithin_5 : decode b_WD_requireWithin 5 = .ok (.iload_n 0, 1) := by decide +kernel
theorem d_WD_requireWithin_6 : decode b_WD_requireWithin 6 = .ok (.iload_n 2, 1) := by decide +kernel
theorem d_WD_requireWithin_7 : decode b_WD_requireWithin 7 = .ok (.if_icmp .le 13, 3) := by decide +kernel
theorem d_WD_requireWithin_10 : decode b_WD_requireWithin 10 = .ok (.new 226, 3) := by decide +kernel
theorem d_WD_requireWithin_13 : decode b_WD_requireWithin 13 = .ok (.dup, 1) := by decide +kernel
theorem d_WD_requireWithin_14 : decode b_WD_requireWithin 14 = .ok (.ldc 228, 2) := by decide +kernel
theorem d_WD_requireWithin_16 : decode b_WD_requireWithin 16 = .ok (.invokespecial 230, 3) := by decide +kernel
theorem d_WD_requireWithin_19 : decode b_WD_requireWithin 19 = .ok (.athrow, 1) := by decide +kernel
theorem d_WD_requireWithin_20 : decode b_WD_requireWithin 20 = .ok (.return_, 1) := by decide +kernel
abbrev b_WD_requireAir : ByteArray := prog_1_method_19_code
def y_WD_requireAir : MethodName := ⟨"WallDamp", "requireAir", "(III)V"⟩
def ws_WD_requireAir : List Cond := .code y_WD_requireAir b_WD_requireAir 3 none :: x_tb
theorem pd_WD_requireAir : y_WD_requireAir.cls ≠ "java/lang/invoke/MethodHandle" ∧ y_WD_requireAir.cls ≠ "java/lang/invoke/VarHandle" ∧ (parseMethodDescriptor y_WD_requireAir.desc).map (fun d => d.parameters.length) = some 3 := by decide +kernel
theorem d_WD_requireAir_0 : decode b_WD_requireAir 0 = .ok (.iload_n 0, 1) := by decide +kernel
theorem d_WD_requireAir_1 : decode b_WD_requireAir 1 = .ok (.iconst 0, 1) := by decide +kernel
theorem d_WD_requireAir_2 : decode b_WD_requireAir 2 = .ok (.bipush 23, 2) := by decide +kernel
theorem d_WD_requireAir_4 : decode b_WD_requireAir 4 = .ok (.invokestatic 73, 3) := by decide +kernel
theorem d_WD_requireAir_7 : decode b_WD_requireAir 7 = .ok (.iload_n 1, 1) := by decide +kernel
theorem d_WD_requireAir_8 : decode b_WD_requireAir 8 = .ok (.sipush (-5000), 3) := by decide +kernel
theorem d_WD_requireAir_11 : decode b_WD_requireAir 11 = .ok (.sipush 5000, 3) := by decide +kernel
theorem d_WD_requireAir_14 : decode b_WD_requireAir 14 = .ok (.invokestatic 73, 3) := by decide +kernel
theorem d_WD_requireAir_17 : decode b_WD_requireAir 17 = .ok (.iload_n 2, 1) := by decide +kernel
theorem d_WD_requireAir_18 : decode b_WD_requireAir 18 = .ok (.iconst 0, 1) := by decide +kernel
theorem d_WD_requireAir_19 : decode b_WD_requireAir 19 = .ok (.sipush 10000, 3) := by decide +kernel
theorem d_WD_requireAir_22 : decode b_WD_requireAir 22 = .ok (.invokestatic 73, 3) := by decide +kernel
theorem d_WD_requireAir_25 : decode b_WD_requireAir 25 = .ok (.return_, 1) := by decide +kernel
abbrev b_WD_requireNoHourOver : ByteArray := prog_1_method_20_code
def y_WD_requireNoHourOver : MethodName := ⟨"WallDamp", "requireNoHourOver", "()V"⟩
def ws_WD_requireNoHourOver : List Cond := .code y_WD_requireNoHourOver b_WD_requireNoHourOver 1 none :: x_tb
theorem pd_WD_requireNoHourOver : y_WD_requireNoHourOver.cls ≠ "java/lang/invoke/MethodHandle" ∧ y_WD_requireNoHourOver.cls ≠ "java/lang/invoke/VarHandle" ∧ (parseMethodDescriptor y_WD_requireNoHourOver.desc).map (fun d => d.parameters.length) = some 0 := by decide +kernel
theorem d_WD_requireNoHourOver_0 : decode b_WD_requireNoHourOver 0 = .ok (.aload_n 0, 1) := by decide +kernel
theorem d_WD_requireNoHourOver_1 : decode b_WD_requireNoHourOver 1 = .ok (.getfield 57, 3) := by decide +kernel
theorem d_WD_requireNoHourOver_4 : decode b_WD_requireNoHourOver 4 = .ok (.ifCond .le 13, 3) := by decide +kernel
theorem d_WD_requireNoHourOver_7 : decode b_WD_requireNoHourOver 7 = .ok (.new 162, 3) := by decide +kernel
theorem d_WD_requireNoHourOver_10 : decode b_WD_requireNoHourOver 10 = .ok (.dup, 1) := by decide +kernel
theorem d_WD_requireNoHourOver_11 : decode b_WD_requireNoHourOver 11 = .ok (.ldc 231, 2) := by decide +kernel
theorem d_WD_requireNoHourOver_13 : decode b_WD_requireNoHourOver 13 = .ok (.invokespecial 166, 3) := by decide +kernel
theorem d_WD_requireNoHourOver_16 : decode b_WD_requireNoHourOver 16 = .ok (.athrow, 1) := by decide +kernel
theorem d_WD_requireNoHourOver_17 : decode b_WD_requireNoHourOver 17 = .ok (.return_, 1) := by decide +kernel
abbrev b_WD_materialOf : ByteArray := prog_1_method_21_code
def y_WD_materialOf : MethodName := ⟨"WallDamp", "materialOf", "(I)LWallDamp$Material;"⟩
def ws_WD_materialOf : List Cond := .code y_WD_materialOf b_WD_materialOf 2 (some (.object "WallDamp$Material")) :: x_tb
theorem pd_WD_materialOf : y_WD_materialOf.cls ≠ "java/lang/invoke/MethodHandle" ∧ y_WD_materialOf.cls ≠ "java/lang/invoke/VarHandle" ∧ (parseMethodDescriptor y_WD_materialOf.desc).map (fun d => d.parameters.length) = some 1 := by decide +kernel
theorem d_WD_materialOf_0 : decode b_WD_materialOf 0 = .ok (.iload_n 1, 1) := by decide +kernel
theorem d_WD_materialOf_1 : decode b_WD_materialOf 1 = .ok (.iconst 0, 1) := by decide +kernel
theorem d_WD_materialOf_2 : decode b_WD_materialOf 2 = .ok (.aload_n 0, 1) := by decide +kernel
theorem d_WD_materialOf_3 : decode b_WD_materialOf 3 = .ok (.getfield 20, 3) := by decide +kernel
theorem d_WD_materialOf_6 : decode b_WD_materialOf 6 = .ok (.arraylength, 1) := by decide +kernel
theorem d_WD_materialOf_7 : decode b_WD_materialOf 7 = .ok (.iconst 1, 1) := by decide +kernel
theorem d_WD_materialOf_8 : decode b_WD_materialOf 8 = .ok (.isub, 1) := by decide +kernel
theorem d_WD_materialOf_9 : decode b_WD_materialOf 9 = .ok (.invokestatic 73, 3) := by decide +kernel
theorem d_WD_materialOf_12 : decode b_WD_materialOf 12 = .ok (.aload_n 0, 1) := by decide +kernel
theorem d_WD_materialOf_13 : decode b_WD_materialOf 13 = .ok (.getfield 20, 3) := by decide +kernel
theorem d_WD_materialOf_16 : decode b_WD_materialOf 16 = .ok (.iload_n 1, 1) := by decide +kernel
theorem d_WD_materialOf_17 : decode b_WD_materialOf 17 = .ok (.aaload, 1) := by decide +kernel
theorem d_WD_materialOf_18 : decode b_WD_materialOf 18 = .ok (.areturn, 1) := by decide +kernel
abbrev b_WD_cellAt : ByteArray := prog_1_method_22_code
def y_WD_cellAt : MethodName := ⟨"WallDamp", "cellAt", "(I)LWallDamp$Cell;"⟩
def ws_WD_cellAt : List Cond := .code y_WD_cellAt b_WD_cellAt 2 (some (.object "WallDamp$Cell")) :: x_tb
theorem pd_WD_cellAt : y_WD_cellAt.cls ≠ "java/lang/invoke/MethodHandle" ∧ y_WD_cellAt.cls ≠ "java/lang/invoke/VarHandle" ∧ (parseMethodDescriptor y_WD_cellAt.desc).map (fun d => d.parameters.length) = some 1 := by decide +kernel
theorem d_WD_cellAt_0 : decode b_WD_cellAt 0 = .ok (.iload_n 1, 1) := by decide +kernel
theorem d_WD_cellAt_1 : decode b_WD_cellAt 1 = .ok (.iconst 0, 1) := by decide +kernel
theorem d_WD_cellAt_2 : decode b_WD_cellAt 2 = .ok (.aload_n 0, 1) := by decide +kernel
theorem d_WD_cellAt_3 : decode b_WD_cellAt 3 = .ok (.getfield 44, 3) := by decide +kernel
theorem d_WD_cellAt_6 : decode b_WD_cellAt 6 = .ok (.getfield 213, 3) := by decide +kernel
theorem d_WD_cellAt_9 : decode b_WD_cellAt 9 = .ok (.arraylength, 1) := by decide +kernel
theorem d_WD_cellAt_10 : decode b_WD_cellAt 10 = .ok (.iconst 1, 1) := by decide +kernel
theorem d_WD_cellAt_11 : decode b_WD_cellAt 11 = .ok (.isub, 1) := by decide +kernel
theorem d_WD_cellAt_12 : decode b_WD_cellAt 12 = .ok (.invokestatic 73, 3) := by decide +kernel
theorem d_WD_cellAt_15 : decode b_WD_cellAt 15 = .ok (.aload_n 0, 1) := by decide +kernel
theorem d_WD_cellAt_16 : decode b_WD_cellAt 16 = .ok (.getfield 44, 3) := by decide +kernel
theorem d_WD_cellAt_19 : decode b_WD_cellAt 19 = .ok (.getfield 213, 3) := by decide +kernel
theorem d_WD_cellAt_22 : decode b_WD_cellAt 22 = .ok (.iload_n 1, 1) := by decide +kernel
theorem d_WD_cellAt_23 : decode b_WD_cellAt 23 = .ok (.aaload, 1) := by decide +kernel
theorem d_WD_cellAt_24 : decode b_WD_cellAt 24 = .ok (.areturn, 1) := by decide +kernel
abbrev b_WD_withCorner : ByteArray := prog_1_method_23_code
def y_WD_withCorner : MethodName := ⟨"WallDamp", "withCorner", "(LWallDamp$Corners;II)I"⟩
def ws_WD_withCorner : List Cond := .code y_WD_withCorner b_WD_withCorner 3 (some (.int)) :: x_tb
theorem pd_WD_withCorner : y_WD_withCorner.cls ≠ "java/lang/invoke/MethodHandle" ∧ y_WD_withCorner.cls ≠ "java/lang/invoke/VarHandle" ∧ (parseMethodDescriptor y_WD_withCorner.desc).map (fun d => d.parameters.length) = some 3 := by decide +kernel
theorem d_WD_withCorner_0 : decode b_WD_withCorner 0 = .ok (.aload_n 0, 1) := by decide +kernel
theorem d_WD_withCorner_1 : decode b_WD_withCorner 1 = .ok (.iload_n 1, 1) := by decide +kernel
theorem d_WD_withCorner_2 : decode b_WD_withCorner 2 = .ok (.iload_n 2, 1) := by decide +kernel
theorem d_WD_withCorner_3 : decode b_WD_withCorner 3 = .ok (.invokevirtual 233, 3) := by decide +kernel
theorem d_WD_withCorner_6 : decode b_WD_withCorner 6 = .ok (.ifCond .ne 13, 3) := by decide +kernel
theorem d_WD_withCorner_9 : decode b_WD_withCorner 9 = .ok (.new 162, 3) := by decide +kernel
theorem d_WD_withCorner_12 : decode b_WD_withCorner 12 = .ok (.dup, 1) := by decide +kernel
theorem d_WD_withCorner_13 : decode b_WD_withCorner 13 = .ok (.ldc 237, 2) := by decide +kernel
theorem d_WD_withCorner_15 : decode b_WD_withCorner 15 = .ok (.invokespecial 166, 3) := by decide +kernel
theorem d_WD_withCorner_18 : decode b_WD_withCorner 18 = .ok (.athrow, 1) := by decide +kernel
theorem d_WD_withCorner_19 : decode b_WD_withCorner 19 = .ok (.aload_n 0, 1) := by decide +kernel
theorem d_WD_withCorner_20 : decode b_WD_withCorner 20 = .ok (.iload_n 1, 1) := by decide +kernel
theorem d_WD_withCorner_21 : decode b_WD_withCorner 21 = .ok (.iload_n 2, 1) := by decide +kernel
theorem d_WD_withCorner_22 : decode b_WD_withCorner 22 = .ok (.invokevirtual 239, 3) := by decide +kernel
theorem d_WD_withCorner_25 : decode b_WD_withCorner 25 = .ok (.ireturn, 1) := by decide +kernel
abbrev b_WD_passHour : ByteArray := prog_1_method_24_code
def y_WD_passHour : MethodName := ⟨"WallDamp", "passHour", "()V"⟩
def ws_WD_passHour : List Cond := .code y_WD_passHour b_WD_passHour 1 none :: x_tb
theorem pd_WD_passHour : y_WD_passHour.cls ≠ "java/lang/invoke/MethodHandle" ∧ y_WD_passHour.cls ≠ "java/lang/invoke/VarHandle" ∧ (parseMethodDescriptor y_WD_passHour.desc).map (fun d => d.parameters.length) = some 0 := by decide +kernel
theorem d_WD_passHour_0 : decode b_WD_passHour 0 = .ok (.aload_n 0, 1) := by decide +kernel
theorem d_WD_passHour_1 : decode b_WD_passHour 1 = .ok (.getfield 44, 3) := by decide +kernel
theorem d_WD_passHour_4 : decode b_WD_passHour 4 = .ok (.aload_n 0, 1) := by decide +kernel
theorem d_WD_passHour_5 : decode b_WD_passHour 5 = .ok (.getfield 28, 3) := by decide +kernel
theorem d_WD_passHour_8 : decode b_WD_passHour 8 = .ok (.aload_n 0, 1) := by decide +kernel
theorem d_WD_passHour_9 : decode b_WD_passHour 9 = .ok (.getfield 57, 3) := by decide +kernel
theorem d_WD_passHour_12 : decode b_WD_passHour 12 = .ok (.invokevirtual 241, 3) := by decide +kernel
theorem d_WD_passHour_15 : decode b_WD_passHour 15 = .ok (.aload_n 0, 1) := by decide +kernel
theorem d_WD_passHour_16 : decode b_WD_passHour 16 = .ok (.getfield 44, 3) := by decide +kernel
theorem d_WD_passHour_19 : decode b_WD_passHour 19 = .ok (.invokevirtual 245, 3) := by decide +kernel
theorem d_WD_passHour_22 : decode b_WD_passHour 22 = .ok (.aload_n 0, 1) := by decide +kernel
theorem d_WD_passHour_23 : decode b_WD_passHour 23 = .ok (.invokevirtual 248, 3) := by decide +kernel
theorem d_WD_passHour_26 : decode b_WD_passHour 26 = .ok (.aload_n 0, 1) := by decide +kernel
theorem d_WD_passHour_27 : decode b_WD_passHour 27 = .ok (.dup, 1) := by decide +kernel
theorem d_WD_passHour_28 : decode b_WD_passHour 28 = .ok (.getfield 57, 3) := by decide +kernel
theorem d_WD_passHour_31 : decode b_WD_passHour 31 = .ok (.iconst 1, 1) := by decide +kernel
theorem d_WD_passHour_32 : decode b_WD_passHour 32 = .ok (.iadd, 1) := by decide +kernel
theorem d_WD_passHour_33 : decode b_WD_passHour 33 = .ok (.putfield 57, 3) := by decide +kernel
theorem d_WD_passHour_36 : decode b_WD_passHour 36 = .ok (.return_, 1) := by decide +kernel
abbrev b_WD_growMould : ByteArray := prog_1_method_25_code
def y_WD_growMould : MethodName := ⟨"WallDamp", "growMould", "()V"⟩
def ws_WD_growMould : List Cond := .code y_WD_growMould b_WD_growMould 3 none :: x_tb
theorem pd_WD_growMould : y_WD_growMould.cls ≠ "java/lang/invoke/MethodHandle" ∧ y_WD_growMould.cls ≠ "java/lang/invoke/VarHandle" ∧ (parseMethodDescriptor y_WD_growMould.desc).map (fun d => d.parameters.length) = some 0 := by decide +kernel
theorem d_WD_growMould_0 : decode b_WD_growMould 0 = .ok (.aload_n 0, 1) := by decide +kernel
theorem d_WD_growMould_1 : decode b_WD_growMould 1 = .ok (.getfield 44, 3) := by decide +kernel
theorem d_WD_growMould_4 : decode b_WD_growMould 4 = .ok (.invokevirtual 251, 3) := by decide +kernel
theorem d_WD_growMould_7 : decode b_WD_growMould 7 = .ok (.astore_n 1, 1) := by decide +kernel
theorem d_WD_growMould_8 : decode b_WD_growMould 8 = .ok (.aload_n 0, 1) := by decide +kernel
theorem d_WD_growMould_9 : decode b_WD_growMould 9 = .ok (.getfield 35, 3) := by decide +kernel
theorem d_WD_growMould_12 : decode b_WD_growMould 12 = .ok (.aload_n 1, 1) := by decide +kernel
theorem d_WD_growMould_13 : decode b_WD_growMould 13 = .ok (.invokevirtual 178, 3) := by decide +kernel
theorem d_WD_growMould_16 : decode b_WD_growMould 16 = .ok (.aload_n 1, 1) := by decide +kernel
theorem d_WD_growMould_17 : decode b_WD_growMould 17 = .ok (.getfield 181, 3) := by decide +kernel
theorem d_WD_growMould_20 : decode b_WD_growMould 20 = .ok (.invokevirtual 255, 3) := by decide +kernel
theorem d_WD_growMould_23 : decode b_WD_growMould 23 = .ok (.istore_n 2, 1) := by decide +kernel
theorem d_WD_growMould_24 : decode b_WD_growMould 24 = .ok (.iload_n 2, 1) := by decide +kernel
theorem d_WD_growMould_25 : decode b_WD_growMould 25 = .ok (.iconst (-1), 1) := by decide +kernel
theorem d_WD_growMould_26 : decode b_WD_growMould 26 = .ok (.if_icmp .ne 20, 3) := by decide +kernel
theorem d_WD_growMould_29 : decode b_WD_growMould 29 = .ok (.aload_n 0, 1) := by decide +kernel
theorem d_WD_growMould_30 : decode b_WD_growMould 30 = .ok (.iconst 0, 1) := by decide +kernel
theorem d_WD_growMould_31 : decode b_WD_growMould 31 = .ok (.aload_n 0, 1) := by decide +kernel
theorem d_WD_growMould_32 : decode b_WD_growMould 32 = .ok (.getfield 61, 3) := by decide +kernel
theorem d_WD_growMould_35 : decode b_WD_growMould 35 = .ok (.iconst 1, 1) := by decide +kernel
theorem d_WD_growMould_36 : decode b_WD_growMould 36 = .ok (.isub, 1) := by decide +kernel
theorem d_WD_growMould_37 : decode b_WD_growMould 37 = .ok (.invokestatic 15, 3) := by decide +kernel
theorem d_WD_growMould_40 : decode b_WD_growMould 40 = .ok (.putfield 61, 3) := by decide +kernel
theorem d_WD_growMould_43 : decode b_WD_growMould 43 = .ok (.goto 18, 3) := by decide +kernel
theorem d_WD_growMould_46 : decode b_WD_growMould 46 = .ok (.aload_n 0, 1) := by decide +kernel
theorem d_WD_growMould_47 : decode b_WD_growMould 47 = .ok (.ldc 72, 2) := by decide +kernel
theorem d_WD_growMould_49 : decode b_WD_growMould 49 = .ok (.aload_n 0, 1) := by decide +kernel
theorem d_WD_growMould_50 : decode b_WD_growMould 50 = .ok (.getfield 61, 3) := by decide +kernel
theorem d_WD_growMould_53 : decode b_WD_growMould 53 = .ok (.iload_n 2, 1) := by decide +kernel
theorem d_WD_growMould_54 : decode b_WD_growMould 54 = .ok (.iadd, 1) := by decide +kernel
theorem d_WD_growMould_55 : decode b_WD_growMould 55 = .ok (.invokestatic 9, 3) := by decide +kernel
theorem d_WD_growMould_58 : decode b_WD_growMould 58 = .ok (.putfield 61, 3) := by decide +kernel
theorem d_WD_growMould_61 : decode b_WD_growMould 61 = .ok (.return_, 1) := by decide +kernel
abbrev b_Air_init : ByteArray := prog_2_method_1_code
def y_Air_init : MethodName := ⟨"WallDamp$Air", "<init>", "()V"⟩
def ws_Air_init : List Cond := .code y_Air_init b_Air_init 1 none :: x_tb
theorem pd_Air_init : y_Air_init.cls ≠ "java/lang/invoke/MethodHandle" ∧ y_Air_init.cls ≠ "java/lang/invoke/VarHandle" ∧ (parseMethodDescriptor y_Air_init.desc).map (fun d => d.parameters.length) = some 0 := by decide +kernel
theorem d_Air_init_0 : decode b_Air_init 0 = .ok (.aload_n 0, 1) := by decide +kernel
theorem d_Air_init_1 : decode b_Air_init 1 = .ok (.invokespecial 1, 3) := by decide +kernel
theorem d_Air_init_4 : decode b_Air_init 4 = .ok (.aload_n 0, 1) := by decide +kernel
theorem d_Air_init_5 : decode b_Air_init 5 = .ok (.lconst 0, 1) := by decide +kernel
theorem d_Air_init_6 : decode b_Air_init 6 = .ok (.putfield 7, 3) := by decide +kernel
theorem d_Air_init_9 : decode b_Air_init 9 = .ok (.aload_n 0, 1) := by decide +kernel
theorem d_Air_init_10 : decode b_Air_init 10 = .ok (.lconst 0, 1) := by decide +kernel
theorem d_Air_init_11 : decode b_Air_init 11 = .ok (.putfield 13, 3) := by decide +kernel
theorem d_Air_init_14 : decode b_Air_init 14 = .ok (.return_, 1) := by decide +kernel
abbrev b_Air_give : ByteArray := prog_2_method_2_code
def y_Air_give : MethodName := ⟨"WallDamp$Air", "give", "(I)V"⟩
def ws_Air_give : List Cond := .code y_Air_give b_Air_give 2 none :: x_tb
theorem pd_Air_give : y_Air_give.cls ≠ "java/lang/invoke/MethodHandle" ∧ y_Air_give.cls ≠ "java/lang/invoke/VarHandle" ∧ (parseMethodDescriptor y_Air_give.desc).map (fun d => d.parameters.length) = some 1 := by decide +kernel
theorem d_Air_give_0 : decode b_Air_give 0 = .ok (.aload_n 0, 1) := by decide +kernel
theorem d_Air_give_1 : decode b_Air_give 1 = .ok (.dup, 1) := by decide +kernel
theorem d_Air_give_2 : decode b_Air_give 2 = .ok (.getfield 7, 3) := by decide +kernel
theorem d_Air_give_5 : decode b_Air_give 5 = .ok (.iload_n 1, 1) := by decide +kernel
theorem d_Air_give_6 : decode b_Air_give 6 = .ok (.i2l, 1) := by decide +kernel
theorem d_Air_give_7 : decode b_Air_give 7 = .ok (.ladd, 1) := by decide +kernel
theorem d_Air_give_8 : decode b_Air_give 8 = .ok (.putfield 7, 3) := by decide +kernel
theorem d_Air_give_11 : decode b_Air_give 11 = .ok (.return_, 1) := by decide +kernel
abbrev b_Air_take : ByteArray := prog_2_method_3_code
def y_Air_take : MethodName := ⟨"WallDamp$Air", "take", "(I)V"⟩
def ws_Air_take : List Cond := .code y_Air_take b_Air_take 2 none :: x_tb
theorem pd_Air_take : y_Air_take.cls ≠ "java/lang/invoke/MethodHandle" ∧ y_Air_take.cls ≠ "java/lang/invoke/VarHandle" ∧ (parseMethodDescriptor y_Air_take.desc).map (fun d => d.parameters.length) = some 1 := by decide +kernel
theorem d_Air_take_0 : decode b_Air_take 0 = .ok (.aload_n 0, 1) := by decide +kernel
theorem d_Air_take_1 : decode b_Air_take 1 = .ok (.dup, 1) := by decide +kernel
theorem d_Air_take_2 : decode b_Air_take 2 = .ok (.getfield 13, 3) := by decide +kernel
theorem d_Air_take_5 : decode b_Air_take 5 = .ok (.iload_n 1, 1) := by decide +kernel
theorem d_Air_take_6 : decode b_Air_take 6 = .ok (.i2l, 1) := by decide +kernel
theorem d_Air_take_7 : decode b_Air_take 7 = .ok (.ladd, 1) := by decide +kernel
theorem d_Air_take_8 : decode b_Air_take 8 = .ok (.putfield 13, 3) := by decide +kernel
theorem d_Air_take_11 : decode b_Air_take 11 = .ok (.return_, 1) := by decide +kernel
abbrev b_Air_beginHour : ByteArray := prog_2_method_4_code
def y_Air_beginHour : MethodName := ⟨"WallDamp$Air", "beginHour", "(LWallDamp$Surroundings;I)V"⟩
def ws_Air_beginHour : List Cond := .code y_Air_beginHour b_Air_beginHour 3 none :: x_tb
theorem pd_Air_beginHour : y_Air_beginHour.cls ≠ "java/lang/invoke/MethodHandle" ∧ y_Air_beginHour.cls ≠ "java/lang/invoke/VarHandle" ∧ (parseMethodDescriptor y_Air_beginHour.desc).map (fun d => d.parameters.length) = some 2 := by decide +kernel
theorem d_Air_beginHour_0 : decode b_Air_beginHour 0 = .ok (.aload_n 0, 1) := by decide +kernel
theorem d_Air_beginHour_1 : decode b_Air_beginHour 1 = .ok (.iload_n 2, 1) := by decide +kernel
theorem d_Air_beginHour_2 : decode b_Air_beginHour 2 = .ok (.aload_n 1, 1) := by decide +kernel
theorem d_Air_beginHour_3 : decode b_Air_beginHour 3 = .ok (.aload_n 0, 1) := by decide +kernel
theorem d_Air_beginHour_4 : decode b_Air_beginHour 4 = .ok (.getfield 16, 3) := by decide +kernel
theorem d_Air_beginHour_7 : decode b_Air_beginHour 7 = .ok (.iload_n 2, 1) := by decide +kernel
theorem d_Air_beginHour_8 : decode b_Air_beginHour 8 = .ok (.invokevirtual 20, 3) := by decide +kernel
theorem d_Air_beginHour_11 : decode b_Air_beginHour 11 = .ok (.ldc 26, 2) := by decide +kernel
theorem d_Air_beginHour_13 : decode b_Air_beginHour 13 = .ok (.ldc 26, 2) := by decide +kernel
theorem d_Air_beginHour_15 : decode b_Air_beginHour 15 = .ok (.invokevirtual 27, 3) := by decide +kernel
theorem d_Air_beginHour_18 : decode b_Air_beginHour 18 = .ok (.return_, 1) := by decide +kernel
abbrev b_Cell_init : ByteArray := prog_3_method_1_code
def y_Cell_init : MethodName := ⟨"WallDamp$Cell", "<init>", "(LWallDamp$Material;)V"⟩
def ws_Cell_init : List Cond := .code y_Cell_init b_Cell_init 2 none :: x_tb
theorem pd_Cell_init : y_Cell_init.cls ≠ "java/lang/invoke/MethodHandle" ∧ y_Cell_init.cls ≠ "java/lang/invoke/VarHandle" ∧ (parseMethodDescriptor y_Cell_init.desc).map (fun d => d.parameters.length) = some 1 := by decide +kernel
theorem d_Cell_init_0 : decode b_Cell_init 0 = .ok (.aload_n 0, 1) := by decide +kernel
theorem d_Cell_init_1 : decode b_Cell_init 1 = .ok (.invokespecial 3, 3) := by decide +kernel
theorem d_Cell_init_4 : decode b_Cell_init 4 = .ok (.aload_n 0, 1) := by decide +kernel
theorem d_Cell_init_5 : decode b_Cell_init 5 = .ok (.aload_n 1, 1) := by decide +kernel
theorem d_Cell_init_6 : decode b_Cell_init 6 = .ok (.putfield 9, 3) := by decide +kernel
theorem d_Cell_init_9 : decode b_Cell_init 9 = .ok (.aload_n 0, 1) := by decide +kernel
theorem d_Cell_init_10 : decode b_Cell_init 10 = .ok (.bipush 10, 2) := by decide +kernel
theorem d_Cell_init_12 : decode b_Cell_init 12 = .ok (.putfield 15, 3) := by decide +kernel
theorem d_Cell_init_15 : decode b_Cell_init 15 = .ok (.return_, 1) := by decide +kernel
abbrev b_Cell_give : ByteArray := prog_3_method_2_code
def y_Cell_give : MethodName := ⟨"WallDamp$Cell", "give", "(I)V"⟩
def ws_Cell_give : List Cond := .code y_Cell_give b_Cell_give 2 none :: x_tb
theorem pd_Cell_give : y_Cell_give.cls ≠ "java/lang/invoke/MethodHandle" ∧ y_Cell_give.cls ≠ "java/lang/invoke/VarHandle" ∧ (parseMethodDescriptor y_Cell_give.desc).map (fun d => d.parameters.length) = some 1 := by decide +kernel
theorem d_Cell_give_0 : decode b_Cell_give 0 = .ok (.aload_n 0, 1) := by decide +kernel
theorem d_Cell_give_1 : decode b_Cell_give 1 = .ok (.dup, 1) := by decide +kernel
theorem d_Cell_give_2 : decode b_Cell_give 2 = .ok (.getfield 19, 3) := by decide +kernel
theorem d_Cell_give_5 : decode b_Cell_give 5 = .ok (.iload_n 1, 1) := by decide +kernel
theorem d_Cell_give_6 : decode b_Cell_give 6 = .ok (.isub, 1) := by decide +kernel
theorem d_Cell_give_7 : decode b_Cell_give 7 = .ok (.putfield 19, 3) := by decide +kernel
theorem d_Cell_give_10 : decode b_Cell_give 10 = .ok (.return_, 1) := by decide +kernel
abbrev b_Cell_take : ByteArray := prog_3_method_3_code
def y_Cell_take : MethodName := ⟨"WallDamp$Cell", "take", "(I)V"⟩
def ws_Cell_take : List Cond := .code y_Cell_take b_Cell_take 2 none :: x_tb
theorem pd_Cell_take : y_Cell_take.cls ≠ "java/lang/invoke/MethodHandle" ∧ y_Cell_take.cls ≠ "java/lang/invoke/VarHandle" ∧ (parseMethodDescriptor y_Cell_take.desc).map (fun d => d.parameters.length) = some 1 := by decide +kernel
theorem d_Cell_take_0 : decode b_Cell_take 0 = .ok (.aload_n 0, 1) := by decide +kernel
theorem d_Cell_take_1 : decode b_Cell_take 1 = .ok (.dup, 1) := by decide +kernel
theorem d_Cell_take_2 : decode b_Cell_take 2 = .ok (.getfield 19, 3) := by decide +kernel
theorem d_Cell_take_5 : decode b_Cell_take 5 = .ok (.iload_n 1, 1) := by decide +kernel
theorem d_Cell_take_6 : decode b_Cell_take 6 = .ok (.iadd, 1) := by decide +kernel
theorem d_Cell_take_7 : decode b_Cell_take 7 = .ok (.putfield 19, 3) := by decide +kernel
theorem d_Cell_take_10 : decode b_Cell_take 10 = .ok (.return_, 1) := by decide +kernel
abbrev b_Cell_dampOfHeld : ByteArray := prog_3_method_4_code
def y_Cell_dampOfHeld : MethodName := ⟨"WallDamp$Cell", "dampOfHeld", "()I"⟩
def ws_Cell_dampOfHeld : List Cond := .code y_Cell_dampOfHeld b_Cell_dampOfHeld 1 (some (.int)) :: x_tb
theorem pd_Cell_dampOfHeld : y_Cell_dampOfHeld.cls ≠ "java/lang/invoke/MethodHandle" ∧ y_Cell_dampOfHeld.cls ≠ "java/lang/invoke/VarHandle" ∧ (parseMethodDescriptor y_Cell_dampOfHeld.desc).map (fun d => d.parameters.length) = some 0 := by decide +kernel
theorem d_Cell_dampOfHeld_0 : decode b_Cell_dampOfHeld 0 = .ok (.aload_n 0, 1) := by decide +kernel
theorem d_Cell_dampOfHeld_1 : decode b_Cell_dampOfHeld 1 = .ok (.getfield 9, 3) := by decide +kernel
theorem d_Cell_dampOfHeld_4 : decode b_Cell_dampOfHeld 4 = .ok (.getfield 22, 3) := by decide +kernel
theorem d_Cell_dampOfHeld_7 : decode b_Cell_dampOfHeld 7 = .ok (.aload_n 0, 1) := by decide +kernel
theorem d_Cell_dampOfHeld_8 : decode b_Cell_dampOfHeld 8 = .ok (.getfield 19, 3) := by decide +kernel
theorem d_Cell_dampOfHeld_11 : decode b_Cell_dampOfHeld 11 = .ok (.invokevirtual 28, 3) := by decide +kernel
theorem d_Cell_dampOfHeld_14 : decode b_Cell_dampOfHeld 14 = .ok (.ireturn, 1) := by decide +kernel
abbrev b_Cell_resistance : ByteArray := prog_3_method_5_code
def y_Cell_resistance : MethodName := ⟨"WallDamp$Cell", "resistance", "()I"⟩
def ws_Cell_resistance : List Cond := .code y_Cell_resistance b_Cell_resistance 2 (some (.int)) :: x_tb
theorem pd_Cell_resistance : y_Cell_resistance.cls ≠ "java/lang/invoke/MethodHandle" ∧ y_Cell_resistance.cls ≠ "java/lang/invoke/VarHandle" ∧ (parseMethodDescriptor y_Cell_resistance.desc).map (fun d => d.parameters.length) = some 0 := by decide +kernel
theorem d_Cell_resistance_0 : decode b_Cell_resistance 0 = .ok (.aload_n 0, 1) := by decide +kernel
theorem d_Cell_resistance_1 : decode b_Cell_resistance 1 = .ok (.getfield 9, 3) := by decide +kernel
theorem d_Cell_resistance_4 : decode b_Cell_resistance 4 = .ok (.getfield 34, 3) := by decide +kernel
theorem d_Cell_resistance_7 : decode b_Cell_resistance 7 = .ok (.istore_n 1, 1) := by decide +kernel
theorem d_Cell_resistance_8 : decode b_Cell_resistance 8 = .ok (.iload_n 1, 1) := by decide +kernel
theorem d_Cell_resistance_9 : decode b_Cell_resistance 9 = .ok (.iconst 1, 1) := by decide +kernel
theorem d_Cell_resistance_10 : decode b_Cell_resistance 10 = .ok (.if_icmp .ge 7, 3) := by decide +kernel
theorem d_Cell_resistance_13 : decode b_Cell_resistance 13 = .ok (.iconst 0, 1) := by decide +kernel
theorem d_Cell_resistance_14 : decode b_Cell_resistance 14 = .ok (.goto 12, 3) := by decide +kernel
theorem d_Cell_resistance_17 : decode b_Cell_resistance 17 = .ok (.bipush 100, 2) := by decide +kernel
theorem d_Cell_resistance_19 : decode b_Cell_resistance 19 = .ok (.aload_n 0, 1) := by decide +kernel
theorem d_Cell_resistance_20 : decode b_Cell_resistance 20 = .ok (.getfield 15, 3) := by decide +kernel
theorem d_Cell_resistance_23 : decode b_Cell_resistance 23 = .ok (.imul, 1) := by decide +kernel
theorem d_Cell_resistance_24 : decode b_Cell_resistance 24 = .ok (.iload_n 1, 1) := by decide +kernel
theorem d_Cell_resistance_25 : decode b_Cell_resistance 25 = .ok (.idiv, 1) := by decide +kernel
theorem d_Cell_resistance_26 : decode b_Cell_resistance 26 = .ok (.ireturn, 1) := by decide +kernel
abbrev b_Cell_layDry : ByteArray := prog_3_method_6_code
def y_Cell_layDry : MethodName := ⟨"WallDamp$Cell", "layDry", "(LWallDamp$Cell;)V"⟩
def ws_Cell_layDry : List Cond := .code y_Cell_layDry b_Cell_layDry 2 none :: x_tb
theorem pd_Cell_layDry : y_Cell_layDry.cls ≠ "java/lang/invoke/MethodHandle" ∧ y_Cell_layDry.cls ≠ "java/lang/invoke/VarHandle" ∧ (parseMethodDescriptor y_Cell_layDry.desc).map (fun d => d.parameters.length) = some 1 := by decide +kernel
theorem d_Cell_layDry_0 : decode b_Cell_layDry 0 = .ok (.aload_n 0, 1) := by decide +kernel
theorem d_Cell_layDry_1 : decode b_Cell_layDry 1 = .ok (.aload_n 1, 1) := by decide +kernel
theorem d_Cell_layDry_2 : decode b_Cell_layDry 2 = .ok (.getfield 9, 3) := by decide +kernel
theorem d_Cell_layDry_5 : decode b_Cell_layDry 5 = .ok (.putfield 9, 3) := by decide +kernel
theorem d_Cell_layDry_8 : decode b_Cell_layDry 8 = .ok (.aload_n 0, 1) := by decide +kernel
theorem d_Cell_layDry_9 : decode b_Cell_layDry 9 = .ok (.aload_n 1, 1) := by decide +kernel
theorem d_Cell_layDry_10 : decode b_Cell_layDry 10 = .ok (.getfield 15, 3) := by decide +kernel
theorem d_Cell_layDry_13 : decode b_Cell_layDry 13 = .ok (.putfield 15, 3) := by decide +kernel
theorem d_Cell_layDry_16 : decode b_Cell_layDry 16 = .ok (.aload_n 0, 1) := by decide +kernel
theorem d_Cell_layDry_17 : decode b_Cell_layDry 17 = .ok (.aload_n 1, 1) := by decide +kernel
theorem d_Cell_layDry_18 : decode b_Cell_layDry 18 = .ok (.getfield 37, 3) := by decide +kernel
theorem d_Cell_layDry_21 : decode b_Cell_layDry 21 = .ok (.putfield 37, 3) := by decide +kernel
theorem d_Cell_layDry_24 : decode b_Cell_layDry 24 = .ok (.aload_n 0, 1) := by decide +kernel
theorem d_Cell_layDry_25 : decode b_Cell_layDry 25 = .ok (.iconst 0, 1) := by decide +kernel
theorem d_Cell_layDry_26 : decode b_Cell_layDry 26 = .ok (.putfield 19, 3) := by decide +kernel
theorem d_Cell_layDry_29 : decode b_Cell_layDry 29 = .ok (.return_, 1) := by decide +kernel
abbrev b_Cell_beginHour : ByteArray := prog_3_method_7_code
def y_Cell_beginHour : MethodName := ⟨"WallDamp$Cell", "beginHour", "(LWallDamp$Surroundings;)V"⟩
def ws_Cell_beginHour : List Cond := .code y_Cell_beginHour b_Cell_beginHour 3 none :: x_tb
theorem pd_Cell_beginHour : y_Cell_beginHour.cls ≠ "java/lang/invoke/MethodHandle" ∧ y_Cell_beginHour.cls ≠ "java/lang/invoke/VarHandle" ∧ (parseMethodDescriptor y_Cell_beginHour.desc).map (fun d => d.parameters.length) = some 1 := by decide +kernel
theorem d_Cell_beginHour_0 : decode b_Cell_beginHour 0 = .ok (.aload_n 0, 1) := by decide +kernel
theorem d_Cell_beginHour_1 : decode b_Cell_beginHour 1 = .ok (.invokevirtual 40, 3) := by decide +kernel
theorem d_Cell_beginHour_4 : decode b_Cell_beginHour 4 = .ok (.istore_n 2, 1) := by decide +kernel
theorem d_Cell_beginHour_5 : decode b_Cell_beginHour 5 = .ok (.aload_n 0, 1) := by decide +kernel
theorem d_Cell_beginHour_6 : decode b_Cell_beginHour 6 = .ok (.iload_n 2, 1) := by decide +kernel
theorem d_Cell_beginHour_7 : decode b_Cell_beginHour 7 = .ok (.aload_n 1, 1) := by decide +kernel
theorem d_Cell_beginHour_8 : decode b_Cell_beginHour 8 = .ok (.aload_n 0, 1) := by decide +kernel
theorem d_Cell_beginHour_9 : decode b_Cell_beginHour 9 = .ok (.getfield 44, 3) := by decide +kernel
theorem d_Cell_beginHour_12 : decode b_Cell_beginHour 12 = .ok (.iload_n 2, 1) := by decide +kernel
theorem d_Cell_beginHour_13 : decode b_Cell_beginHour 13 = .ok (.invokevirtual 47, 3) := by decide +kernel
theorem d_Cell_beginHour_16 : decode b_Cell_beginHour 16 = .ok (.aload_n 0, 1) := by decide +kernel
theorem d_Cell_beginHour_17 : decode b_Cell_beginHour 17 = .ok (.getfield 19, 3) := by decide +kernel
theorem d_Cell_beginHour_20 : decode b_Cell_beginHour 20 = .ok (.aload_n 0, 1) := by decide +kernel
theorem d_Cell_beginHour_21 : decode b_Cell_beginHour 21 = .ok (.getfield 9, 3) := by decide +kernel
theorem d_Cell_beginHour_24 : decode b_Cell_beginHour 24 = .ok (.invokevirtual 53, 3) := by decide +kernel
theorem d_Cell_beginHour_27 : decode b_Cell_beginHour 27 = .ok (.aload_n 0, 1) := by decide +kernel
theorem d_Cell_beginHour_28 : decode b_Cell_beginHour 28 = .ok (.getfield 19, 3) := by decide +kernel
theorem d_Cell_beginHour_31 : decode b_Cell_beginHour 31 = .ok (.isub, 1) := by decide +kernel
theorem d_Cell_beginHour_32 : decode b_Cell_beginHour 32 = .ok (.invokevirtual 56, 3) := by decide +kernel
theorem d_Cell_beginHour_35 : decode b_Cell_beginHour 35 = .ok (.return_, 1) := by decide +kernel
abbrev b_Cell_endHour : ByteArray := prog_3_method_8_code
def y_Cell_endHour : MethodName := ⟨"WallDamp$Cell", "endHour", "()V"⟩
def ws_Cell_endHour : List Cond := .code y_Cell_endHour b_Cell_endHour 2 none :: x_tb
theorem pd_Cell_endHour : y_Cell_endHour.cls ≠ "java/lang/invoke/MethodHandle" ∧ y_Cell_endHour.cls ≠ "java/lang/invoke/VarHandle" ∧ (parseMethodDescriptor y_Cell_endHour.desc).map (fun d => d.parameters.length) = some 0 := by decide +kernel
theorem d_Cell_endHour_0 : decode b_Cell_endHour 0 = .ok (.aload_n 0, 1) := by decide +kernel
theorem d_Cell_endHour_1 : decode b_Cell_endHour 1 = .ok (.invokevirtual 40, 3) := by decide +kernel
theorem d_Cell_endHour_4 : decode b_Cell_endHour 4 = .ok (.istore_n 1, 1) := by decide +kernel
theorem d_Cell_endHour_5 : decode b_Cell_endHour 5 = .ok (.aload_n 0, 1) := by decide +kernel
theorem d_Cell_endHour_6 : decode b_Cell_endHour 6 = .ok (.aload_n 0, 1) := by decide +kernel
theorem d_Cell_endHour_7 : decode b_Cell_endHour 7 = .ok (.getfield 60, 3) := by decide +kernel
theorem d_Cell_endHour_10 : decode b_Cell_endHour 10 = .ok (.iload_n 1, 1) := by decide +kernel
theorem d_Cell_endHour_11 : decode b_Cell_endHour 11 = .ok (.invokestatic 63, 3) := by decide +kernel
theorem d_Cell_endHour_14 : decode b_Cell_endHour 14 = .ok (.putfield 60, 3) := by decide +kernel
theorem d_Cell_endHour_17 : decode b_Cell_endHour 17 = .ok (.aload_n 0, 1) := by decide +kernel
theorem d_Cell_endHour_18 : decode b_Cell_endHour 18 = .ok (.getfield 68, 3) := by decide +kernel
theorem d_Cell_endHour_21 : decode b_Cell_endHour 21 = .ok (.ifCond .eq 28, 3) := by decide +kernel
theorem d_Cell_endHour_24 : decode b_Cell_endHour 24 = .ok (.aload_n 0, 1) := by decide +kernel
theorem d_Cell_endHour_25 : decode b_Cell_endHour 25 = .ok (.getfield 44, 3) := by decide +kernel
theorem d_Cell_endHour_28 : decode b_Cell_endHour 28 = .ok (.ifCond .lt 21, 3) := by decide +kernel
theorem d_Cell_endHour_31 : decode b_Cell_endHour 31 = .ok (.aload_n 0, 1) := by decide +kernel
theorem d_Cell_endHour_32 : decode b_Cell_endHour 32 = .ok (.iconst 0, 1) := by decide +kernel
theorem d_Cell_endHour_33 : decode b_Cell_endHour 33 = .ok (.putfield 68, 3) := by decide +kernel
theorem d_Cell_endHour_36 : decode b_Cell_endHour 36 = .ok (.aload_n 0, 1) := by decide +kernel
theorem d_Cell_endHour_37 : decode b_Cell_endHour 37 = .ok (.dup, 1) := by decide +kernel
theorem d_Cell_endHour_38 : decode b_Cell_endHour 38 = .ok (.getfield 72, 3) := by decide +kernel
theorem d_Cell_endHour_41 : decode b_Cell_endHour 41 = .ok (.iconst 1, 1) := by decide +kernel
theorem d_Cell_endHour_42 : decode b_Cell_endHour 42 = .ok (.iadd, 1) := by decide +kernel
theorem d_Cell_endHour_43 : decode b_Cell_endHour 43 = .ok (.putfield 72, 3) := by decide +kernel
theorem d_Cell_endHour_46 : decode b_Cell_endHour 46 = .ok (.goto 22, 3) := by decide +kernel
theorem d_Cell_endHour_49 : decode b_Cell_endHour 49 = .ok (.aload_n 0, 1) := by decide +kernel
theorem d_Cell_endHour_50 : decode b_Cell_endHour 50 = .ok (.getfield 44, 3) := by decide +kernel
theorem d_Cell_endHour_53 : decode b_Cell_endHour 53 = .ok (.ifCond .ge 15, 3) := by decide +kernel
theorem d_Cell_endHour_56 : decode b_Cell_endHour 56 = .ok (.iload_n 1, 1) := by decide +kernel
theorem d_Cell_endHour_57 : decode b_Cell_endHour 57 = .ok (.sipush 9000, 3) := by decide +kernel
theorem d_Cell_endHour_60 : decode b_Cell_endHour 60 = .ok (.if_icmp .lt 8, 3) := by decide +kernel
theorem d_Cell_endHour_63 : decode b_Cell_endHour 63 = .ok (.aload_n 0, 1) := by decide +kernel
theorem d_Cell_endHour_64 : decode b_Cell_endHour 64 = .ok (.iconst 1, 1) := by decide +kernel
theorem d_Cell_endHour_65 : decode b_Cell_endHour 65 = .ok (.putfield 68, 3) := by decide +kernel
theorem d_Cell_endHour_68 : decode b_Cell_endHour 68 = .ok (.return_, 1) := by decide +kernel
abbrev b_Corners_init : ByteArray := prog_4_method_1_code
def y_Corners_init : MethodName := ⟨"WallDamp$Corners", "<init>", "(I)V"⟩
def ws_Corners_init : List Cond := .code y_Corners_init b_Corners_init 2 none :: x_tb
theorem pd_Corners_init : y_Corners_init.cls ≠ "java/lang/invoke/MethodHandle" ∧ y_Corners_init.cls ≠ "java/lang/invoke/VarHandle" ∧ (parseMethodDescriptor y_Corners_init.desc).map (fun d => d.parameters.length) = some 1 := by decide +kernel
theorem d_Corners_init_0 : decode b_Corners_init 0 = .ok (.aload_n 0, 1) := by decide +kernel
theorem d_Corners_init_1 : decode b_Corners_init 1 = .ok (.invokespecial 1, 3) := by decide +kernel
theorem d_Corners_init_4 : decode b_Corners_init 4 = .ok (.aload_n 0, 1) := by decide +kernel
theorem d_Corners_init_5 : decode b_Corners_init 5 = .ok (.bipush 8, 2) := by decide +kernel
theorem d_Corners_init_7 : decode b_Corners_init 7 = .ok (.newarray .int, 2) := by decide +kernel
theorem d_Corners_init_9 : decode b_Corners_init 9 = .ok (.putfield 9, 3) := by decide +kernel
theorem d_Corners_init_12 : decode b_Corners_init 12 = .ok (.aload_n 0, 1) := by decide +kernel
theorem d_Corners_init_13 : decode b_Corners_init 13 = .ok (.bipush 8, 2) := by decide +kernel
theorem d_Corners_init_15 : decode b_Corners_init 15 = .ok (.newarray .int, 2) := by decide +kernel
theorem d_Corners_init_17 : decode b_Corners_init 17 = .ok (.putfield 13, 3) := by decide +kernel
theorem d_Corners_init_20 : decode b_Corners_init 20 = .ok (.aload_n 0, 1) := by decide +kernel
theorem d_Corners_init_21 : decode b_Corners_init 21 = .ok (.iload_n 1, 1) := by decide +kernel
theorem d_Corners_init_22 : decode b_Corners_init 22 = .ok (.bipush 8, 2) := by decide +kernel
theorem d_Corners_init_24 : decode b_Corners_init 24 = .ok (.invokestatic 16, 3) := by decide +kernel
theorem d_Corners_init_27 : decode b_Corners_init 27 = .ok (.putfield 22, 3) := by decide +kernel
theorem d_Corners_init_30 : decode b_Corners_init 30 = .ok (.aload_n 0, 1) := by decide +kernel
theorem d_Corners_init_31 : decode b_Corners_init 31 = .ok (.iconst 0, 1) := by decide +kernel
theorem d_Corners_init_32 : decode b_Corners_init 32 = .ok (.putfield 26, 3) := by decide +kernel
theorem d_Corners_init_35 : decode b_Corners_init 35 = .ok (.return_, 1) := by decide +kernel
abbrev b_Corners_canAdd : ByteArray := prog_4_method_2_code
def y_Corners_canAdd : MethodName := ⟨"WallDamp$Corners", "canAdd", "(II)Z"⟩
def ws_Corners_canAdd : List Cond := .code y_Corners_canAdd b_Corners_canAdd 3 (some (.boolean)) :: x_tb
theorem pd_Corners_canAdd : y_Corners_canAdd.cls ≠ "java/lang/invoke/MethodHandle" ∧ y_Corners_canAdd.cls ≠ "java/lang/invoke/VarHandle" ∧ (parseMethodDescriptor y_Corners_canAdd.desc).map (fun d => d.parameters.length) = some 2 := by decide +kernel
theorem d_Corners_canAdd_0 : decode b_Corners_canAdd 0 = .ok (.aload_n 0, 1) := by decide +kernel
theorem d_Corners_canAdd_1 : decode b_Corners_canAdd 1 = .ok (.getfield 26, 3) := by decide +kernel
theorem d_Corners_canAdd_4 : decode b_Corners_canAdd 4 = .ok (.aload_n 0, 1) := by decide +kernel
theorem d_Corners_canAdd_5 : decode b_Corners_canAdd 5 = .ok (.getfield 22, 3) := by decide +kernel
theorem d_Corners_canAdd_8 : decode b_Corners_canAdd 8 = .ok (.if_icmp .lt 5, 3) := by decide +kernel
theorem d_Corners_canAdd_11 : decode b_Corners_canAdd 11 = .ok (.iconst 0, 1) := by decide +kernel
theorem d_Corners_canAdd_12 : decode b_Corners_canAdd 12 = .ok (.ireturn, 1) := by decide +kernel
theorem d_Corners_canAdd_13 : decode b_Corners_canAdd 13 = .ok (.aload_n 0, 1) := by decide +kernel
theorem d_Corners_canAdd_14 : decode b_Corners_canAdd 14 = .ok (.getfield 26, 3) := by decide +kernel
theorem d_Corners_canAdd_17 : decode b_Corners_canAdd 17 = .ok (.ifCond .eq 33, 3) := by decide +kernel
theorem d_Corners_canAdd_20 : decode b_Corners_canAdd 20 = .ok (.iload_n 1, 1) := by decide +kernel
theorem d_Corners_canAdd_21 : decode b_Corners_canAdd 21 = .ok (.aload_n 0, 1) := by decide +kernel
theorem d_Corners_canAdd_22 : decode b_Corners_canAdd 22 = .ok (.getfield 9, 3) := by decide +kernel
theorem d_Corners_canAdd_25 : decode b_Corners_canAdd 25 = .ok (.aload_n 0, 1) := by decide +kernel
theorem d_Corners_canAdd_26 : decode b_Corners_canAdd 26 = .ok (.getfield 26, 3) := by decide +kernel
theorem d_Corners_canAdd_29 : decode b_Corners_canAdd 29 = .ok (.iconst 1, 1) := by decide +kernel
theorem d_Corners_canAdd_30 : decode b_Corners_canAdd 30 = .ok (.isub, 1) := by decide +kernel
theorem d_Corners_canAdd_31 : decode b_Corners_canAdd 31 = .ok (.iaload, 1) := by decide +kernel
theorem d_Corners_canAdd_32 : decode b_Corners_canAdd 32 = .ok (.if_icmp .le 22, 3) := by decide +kernel
theorem d_Corners_canAdd_35 : decode b_Corners_canAdd 35 = .ok (.iload_n 2, 1) := by decide +kernel
theorem d_Corners_canAdd_36 : decode b_Corners_canAdd 36 = .ok (.aload_n 0, 1) := by decide +kernel
theorem d_Corners_canAdd_37 : decode b_Corners_canAdd 37 = .ok (.getfield 13, 3) := by decide +kernel
theorem d_Corners_canAdd_40 : decode b_Corners_canAdd 40 = .ok (.aload_n 0, 1) := by decide +kernel
theorem d_Corners_canAdd_41 : decode b_Corners_canAdd 41 = .ok (.getfield 26, 3) := by decide +kernel
theorem d_Corners_canAdd_44 : decode b_Corners_canAdd 44 = .ok (.iconst 1, 1) := by decide +kernel
theorem d_Corners_canAdd_45 : decode b_Corners_canAdd 45 = .ok (.isub, 1) := by decide +kernel
theorem d_Corners_canAdd_46 : decode b_Corners_canAdd 46 = .ok (.iaload, 1) := by decide +kernel
theorem d_Corners_canAdd_47 : decode b_Corners_canAdd 47 = .ok (.if_icmp .le 7, 3) := by decide +kernel
theorem d_Corners_canAdd_50 : decode b_Corners_canAdd 50 = .ok (.iconst 1, 1) := by decide +kernel
theorem d_Corners_canAdd_51 : decode b_Corners_canAdd 51 = .ok (.goto 4, 3) := by decide +kernel
theorem d_Corners_canAdd_54 : decode b_Corners_canAdd 54 = .ok (.iconst 0, 1) := by decide +kernel
theorem d_Corners_canAdd_55 : decode b_Corners_canAdd 55 = .ok (.ireturn, 1) := by decide +kernel
abbrev b_Corners_add : ByteArray := prog_4_method_3_code
def y_Corners_add : MethodName := ⟨"WallDamp$Corners", "add", "(II)I"⟩
def ws_Corners_add : List Cond := .code y_Corners_add b_Corners_add 3 (some (.int)) :: x_tb
theorem pd_Corners_add : y_Corners_add.cls ≠ "java/lang/invoke/MethodHandle" ∧ y_Corners_add.cls ≠ "java/lang/invoke/VarHandle" ∧ (parseMethodDescriptor y_Corners_add.desc).map (fun d => d.parameters.length) = some 2 := by decide +kernel
theorem d_Corners_add_0 : decode b_Corners_add 0 = .ok (.aload_n 0, 1) := by decide +kernel
theorem d_Corners_add_1 : decode b_Corners_add 1 = .ok (.getfield 26, 3) := by decide +kernel
theorem d_Corners_add_4 : decode b_Corners_add 4 = .ok (.aload_n 0, 1) := by decide +kernel
theorem d_Corners_add_5 : decode b_Corners_add 5 = .ok (.getfield 9, 3) := by decide +kernel
theorem d_Corners_add_8 : decode b_Corners_add 8 = .ok (.arraylength, 1) := by decide +kernel
theorem d_Corners_add_9 : decode b_Corners_add 9 = .ok (.if_icmp .ge 33, 3) := by decide +kernel
theorem d_Corners_add_12 : decode b_Corners_add 12 = .ok (.aload_n 0, 1) := by decide +kernel
theorem d_Corners_add_13 : decode b_Corners_add 13 = .ok (.getfield 9, 3) := by decide +kernel
theorem d_Corners_add_16 : decode b_Corners_add 16 = .ok (.aload_n 0, 1) := by decide +kernel
theorem d_Corners_add_17 : decode b_Corners_add 17 = .ok (.getfield 26, 3) := by decide +kernel
theorem d_Corners_add_20 : decode b_Corners_add 20 = .ok (.iload_n 1, 1) := by decide +kernel
theorem d_Corners_add_21 : decode b_Corners_add 21 = .ok (.iastore, 1) := by decide +kernel
theorem d_Corners_add_22 : decode b_Corners_add 22 = .ok (.aload_n 0, 1) := by decide +kernel
theorem d_Corners_add_23 : decode b_Corners_add 23 = .ok (.getfield 13, 3) := by decide +kernel
theorem d_Corners_add_26 : decode b_Corners_add 26 = .ok (.aload_n 0, 1) := by decide +kernel
theorem d_Corners_add_27 : decode b_Corners_add 27 = .ok (.getfield 26, 3) := by decide +kernel
theorem d_Corners_add_30 : decode b_Corners_add 30 = .ok (.iload_n 2, 1) := by decide +kernel
theorem d_Corners_add_31 : decode b_Corners_add 31 = .ok (.iastore, 1) := by decide +kernel
theorem d_Corners_add_32 : decode b_Corners_add 32 = .ok (.aload_n 0, 1) := by decide +kernel
theorem d_Corners_add_33 : decode b_Corners_add 33 = .ok (.dup, 1) := by decide +kernel
theorem d_Corners_add_34 : decode b_Corners_add 34 = .ok (.getfield 26, 3) := by decide +kernel
theorem d_Corners_add_37 : decode b_Corners_add 37 = .ok (.iconst 1, 1) := by decide +kernel
theorem d_Corners_add_38 : decode b_Corners_add 38 = .ok (.iadd, 1) := by decide +kernel
theorem d_Corners_add_39 : decode b_Corners_add 39 = .ok (.putfield 26, 3) := by decide +kernel
theorem d_Corners_add_42 : decode b_Corners_add 42 = .ok (.aload_n 0, 1) := by decide +kernel
theorem d_Corners_add_43 : decode b_Corners_add 43 = .ok (.getfield 26, 3) := by decide +kernel
theorem d_Corners_add_46 : decode b_Corners_add 46 = .ok (.ireturn, 1) := by decide +kernel
abbrev b_Corners_lastX : ByteArray := prog_4_method_4_code
def y_Corners_lastX : MethodName := ⟨"WallDamp$Corners", "lastX", "()I"⟩
def ws_Corners_lastX : List Cond := .code y_Corners_lastX b_Corners_lastX 1 (some (.int)) :: x_tb
theorem pd_Corners_lastX : y_Corners_lastX.cls ≠ "java/lang/invoke/MethodHandle" ∧ y_Corners_lastX.cls ≠ "java/lang/invoke/VarHandle" ∧ (parseMethodDescriptor y_Corners_lastX.desc).map (fun d => d.parameters.length) = some 0 := by decide +kernel
theorem d_Corners_lastX_0 : decode b_Corners_lastX 0 = .ok (.aload_n 0, 1) := by decide +kernel
theorem d_Corners_lastX_1 : decode b_Corners_lastX 1 = .ok (.getfield 26, 3) := by decide +kernel
theorem d_Corners_lastX_4 : decode b_Corners_lastX 4 = .ok (.ifCond .ne 7, 3) := by decide +kernel
theorem d_Corners_lastX_7 : decode b_Corners_lastX 7 = .ok (.iconst 0, 1) := by decide +kernel
theorem d_Corners_lastX_8 : decode b_Corners_lastX 8 = .ok (.goto 14, 3) := by decide +kernel
theorem d_Corners_lastX_11 : decode b_Corners_lastX 11 = .ok (.aload_n 0, 1) := by decide +kernel
theorem d_Corners_lastX_12 : decode b_Corners_lastX 12 = .ok (.getfield 9, 3) := by decide +kernel
theorem d_Corners_lastX_15 : decode b_Corners_lastX 15 = .ok (.aload_n 0, 1) := by decide +kernel
theorem d_Corners_lastX_16 : decode b_Corners_lastX 16 = .ok (.getfield 26, 3) := by decide +kernel
theorem d_Corners_lastX_19 : decode b_Corners_lastX 19 = .ok (.iconst 1, 1) := by decide +kernel
theorem d_Corners_lastX_20 : decode b_Corners_lastX 20 = .ok (.isub, 1) := by decide +kernel
theorem d_Corners_lastX_21 : decode b_Corners_lastX 21 = .ok (.iaload, 1) := by decide +kernel
theorem d_Corners_lastX_22 : decode b_Corners_lastX 22 = .ok (.ireturn, 1) := by decide +kernel
abbrev b_Corners_heightAt : ByteArray := prog_4_method_5_code
def y_Corners_heightAt : MethodName := ⟨"WallDamp$Corners", "heightAt", "(I)I"⟩
def ws_Corners_heightAt : List Cond := .code y_Corners_heightAt b_Corners_heightAt 6 (some (.int)) :: x_tb
theorem pd_Corners_heightAt : y_Corners_heightAt.cls ≠ "java/lang/invoke/MethodHandle" ∧ y_Corners_heightAt.cls ≠ "java/lang/invoke/VarHandle" ∧ (parseMethodDescriptor y_Corners_heightAt.desc).map (fun d => d.parameters.length) = some 1 := by decide +kernel
theorem d_Corners_heightAt_0 : decode b_Corners_heightAt 0 = .ok (.aload_n 0, 1) := by decide +kernel
theorem d_Corners_heightAt_1 : decode b_Corners_heightAt 1 = .ok (.getfield 26, 3) := by decide +kernel
theorem d_Corners_heightAt_4 : decode b_Corners_heightAt 4 = .ok (.ifCond .ne 5, 3) := by decide +kernel
theorem d_Corners_heightAt_7 : decode b_Corners_heightAt 7 = .ok (.iconst 0, 1) := by decide +kernel
theorem d_Corners_heightAt_8 : decode b_Corners_heightAt 8 = .ok (.ireturn, 1) := by decide +kernel
theorem d_Corners_heightAt_9 : decode b_Corners_heightAt 9 = .ok (.iload_n 1, 1) := by decide +kernel
theorem d_Corners_heightAt_10 : decode b_Corners_heightAt 10 = .ok (.aload_n 0, 1) := by decide +kernel
theorem d_Corners_heightAt_11 : decode b_Corners_heightAt 11 = .ok (.getfield 9, 3) := by decide +kernel
theorem d_Corners_heightAt_14 : decode b_Corners_heightAt 14 = .ok (.iconst 0, 1) := by decide +kernel
theorem d_Corners_heightAt_15 : decode b_Corners_heightAt 15 = .ok (.iaload, 1) := by decide +kernel
theorem d_Corners_heightAt_16 : decode b_Corners_heightAt 16 = .ok (.if_icmp .gt 10, 3) := by decide +kernel
theorem d_Corners_heightAt_19 : decode b_Corners_heightAt 19 = .ok (.aload_n 0, 1) := by decide +kernel
theorem d_Corners_heightAt_20 : decode b_Corners_heightAt 20 = .ok (.getfield 13, 3) := by decide +kernel
theorem d_Corners_heightAt_23 : decode b_Corners_heightAt 23 = .ok (.iconst 0, 1) := by decide +kernel
theorem d_Corners_heightAt_24 : decode b_Corners_heightAt 24 = .ok (.iaload, 1) := by decide +kernel
theorem d_Corners_heightAt_25 : decode b_Corners_heightAt 25 = .ok (.ireturn, 1) := by decide +kernel
theorem d_Corners_heightAt_26 : decode b_Corners_heightAt 26 = .ok (.iconst 1, 1) := by decide +kernel
theorem d_Corners_heightAt_27 : decode b_Corners_heightAt 27 = .ok (.istore_n 2, 1) := by decide +kernel
theorem d_Corners_heightAt_28 : decode b_Corners_heightAt 28 = .ok (.iload_n 2, 1) := by decide +kernel
theorem d_Corners_heightAt_29 : decode b_Corners_heightAt 29 = .ok (.aload_n 0, 1) := by decide +kernel
theorem d_Corners_heightAt_30 : decode b_Corners_heightAt 30 = .ok (.getfield 26, 3) := by decide +kernel
theorem d_Corners_heightAt_33 : decode b_Corners_heightAt 33 = .ok (.if_icmp .ge 85, 3) := by decide +kernel
theorem d_Corners_heightAt_36 : decode b_Corners_heightAt 36 = .ok (.aload_n 0, 1) := by decide +kernel
theorem d_Corners_heightAt_37 : decode b_Corners_heightAt 37 = .ok (.getfield 9, 3) := by decide +kernel
theorem d_Corners_heightAt_40 : decode b_Corners_heightAt 40 = .ok (.iload_n 2, 1) := by decide +kernel
theorem d_Corners_heightAt_41 : decode b_Corners_heightAt 41 = .ok (.iaload, 1) := by decide +kernel
theorem d_Corners_heightAt_42 : decode b_Corners_heightAt 42 = .ok (.aload_n 0, 1) := by decide +kernel
theorem d_Corners_heightAt_43 : decode b_Corners_heightAt 43 = .ok (.getfield 9, 3) := by decide +kernel
theorem d_Corners_heightAt_46 : decode b_Corners_heightAt 46 = .ok (.iload_n 2, 1) := by decide +kernel
theorem d_Corners_heightAt_47 : decode b_Corners_heightAt 47 = .ok (.iconst 1, 1) := by decide +kernel
theorem d_Corners_heightAt_48 : decode b_Corners_heightAt 48 = .ok (.isub, 1) := by decide +kernel
theorem d_Corners_heightAt_49 : decode b_Corners_heightAt 49 = .ok (.iaload, 1) := by decide +kernel
theorem d_Corners_heightAt_50 : decode b_Corners_heightAt 50 = .ok (.isub, 1) := by decide +kernel
theorem d_Corners_heightAt_51 : decode b_Corners_heightAt 51 = .ok (.istore_n 3, 1) := by decide +kernel
theorem d_Corners_heightAt_52 : decode b_Corners_heightAt 52 = .ok (.iload_n 1, 1) := by decide +kernel
theorem d_Corners_heightAt_53 : decode b_Corners_heightAt 53 = .ok (.aload_n 0, 1) := by decide +kernel
theorem d_Corners_heightAt_54 : decode b_Corners_heightAt 54 = .ok (.getfield 9, 3) := by decide +kernel
theorem d_Corners_heightAt_57 : decode b_Corners_heightAt 57 = .ok (.iload_n 2, 1) := by decide +kernel
theorem d_Corners_heightAt_58 : decode b_Corners_heightAt 58 = .ok (.iaload, 1) := by decide +kernel
theorem d_Corners_heightAt_59 : decode b_Corners_heightAt 59 = .ok (.if_icmp .gt 53, 3) := by decide +kernel
theorem d_Corners_heightAt_62 : decode b_Corners_heightAt 62 = .ok (.iload_n 3, 1) := by decide +kernel
theorem d_Corners_heightAt_63 : decode b_Corners_heightAt 63 = .ok (.ifCond .le 49, 3) := by decide +kernel
theorem d_Corners_heightAt_66 : decode b_Corners_heightAt 66 = .ok (.aload_n 0, 1) := by decide +kernel
theorem d_Corners_heightAt_67 : decode b_Corners_heightAt 67 = .ok (.getfield 13, 3) := by decide +kernel
theorem d_Corners_heightAt_70 : decode b_Corners_heightAt 70 = .ok (.iload_n 2, 1) := by decide +kernel
theorem d_Corners_heightAt_71 : decode b_Corners_heightAt 71 = .ok (.iaload, 1) := by decide +kernel
theorem d_Corners_heightAt_72 : decode b_Corners_heightAt 72 = .ok (.aload_n 0, 1) := by decide +kernel
theorem d_Corners_heightAt_73 : decode b_Corners_heightAt 73 = .ok (.getfield 13, 3) := by decide +kernel
theorem d_Corners_heightAt_76 : decode b_Corners_heightAt 76 = .ok (.iload_n 2, 1) := by decide +kernel
theorem d_Corners_heightAt_77 : decode b_Corners_heightAt 77 = .ok (.iconst 1, 1) := by decide +kernel
theorem d_Corners_heightAt_78 : decode b_Corners_heightAt 78 = .ok (.isub, 1) := by decide +kernel
theorem d_Corners_heightAt_79 : decode b_Corners_heightAt 79 = .ok (.iaload, 1) := by decide +kernel
theorem d_Corners_heightAt_80 : decode b_Corners_heightAt 80 = .ok (.isub, 1) := by decide +kernel
theorem d_Corners_heightAt_81 : decode b_Corners_heightAt 81 = .ok (.i2l, 1) := by decide +kernel
theorem d_Corners_heightAt_82 : decode b_Corners_heightAt 82 = .ok (.iload_n 1, 1) := by decide +kernel
theorem d_Corners_heightAt_83 : decode b_Corners_heightAt 83 = .ok (.aload_n 0, 1) := by decide +kernel
theorem d_Corners_heightAt_84 : decode b_Corners_heightAt 84 = .ok (.getfield 9, 3) := by decide +kernel
theorem d_Corners_heightAt_87 : decode b_Corners_heightAt 87 = .ok (.iload_n 2, 1) := by decide +kernel
theorem d_Corners_heightAt_88 : decode b_Corners_heightAt 88 = .ok (.iconst 1, 1) := by decide +kernel
theorem d_Corners_heightAt_89 : decode b_Corners_heightAt 89 = .ok (.isub, 1) := by decide +kernel
theorem d_Corners_heightAt_90 : decode b_Corners_heightAt 90 = .ok (.iaload, 1) := by decide +kernel
theorem d_Corners_heightAt_91 : decode b_Corners_heightAt 91 = .ok (.isub, 1) := by decide +kernel
theorem d_Corners_heightAt_92 : decode b_Corners_heightAt 92 = .ok (.i2l, 1) := by decide +kernel
theorem d_Corners_heightAt_93 : decode b_Corners_heightAt 93 = .ok (.lmul, 1) := by decide +kernel
theorem d_Corners_heightAt_94 : decode b_Corners_heightAt 94 = .ok (.lstore 4, 2) := by decide +kernel
theorem d_Corners_heightAt_96 : decode b_Corners_heightAt 96 = .ok (.aload_n 0, 1) := by decide +kernel
theorem d_Corners_heightAt_97 : decode b_Corners_heightAt 97 = .ok (.getfield 13, 3) := by decide +kernel
theorem d_Corners_heightAt_100 : decode b_Corners_heightAt 100 = .ok (.iload_n 2, 1) := by decide +kernel
theorem d_Corners_heightAt_101 : decode b_Corners_heightAt 101 = .ok (.iconst 1, 1) := by decide +kernel
theorem d_Corners_heightAt_102 : decode b_Corners_heightAt 102 = .ok (.isub, 1) := by decide +kernel
theorem d_Corners_heightAt_103 : decode b_Corners_heightAt 103 = .ok (.iaload, 1) := by decide +kernel
theorem d_Corners_heightAt_104 : decode b_Corners_heightAt 104 = .ok (.lload 4, 2) := by decide +kernel
theorem d_Corners_heightAt_106 : decode b_Corners_heightAt 106 = .ok (.iload_n 3, 1) := by decide +kernel
theorem d_Corners_heightAt_107 : decode b_Corners_heightAt 107 = .ok (.i2l, 1) := by decide +kernel
theorem d_Corners_heightAt_108 : decode b_Corners_heightAt 108 = .ok (.ldiv, 1) := by decide +kernel
theorem d_Corners_heightAt_109 : decode b_Corners_heightAt 109 = .ok (.l2i, 1) := by decide +kernel
theorem d_Corners_heightAt_110 : decode b_Corners_heightAt 110 = .ok (.iadd, 1) := by decide +kernel
theorem d_Corners_heightAt_111 : decode b_Corners_heightAt 111 = .ok (.ireturn, 1) := by decide +kernel
theorem d_Corners_heightAt_112 : decode b_Corners_heightAt 112 = .ok (.iinc 2 1, 3) := by decide +kernel
theorem d_Corners_heightAt_115 : decode b_Corners_heightAt 115 = .ok (.goto (-87), 3) := by decide +kernel
theorem d_Corners_heightAt_118 : decode b_Corners_heightAt 118 = .ok (.aload_n 0, 1) := by decide +kernel
theorem d_Corners_heightAt_119 : decode b_Corners_heightAt 119 = .ok (.getfield 13, 3) := by decide +kernel
theorem d_Corners_heightAt_122 : decode b_Corners_heightAt 122 = .ok (.aload_n 0, 1) := by decide +kernel
theorem d_Corners_heightAt_123 : decode b_Corners_heightAt 123 = .ok (.getfield 26, 3) := by decide +kernel
theorem d_Corners_heightAt_126 : decode b_Corners_heightAt 126 = .ok (.iconst 1, 1) := by decide +kernel
theorem d_Corners_heightAt_127 : decode b_Corners_heightAt 127 = .ok (.isub, 1) := by decide +kernel
theorem d_Corners_heightAt_128 : decode b_Corners_heightAt 128 = .ok (.iaload, 1) := by decide +kernel
theorem d_Corners_heightAt_129 : decode b_Corners_heightAt 129 = .ok (.ireturn, 1) := by decide +kernel
abbrev b_Flow_init : ByteArray := prog_5_method_1_code
def y_Flow_init : MethodName := ⟨"WallDamp$Flow", "<init>", "(LWallDamp$Place;LWallDamp$Place;)V"⟩
def ws_Flow_init : List Cond := .code y_Flow_init b_Flow_init 3 none :: x_tb
theorem pd_Flow_init : y_Flow_init.cls ≠ "java/lang/invoke/MethodHandle" ∧ y_Flow_init.cls ≠ "java/lang/invoke/VarHandle" ∧ (parseMethodDescriptor y_Flow_init.desc).map (fun d => d.parameters.length) = some 2 := by decide +kernel
theorem d_Flow_init_0 : decode b_Flow_init 0 = .ok (.aload_n 0, 1) := by decide +kernel
theorem d_Flow_init_1 : decode b_Flow_init 1 = .ok (.invokespecial 1, 3) := by decide +kernel
theorem d_Flow_init_4 : decode b_Flow_init 4 = .ok (.aload_n 0, 1) := by decide +kernel
theorem d_Flow_init_5 : decode b_Flow_init 5 = .ok (.aload_n 1, 1) := by decide +kernel
theorem d_Flow_init_6 : decode b_Flow_init 6 = .ok (.putfield 7, 3) := by decide +kernel
theorem d_Flow_init_9 : decode b_Flow_init 9 = .ok (.aload_n 0, 1) := by decide +kernel
theorem d_Flow_init_10 : decode b_Flow_init 10 = .ok (.aload_n 2, 1) := by decide +kernel
theorem d_Flow_init_11 : decode b_Flow_init 11 = .ok (.putfield 13, 3) := by decide +kernel
theorem d_Flow_init_14 : decode b_Flow_init 14 = .ok (.aload_n 0, 1) := by decide +kernel
theorem d_Flow_init_15 : decode b_Flow_init 15 = .ok (.aload_n 1, 1) := by decide +kernel
theorem d_Flow_init_16 : decode b_Flow_init 16 = .ok (.putfield 16, 3) := by decide +kernel
theorem d_Flow_init_19 : decode b_Flow_init 19 = .ok (.aload_n 0, 1) := by decide +kernel
theorem d_Flow_init_20 : decode b_Flow_init 20 = .ok (.aload_n 2, 1) := by decide +kernel
theorem d_Flow_init_21 : decode b_Flow_init 21 = .ok (.putfield 19, 3) := by decide +kernel
theorem d_Flow_init_24 : decode b_Flow_init 24 = .ok (.aload_n 0, 1) := by decide +kernel
theorem d_Flow_init_25 : decode b_Flow_init 25 = .ok (.iconst 0, 1) := by decide +kernel
theorem d_Flow_init_26 : decode b_Flow_init 26 = .ok (.putfield 22, 3) := by decide +kernel
theorem d_Flow_init_29 : decode b_Flow_init 29 = .ok (.return_, 1) := by decide +kernel
abbrev b_Flow_setInward : ByteArray := prog_5_method_2_code
def y_Flow_setInward : MethodName := ⟨"WallDamp$Flow", "setInward", "(I)V"⟩
def ws_Flow_setInward : List Cond := .code y_Flow_setInward b_Flow_setInward 2 none :: x_tb
theorem pd_Flow_setInward : y_Flow_setInward.cls ≠ "java/lang/invoke/MethodHandle" ∧ y_Flow_setInward.cls ≠ "java/lang/invoke/VarHandle" ∧ (parseMethodDescriptor y_Flow_setInward.desc).map (fun d => d.parameters.length) = some 1 := by decide +kernel
theorem d_Flow_setInward_0 : decode b_Flow_setInward 0 = .ok (.iload_n 1, 1) := by decide +kernel
theorem d_Flow_setInward_1 : decode b_Flow_setInward 1 = .ok (.ifCond .lt 27, 3) := by decide +kernel
theorem d_Flow_setInward_4 : decode b_Flow_setInward 4 = .ok (.aload_n 0, 1) := by decide +kernel
theorem d_Flow_setInward_5 : decode b_Flow_setInward 5 = .ok (.aload_n 0, 1) := by decide +kernel
theorem d_Flow_setInward_6 : decode b_Flow_setInward 6 = .ok (.getfield 7, 3) := by decide +kernel
theorem d_Flow_setInward_9 : decode b_Flow_setInward 9 = .ok (.putfield 16, 3) := by decide +kernel
theorem d_Flow_setInward_12 : decode b_Flow_setInward 12 = .ok (.aload_n 0, 1) := by decide +kernel
theorem d_Flow_setInward_13 : decode b_Flow_setInward 13 = .ok (.aload_n 0, 1) := by decide +kernel
theorem d_Flow_setInward_14 : decode b_Flow_setInward 14 = .ok (.getfield 13, 3) := by decide +kernel
theorem d_Flow_setInward_17 : decode b_Flow_setInward 17 = .ok (.putfield 19, 3) := by decide +kernel
theorem d_Flow_setInward_20 : decode b_Flow_setInward 20 = .ok (.aload_n 0, 1) := by decide +kernel
theorem d_Flow_setInward_21 : decode b_Flow_setInward 21 = .ok (.iload_n 1, 1) := by decide +kernel
theorem d_Flow_setInward_22 : decode b_Flow_setInward 22 = .ok (.putfield 22, 3) := by decide +kernel
theorem d_Flow_setInward_25 : decode b_Flow_setInward 25 = .ok (.goto 25, 3) := by decide +kernel
theorem d_Flow_setInward_28 : decode b_Flow_setInward 28 = .ok (.aload_n 0, 1) := by decide +kernel
theorem d_Flow_setInward_29 : decode b_Flow_setInward 29 = .ok (.aload_n 0, 1) := by decide +kernel
theorem d_Flow_setInward_30 : decode b_Flow_setInward 30 = .ok (.getfield 13, 3) := by decide +kernel
theorem d_Flow_setInward_33 : decode b_Flow_setInward 33 = .ok (.putfield 16, 3) := by decide +kernel
theorem d_Flow_setInward_36 : decode b_Flow_setInward 36 = .ok (.aload_n 0, 1) := by decide +kernel
theorem d_Flow_setInward_37 : decode b_Flow_setInward 37 = .ok (.aload_n 0, 1) := by decide +kernel
theorem d_Flow_setInward_38 : decode b_Flow_setInward 38 = .ok (.getfield 7, 3) := by decide +kernel
theorem d_Flow_setInward_41 : decode b_Flow_setInward 41 = .ok (.putfield 19, 3) := by decide +kernel
theorem d_Flow_setInward_44 : decode b_Flow_setInward 44 = .ok (.aload_n 0, 1) := by decide +kernel
theorem d_Flow_setInward_45 : decode b_Flow_setInward 45 = .ok (.iload_n 1, 1) := by decide +kernel
theorem d_Flow_setInward_46 : decode b_Flow_setInward 46 = .ok (.ineg, 1) := by decide +kernel
theorem d_Flow_setInward_47 : decode b_Flow_setInward 47 = .ok (.putfield 22, 3) := by decide +kernel
theorem d_Flow_setInward_50 : decode b_Flow_setInward 50 = .ok (.return_, 1) := by decide +kernel
abbrev b_Flow_countLeaving : ByteArray := prog_5_method_3_code
def y_Flow_countLeaving : MethodName := ⟨"WallDamp$Flow", "countLeaving", "()V"⟩
def ws_Flow_countLeaving : List Cond := .code y_Flow_countLeaving b_Flow_countLeaving 1 none :: x_tb
theorem pd_Flow_countLeaving : y_Flow_countLeaving.cls ≠ "java/lang/invoke/MethodHandle" ∧ y_Flow_countLeaving.cls ≠ "java/lang/invoke/VarHandle" ∧ (parseMethodDescriptor y_Flow_countLeaving.desc).map (fun d => d.parameters.length) = some 0 := by decide +kernel
theorem d_Flow_countLeaving_0 : decode b_Flow_countLeaving 0 = .ok (.aload_n 0, 1) := by decide +kernel
theorem d_Flow_countLeaving_1 : decode b_Flow_countLeaving 1 = .ok (.getfield 16, 3) := by decide +kernel
theorem d_Flow_countLeaving_4 : decode b_Flow_countLeaving 4 = .ok (.dup, 1) := by decide +kernel
theorem d_Flow_countLeaving_5 : decode b_Flow_countLeaving 5 = .ok (.getfield 26, 3) := by decide +kernel
theorem d_Flow_countLeaving_8 : decode b_Flow_countLeaving 8 = .ok (.aload_n 0, 1) := by decide +kernel
theorem d_Flow_countLeaving_9 : decode b_Flow_countLeaving 9 = .ok (.getfield 22, 3) := by decide +kernel
theorem d_Flow_countLeaving_12 : decode b_Flow_countLeaving 12 = .ok (.iadd, 1) := by decide +kernel
theorem d_Flow_countLeaving_13 : decode b_Flow_countLeaving 13 = .ok (.putfield 26, 3) := by decide +kernel
theorem d_Flow_countLeaving_16 : decode b_Flow_countLeaving 16 = .ok (.return_, 1) := by decide +kernel
abbrev b_Flow_limitLeaving : ByteArray := prog_5_method_4_code
def y_Flow_limitLeaving : MethodName := ⟨"WallDamp$Flow", "limitLeaving", "()V"⟩
def ws_Flow_limitLeaving : List Cond := .code y_Flow_limitLeaving b_Flow_limitLeaving 1 none :: x_tb
theorem pd_Flow_limitLeaving : y_Flow_limitLeaving.cls ≠ "java/lang/invoke/MethodHandle" ∧ y_Flow_limitLeaving.cls ≠ "java/lang/invoke/VarHandle" ∧ (parseMethodDescriptor y_Flow_limitLeaving.desc).map (fun d => d.parameters.length) = some 0 := by decide +kernel
theorem d_Flow_limitLeaving_0 : decode b_Flow_limitLeaving 0 = .ok (.aload_n 0, 1) := by decide +kernel
theorem d_Flow_limitLeaving_1 : decode b_Flow_limitLeaving 1 = .ok (.aload_n 0, 1) := by decide +kernel
theorem d_Flow_limitLeaving_2 : decode b_Flow_limitLeaving 2 = .ok (.aload_n 0, 1) := by decide +kernel
theorem d_Flow_limitLeaving_3 : decode b_Flow_limitLeaving 3 = .ok (.getfield 16, 3) := by decide +kernel
theorem d_Flow_limitLeaving_6 : decode b_Flow_limitLeaving 6 = .ok (.getfield 26, 3) := by decide +kernel
theorem d_Flow_limitLeaving_9 : decode b_Flow_limitLeaving 9 = .ok (.aload_n 0, 1) := by decide +kernel
theorem d_Flow_limitLeaving_10 : decode b_Flow_limitLeaving 10 = .ok (.getfield 16, 3) := by decide +kernel
theorem d_Flow_limitLeaving_13 : decode b_Flow_limitLeaving 13 = .ok (.getfield 31, 3) := by decide +kernel
theorem d_Flow_limitLeaving_16 : decode b_Flow_limitLeaving 16 = .ok (.invokevirtual 34, 3) := by decide +kernel
theorem d_Flow_limitLeaving_19 : decode b_Flow_limitLeaving 19 = .ok (.putfield 22, 3) := by decide +kernel
theorem d_Flow_limitLeaving_22 : decode b_Flow_limitLeaving 22 = .ok (.return_, 1) := by decide +kernel
abbrev b_Flow_countComing : ByteArray := prog_5_method_5_code
def y_Flow_countComing : MethodName := ⟨"WallDamp$Flow", "countComing", "()V"⟩
def ws_Flow_countComing : List Cond := .code y_Flow_countComing b_Flow_countComing 1 none :: x_tb
theorem pd_Flow_countComing : y_Flow_countComing.cls ≠ "java/lang/invoke/MethodHandle" ∧ y_Flow_countComing.cls ≠ "java/lang/invoke/VarHandle" ∧ (parseMethodDescriptor y_Flow_countComing.desc).map (fun d => d.parameters.length) = some 0 := by decide +kernel
theorem d_Flow_countComing_0 : decode b_Flow_countComing 0 = .ok (.aload_n 0, 1) := by decide +kernel
theorem d_Flow_countComing_1 : decode b_Flow_countComing 1 = .ok (.getfield 19, 3) := by decide +kernel
theorem d_Flow_countComing_4 : decode b_Flow_countComing 4 = .ok (.dup, 1) := by decide +kernel
theorem d_Flow_countComing_5 : decode b_Flow_countComing 5 = .ok (.getfield 38, 3) := by decide +kernel
theorem d_Flow_countComing_8 : decode b_Flow_countComing 8 = .ok (.aload_n 0, 1) := by decide +kernel
theorem d_Flow_countComing_9 : decode b_Flow_countComing 9 = .ok (.getfield 22, 3) := by decide +kernel
theorem d_Flow_countComing_12 : decode b_Flow_countComing 12 = .ok (.iadd, 1) := by decide +kernel
theorem d_Flow_countComing_13 : decode b_Flow_countComing 13 = .ok (.putfield 38, 3) := by decide +kernel
theorem d_Flow_countComing_16 : decode b_Flow_countComing 16 = .ok (.return_, 1) := by decide +kernel
abbrev b_Flow_limitComing : ByteArray := prog_5_method_6_code
def y_Flow_limitComing : MethodName := ⟨"WallDamp$Flow", "limitComing", "()V"⟩
def ws_Flow_limitComing : List Cond := .code y_Flow_limitComing b_Flow_limitComing 1 none :: x_tb
theorem pd_Flow_limitComing : y_Flow_limitComing.cls ≠ "java/lang/invoke/MethodHandle" ∧ y_Flow_limitComing.cls ≠ "java/lang/invoke/VarHandle" ∧ (parseMethodDescriptor y_Flow_limitComing.desc).map (fun d => d.parameters.length) = some 0 := by decide +kernel
theorem d_Flow_limitComing_0 : decode b_Flow_limitComing 0 = .ok (.aload_n 0, 1) := by decide +kernel
theorem d_Flow_limitComing_1 : decode b_Flow_limitComing 1 = .ok (.aload_n 0, 1) := by decide +kernel
theorem d_Flow_limitComing_2 : decode b_Flow_limitComing 2 = .ok (.aload_n 0, 1) := by decide +kernel
theorem d_Flow_limitComing_3 : decode b_Flow_limitComing 3 = .ok (.getfield 19, 3) := by decide +kernel
theorem d_Flow_limitComing_6 : decode b_Flow_limitComing 6 = .ok (.getfield 38, 3) := by decide +kernel
theorem d_Flow_limitComing_9 : decode b_Flow_limitComing 9 = .ok (.aload_n 0, 1) := by decide +kernel
theorem d_Flow_limitComing_10 : decode b_Flow_limitComing 10 = .ok (.getfield 19, 3) := by decide +kernel
theorem d_Flow_limitComing_13 : decode b_Flow_limitComing 13 = .ok (.getfield 41, 3) := by decide +kernel
theorem d_Flow_limitComing_16 : decode b_Flow_limitComing 16 = .ok (.invokevirtual 34, 3) := by decide +kernel
theorem d_Flow_limitComing_19 : decode b_Flow_limitComing 19 = .ok (.putfield 22, 3) := by decide +kernel
theorem d_Flow_limitComing_22 : decode b_Flow_limitComing 22 = .ok (.return_, 1) := by decide +kernel
abbrev b_Flow_move : ByteArray := prog_5_method_7_code
def y_Flow_move : MethodName := ⟨"WallDamp$Flow", "move", "()V"⟩
def ws_Flow_move : List Cond := .code y_Flow_move b_Flow_move 1 none :: x_tb
theorem pd_Flow_move : y_Flow_move.cls ≠ "java/lang/invoke/MethodHandle" ∧ y_Flow_move.cls ≠ "java/lang/invoke/VarHandle" ∧ (parseMethodDescriptor y_Flow_move.desc).map (fun d => d.parameters.length) = some 0 := by decide +kernel
theorem d_Flow_move_0 : decode b_Flow_move 0 = .ok (.aload_n 0, 1) := by decide +kernel
theorem d_Flow_move_1 : decode b_Flow_move 1 = .ok (.getfield 16, 3) := by decide +kernel
theorem d_Flow_move_4 : decode b_Flow_move 4 = .ok (.aload_n 0, 1) := by decide +kernel
theorem d_Flow_move_5 : decode b_Flow_move 5 = .ok (.getfield 22, 3) := by decide +kernel
theorem d_Flow_move_8 : decode b_Flow_move 8 = .ok (.invokevirtual 44, 3) := by decide +kernel
theorem d_Flow_move_11 : decode b_Flow_move 11 = .ok (.aload_n 0, 1) := by decide +kernel
theorem d_Flow_move_12 : decode b_Flow_move 12 = .ok (.getfield 19, 3) := by decide +kernel
theorem d_Flow_move_15 : decode b_Flow_move 15 = .ok (.aload_n 0, 1) := by decide +kernel
theorem d_Flow_move_16 : decode b_Flow_move 16 = .ok (.getfield 22, 3) := by decide +kernel
theorem d_Flow_move_19 : decode b_Flow_move 19 = .ok (.invokevirtual 48, 3) := by decide +kernel
theorem d_Flow_move_22 : decode b_Flow_move 22 = .ok (.return_, 1) := by decide +kernel
abbrev b_Flow_portion : ByteArray := prog_5_method_8_code
def y_Flow_portion : MethodName := ⟨"WallDamp$Flow", "portion", "(II)I"⟩
def ws_Flow_portion : List Cond := .code y_Flow_portion b_Flow_portion 3 (some (.int)) :: x_tb
theorem pd_Flow_portion : y_Flow_portion.cls ≠ "java/lang/invoke/MethodHandle" ∧ y_Flow_portion.cls ≠ "java/lang/invoke/VarHandle" ∧ (parseMethodDescriptor y_Flow_portion.desc).map (fun d => d.parameters.length) = some 2 := by decide +kernel
theorem d_Flow_portion_0 : decode b_Flow_portion 0 = .ok (.iload_n 1, 1) := by decide +kernel
theorem d_Flow_portion_1 : decode b_Flow_portion 1 = .ok (.iload_n 2, 1) := by decide +kernel
theorem d_Flow_portion_2 : decode b_Flow_portion 2 = .ok (.if_icmp .le 7, 3) := by decide +kernel
theorem d_Flow_portion_5 : decode b_Flow_portion 5 = .ok (.iload_n 1, 1) := by decide +kernel
theorem d_Flow_portion_6 : decode b_Flow_portion 6 = .ok (.ifCond .gt 8, 3) := by decide +kernel
theorem d_Flow_portion_9 : decode b_Flow_portion 9 = .ok (.aload_n 0, 1) := by decide +kernel
theorem d_Flow_portion_10 : decode b_Flow_portion 10 = .ok (.getfield 22, 3) := by decide +kernel
theorem d_Flow_portion_13 : decode b_Flow_portion 13 = .ok (.ireturn, 1) := by decide +kernel
theorem d_Flow_portion_14 : decode b_Flow_portion 14 = .ok (.aload_n 0, 1) := by decide +kernel
theorem d_Flow_portion_15 : decode b_Flow_portion 15 = .ok (.getfield 22, 3) := by decide +kernel
theorem d_Flow_portion_18 : decode b_Flow_portion 18 = .ok (.i2l, 1) := by decide +kernel
theorem d_Flow_portion_19 : decode b_Flow_portion 19 = .ok (.iload_n 2, 1) := by decide +kernel
theorem d_Flow_portion_20 : decode b_Flow_portion 20 = .ok (.i2l, 1) := by decide +kernel
theorem d_Flow_portion_21 : decode b_Flow_portion 21 = .ok (.lmul, 1) := by decide +kernel
theorem d_Flow_portion_22 : decode b_Flow_portion 22 = .ok (.iload_n 1, 1) := by decide +kernel
theorem d_Flow_portion_23 : decode b_Flow_portion 23 = .ok (.i2l, 1) := by decide +kernel
theorem d_Flow_portion_24 : decode b_Flow_portion 24 = .ok (.ldiv, 1) := by decide +kernel
theorem d_Flow_portion_25 : decode b_Flow_portion 25 = .ok (.l2i, 1) := by decide +kernel
theorem d_Flow_portion_26 : decode b_Flow_portion 26 = .ok (.ireturn, 1) := by decide +kernel
abbrev b_Material_init : ByteArray := prog_6_method_1_code
def y_Material_init : MethodName := ⟨"WallDamp$Material", "<init>", "()V"⟩
def ws_Material_init : List Cond := .code y_Material_init b_Material_init 1 none :: x_tb
theorem pd_Material_init : y_Material_init.cls ≠ "java/lang/invoke/MethodHandle" ∧ y_Material_init.cls ≠ "java/lang/invoke/VarHandle" ∧ (parseMethodDescriptor y_Material_init.desc).map (fun d => d.parameters.length) = some 0 := by decide +kernel
theorem d_Material_init_0 : decode b_Material_init 0 = .ok (.aload_n 0, 1) := by decide +kernel
theorem d_Material_init_1 : decode b_Material_init 1 = .ok (.invokespecial 1, 3) := by decide +kernel
theorem d_Material_init_4 : decode b_Material_init 4 = .ok (.aload_n 0, 1) := by decide +kernel
theorem d_Material_init_5 : decode b_Material_init 5 = .ok (.new 7, 3) := by decide +kernel
theorem d_Material_init_8 : decode b_Material_init 8 = .ok (.dup, 1) := by decide +kernel
theorem d_Material_init_9 : decode b_Material_init 9 = .ok (.bipush 7, 2) := by decide +kernel
theorem d_Material_init_11 : decode b_Material_init 11 = .ok (.invokespecial 11, 3) := by decide +kernel
theorem d_Material_init_14 : decode b_Material_init 14 = .ok (.putfield 14, 3) := by decide +kernel
theorem d_Material_init_17 : decode b_Material_init 17 = .ok (.aload_n 0, 1) := by decide +kernel
theorem d_Material_init_18 : decode b_Material_init 18 = .ok (.getfield 14, 3) := by decide +kernel
theorem d_Material_init_21 : decode b_Material_init 21 = .ok (.iconst 0, 1) := by decide +kernel
theorem d_Material_init_22 : decode b_Material_init 22 = .ok (.iconst 0, 1) := by decide +kernel
theorem d_Material_init_23 : decode b_Material_init 23 = .ok (.invokevirtual 18, 3) := by decide +kernel
theorem d_Material_init_26 : decode b_Material_init 26 = .ok (.pop, 1) := by decide +kernel
theorem d_Material_init_27 : decode b_Material_init 27 = .ok (.aload_n 0, 1) := by decide +kernel
theorem d_Material_init_28 : decode b_Material_init 28 = .ok (.iconst 0, 1) := by decide +kernel
theorem d_Material_init_29 : decode b_Material_init 29 = .ok (.putfield 22, 3) := by decide +kernel
theorem d_Material_init_32 : decode b_Material_init 32 = .ok (.aload_n 0, 1) := by decide +kernel
theorem d_Material_init_33 : decode b_Material_init 33 = .ok (.iconst 0, 1) := by decide +kernel
theorem d_Material_init_34 : decode b_Material_init 34 = .ok (.putfield 26, 3) := by decide +kernel
theorem d_Material_init_37 : decode b_Material_init 37 = .ok (.aload_n 0, 1) := by decide +kernel
theorem d_Material_init_38 : decode b_Material_init 38 = .ok (.bipush 100, 2) := by decide +kernel
theorem d_Material_init_40 : decode b_Material_init 40 = .ok (.putfield 29, 3) := by decide +kernel
theorem d_Material_init_43 : decode b_Material_init 43 = .ok (.return_, 1) := by decide +kernel
abbrev b_Material_most : ByteArray := prog_6_method_2_code
def y_Material_most : MethodName := ⟨"WallDamp$Material", "most", "()I"⟩
def ws_Material_most : List Cond := .code y_Material_most b_Material_most 1 (some (.int)) :: x_tb
theorem pd_Material_most : y_Material_most.cls ≠ "java/lang/invoke/MethodHandle" ∧ y_Material_most.cls ≠ "java/lang/invoke/VarHandle" ∧ (parseMethodDescriptor y_Material_most.desc).map (fun d => d.parameters.length) = some 0 := by decide +kernel
theorem d_Material_most_0 : decode b_Material_most 0 = .ok (.aload_n 0, 1) := by decide +kernel
theorem d_Material_most_1 : decode b_Material_most 1 = .ok (.getfield 14, 3) := by decide +kernel
theorem d_Material_most_4 : decode b_Material_most 4 = .ok (.invokevirtual 32, 3) := by decide +kernel
theorem d_Material_most_7 : decode b_Material_most 7 = .ok (.ireturn, 1) := by decide +kernel
abbrev b_MouldRows_init : ByteArray := prog_7_method_1_code
def y_MouldRows_init : MethodName := ⟨"WallDamp$MouldRows", "<init>", "()V"⟩
def ws_MouldRows_init : List Cond := .code y_MouldRows_init b_MouldRows_init 1 none :: x_tb
theorem pd_MouldRows_init : y_MouldRows_init.cls ≠ "java/lang/invoke/MethodHandle" ∧ y_MouldRows_init.cls ≠ "java/lang/invoke/VarHandle" ∧ (parseMethodDescriptor y_MouldRows_init.desc).map (fun d => d.parameters.length) = some 0 := by decide +kernel
theorem d_MouldRows_init_0 : decode b_MouldRows_init 0 = .ok (.aload_n 0, 1) := by decide +kernel
theorem d_MouldRows_init_1 : decode b_MouldRows_init 1 = .ok (.invokespecial 3, 3) := by decide +kernel
theorem d_MouldRows_init_4 : decode b_MouldRows_init 4 = .ok (.aload_n 0, 1) := by decide +kernel
theorem d_MouldRows_init_5 : decode b_MouldRows_init 5 = .ok (.bipush 6, 2) := by decide +kernel
theorem d_MouldRows_init_7 : decode b_MouldRows_init 7 = .ok (.newarray .int, 2) := by decide +kernel
theorem d_MouldRows_init_9 : decode b_MouldRows_init 9 = .ok (.putfield 11, 3) := by decide +kernel
theorem d_MouldRows_init_12 : decode b_MouldRows_init 12 = .ok (.aload_n 0, 1) := by decide +kernel
theorem d_MouldRows_init_13 : decode b_MouldRows_init 13 = .ok (.bipush 6, 2) := by decide +kernel
theorem d_MouldRows_init_15 : decode b_MouldRows_init 15 = .ok (.newarray .int, 2) := by decide +kernel
theorem d_MouldRows_init_17 : decode b_MouldRows_init 17 = .ok (.putfield 15, 3) := by decide +kernel
theorem d_MouldRows_init_20 : decode b_MouldRows_init 20 = .ok (.aload_n 0, 1) := by decide +kernel
theorem d_MouldRows_init_21 : decode b_MouldRows_init 21 = .ok (.bipush 6, 2) := by decide +kernel
theorem d_MouldRows_init_23 : decode b_MouldRows_init 23 = .ok (.newarray .int, 2) := by decide +kernel
theorem d_MouldRows_init_25 : decode b_MouldRows_init 25 = .ok (.putfield 18, 3) := by decide +kernel
theorem d_MouldRows_init_28 : decode b_MouldRows_init 28 = .ok (.aload_n 0, 1) := by decide +kernel
theorem d_MouldRows_init_29 : decode b_MouldRows_init 29 = .ok (.bipush 6, 2) := by decide +kernel
theorem d_MouldRows_init_31 : decode b_MouldRows_init 31 = .ok (.newarray .int, 2) := by decide +kernel
theorem d_MouldRows_init_33 : decode b_MouldRows_init 33 = .ok (.putfield 21, 3) := by decide +kernel
theorem d_MouldRows_init_36 : decode b_MouldRows_init 36 = .ok (.aload_n 0, 1) := by decide +kernel
theorem d_MouldRows_init_37 : decode b_MouldRows_init 37 = .ok (.iconst 0, 1) := by decide +kernel
theorem d_MouldRows_init_38 : decode b_MouldRows_init 38 = .ok (.putfield 24, 3) := by decide +kernel
theorem d_MouldRows_init_41 : decode b_MouldRows_init 41 = .ok (.return_, 1) := by decide +kernel
abbrev b_MouldRows_hasPlace : ByteArray := prog_7_method_2_code
def y_MouldRows_hasPlace : MethodName := ⟨"WallDamp$MouldRows", "hasPlace", "()Z"⟩
def ws_MouldRows_hasPlace : List Cond := .code y_MouldRows_hasPlace b_MouldRows_hasPlace 1 (some (.boolean)) :: x_tb
theorem pd_MouldRows_hasPlace : y_MouldRows_hasPlace.cls ≠ "java/lang/invoke/MethodHandle" ∧ y_MouldRows_hasPlace.cls ≠ "java/lang/invoke/VarHandle" ∧ (parseMethodDescriptor y_MouldRows_hasPlace.desc).map (fun d => d.parameters.length) = some 0 := by decide +kernel
theorem d_MouldRows_hasPlace_0 : decode b_MouldRows_hasPlace 0 = .ok (.aload_n 0, 1) := by decide +kernel
theorem d_MouldRows_hasPlace_1 : decode b_MouldRows_hasPlace 1 = .ok (.getfield 24, 3) := by decide +kernel
theorem d_MouldRows_hasPlace_4 : decode b_MouldRows_hasPlace 4 = .ok (.bipush 6, 2) := by decide +kernel
theorem d_MouldRows_hasPlace_6 : decode b_MouldRows_hasPlace 6 = .ok (.if_icmp .ge 7, 3) := by decide +kernel
theorem d_MouldRows_hasPlace_9 : decode b_MouldRows_hasPlace 9 = .ok (.iconst 1, 1) := by decide +kernel
theorem d_MouldRows_hasPlace_10 : decode b_MouldRows_hasPlace 10 = .ok (.goto 4, 3) := by decide +kernel
theorem d_MouldRows_hasPlace_13 : decode b_MouldRows_hasPlace 13 = .ok (.iconst 0, 1) := by decide +kernel
theorem d_MouldRows_hasPlace_14 : decode b_MouldRows_hasPlace 14 = .ok (.ireturn, 1) := by decide +kernel
abbrev b_MouldRows_add : ByteArray := prog_7_method_3_code
def y_MouldRows_add : MethodName := ⟨"WallDamp$MouldRows", "add", "(IIII)I"⟩
def ws_MouldRows_add : List Cond := .code y_MouldRows_add b_MouldRows_add 5 (some (.int)) :: x_tb
theorem pd_MouldRows_add : y_MouldRows_add.cls ≠ "java/lang/invoke/MethodHandle" ∧ y_MouldRows_add.cls ≠ "java/lang/invoke/VarHandle" ∧ (parseMethodDescriptor y_MouldRows_add.desc).map (fun d => d.parameters.length) = some 4 := by decide +kernel
theorem d_MouldRows_add_0 : decode b_MouldRows_add 0 = .ok (.aload_n 0, 1) := by decide +kernel
theorem d_MouldRows_add_1 : decode b_MouldRows_add 1 = .ok (.getfield 24, 3) := by decide +kernel
theorem d_MouldRows_add_4 : decode b_MouldRows_add 4 = .ok (.bipush 6, 2) := by decide +kernel
theorem d_MouldRows_add_6 : decode b_MouldRows_add 6 = .ok (.if_icmp .ge 54, 3) := by decide +kernel
theorem d_MouldRows_add_9 : decode b_MouldRows_add 9 = .ok (.aload_n 0, 1) := by decide +kernel
theorem d_MouldRows_add_10 : decode b_MouldRows_add 10 = .ok (.getfield 11, 3) := by decide +kernel
theorem d_MouldRows_add_13 : decode b_MouldRows_add 13 = .ok (.aload_n 0, 1) := by decide +kernel
theorem d_MouldRows_add_14 : decode b_MouldRows_add 14 = .ok (.getfield 24, 3) := by decide +kernel
theorem d_MouldRows_add_17 : decode b_MouldRows_add 17 = .ok (.iload_n 1, 1) := by decide +kernel
theorem d_MouldRows_add_18 : decode b_MouldRows_add 18 = .ok (.iastore, 1) := by decide +kernel
theorem d_MouldRows_add_19 : decode b_MouldRows_add 19 = .ok (.aload_n 0, 1) := by decide +kernel
theorem d_MouldRows_add_20 : decode b_MouldRows_add 20 = .ok (.getfield 15, 3) := by decide +kernel
theorem d_MouldRows_add_23 : decode b_MouldRows_add 23 = .ok (.aload_n 0, 1) := by decide +kernel
theorem d_MouldRows_add_24 : decode b_MouldRows_add 24 = .ok (.getfield 24, 3) := by decide +kernel
theorem d_MouldRows_add_27 : decode b_MouldRows_add 27 = .ok (.iload_n 2, 1) := by decide +kernel
theorem d_MouldRows_add_28 : decode b_MouldRows_add 28 = .ok (.iastore, 1) := by decide +kernel
theorem d_MouldRows_add_29 : decode b_MouldRows_add 29 = .ok (.aload_n 0, 1) := by decide +kernel
theorem d_MouldRows_add_30 : decode b_MouldRows_add 30 = .ok (.getfield 18, 3) := by decide +kernel
theorem d_MouldRows_add_33 : decode b_MouldRows_add 33 = .ok (.aload_n 0, 1) := by decide +kernel
theorem d_MouldRows_add_34 : decode b_MouldRows_add 34 = .ok (.getfield 24, 3) := by decide +kernel
theorem d_MouldRows_add_37 : decode b_MouldRows_add 37 = .ok (.iload_n 3, 1) := by decide +kernel
theorem d_MouldRows_add_38 : decode b_MouldRows_add 38 = .ok (.iastore, 1) := by decide +kernel
theorem d_MouldRows_add_39 : decode b_MouldRows_add 39 = .ok (.aload_n 0, 1) := by decide +kernel
theorem d_MouldRows_add_40 : decode b_MouldRows_add 40 = .ok (.getfield 21, 3) := by decide +kernel
theorem d_MouldRows_add_43 : decode b_MouldRows_add 43 = .ok (.aload_n 0, 1) := by decide +kernel
theorem d_MouldRows_add_44 : decode b_MouldRows_add 44 = .ok (.getfield 24, 3) := by decide +kernel
theorem d_MouldRows_add_47 : decode b_MouldRows_add 47 = .ok (.iload 4, 2) := by decide +kernel
theorem d_MouldRows_add_49 : decode b_MouldRows_add 49 = .ok (.iastore, 1) := by decide +kernel
theorem d_MouldRows_add_50 : decode b_MouldRows_add 50 = .ok (.aload_n 0, 1) := by decide +kernel
theorem d_MouldRows_add_51 : decode b_MouldRows_add 51 = .ok (.dup, 1) := by decide +kernel
theorem d_MouldRows_add_52 : decode b_MouldRows_add 52 = .ok (.getfield 24, 3) := by decide +kernel
theorem d_MouldRows_add_55 : decode b_MouldRows_add 55 = .ok (.iconst 1, 1) := by decide +kernel
theorem d_MouldRows_add_56 : decode b_MouldRows_add 56 = .ok (.iadd, 1) := by decide +kernel
theorem d_MouldRows_add_57 : decode b_MouldRows_add 57 = .ok (.putfield 24, 3) := by decide +kernel
theorem d_MouldRows_add_60 : decode b_MouldRows_add 60 = .ok (.aload_n 0, 1) := by decide +kernel
theorem d_MouldRows_add_61 : decode b_MouldRows_add 61 = .ok (.getfield 24, 3) := by decide +kernel
theorem d_MouldRows_add_64 : decode b_MouldRows_add 64 = .ok (.ireturn, 1) := by decide +kernel
abbrev b_MouldRows_firstThatFits : ByteArray := prog_7_method_4_code
def y_MouldRows_firstThatFits : MethodName := ⟨"WallDamp$MouldRows", "firstThatFits", "(II)I"⟩
def ws_MouldRows_firstThatFits : List Cond := .code y_MouldRows_firstThatFits b_MouldRows_firstThatFits 4 (some (.int)) :: x_tb
theorem pd_MouldRows_firstThatFits : y_MouldRows_firstThatFits.cls ≠ "java/lang/invoke/MethodHandle" ∧ y_MouldRows_firstThatFits.cls ≠ "java/lang/invoke/VarHandle" ∧ (parseMethodDescriptor y_MouldRows_firstThatFits.desc).map (fun d => d.parameters.length) = some 2 := by decide +kernel
theorem d_MouldRows_firstThatFits_0 : decode b_MouldRows_firstThatFits 0 = .ok (.iconst 0, 1) := by decide +kernel
theorem d_MouldRows_firstThatFits_1 : decode b_MouldRows_firstThatFits 1 = .ok (.istore_n 3, 1) := by decide +kernel
theorem d_MouldRows_firstThatFits_2 : decode b_MouldRows_firstThatFits 2 = .ok (.iload_n 3, 1) := by decide +kernel
theorem d_MouldRows_firstThatFits_3 : decode b_MouldRows_firstThatFits 3 = .ok (.aload_n 0, 1) := by decide +kernel
theorem d_MouldRows_firstThatFits_4 : decode b_MouldRows_firstThatFits 4 = .ok (.getfield 24, 3) := by decide +kernel
theorem d_MouldRows_firstThatFits_7 : decode b_MouldRows_firstThatFits 7 = .ok (.if_icmp .ge 46, 3) := by decide +kernel
theorem d_MouldRows_firstThatFits_10 : decode b_MouldRows_firstThatFits 10 = .ok (.iload_n 1, 1) := by decide +kernel
theorem d_MouldRows_firstThatFits_11 : decode b_MouldRows_firstThatFits 11 = .ok (.aload_n 0, 1) := by decide +kernel
theorem d_MouldRows_firstThatFits_12 : decode b_MouldRows_firstThatFits 12 = .ok (.getfield 11, 3) := by decide +kernel
theorem d_MouldRows_firstThatFits_15 : decode b_MouldRows_firstThatFits 15 = .ok (.iload_n 3, 1) := by decide +kernel
theorem d_MouldRows_firstThatFits_16 : decode b_MouldRows_firstThatFits 16 = .ok (.iaload, 1) := by decide +kernel
theorem d_MouldRows_firstThatFits_17 : decode b_MouldRows_firstThatFits 17 = .ok (.if_icmp .lt 30, 3) := by decide +kernel
theorem d_MouldRows_firstThatFits_20 : decode b_MouldRows_firstThatFits 20 = .ok (.iload_n 2, 1) := by decide +kernel
theorem d_MouldRows_firstThatFits_21 : decode b_MouldRows_firstThatFits 21 = .ok (.aload_n 0, 1) := by decide +kernel
theorem d_MouldRows_firstThatFits_22 : decode b_MouldRows_firstThatFits 22 = .ok (.getfield 15, 3) := by decide +kernel
theorem d_MouldRows_firstThatFits_25 : decode b_MouldRows_firstThatFits 25 = .ok (.iload_n 3, 1) := by decide +kernel
theorem d_MouldRows_firstThatFits_26 : decode b_MouldRows_firstThatFits 26 = .ok (.iaload, 1) := by decide +kernel
theorem d_MouldRows_firstThatFits_27 : decode b_MouldRows_firstThatFits 27 = .ok (.if_icmp .lt 20, 3) := by decide +kernel
theorem d_MouldRows_firstThatFits_30 : decode b_MouldRows_firstThatFits 30 = .ok (.iload_n 2, 1) := by decide +kernel
theorem d_MouldRows_firstThatFits_31 : decode b_MouldRows_firstThatFits 31 = .ok (.aload_n 0, 1) := by decide +kernel
theorem d_MouldRows_firstThatFits_32 : decode b_MouldRows_firstThatFits 32 = .ok (.getfield 18, 3) := by decide +kernel
theorem d_MouldRows_firstThatFits_35 : decode b_MouldRows_firstThatFits 35 = .ok (.iload_n 3, 1) := by decide +kernel
theorem d_MouldRows_firstThatFits_36 : decode b_MouldRows_firstThatFits 36 = .ok (.iaload, 1) := by decide +kernel
theorem d_MouldRows_firstThatFits_37 : decode b_MouldRows_firstThatFits 37 = .ok (.if_icmp .gt 10, 3) := by decide +kernel
theorem d_MouldRows_firstThatFits_40 : decode b_MouldRows_firstThatFits 40 = .ok (.aload_n 0, 1) := by decide +kernel
theorem d_MouldRows_firstThatFits_41 : decode b_MouldRows_firstThatFits 41 = .ok (.getfield 21, 3) := by decide +kernel
theorem d_MouldRows_firstThatFits_44 : decode b_MouldRows_firstThatFits 44 = .ok (.iload_n 3, 1) := by decide +kernel
theorem d_MouldRows_firstThatFits_45 : decode b_MouldRows_firstThatFits 45 = .ok (.iaload, 1) := by decide +kernel
theorem d_MouldRows_firstThatFits_46 : decode b_MouldRows_firstThatFits 46 = .ok (.ireturn, 1) := by decide +kernel
theorem d_MouldRows_firstThatFits_47 : decode b_MouldRows_firstThatFits 47 = .ok (.iinc 3 1, 3) := by decide +kernel
theorem d_MouldRows_firstThatFits_50 : decode b_MouldRows_firstThatFits 50 = .ok (.goto (-48), 3) := by decide +kernel
theorem d_MouldRows_firstThatFits_53 : decode b_MouldRows_firstThatFits 53 = .ok (.iconst (-1), 1) := by decide +kernel
theorem d_MouldRows_firstThatFits_54 : decode b_MouldRows_firstThatFits 54 = .ok (.ireturn, 1) := by decide +kernel
abbrev b_Place_init : ByteArray := prog_8_method_1_code
def y_Place_init : MethodName := ⟨"WallDamp$Place", "<init>", "()V"⟩
def ws_Place_init : List Cond := .code y_Place_init b_Place_init 1 none :: x_tb
theorem pd_Place_init : y_Place_init.cls ≠ "java/lang/invoke/MethodHandle" ∧ y_Place_init.cls ≠ "java/lang/invoke/VarHandle" ∧ (parseMethodDescriptor y_Place_init.desc).map (fun d => d.parameters.length) = some 0 := by decide +kernel
theorem d_Place_init_0 : decode b_Place_init 0 = .ok (.aload_n 0, 1) := by decide +kernel
theorem d_Place_init_1 : decode b_Place_init 1 = .ok (.invokespecial 1, 3) := by decide +kernel
theorem d_Place_init_4 : decode b_Place_init 4 = .ok (.aload_n 0, 1) := by decide +kernel
theorem d_Place_init_5 : decode b_Place_init 5 = .ok (.iconst 0, 1) := by decide +kernel
theorem d_Place_init_6 : decode b_Place_init 6 = .ok (.putfield 7, 3) := by decide +kernel
theorem d_Place_init_9 : decode b_Place_init 9 = .ok (.return_, 1) := by decide +kernel
abbrev b_Place_fixHour : ByteArray := prog_8_method_4_code
def y_Place_fixHour : MethodName := ⟨"WallDamp$Place", "fixHour", "(IIII)V"⟩
def ws_Place_fixHour : List Cond := .code y_Place_fixHour b_Place_fixHour 5 none :: x_tb
theorem pd_Place_fixHour : y_Place_fixHour.cls ≠ "java/lang/invoke/MethodHandle" ∧ y_Place_fixHour.cls ≠ "java/lang/invoke/VarHandle" ∧ (parseMethodDescriptor y_Place_fixHour.desc).map (fun d => d.parameters.length) = some 4 := by decide +kernel
theorem d_Place_fixHour_0 : decode b_Place_fixHour 0 = .ok (.aload_n 0, 1) := by decide +kernel
theorem d_Place_fixHour_1 : decode b_Place_fixHour 1 = .ok (.iload_n 1, 1) := by decide +kernel
theorem d_Place_fixHour_2 : decode b_Place_fixHour 2 = .ok (.putfield 13, 3) := by decide +kernel
theorem d_Place_fixHour_5 : decode b_Place_fixHour 5 = .ok (.aload_n 0, 1) := by decide +kernel
theorem d_Place_fixHour_6 : decode b_Place_fixHour 6 = .ok (.iload_n 2, 1) := by decide +kernel
theorem d_Place_fixHour_7 : decode b_Place_fixHour 7 = .ok (.putfield 16, 3) := by decide +kernel
theorem d_Place_fixHour_10 : decode b_Place_fixHour 10 = .ok (.aload_n 0, 1) := by decide +kernel
theorem d_Place_fixHour_11 : decode b_Place_fixHour 11 = .ok (.iload_n 3, 1) := by decide +kernel
theorem d_Place_fixHour_12 : decode b_Place_fixHour 12 = .ok (.putfield 19, 3) := by decide +kernel
theorem d_Place_fixHour_15 : decode b_Place_fixHour 15 = .ok (.aload_n 0, 1) := by decide +kernel
theorem d_Place_fixHour_16 : decode b_Place_fixHour 16 = .ok (.iload 4, 2) := by decide +kernel
theorem d_Place_fixHour_18 : decode b_Place_fixHour 18 = .ok (.putfield 22, 3) := by decide +kernel
theorem d_Place_fixHour_21 : decode b_Place_fixHour 21 = .ok (.aload_n 0, 1) := by decide +kernel
theorem d_Place_fixHour_22 : decode b_Place_fixHour 22 = .ok (.iconst 0, 1) := by decide +kernel
theorem d_Place_fixHour_23 : decode b_Place_fixHour 23 = .ok (.putfield 25, 3) := by decide +kernel
theorem d_Place_fixHour_26 : decode b_Place_fixHour 26 = .ok (.aload_n 0, 1) := by decide +kernel
theorem d_Place_fixHour_27 : decode b_Place_fixHour 27 = .ok (.iconst 0, 1) := by decide +kernel
theorem d_Place_fixHour_28 : decode b_Place_fixHour 28 = .ok (.putfield 28, 3) := by decide +kernel
theorem d_Place_fixHour_31 : decode b_Place_fixHour 31 = .ok (.return_, 1) := by decide +kernel
abbrev b_Surroundings_init : ByteArray := prog_9_method_1_code
def y_Surroundings_init : MethodName := ⟨"WallDamp$Surroundings", "<init>", "()V"⟩
def ws_Surroundings_init : List Cond := .code y_Surroundings_init b_Surroundings_init 1 none :: x_tb
theorem pd_Surroundings_init : y_Surroundings_init.cls ≠ "java/lang/invoke/MethodHandle" ∧ y_Surroundings_init.cls ≠ "java/lang/invoke/VarHandle" ∧ (parseMethodDescriptor y_Surroundings_init.desc).map (fun d => d.parameters.length) = some 0 := by decide +kernel
theorem d_Surroundings_init_0 : decode b_Surroundings_init 0 = .ok (.aload_n 0, 1) := by decide +kernel
theorem d_Surroundings_init_1 : decode b_Surroundings_init 1 = .ok (.invokespecial 3, 3) := by decide +kernel
theorem d_Surroundings_init_4 : decode b_Surroundings_init 4 = .ok (.aload_n 0, 1) := by decide +kernel
theorem d_Surroundings_init_5 : decode b_Surroundings_init 5 = .ok (.new 9, 3) := by decide +kernel
theorem d_Surroundings_init_8 : decode b_Surroundings_init 8 = .ok (.dup, 1) := by decide +kernel
theorem d_Surroundings_init_9 : decode b_Surroundings_init 9 = .ok (.bipush 8, 2) := by decide +kernel
theorem d_Surroundings_init_11 : decode b_Surroundings_init 11 = .ok (.invokespecial 13, 3) := by decide +kernel
theorem d_Surroundings_init_14 : decode b_Surroundings_init 14 = .ok (.putfield 16, 3) := by decide +kernel
theorem d_Surroundings_init_17 : decode b_Surroundings_init 17 = .ok (.aload_n 0, 1) := by decide +kernel
theorem d_Surroundings_init_18 : decode b_Surroundings_init 18 = .ok (.bipush 24, 2) := by decide +kernel
theorem d_Surroundings_init_20 : decode b_Surroundings_init 20 = .ok (.newarray .int, 2) := by decide +kernel
theorem d_Surroundings_init_22 : decode b_Surroundings_init 22 = .ok (.putfield 20, 3) := by decide +kernel
theorem d_Surroundings_init_25 : decode b_Surroundings_init 25 = .ok (.aload_n 0, 1) := by decide +kernel
theorem d_Surroundings_init_26 : decode b_Surroundings_init 26 = .ok (.bipush 24, 2) := by decide +kernel
theorem d_Surroundings_init_28 : decode b_Surroundings_init 28 = .ok (.newarray .int, 2) := by decide +kernel
theorem d_Surroundings_init_30 : decode b_Surroundings_init 30 = .ok (.putfield 24, 3) := by decide +kernel
theorem d_Surroundings_init_33 : decode b_Surroundings_init 33 = .ok (.aload_n 0, 1) := by decide +kernel
theorem d_Surroundings_init_34 : decode b_Surroundings_init 34 = .ok (.bipush 24, 2) := by decide +kernel
theorem d_Surroundings_init_36 : decode b_Surroundings_init 36 = .ok (.newarray .int, 2) := by decide +kernel
theorem d_Surroundings_init_38 : decode b_Surroundings_init 38 = .ok (.putfield 27, 3) := by decide +kernel
theorem d_Surroundings_init_41 : decode b_Surroundings_init 41 = .ok (.aload_n 0, 1) := by decide +kernel
theorem d_Surroundings_init_42 : decode b_Surroundings_init 42 = .ok (.bipush 24, 2) := by decide +kernel
theorem d_Surroundings_init_44 : decode b_Surroundings_init 44 = .ok (.newarray .int, 2) := by decide +kernel
theorem d_Surroundings_init_46 : decode b_Surroundings_init 46 = .ok (.putfield 30, 3) := by decide +kernel
theorem d_Surroundings_init_49 : decode b_Surroundings_init 49 = .ok (.aload_n 0, 1) := by decide +kernel
theorem d_Surroundings_init_50 : decode b_Surroundings_init 50 = .ok (.bipush 24, 2) := by decide +kernel
theorem d_Surroundings_init_52 : decode b_Surroundings_init 52 = .ok (.newarray .int, 2) := by decide +kernel
theorem d_Surroundings_init_54 : decode b_Surroundings_init 54 = .ok (.putfield 33, 3) := by decide +kernel
theorem d_Surroundings_init_57 : decode b_Surroundings_init 57 = .ok (.aload_n 0, 1) := by decide +kernel
theorem d_Surroundings_init_58 : decode b_Surroundings_init 58 = .ok (.bipush 24, 2) := by decide +kernel
theorem d_Surroundings_init_60 : decode b_Surroundings_init 60 = .ok (.newarray .int, 2) := by decide +kernel
theorem d_Surroundings_init_62 : decode b_Surroundings_init 62 = .ok (.putfield 36, 3) := by decide +kernel
theorem d_Surroundings_init_65 : decode b_Surroundings_init 65 = .ok (.aload_n 0, 1) := by decide +kernel
theorem d_Surroundings_init_66 : decode b_Surroundings_init 66 = .ok (.bipush 10, 2) := by decide +kernel
theorem d_Surroundings_init_68 : decode b_Surroundings_init 68 = .ok (.putfield 39, 3) := by decide +kernel
theorem d_Surroundings_init_71 : decode b_Surroundings_init 71 = .ok (.aload_n 0, 1) := by decide +kernel
theorem d_Surroundings_init_72 : decode b_Surroundings_init 72 = .ok (.bipush 10, 2) := by decide +kernel
theorem d_Surroundings_init_74 : decode b_Surroundings_init 74 = .ok (.putfield 43, 3) := by decide +kernel
theorem d_Surroundings_init_77 : decode b_Surroundings_init 77 = .ok (.return_, 1) := by decide +kernel
abbrev b_Surroundings_pressureAt : ByteArray := prog_9_method_2_code
def y_Surroundings_pressureAt : MethodName := ⟨"WallDamp$Surroundings", "pressureAt", "(II)I"⟩
def ws_Surroundings_pressureAt : List Cond := .code y_Surroundings_pressureAt b_Surroundings_pressureAt 3 (some (.int)) :: x_tb
theorem pd_Surroundings_pressureAt : y_Surroundings_pressureAt.cls ≠ "java/lang/invoke/MethodHandle" ∧ y_Surroundings_pressureAt.cls ≠ "java/lang/invoke/VarHandle" ∧ (parseMethodDescriptor y_Surroundings_pressureAt.desc).map (fun d => d.parameters.length) = some 2 := by decide +kernel
theorem d_Surroundings_pressureAt_0 : decode b_Surroundings_pressureAt 0 = .ok (.aload_n 0, 1) := by decide +kernel
theorem d_Surroundings_pressureAt_1 : decode b_Surroundings_pressureAt 1 = .ok (.getfield 16, 3) := by decide +kernel
theorem d_Surroundings_pressureAt_4 : decode b_Surroundings_pressureAt 4 = .ok (.iload_n 1, 1) := by decide +kernel
theorem d_Surroundings_pressureAt_5 : decode b_Surroundings_pressureAt 5 = .ok (.invokevirtual 46, 3) := by decide +kernel
theorem d_Surroundings_pressureAt_8 : decode b_Surroundings_pressureAt 8 = .ok (.i2l, 1) := by decide +kernel
theorem d_Surroundings_pressureAt_9 : decode b_Surroundings_pressureAt 9 = .ok (.iload_n 2, 1) := by decide +kernel
theorem d_Surroundings_pressureAt_10 : decode b_Surroundings_pressureAt 10 = .ok (.i2l, 1) := by decide +kernel
theorem d_Surroundings_pressureAt_11 : decode b_Surroundings_pressureAt 11 = .ok (.lmul, 1) := by decide +kernel
theorem d_Surroundings_pressureAt_12 : decode b_Surroundings_pressureAt 12 = .ok (.ldc2_w 50, 3) := by decide +kernel
theorem d_Surroundings_pressureAt_15 : decode b_Surroundings_pressureAt 15 = .ok (.ldiv, 1) := by decide +kernel
theorem d_Surroundings_pressureAt_16 : decode b_Surroundings_pressureAt 16 = .ok (.l2i, 1) := by decide +kernel
theorem d_Surroundings_pressureAt_17 : decode b_Surroundings_pressureAt 17 = .ok (.ireturn, 1) := by decide +kernel
abbrev b_Trials_init : ByteArray := prog_10_method_1_code
def y_Trials_init : MethodName := ⟨"WallDamp$Trials", "<init>", "(LWallDamp$Wall;)V"⟩
def ws_Trials_init : List Cond := .code y_Trials_init b_Trials_init 2 none :: x_tb
theorem pd_Trials_init : y_Trials_init.cls ≠ "java/lang/invoke/MethodHandle" ∧ y_Trials_init.cls ≠ "java/lang/invoke/VarHandle" ∧ (parseMethodDescriptor y_Trials_init.desc).map (fun d => d.parameters.length) = some 1 := by decide +kernel
theorem d_Trials_init_0 : decode b_Trials_init 0 = .ok (.aload_n 0, 1) := by decide +kernel
theorem d_Trials_init_1 : decode b_Trials_init 1 = .ok (.invokespecial 3, 3) := by decide +kernel
theorem d_Trials_init_4 : decode b_Trials_init 4 = .ok (.aload_n 0, 1) := by decide +kernel
theorem d_Trials_init_5 : decode b_Trials_init 5 = .ok (.aload_n 1, 1) := by decide +kernel
theorem d_Trials_init_6 : decode b_Trials_init 6 = .ok (.putfield 9, 3) := by decide +kernel
theorem d_Trials_init_9 : decode b_Trials_init 9 = .ok (.aload_n 0, 1) := by decide +kernel
theorem d_Trials_init_10 : decode b_Trials_init 10 = .ok (.iconst 5, 1) := by decide +kernel
theorem d_Trials_init_11 : decode b_Trials_init 11 = .ok (.newarray .int, 2) := by decide +kernel
theorem d_Trials_init_13 : decode b_Trials_init 13 = .ok (.putfield 15, 3) := by decide +kernel
theorem d_Trials_init_16 : decode b_Trials_init 16 = .ok (.aload_n 0, 1) := by decide +kernel
theorem d_Trials_init_17 : decode b_Trials_init 17 = .ok (.iconst 5, 1) := by decide +kernel
theorem d_Trials_init_18 : decode b_Trials_init 18 = .ok (.newarray .int, 2) := by decide +kernel
theorem d_Trials_init_20 : decode b_Trials_init 20 = .ok (.putfield 19, 3) := by decide +kernel
theorem d_Trials_init_23 : decode b_Trials_init 23 = .ok (.return_, 1) := by decide +kernel
abbrev b_Trials_findDriest : ByteArray := prog_10_method_2_code
def y_Trials_findDriest : MethodName := ⟨"WallDamp$Trials", "findDriest", "(LWallDamp$Wall;LWallDamp$Surroundings;I)V"⟩
def ws_Trials_findDriest : List Cond := .code y_Trials_findDriest b_Trials_findDriest 11 none :: x_tb
theorem pd_Trials_findDriest : y_Trials_findDriest.cls ≠ "java/lang/invoke/MethodHandle" ∧ y_Trials_findDriest.cls ≠ "java/lang/invoke/VarHandle" ∧ (parseMethodDescriptor y_Trials_findDriest.desc).map (fun d => d.parameters.length) = some 3 := by decide +kernel
theorem d_Trials_findDriest_0 : decode b_Trials_findDriest 0 = .ok (.iconst 5, 1) := by decide +kernel
theorem d_Trials_findDriest_1 : decode b_Trials_findDriest 1 = .ok (.aload_n 1, 1) := by decide +kernel
theorem d_Trials_findDriest_2 : decode b_Trials_findDriest 2 = .ok (.getfield 22, 3) := by decide +kernel
theorem d_Trials_findDriest_5 : decode b_Trials_findDriest 5 = .ok (.arraylength, 1) := by decide +kernel
theorem d_Trials_findDriest_6 : decode b_Trials_findDriest 6 = .ok (.invokestatic 28, 3) := by decide +kernel
theorem d_Trials_findDriest_9 : decode b_Trials_findDriest 9 = .ok (.istore 4, 2) := by decide +kernel
theorem d_Trials_findDriest_11 : decode b_Trials_findDriest 11 = .ok (.iconst 0, 1) := by decide +kernel
theorem d_Trials_findDriest_12 : decode b_Trials_findDriest 12 = .ok (.istore 5, 2) := by decide +kernel
theorem d_Trials_findDriest_14 : decode b_Trials_findDriest 14 = .ok (.iload 5, 2) := by decide +kernel
theorem d_Trials_findDriest_16 : decode b_Trials_findDriest 16 = .ok (.iload 4, 2) := by decide +kernel
theorem d_Trials_findDriest_18 : decode b_Trials_findDriest 18 = .ok (.if_icmp .ge 18, 3) := by decide +kernel
theorem d_Trials_findDriest_21 : decode b_Trials_findDriest 21 = .ok (.aload_n 0, 1) := by decide +kernel
theorem d_Trials_findDriest_22 : decode b_Trials_findDriest 22 = .ok (.getfield 15, 3) := by decide +kernel
theorem d_Trials_findDriest_25 : decode b_Trials_findDriest 25 = .ok (.iload 5, 2) := by decide +kernel
theorem d_Trials_findDriest_27 : decode b_Trials_findDriest 27 = .ok (.iload 5, 2) := by decide +kernel
theorem d_Trials_findDriest_29 : decode b_Trials_findDriest 29 = .ok (.iastore, 1) := by decide +kernel
theorem d_Trials_findDriest_30 : decode b_Trials_findDriest 30 = .ok (.iinc 5 1, 3) := by decide +kernel
theorem d_Trials_findDriest_33 : decode b_Trials_findDriest 33 = .ok (.goto (-19), 3) := by decide +kernel
theorem d_Trials_findDriest_36 : decode b_Trials_findDriest 36 = .ok (.ldc2_w 34, 3) := by decide +kernel
theorem d_Trials_findDriest_39 : decode b_Trials_findDriest 39 = .ok (.lstore 5, 2) := by decide +kernel
theorem d_Trials_findDriest_41 : decode b_Trials_findDriest 41 = .ok (.iconst 1, 1) := by decide +kernel
theorem d_Trials_findDriest_42 : decode b_Trials_findDriest 42 = .ok (.istore 7, 2) := by decide +kernel
theorem d_Trials_findDriest_44 : decode b_Trials_findDriest 44 = .ok (.iconst 0, 1) := by decide +kernel
theorem d_Trials_findDriest_45 : decode b_Trials_findDriest 45 = .ok (.istore 8, 2) := by decide +kernel
theorem d_Trials_findDriest_47 : decode b_Trials_findDriest 47 = .ok (.iload 7, 2) := by decide +kernel
theorem d_Trials_findDriest_49 : decode b_Trials_findDriest 49 = .ok (.ifCond .eq 51, 3) := by decide +kernel
theorem d_Trials_findDriest_52 : decode b_Trials_findDriest 52 = .ok (.iload 8, 2) := by decide +kernel
theorem d_Trials_findDriest_54 : decode b_Trials_findDriest 54 = .ok (.bipush 120, 2) := by decide +kernel
theorem d_Trials_findDriest_56 : decode b_Trials_findDriest 56 = .ok (.if_icmp .ge 44, 3) := by decide +kernel
theorem d_Trials_findDriest_59 : decode b_Trials_findDriest 59 = .ok (.aload_n 0, 1) := by decide +kernel
theorem d_Trials_findDriest_60 : decode b_Trials_findDriest 60 = .ok (.aload_n 1, 1) := by decide +kernel
theorem d_Trials_findDriest_61 : decode b_Trials_findDriest 61 = .ok (.aload_n 2, 1) := by decide +kernel
theorem d_Trials_findDriest_62 : decode b_Trials_findDriest 62 = .ok (.iload_n 3, 1) := by decide +kernel
theorem d_Trials_findDriest_63 : decode b_Trials_findDriest 63 = .ok (.invokevirtual 36, 3) := by decide +kernel
theorem d_Trials_findDriest_66 : decode b_Trials_findDriest 66 = .ok (.lstore 9, 2) := by decide +kernel
theorem d_Trials_findDriest_68 : decode b_Trials_findDriest 68 = .ok (.lload 9, 2) := by decide +kernel
theorem d_Trials_findDriest_70 : decode b_Trials_findDriest 70 = .ok (.lload 5, 2) := by decide +kernel
theorem d_Trials_findDriest_72 : decode b_Trials_findDriest 72 = .ok (.lcmp, 1) := by decide +kernel
theorem d_Trials_findDriest_73 : decode b_Trials_findDriest 73 = .ok (.ifCond .ge 13, 3) := by decide +kernel
theorem d_Trials_findDriest_76 : decode b_Trials_findDriest 76 = .ok (.lload 9, 2) := by decide +kernel
theorem d_Trials_findDriest_78 : decode b_Trials_findDriest 78 = .ok (.lstore 5, 2) := by decide +kernel
theorem d_Trials_findDriest_80 : decode b_Trials_findDriest 80 = .ok (.aload_n 0, 1) := by decide +kernel
theorem d_Trials_findDriest_81 : decode b_Trials_findDriest 81 = .ok (.iload 4, 2) := by decide +kernel
theorem d_Trials_findDriest_83 : decode b_Trials_findDriest 83 = .ok (.invokevirtual 40, 3) := by decide +kernel
theorem d_Trials_findDriest_86 : decode b_Trials_findDriest 86 = .ok (.aload_n 0, 1) := by decide +kernel
theorem d_Trials_findDriest_87 : decode b_Trials_findDriest 87 = .ok (.iload 4, 2) := by decide +kernel
theorem d_Trials_findDriest_89 : decode b_Trials_findDriest 89 = .ok (.invokevirtual 44, 3) := by decide +kernel
theorem d_Trials_findDriest_92 : decode b_Trials_findDriest 92 = .ok (.istore 7, 2) := by decide +kernel
theorem d_Trials_findDriest_94 : decode b_Trials_findDriest 94 = .ok (.iinc 8 1, 3) := by decide +kernel
theorem d_Trials_findDriest_97 : decode b_Trials_findDriest 97 = .ok (.goto (-50), 3) := by decide +kernel
theorem d_Trials_findDriest_100 : decode b_Trials_findDriest 100 = .ok (.return_, 1) := by decide +kernel
abbrev b_Trials_keepRow : ByteArray := prog_10_method_3_code
def y_Trials_keepRow : MethodName := ⟨"WallDamp$Trials", "keepRow", "(I)V"⟩
def ws_Trials_keepRow : List Cond := .code y_Trials_keepRow b_Trials_keepRow 3 none :: x_tb
theorem pd_Trials_keepRow : y_Trials_keepRow.cls ≠ "java/lang/invoke/MethodHandle" ∧ y_Trials_keepRow.cls ≠ "java/lang/invoke/VarHandle" ∧ (parseMethodDescriptor y_Trials_keepRow.desc).map (fun d => d.parameters.length) = some 1 := by decide +kernel
theorem d_Trials_keepRow_0 : decode b_Trials_keepRow 0 = .ok (.iconst 0, 1) := by decide +kernel
theorem d_Trials_keepRow_1 : decode b_Trials_keepRow 1 = .ok (.istore_n 2, 1) := by decide +kernel
theorem d_Trials_keepRow_2 : decode b_Trials_keepRow 2 = .ok (.iload_n 2, 1) := by decide +kernel
theorem d_Trials_keepRow_3 : decode b_Trials_keepRow 3 = .ok (.iload_n 1, 1) := by decide +kernel
theorem d_Trials_keepRow_4 : decode b_Trials_keepRow 4 = .ok (.if_icmp .ge 21, 3) := by decide +kernel
theorem d_Trials_keepRow_7 : decode b_Trials_keepRow 7 = .ok (.aload_n 0, 1) := by decide +kernel
theorem d_Trials_keepRow_8 : decode b_Trials_keepRow 8 = .ok (.getfield 19, 3) := by decide +kernel
theorem d_Trials_keepRow_11 : decode b_Trials_keepRow 11 = .ok (.iload_n 2, 1) := by decide +kernel
theorem d_Trials_keepRow_12 : decode b_Trials_keepRow 12 = .ok (.aload_n 0, 1) := by decide +kernel
theorem d_Trials_keepRow_13 : decode b_Trials_keepRow 13 = .ok (.getfield 15, 3) := by decide +kernel
theorem d_Trials_keepRow_16 : decode b_Trials_keepRow 16 = .ok (.iload_n 2, 1) := by decide +kernel
theorem d_Trials_keepRow_17 : decode b_Trials_keepRow 17 = .ok (.iaload, 1) := by decide +kernel
theorem d_Trials_keepRow_18 : decode b_Trials_keepRow 18 = .ok (.iastore, 1) := by decide +kernel
theorem d_Trials_keepRow_19 : decode b_Trials_keepRow 19 = .ok (.iinc 2 1, 3) := by decide +kernel
theorem d_Trials_keepRow_22 : decode b_Trials_keepRow 22 = .ok (.goto (-20), 3) := by decide +kernel
theorem d_Trials_keepRow_25 : decode b_Trials_keepRow 25 = .ok (.return_, 1) := by decide +kernel
abbrev b_Trials_waterBehind : ByteArray := prog_10_method_4_code
def y_Trials_waterBehind : MethodName := ⟨"WallDamp$Trials", "waterBehind", "(LWallDamp$Wall;LWallDamp$Surroundings;I)J"⟩
def ws_Trials_waterBehind : List Cond := .code y_Trials_waterBehind b_Trials_waterBehind 6 (some (.long)) :: x_tb
theorem pd_Trials_waterBehind : y_Trials_waterBehind.cls ≠ "java/lang/invoke/MethodHandle" ∧ y_Trials_waterBehind.cls ≠ "java/lang/invoke/VarHandle" ∧ (parseMethodDescriptor y_Trials_waterBehind.desc).map (fun d => d.parameters.length) = some 3 := by decide +kernel
theorem d_Trials_waterBehind_0 : decode b_Trials_waterBehind 0 = .ok (.iconst 0, 1) := by decide +kernel
theorem d_Trials_waterBehind_1 : decode b_Trials_waterBehind 1 = .ok (.istore 4, 2) := by decide +kernel
theorem d_Trials_waterBehind_3 : decode b_Trials_waterBehind 3 = .ok (.iload 4, 2) := by decide +kernel
theorem d_Trials_waterBehind_5 : decode b_Trials_waterBehind 5 = .ok (.aload_n 0, 1) := by decide +kernel
theorem d_Trials_waterBehind_6 : decode b_Trials_waterBehind 6 = .ok (.getfield 9, 3) := by decide +kernel
theorem d_Trials_waterBehind_9 : decode b_Trials_waterBehind 9 = .ok (.getfield 22, 3) := by decide +kernel
theorem d_Trials_waterBehind_12 : decode b_Trials_waterBehind 12 = .ok (.arraylength, 1) := by decide +kernel
theorem d_Trials_waterBehind_13 : decode b_Trials_waterBehind 13 = .ok (.if_icmp .ge 63, 3) := by decide +kernel
theorem d_Trials_waterBehind_16 : decode b_Trials_waterBehind 16 = .ok (.iload 4, 2) := by decide +kernel
theorem d_Trials_waterBehind_18 : decode b_Trials_waterBehind 18 = .ok (.aload_n 0, 1) := by decide +kernel
theorem d_Trials_waterBehind_19 : decode b_Trials_waterBehind 19 = .ok (.getfield 15, 3) := by decide +kernel
theorem d_Trials_waterBehind_22 : decode b_Trials_waterBehind 22 = .ok (.arraylength, 1) := by decide +kernel
theorem d_Trials_waterBehind_23 : decode b_Trials_waterBehind 23 = .ok (.if_icmp .ge 53, 3) := by decide +kernel
theorem d_Trials_waterBehind_26 : decode b_Trials_waterBehind 26 = .ok (.aload_n 0, 1) := by decide +kernel
theorem d_Trials_waterBehind_27 : decode b_Trials_waterBehind 27 = .ok (.getfield 15, 3) := by decide +kernel
theorem d_Trials_waterBehind_30 : decode b_Trials_waterBehind 30 = .ok (.iload 4, 2) := by decide +kernel
theorem d_Trials_waterBehind_32 : decode b_Trials_waterBehind 32 = .ok (.iaload, 1) := by decide +kernel
theorem d_Trials_waterBehind_33 : decode b_Trials_waterBehind 33 = .ok (.istore 5, 2) := by decide +kernel
theorem d_Trials_waterBehind_35 : decode b_Trials_waterBehind 35 = .ok (.iload 5, 2) := by decide +kernel
theorem d_Trials_waterBehind_37 : decode b_Trials_waterBehind 37 = .ok (.ifCond .lt 33, 3) := by decide +kernel
theorem d_Trials_waterBehind_40 : decode b_Trials_waterBehind 40 = .ok (.iload 5, 2) := by decide +kernel
theorem d_Trials_waterBehind_42 : decode b_Trials_waterBehind 42 = .ok (.aload_n 1, 1) := by decide +kernel
theorem d_Trials_waterBehind_43 : decode b_Trials_waterBehind 43 = .ok (.getfield 22, 3) := by decide +kernel
theorem d_Trials_waterBehind_46 : decode b_Trials_waterBehind 46 = .ok (.arraylength, 1) := by decide +kernel
theorem d_Trials_waterBehind_47 : decode b_Trials_waterBehind 47 = .ok (.if_icmp .ge 23, 3) := by decide +kernel
theorem d_Trials_waterBehind_50 : decode b_Trials_waterBehind 50 = .ok (.aload_n 0, 1) := by decide +kernel
theorem d_Trials_waterBehind_51 : decode b_Trials_waterBehind 51 = .ok (.getfield 9, 3) := by decide +kernel
theorem d_Trials_waterBehind_54 : decode b_Trials_waterBehind 54 = .ok (.getfield 22, 3) := by decide +kernel
theorem d_Trials_waterBehind_57 : decode b_Trials_waterBehind 57 = .ok (.iload 4, 2) := by decide +kernel
theorem d_Trials_waterBehind_59 : decode b_Trials_waterBehind 59 = .ok (.aaload, 1) := by decide +kernel
theorem d_Trials_waterBehind_60 : decode b_Trials_waterBehind 60 = .ok (.aload_n 1, 1) := by decide +kernel
theorem d_Trials_waterBehind_61 : decode b_Trials_waterBehind 61 = .ok (.getfield 22, 3) := by decide +kernel
theorem d_Trials_waterBehind_64 : decode b_Trials_waterBehind 64 = .ok (.iload 5, 2) := by decide +kernel
theorem d_Trials_waterBehind_66 : decode b_Trials_waterBehind 66 = .ok (.aaload, 1) := by decide +kernel
theorem d_Trials_waterBehind_67 : decode b_Trials_waterBehind 67 = .ok (.invokevirtual 48, 3) := by decide +kernel
theorem d_Trials_waterBehind_70 : decode b_Trials_waterBehind 70 = .ok (.iinc 4 1, 3) := by decide +kernel
theorem d_Trials_waterBehind_73 : decode b_Trials_waterBehind 73 = .ok (.goto (-70), 3) := by decide +kernel
theorem d_Trials_waterBehind_76 : decode b_Trials_waterBehind 76 = .ok (.iconst 0, 1) := by decide +kernel
theorem d_Trials_waterBehind_77 : decode b_Trials_waterBehind 77 = .ok (.istore 4, 2) := by decide +kernel
theorem d_Trials_waterBehind_79 : decode b_Trials_waterBehind 79 = .ok (.iload 4, 2) := by decide +kernel
theorem d_Trials_waterBehind_81 : decode b_Trials_waterBehind 81 = .ok (.iload_n 3, 1) := by decide +kernel
theorem d_Trials_waterBehind_82 : decode b_Trials_waterBehind 82 = .ok (.if_icmp .ge 19, 3) := by decide +kernel
theorem d_Trials_waterBehind_85 : decode b_Trials_waterBehind 85 = .ok (.aload_n 0, 1) := by decide +kernel
theorem d_Trials_waterBehind_86 : decode b_Trials_waterBehind 86 = .ok (.getfield 9, 3) := by decide +kernel
theorem d_Trials_waterBehind_89 : decode b_Trials_waterBehind 89 = .ok (.aload_n 2, 1) := by decide +kernel
theorem d_Trials_waterBehind_90 : decode b_Trials_waterBehind 90 = .ok (.iload 4, 2) := by decide +kernel
theorem d_Trials_waterBehind_92 : decode b_Trials_waterBehind 92 = .ok (.invokevirtual 54, 3) := by decide +kernel
theorem d_Trials_waterBehind_95 : decode b_Trials_waterBehind 95 = .ok (.iinc 4 1, 3) := by decide +kernel
theorem d_Trials_waterBehind_98 : decode b_Trials_waterBehind 98 = .ok (.goto (-19), 3) := by decide +kernel
theorem d_Trials_waterBehind_101 : decode b_Trials_waterBehind 101 = .ok (.aload_n 0, 1) := by decide +kernel
theorem d_Trials_waterBehind_102 : decode b_Trials_waterBehind 102 = .ok (.getfield 9, 3) := by decide +kernel
theorem d_Trials_waterBehind_105 : decode b_Trials_waterBehind 105 = .ok (.invokevirtual 58, 3) := by decide +kernel
theorem d_Trials_waterBehind_108 : decode b_Trials_waterBehind 108 = .ok (.lreturn, 1) := by decide +kernel
abbrev b_Trials_stepRow : ByteArray := prog_10_method_5_code
def y_Trials_stepRow : MethodName := ⟨"WallDamp$Trials", "stepRow", "(I)Z"⟩
def ws_Trials_stepRow : List Cond := .code y_Trials_stepRow b_Trials_stepRow 5 (some (.boolean)) :: x_tb
theorem pd_Trials_stepRow : y_Trials_stepRow.cls ≠ "java/lang/invoke/MethodHandle" ∧ y_Trials_stepRow.cls ≠ "java/lang/invoke/VarHandle" ∧ (parseMethodDescriptor y_Trials_stepRow.desc).map (fun d => d.parameters.length) = some 1 := by decide +kernel
theorem d_Trials_stepRow_0 : decode b_Trials_stepRow 0 = .ok (.iload_n 1, 1) := by decide +kernel
theorem d_Trials_stepRow_1 : decode b_Trials_stepRow 1 = .ok (.iconst 2, 1) := by decide +kernel
theorem d_Trials_stepRow_2 : decode b_Trials_stepRow 2 = .ok (.isub, 1) := by decide +kernel
theorem d_Trials_stepRow_3 : decode b_Trials_stepRow 3 = .ok (.istore_n 2, 1) := by decide +kernel
theorem d_Trials_stepRow_4 : decode b_Trials_stepRow 4 = .ok (.iload_n 2, 1) := by decide +kernel
theorem d_Trials_stepRow_5 : decode b_Trials_stepRow 5 = .ok (.ifCond .lt 26, 3) := by decide +kernel
theorem d_Trials_stepRow_8 : decode b_Trials_stepRow 8 = .ok (.aload_n 0, 1) := by decide +kernel
theorem d_Trials_stepRow_9 : decode b_Trials_stepRow 9 = .ok (.getfield 15, 3) := by decide +kernel
theorem d_Trials_stepRow_12 : decode b_Trials_stepRow 12 = .ok (.iload_n 2, 1) := by decide +kernel
theorem d_Trials_stepRow_13 : decode b_Trials_stepRow 13 = .ok (.iaload, 1) := by decide +kernel
theorem d_Trials_stepRow_14 : decode b_Trials_stepRow 14 = .ok (.aload_n 0, 1) := by decide +kernel
theorem d_Trials_stepRow_15 : decode b_Trials_stepRow 15 = .ok (.getfield 15, 3) := by decide +kernel
theorem d_Trials_stepRow_18 : decode b_Trials_stepRow 18 = .ok (.iload_n 2, 1) := by decide +kernel
theorem d_Trials_stepRow_19 : decode b_Trials_stepRow 19 = .ok (.iconst 1, 1) := by decide +kernel
theorem d_Trials_stepRow_20 : decode b_Trials_stepRow 20 = .ok (.iadd, 1) := by decide +kernel
theorem d_Trials_stepRow_21 : decode b_Trials_stepRow 21 = .ok (.iaload, 1) := by decide +kernel
theorem d_Trials_stepRow_22 : decode b_Trials_stepRow 22 = .ok (.if_icmp .le 9, 3) := by decide +kernel
theorem d_Trials_stepRow_25 : decode b_Trials_stepRow 25 = .ok (.iinc 2 (-1), 3) := by decide +kernel
theorem d_Trials_stepRow_28 : decode b_Trials_stepRow 28 = .ok (.goto (-24), 3) := by decide +kernel
theorem d_Trials_stepRow_31 : decode b_Trials_stepRow 31 = .ok (.iload_n 2, 1) := by decide +kernel
theorem d_Trials_stepRow_32 : decode b_Trials_stepRow 32 = .ok (.ifCond .ge 5, 3) := by decide +kernel
theorem d_Trials_stepRow_35 : decode b_Trials_stepRow 35 = .ok (.iconst 0, 1) := by decide +kernel
theorem d_Trials_stepRow_36 : decode b_Trials_stepRow 36 = .ok (.ireturn, 1) := by decide +kernel
theorem d_Trials_stepRow_37 : decode b_Trials_stepRow 37 = .ok (.iload_n 1, 1) := by decide +kernel
theorem d_Trials_stepRow_38 : decode b_Trials_stepRow 38 = .ok (.iconst 1, 1) := by decide +kernel
theorem d_Trials_stepRow_39 : decode b_Trials_stepRow 39 = .ok (.isub, 1) := by decide +kernel
theorem d_Trials_stepRow_40 : decode b_Trials_stepRow 40 = .ok (.istore_n 3, 1) := by decide +kernel
theorem d_Trials_stepRow_41 : decode b_Trials_stepRow 41 = .ok (.iload_n 3, 1) := by decide +kernel
theorem d_Trials_stepRow_42 : decode b_Trials_stepRow 42 = .ok (.iload_n 2, 1) := by decide +kernel
theorem d_Trials_stepRow_43 : decode b_Trials_stepRow 43 = .ok (.if_icmp .le 24, 3) := by decide +kernel
theorem d_Trials_stepRow_46 : decode b_Trials_stepRow 46 = .ok (.aload_n 0, 1) := by decide +kernel
theorem d_Trials_stepRow_47 : decode b_Trials_stepRow 47 = .ok (.getfield 15, 3) := by decide +kernel
theorem d_Trials_stepRow_50 : decode b_Trials_stepRow 50 = .ok (.iload_n 3, 1) := by decide +kernel
theorem d_Trials_stepRow_51 : decode b_Trials_stepRow 51 = .ok (.iaload, 1) := by decide +kernel
theorem d_Trials_stepRow_52 : decode b_Trials_stepRow 52 = .ok (.aload_n 0, 1) := by decide +kernel
theorem d_Trials_stepRow_53 : decode b_Trials_stepRow 53 = .ok (.getfield 15, 3) := by decide +kernel
theorem d_Trials_stepRow_56 : decode b_Trials_stepRow 56 = .ok (.iload_n 2, 1) := by decide +kernel
theorem d_Trials_stepRow_57 : decode b_Trials_stepRow 57 = .ok (.iaload, 1) := by decide +kernel
theorem d_Trials_stepRow_58 : decode b_Trials_stepRow 58 = .ok (.if_icmp .ge 9, 3) := by decide +kernel
theorem d_Trials_stepRow_61 : decode b_Trials_stepRow 61 = .ok (.iinc 3 (-1), 3) := by decide +kernel
theorem d_Trials_stepRow_64 : decode b_Trials_stepRow 64 = .ok (.goto (-23), 3) := by decide +kernel
theorem d_Trials_stepRow_67 : decode b_Trials_stepRow 67 = .ok (.aload_n 0, 1) := by decide +kernel
theorem d_Trials_stepRow_68 : decode b_Trials_stepRow 68 = .ok (.iload_n 2, 1) := by decide +kernel
theorem d_Trials_stepRow_69 : decode b_Trials_stepRow 69 = .ok (.iload_n 3, 1) := by decide +kernel
theorem d_Trials_stepRow_70 : decode b_Trials_stepRow 70 = .ok (.invokevirtual 62, 3) := by decide +kernel
theorem d_Trials_stepRow_73 : decode b_Trials_stepRow 73 = .ok (.iconst 1, 1) := by decide +kernel
theorem d_Trials_stepRow_74 : decode b_Trials_stepRow 74 = .ok (.istore 4, 2) := by decide +kernel
theorem d_Trials_stepRow_76 : decode b_Trials_stepRow 76 = .ok (.iload_n 2, 1) := by decide +kernel
theorem d_Trials_stepRow_77 : decode b_Trials_stepRow 77 = .ok (.iload 4, 2) := by decide +kernel
theorem d_Trials_stepRow_79 : decode b_Trials_stepRow 79 = .ok (.iadd, 1) := by decide +kernel
theorem d_Trials_stepRow_80 : decode b_Trials_stepRow 80 = .ok (.iload_n 1, 1) := by decide +kernel
theorem d_Trials_stepRow_81 : decode b_Trials_stepRow 81 = .ok (.iload 4, 2) := by decide +kernel
theorem d_Trials_stepRow_83 : decode b_Trials_stepRow 83 = .ok (.isub, 1) := by decide +kernel
theorem d_Trials_stepRow_84 : decode b_Trials_stepRow 84 = .ok (.if_icmp .ge 21, 3) := by decide +kernel
theorem d_Trials_stepRow_87 : decode b_Trials_stepRow 87 = .ok (.aload_n 0, 1) := by decide +kernel
theorem d_Trials_stepRow_88 : decode b_Trials_stepRow 88 = .ok (.iload_n 2, 1) := by decide +kernel
theorem d_Trials_stepRow_89 : decode b_Trials_stepRow 89 = .ok (.iload 4, 2) := by decide +kernel
theorem d_Trials_stepRow_91 : decode b_Trials_stepRow 91 = .ok (.iadd, 1) := by decide +kernel
theorem d_Trials_stepRow_92 : decode b_Trials_stepRow 92 = .ok (.iload_n 1, 1) := by decide +kernel
theorem d_Trials_stepRow_93 : decode b_Trials_stepRow 93 = .ok (.iload 4, 2) := by decide +kernel
theorem d_Trials_stepRow_95 : decode b_Trials_stepRow 95 = .ok (.isub, 1) := by decide +kernel
theorem d_Trials_stepRow_96 : decode b_Trials_stepRow 96 = .ok (.invokevirtual 62, 3) := by decide +kernel
theorem d_Trials_stepRow_99 : decode b_Trials_stepRow 99 = .ok (.iinc 4 1, 3) := by decide +kernel
theorem d_Trials_stepRow_102 : decode b_Trials_stepRow 102 = .ok (.goto (-26), 3) := by decide +kernel
theorem d_Trials_stepRow_105 : decode b_Trials_stepRow 105 = .ok (.iconst 1, 1) := by decide +kernel
theorem d_Trials_stepRow_106 : decode b_Trials_stepRow 106 = .ok (.ireturn, 1) := by decide +kernel
abbrev b_Trials_swap : ByteArray := prog_10_method_6_code
def y_Trials_swap : MethodName := ⟨"WallDamp$Trials", "swap", "(II)V"⟩
def ws_Trials_swap : List Cond := .code y_Trials_swap b_Trials_swap 4 none :: x_tb
theorem pd_Trials_swap : y_Trials_swap.cls ≠ "java/lang/invoke/MethodHandle" ∧ y_Trials_swap.cls ≠ "java/lang/invoke/VarHandle" ∧ (parseMethodDescriptor y_Trials_swap.desc).map (fun d => d.parameters.length) = some 2 := by decide +kernel
theorem d_Trials_swap_0 : decode b_Trials_swap 0 = .ok (.aload_n 0, 1) := by decide +kernel
theorem d_Trials_swap_1 : decode b_Trials_swap 1 = .ok (.getfield 15, 3) := by decide +kernel
theorem d_Trials_swap_4 : decode b_Trials_swap 4 = .ok (.iload_n 1, 1) := by decide +kernel
theorem d_Trials_swap_5 : decode b_Trials_swap 5 = .ok (.iaload, 1) := by decide +kernel
theorem d_Trials_swap_6 : decode b_Trials_swap 6 = .ok (.istore_n 3, 1) := by decide +kernel
theorem d_Trials_swap_7 : decode b_Trials_swap 7 = .ok (.aload_n 0, 1) := by decide +kernel
theorem d_Trials_swap_8 : decode b_Trials_swap 8 = .ok (.getfield 15, 3) := by decide +kernel
theorem d_Trials_swap_11 : decode b_Trials_swap 11 = .ok (.iload_n 1, 1) := by decide +kernel
theorem d_Trials_swap_12 : decode b_Trials_swap 12 = .ok (.aload_n 0, 1) := by decide +kernel
theorem d_Trials_swap_13 : decode b_Trials_swap 13 = .ok (.getfield 15, 3) := by decide +kernel
theorem d_Trials_swap_16 : decode b_Trials_swap 16 = .ok (.iload_n 2, 1) := by decide +kernel
theorem d_Trials_swap_17 : decode b_Trials_swap 17 = .ok (.iaload, 1) := by decide +kernel
theorem d_Trials_swap_18 : decode b_Trials_swap 18 = .ok (.iastore, 1) := by decide +kernel
theorem d_Trials_swap_19 : decode b_Trials_swap 19 = .ok (.aload_n 0, 1) := by decide +kernel
theorem d_Trials_swap_20 : decode b_Trials_swap 20 = .ok (.getfield 15, 3) := by decide +kernel
theorem d_Trials_swap_23 : decode b_Trials_swap 23 = .ok (.iload_n 2, 1) := by decide +kernel
theorem d_Trials_swap_24 : decode b_Trials_swap 24 = .ok (.iload_n 3, 1) := by decide +kernel
theorem d_Trials_swap_25 : decode b_Trials_swap 25 = .ok (.iastore, 1) := by decide +kernel
theorem d_Trials_swap_26 : decode b_Trials_swap 26 = .ok (.return_, 1) := by decide +kernel
abbrev b_Wall_init : ByteArray := prog_11_method_1_code
def y_Wall_init : MethodName := ⟨"WallDamp$Wall", "<init>", "(ILWallDamp$Material;)V"⟩
def ws_Wall_init : List Cond := .code y_Wall_init b_Wall_init 5 none :: x_tb
theorem pd_Wall_init : y_Wall_init.cls ≠ "java/lang/invoke/MethodHandle" ∧ y_Wall_init.cls ≠ "java/lang/invoke/VarHandle" ∧ (parseMethodDescriptor y_Wall_init.desc).map (fun d => d.parameters.length) = some 2 := by decide +kernel
theorem d_Wall_init_0 : decode b_Wall_init 0 = .ok (.aload_n 0, 1) := by decide +kernel
theorem d_Wall_init_1 : decode b_Wall_init 1 = .ok (.invokespecial 3, 3) := by decide +kernel
theorem d_Wall_init_4 : decode b_Wall_init 4 = .ok (.iconst 1, 1) := by decide +kernel
theorem d_Wall_init_5 : decode b_Wall_init 5 = .ok (.iload_n 1, 1) := by decide +kernel
theorem d_Wall_init_6 : decode b_Wall_init 6 = .ok (.invokestatic 9, 3) := by decide +kernel
theorem d_Wall_init_9 : decode b_Wall_init 9 = .ok (.istore_n 3, 1) := by decide +kernel
theorem d_Wall_init_10 : decode b_Wall_init 10 = .ok (.aload_n 0, 1) := by decide +kernel
theorem d_Wall_init_11 : decode b_Wall_init 11 = .ok (.new 15, 3) := by decide +kernel
theorem d_Wall_init_14 : decode b_Wall_init 14 = .ok (.dup, 1) := by decide +kernel
theorem d_Wall_init_15 : decode b_Wall_init 15 = .ok (.invokespecial 17, 3) := by decide +kernel
theorem d_Wall_init_18 : decode b_Wall_init 18 = .ok (.putfield 18, 3) := by decide +kernel
theorem d_Wall_init_21 : decode b_Wall_init 21 = .ok (.aload_n 0, 1) := by decide +kernel
theorem d_Wall_init_22 : decode b_Wall_init 22 = .ok (.new 15, 3) := by decide +kernel
theorem d_Wall_init_25 : decode b_Wall_init 25 = .ok (.dup, 1) := by decide +kernel
theorem d_Wall_init_26 : decode b_Wall_init 26 = .ok (.invokespecial 17, 3) := by decide +kernel
theorem d_Wall_init_29 : decode b_Wall_init 29 = .ok (.putfield 24, 3) := by decide +kernel
theorem d_Wall_init_32 : decode b_Wall_init 32 = .ok (.aload_n 0, 1) := by decide +kernel
theorem d_Wall_init_33 : decode b_Wall_init 33 = .ok (.iload_n 3, 1) := by decide +kernel
theorem d_Wall_init_34 : decode b_Wall_init 34 = .ok (.anewarray 27, 3) := by decide +kernel
theorem d_Wall_init_37 : decode b_Wall_init 37 = .ok (.putfield 29, 3) := by decide +kernel
theorem d_Wall_init_40 : decode b_Wall_init 40 = .ok (.aload_n 0, 1) := by decide +kernel
theorem d_Wall_init_41 : decode b_Wall_init 41 = .ok (.iload_n 3, 1) := by decide +kernel
theorem d_Wall_init_42 : decode b_Wall_init 42 = .ok (.anewarray 33, 3) := by decide +kernel
theorem d_Wall_init_45 : decode b_Wall_init 45 = .ok (.putfield 35, 3) := by decide +kernel
theorem d_Wall_init_48 : decode b_Wall_init 48 = .ok (.iconst 0, 1) := by decide +kernel
theorem d_Wall_init_49 : decode b_Wall_init 49 = .ok (.istore 4, 2) := by decide +kernel
theorem d_Wall_init_51 : decode b_Wall_init 51 = .ok (.iload 4, 2) := by decide +kernel
theorem d_Wall_init_53 : decode b_Wall_init 53 = .ok (.iload_n 3, 1) := by decide +kernel
theorem d_Wall_init_54 : decode b_Wall_init 54 = .ok (.if_icmp .ge 49, 3) := by decide +kernel
theorem d_Wall_init_57 : decode b_Wall_init 57 = .ok (.aload_n 0, 1) := by decide +kernel
theorem d_Wall_init_58 : decode b_Wall_init 58 = .ok (.getfield 29, 3) := by decide +kernel
theorem d_Wall_init_61 : decode b_Wall_init 61 = .ok (.iload 4, 2) := by decide +kernel
theorem d_Wall_init_63 : decode b_Wall_init 63 = .ok (.new 27, 3) := by decide +kernel
theorem d_Wall_init_66 : decode b_Wall_init 66 = .ok (.dup, 1) := by decide +kernel
theorem d_Wall_init_67 : decode b_Wall_init 67 = .ok (.aload_n 2, 1) := by decide +kernel
theorem d_Wall_init_68 : decode b_Wall_init 68 = .ok (.invokespecial 39, 3) := by decide +kernel
theorem d_Wall_init_71 : decode b_Wall_init 71 = .ok (.aastore, 1) := by decide +kernel
theorem d_Wall_init_72 : decode b_Wall_init 72 = .ok (.aload_n 0, 1) := by decide +kernel
theorem d_Wall_init_73 : decode b_Wall_init 73 = .ok (.getfield 35, 3) := by decide +kernel
theorem d_Wall_init_76 : decode b_Wall_init 76 = .ok (.iload 4, 2) := by decide +kernel
theorem d_Wall_init_78 : decode b_Wall_init 78 = .ok (.new 33, 3) := by decide +kernel
theorem d_Wall_init_81 : decode b_Wall_init 81 = .ok (.dup, 1) := by decide +kernel
theorem d_Wall_init_82 : decode b_Wall_init 82 = .ok (.aload_n 0, 1) := by decide +kernel
theorem d_Wall_init_83 : decode b_Wall_init 83 = .ok (.getfield 29, 3) := by decide +kernel
theorem d_Wall_init_86 : decode b_Wall_init 86 = .ok (.iload 4, 2) := by decide +kernel
theorem d_Wall_init_88 : decode b_Wall_init 88 = .ok (.aaload, 1) := by decide +kernel
theorem d_Wall_init_89 : decode b_Wall_init 89 = .ok (.aload_n 0, 1) := by decide +kernel
theorem d_Wall_init_90 : decode b_Wall_init 90 = .ok (.getfield 24, 3) := by decide +kernel
theorem d_Wall_init_93 : decode b_Wall_init 93 = .ok (.invokespecial 42, 3) := by decide +kernel
theorem d_Wall_init_96 : decode b_Wall_init 96 = .ok (.aastore, 1) := by decide +kernel
theorem d_Wall_init_97 : decode b_Wall_init 97 = .ok (.iinc 4 1, 3) := by decide +kernel
theorem d_Wall_init_100 : decode b_Wall_init 100 = .ok (.goto (-49), 3) := by decide +kernel
theorem d_Wall_init_103 : decode b_Wall_init 103 = .ok (.aload_n 0, 1) := by decide +kernel
theorem d_Wall_init_104 : decode b_Wall_init 104 = .ok (.iload_n 3, 1) := by decide +kernel
theorem d_Wall_init_105 : decode b_Wall_init 105 = .ok (.iconst 1, 1) := by decide +kernel
theorem d_Wall_init_106 : decode b_Wall_init 106 = .ok (.isub, 1) := by decide +kernel
theorem d_Wall_init_107 : decode b_Wall_init 107 = .ok (.anewarray 33, 3) := by decide +kernel
theorem d_Wall_init_110 : decode b_Wall_init 110 = .ok (.putfield 45, 3) := by decide +kernel
theorem d_Wall_init_113 : decode b_Wall_init 113 = .ok (.iconst 0, 1) := by decide +kernel
theorem d_Wall_init_114 : decode b_Wall_init 114 = .ok (.istore 4, 2) := by decide +kernel
theorem d_Wall_init_116 : decode b_Wall_init 116 = .ok (.iload 4, 2) := by decide +kernel
theorem d_Wall_init_118 : decode b_Wall_init 118 = .ok (.iload_n 3, 1) := by decide +kernel
theorem d_Wall_init_119 : decode b_Wall_init 119 = .ok (.iconst 1, 1) := by decide +kernel
theorem d_Wall_init_120 : decode b_Wall_init 120 = .ok (.isub, 1) := by decide +kernel
theorem d_Wall_init_121 : decode b_Wall_init 121 = .ok (.if_icmp .ge 39, 3) := by decide +kernel
theorem d_Wall_init_124 : decode b_Wall_init 124 = .ok (.aload_n 0, 1) := by decide +kernel
theorem d_Wall_init_125 : decode b_Wall_init 125 = .ok (.getfield 45, 3) := by decide +kernel
theorem d_Wall_init_128 : decode b_Wall_init 128 = .ok (.iload 4, 2) := by decide +kernel
theorem d_Wall_init_130 : decode b_Wall_init 130 = .ok (.new 33, 3) := by decide +kernel
theorem d_Wall_init_133 : decode b_Wall_init 133 = .ok (.dup, 1) := by decide +kernel
theorem d_Wall_init_134 : decode b_Wall_init 134 = .ok (.aload_n 0, 1) := by decide +kernel
theorem d_Wall_init_135 : decode b_Wall_init 135 = .ok (.getfield 29, 3) := by decide +kernel
theorem d_Wall_init_138 : decode b_Wall_init 138 = .ok (.iload 4, 2) := by decide +kernel
theorem d_Wall_init_140 : decode b_Wall_init 140 = .ok (.aaload, 1) := by decide +kernel
theorem d_Wall_init_141 : decode b_Wall_init 141 = .ok (.aload_n 0, 1) := by decide +kernel
theorem d_Wall_init_142 : decode b_Wall_init 142 = .ok (.getfield 29, 3) := by decide +kernel
theorem d_Wall_init_145 : decode b_Wall_init 145 = .ok (.iload 4, 2) := by decide +kernel
theorem d_Wall_init_147 : decode b_Wall_init 147 = .ok (.iconst 1, 1) := by decide +kernel
theorem d_Wall_init_148 : decode b_Wall_init 148 = .ok (.iadd, 1) := by decide +kernel
theorem d_Wall_init_149 : decode b_Wall_init 149 = .ok (.aaload, 1) := by decide +kernel
theorem d_Wall_init_150 : decode b_Wall_init 150 = .ok (.invokespecial 42, 3) := by decide +kernel
theorem d_Wall_init_153 : decode b_Wall_init 153 = .ok (.aastore, 1) := by decide +kernel
theorem d_Wall_init_154 : decode b_Wall_init 154 = .ok (.iinc 4 1, 3) := by decide +kernel
theorem d_Wall_init_157 : decode b_Wall_init 157 = .ok (.goto (-41), 3) := by decide +kernel
theorem d_Wall_init_160 : decode b_Wall_init 160 = .ok (.aload_n 0, 1) := by decide +kernel
theorem d_Wall_init_161 : decode b_Wall_init 161 = .ok (.new 33, 3) := by decide +kernel
theorem d_Wall_init_164 : decode b_Wall_init 164 = .ok (.dup, 1) := by decide +kernel
theorem d_Wall_init_165 : decode b_Wall_init 165 = .ok (.aload_n 0, 1) := by decide +kernel
theorem d_Wall_init_166 : decode b_Wall_init 166 = .ok (.getfield 18, 3) := by decide +kernel
theorem d_Wall_init_169 : decode b_Wall_init 169 = .ok (.aload_n 0, 1) := by decide +kernel
theorem d_Wall_init_170 : decode b_Wall_init 170 = .ok (.getfield 29, 3) := by decide +kernel
theorem d_Wall_init_173 : decode b_Wall_init 173 = .ok (.iconst 0, 1) := by decide +kernel
theorem d_Wall_init_174 : decode b_Wall_init 174 = .ok (.aaload, 1) := by decide +kernel
theorem d_Wall_init_175 : decode b_Wall_init 175 = .ok (.invokespecial 42, 3) := by decide +kernel
theorem d_Wall_init_178 : decode b_Wall_init 178 = .ok (.putfield 48, 3) := by decide +kernel
theorem d_Wall_init_181 : decode b_Wall_init 181 = .ok (.aload_n 0, 1) := by decide +kernel
theorem d_Wall_init_182 : decode b_Wall_init 182 = .ok (.new 33, 3) := by decide +kernel
theorem d_Wall_init_185 : decode b_Wall_init 185 = .ok (.dup, 1) := by decide +kernel
theorem d_Wall_init_186 : decode b_Wall_init 186 = .ok (.aload_n 0, 1) := by decide +kernel
theorem d_Wall_init_187 : decode b_Wall_init 187 = .ok (.getfield 29, 3) := by decide +kernel
theorem d_Wall_init_190 : decode b_Wall_init 190 = .ok (.iload_n 3, 1) := by decide +kernel
theorem d_Wall_init_191 : decode b_Wall_init 191 = .ok (.iconst 1, 1) := by decide +kernel
theorem d_Wall_init_192 : decode b_Wall_init 192 = .ok (.isub, 1) := by decide +kernel
theorem d_Wall_init_193 : decode b_Wall_init 193 = .ok (.aaload, 1) := by decide +kernel
theorem d_Wall_init_194 : decode b_Wall_init 194 = .ok (.aload_n 0, 1) := by decide +kernel
theorem d_Wall_init_195 : decode b_Wall_init 195 = .ok (.getfield 24, 3) := by decide +kernel
theorem d_Wall_init_198 : decode b_Wall_init 198 = .ok (.invokespecial 42, 3) := by decide +kernel
theorem d_Wall_init_201 : decode b_Wall_init 201 = .ok (.putfield 52, 3) := by decide +kernel
theorem d_Wall_init_204 : decode b_Wall_init 204 = .ok (.aload_n 0, 1) := by decide +kernel
theorem d_Wall_init_205 : decode b_Wall_init 205 = .ok (.new 33, 3) := by decide +kernel
theorem d_Wall_init_208 : decode b_Wall_init 208 = .ok (.dup, 1) := by decide +kernel
theorem d_Wall_init_209 : decode b_Wall_init 209 = .ok (.aload_n 0, 1) := by decide +kernel
theorem d_Wall_init_210 : decode b_Wall_init 210 = .ok (.getfield 18, 3) := by decide +kernel
theorem d_Wall_init_213 : decode b_Wall_init 213 = .ok (.aload_n 0, 1) := by decide +kernel
theorem d_Wall_init_214 : decode b_Wall_init 214 = .ok (.getfield 29, 3) := by decide +kernel
theorem d_Wall_init_217 : decode b_Wall_init 217 = .ok (.iconst 0, 1) := by decide +kernel
theorem d_Wall_init_218 : decode b_Wall_init 218 = .ok (.aaload, 1) := by decide +kernel
theorem d_Wall_init_219 : decode b_Wall_init 219 = .ok (.invokespecial 42, 3) := by decide +kernel
theorem d_Wall_init_222 : decode b_Wall_init 222 = .ok (.putfield 55, 3) := by decide +kernel
theorem d_Wall_init_225 : decode b_Wall_init 225 = .ok (.aload_n 0, 1) := by decide +kernel
theorem d_Wall_init_226 : decode b_Wall_init 226 = .ok (.iconst 3, 1) := by decide +kernel
theorem d_Wall_init_227 : decode b_Wall_init 227 = .ok (.iload_n 3, 1) := by decide +kernel
theorem d_Wall_init_228 : decode b_Wall_init 228 = .ok (.iadd, 1) := by decide +kernel
theorem d_Wall_init_229 : decode b_Wall_init 229 = .ok (.iload_n 3, 1) := by decide +kernel
theorem d_Wall_init_230 : decode b_Wall_init 230 = .ok (.iadd, 1) := by decide +kernel
theorem d_Wall_init_231 : decode b_Wall_init 231 = .ok (.iconst 1, 1) := by decide +kernel
theorem d_Wall_init_232 : decode b_Wall_init 232 = .ok (.isub, 1) := by decide +kernel
theorem d_Wall_init_233 : decode b_Wall_init 233 = .ok (.anewarray 33, 3) := by decide +kernel
theorem d_Wall_init_236 : decode b_Wall_init 236 = .ok (.putfield 58, 3) := by decide +kernel
theorem d_Wall_init_239 : decode b_Wall_init 239 = .ok (.aload_n 0, 1) := by decide +kernel
theorem d_Wall_init_240 : decode b_Wall_init 240 = .ok (.getfield 58, 3) := by decide +kernel
theorem d_Wall_init_243 : decode b_Wall_init 243 = .ok (.iconst 0, 1) := by decide +kernel
theorem d_Wall_init_244 : decode b_Wall_init 244 = .ok (.aload_n 0, 1) := by decide +kernel
theorem d_Wall_init_245 : decode b_Wall_init 245 = .ok (.getfield 48, 3) := by decide +kernel
theorem d_Wall_init_248 : decode b_Wall_init 248 = .ok (.aastore, 1) := by decide +kernel
theorem d_Wall_init_249 : decode b_Wall_init 249 = .ok (.aload_n 0, 1) := by decide +kernel
theorem d_Wall_init_250 : decode b_Wall_init 250 = .ok (.getfield 58, 3) := by decide +kernel
theorem d_Wall_init_253 : decode b_Wall_init 253 = .ok (.iconst 1, 1) := by decide +kernel
theorem d_Wall_init_254 : decode b_Wall_init 254 = .ok (.aload_n 0, 1) := by decide +kernel
theorem d_Wall_init_255 : decode b_Wall_init 255 = .ok (.getfield 52, 3) := by decide +kernel
theorem d_Wall_init_258 : decode b_Wall_init 258 = .ok (.aastore, 1) := by decide +kernel
theorem d_Wall_init_259 : decode b_Wall_init 259 = .ok (.aload_n 0, 1) := by decide +kernel
theorem d_Wall_init_260 : decode b_Wall_init 260 = .ok (.getfield 58, 3) := by decide +kernel
theorem d_Wall_init_263 : decode b_Wall_init 263 = .ok (.iconst 2, 1) := by decide +kernel
theorem d_Wall_init_264 : decode b_Wall_init 264 = .ok (.aload_n 0, 1) := by decide +kernel
theorem d_Wall_init_265 : decode b_Wall_init 265 = .ok (.getfield 55, 3) := by decide +kernel
theorem d_Wall_init_268 : decode b_Wall_init 268 = .ok (.aastore, 1) := by decide +kernel
theorem d_Wall_init_269 : decode b_Wall_init 269 = .ok (.iconst 0, 1) := by decide +kernel
theorem d_Wall_init_270 : decode b_Wall_init 270 = .ok (.istore 4, 2) := by decide +kernel
theorem d_Wall_init_272 : decode b_Wall_init 272 = .ok (.iload 4, 2) := by decide +kernel
theorem d_Wall_init_274 : decode b_Wall_init 274 = .ok (.iload_n 3, 1) := by decide +kernel
theorem d_Wall_init_275 : decode b_Wall_init 275 = .ok (.if_icmp .ge 25, 3) := by decide +kernel
theorem d_Wall_init_278 : decode b_Wall_init 278 = .ok (.aload_n 0, 1) := by decide +kernel
theorem d_Wall_init_279 : decode b_Wall_init 279 = .ok (.getfield 58, 3) := by decide +kernel
theorem d_Wall_init_282 : decode b_Wall_init 282 = .ok (.iconst 3, 1) := by decide +kernel
theorem d_Wall_init_283 : decode b_Wall_init 283 = .ok (.iload 4, 2) := by decide +kernel
theorem d_Wall_init_285 : decode b_Wall_init 285 = .ok (.iadd, 1) := by decide +kernel
theorem d_Wall_init_286 : decode b_Wall_init 286 = .ok (.aload_n 0, 1) := by decide +kernel
theorem d_Wall_init_287 : decode b_Wall_init 287 = .ok (.getfield 35, 3) := by decide +kernel
theorem d_Wall_init_290 : decode b_Wall_init 290 = .ok (.iload 4, 2) := by decide +kernel
theorem d_Wall_init_292 : decode b_Wall_init 292 = .ok (.aaload, 1) := by decide +kernel
theorem d_Wall_init_293 : decode b_Wall_init 293 = .ok (.aastore, 1) := by decide +kernel
theorem d_Wall_init_294 : decode b_Wall_init 294 = .ok (.iinc 4 1, 3) := by decide +kernel
theorem d_Wall_init_297 : decode b_Wall_init 297 = .ok (.goto (-25), 3) := by decide +kernel
theorem d_Wall_init_300 : decode b_Wall_init 300 = .ok (.iconst 0, 1) := by decide +kernel
theorem d_Wall_init_301 : decode b_Wall_init 301 = .ok (.istore 4, 2) := by decide +kernel
theorem d_Wall_init_303 : decode b_Wall_init 303 = .ok (.iload 4, 2) := by decide +kernel
theorem d_Wall_init_305 : decode b_Wall_init 305 = .ok (.iload_n 3, 1) := by decide +kernel
theorem d_Wall_init_306 : decode b_Wall_init 306 = .ok (.iconst 1, 1) := by decide +kernel
theorem d_Wall_init_307 : decode b_Wall_init 307 = .ok (.isub, 1) := by decide +kernel
theorem d_Wall_init_308 : decode b_Wall_init 308 = .ok (.if_icmp .ge 27, 3) := by decide +kernel
theorem d_Wall_init_311 : decode b_Wall_init 311 = .ok (.aload_n 0, 1) := by decide +kernel
theorem d_Wall_init_312 : decode b_Wall_init 312 = .ok (.getfield 58, 3) := by decide +kernel
theorem d_Wall_init_315 : decode b_Wall_init 315 = .ok (.iconst 3, 1) := by decide +kernel
theorem d_Wall_init_316 : decode b_Wall_init 316 = .ok (.iload_n 3, 1) := by decide +kernel
theorem d_Wall_init_317 : decode b_Wall_init 317 = .ok (.iadd, 1) := by decide +kernel
theorem d_Wall_init_318 : decode b_Wall_init 318 = .ok (.iload 4, 2) := by decide +kernel
theorem d_Wall_init_320 : decode b_Wall_init 320 = .ok (.iadd, 1) := by decide +kernel
theorem d_Wall_init_321 : decode b_Wall_init 321 = .ok (.aload_n 0, 1) := by decide +kernel
theorem d_Wall_init_322 : decode b_Wall_init 322 = .ok (.getfield 45, 3) := by decide +kernel
theorem d_Wall_init_325 : decode b_Wall_init 325 = .ok (.iload 4, 2) := by decide +kernel
theorem d_Wall_init_327 : decode b_Wall_init 327 = .ok (.aaload, 1) := by decide +kernel
theorem d_Wall_init_328 : decode b_Wall_init 328 = .ok (.aastore, 1) := by decide +kernel
theorem d_Wall_init_329 : decode b_Wall_init 329 = .ok (.iinc 4 1, 3) := by decide +kernel
theorem d_Wall_init_332 : decode b_Wall_init 332 = .ok (.goto (-29), 3) := by decide +kernel
theorem d_Wall_init_335 : decode b_Wall_init 335 = .ok (.return_, 1) := by decide +kernel
abbrev b_Wall_lastCell : ByteArray := prog_11_method_2_code
def y_Wall_lastCell : MethodName := ⟨"WallDamp$Wall", "lastCell", "()LWallDamp$Cell;"⟩
def ws_Wall_lastCell : List Cond := .code y_Wall_lastCell b_Wall_lastCell 1 (some (.object "WallDamp$Cell")) :: x_tb
theorem pd_Wall_lastCell : y_Wall_lastCell.cls ≠ "java/lang/invoke/MethodHandle" ∧ y_Wall_lastCell.cls ≠ "java/lang/invoke/VarHandle" ∧ (parseMethodDescriptor y_Wall_lastCell.desc).map (fun d => d.parameters.length) = some 0 := by decide +kernel
theorem d_Wall_lastCell_0 : decode b_Wall_lastCell 0 = .ok (.aload_n 0, 1) := by decide +kernel
theorem d_Wall_lastCell_1 : decode b_Wall_lastCell 1 = .ok (.getfield 29, 3) := by decide +kernel
theorem d_Wall_lastCell_4 : decode b_Wall_lastCell 4 = .ok (.aload_n 0, 1) := by decide +kernel
theorem d_Wall_lastCell_5 : decode b_Wall_lastCell 5 = .ok (.getfield 29, 3) := by decide +kernel
theorem d_Wall_lastCell_8 : decode b_Wall_lastCell 8 = .ok (.arraylength, 1) := by decide +kernel
theorem d_Wall_lastCell_9 : decode b_Wall_lastCell 9 = .ok (.iconst 1, 1) := by decide +kernel
theorem d_Wall_lastCell_10 : decode b_Wall_lastCell 10 = .ok (.isub, 1) := by decide +kernel
theorem d_Wall_lastCell_11 : decode b_Wall_lastCell 11 = .ok (.aaload, 1) := by decide +kernel
theorem d_Wall_lastCell_12 : decode b_Wall_lastCell 12 = .ok (.areturn, 1) := by decide +kernel
abbrev b_Wall_allWater : ByteArray := prog_11_method_3_code
def y_Wall_allWater : MethodName := ⟨"WallDamp$Wall", "allWater", "()J"⟩
def ws_Wall_allWater : List Cond := .code y_Wall_allWater b_Wall_allWater 7 (some (.long)) :: x_tb
theorem pd_Wall_allWater : y_Wall_allWater.cls ≠ "java/lang/invoke/MethodHandle" ∧ y_Wall_allWater.cls ≠ "java/lang/invoke/VarHandle" ∧ (parseMethodDescriptor y_Wall_allWater.desc).map (fun d => d.parameters.length) = some 0 := by decide +kernel
theorem d_Wall_allWater_0 : decode b_Wall_allWater 0 = .ok (.lconst 0, 1) := by decide +kernel
theorem d_Wall_allWater_1 : decode b_Wall_allWater 1 = .ok (.lstore_n 1, 1) := by decide +kernel
theorem d_Wall_allWater_2 : decode b_Wall_allWater 2 = .ok (.aload_n 0, 1) := by decide +kernel
theorem d_Wall_allWater_3 : decode b_Wall_allWater 3 = .ok (.getfield 29, 3) := by decide +kernel
theorem d_Wall_allWater_6 : decode b_Wall_allWater 6 = .ok (.astore_n 3, 1) := by decide +kernel
theorem d_Wall_allWater_7 : decode b_Wall_allWater 7 = .ok (.aload_n 3, 1) := by decide +kernel
theorem d_Wall_allWater_8 : decode b_Wall_allWater 8 = .ok (.arraylength, 1) := by decide +kernel
theorem d_Wall_allWater_9 : decode b_Wall_allWater 9 = .ok (.istore 4, 2) := by decide +kernel
theorem d_Wall_allWater_11 : decode b_Wall_allWater 11 = .ok (.iconst 0, 1) := by decide +kernel
theorem d_Wall_allWater_12 : decode b_Wall_allWater 12 = .ok (.istore 5, 2) := by decide +kernel
theorem d_Wall_allWater_14 : decode b_Wall_allWater 14 = .ok (.iload 5, 2) := by decide +kernel
theorem d_Wall_allWater_16 : decode b_Wall_allWater 16 = .ok (.iload 4, 2) := by decide +kernel
theorem d_Wall_allWater_18 : decode b_Wall_allWater 18 = .ok (.if_icmp .ge 24, 3) := by decide +kernel
theorem d_Wall_allWater_21 : decode b_Wall_allWater 21 = .ok (.aload_n 3, 1) := by decide +kernel
theorem d_Wall_allWater_22 : decode b_Wall_allWater 22 = .ok (.iload 5, 2) := by decide +kernel
theorem d_Wall_allWater_24 : decode b_Wall_allWater 24 = .ok (.aaload, 1) := by decide +kernel
theorem d_Wall_allWater_25 : decode b_Wall_allWater 25 = .ok (.astore 6, 2) := by decide +kernel
theorem d_Wall_allWater_27 : decode b_Wall_allWater 27 = .ok (.lload_n 1, 1) := by decide +kernel
theorem d_Wall_allWater_28 : decode b_Wall_allWater 28 = .ok (.aload 6, 2) := by decide +kernel
theorem d_Wall_allWater_30 : decode b_Wall_allWater 30 = .ok (.getfield 61, 3) := by decide +kernel
theorem d_Wall_allWater_33 : decode b_Wall_allWater 33 = .ok (.i2l, 1) := by decide +kernel
theorem d_Wall_allWater_34 : decode b_Wall_allWater 34 = .ok (.ladd, 1) := by decide +kernel
theorem d_Wall_allWater_35 : decode b_Wall_allWater 35 = .ok (.lstore_n 1, 1) := by decide +kernel
theorem d_Wall_allWater_36 : decode b_Wall_allWater 36 = .ok (.iinc 5 1, 3) := by decide +kernel
theorem d_Wall_allWater_39 : decode b_Wall_allWater 39 = .ok (.goto (-25), 3) := by decide +kernel
theorem d_Wall_allWater_42 : decode b_Wall_allWater 42 = .ok (.lload_n 1, 1) := by decide +kernel
theorem d_Wall_allWater_43 : decode b_Wall_allWater 43 = .ok (.lreturn, 1) := by decide +kernel
abbrev b_Wall_moveWater : ByteArray := prog_11_method_4_code
def y_Wall_moveWater : MethodName := ⟨"WallDamp$Wall", "moveWater", "(LWallDamp$Surroundings;I)V"⟩
def ws_Wall_moveWater : List Cond := .code y_Wall_moveWater b_Wall_moveWater 8 none :: x_tb
theorem pd_Wall_moveWater : y_Wall_moveWater.cls ≠ "java/lang/invoke/MethodHandle" ∧ y_Wall_moveWater.cls ≠ "java/lang/invoke/VarHandle" ∧ (parseMethodDescriptor y_Wall_moveWater.desc).map (fun d => d.parameters.length) = some 2 := by decide +kernel
theorem d_Wall_moveWater_0 : decode b_Wall_moveWater 0 = .ok (.iload_n 2, 1) := by decide +kernel
theorem d_Wall_moveWater_1 : decode b_Wall_moveWater 1 = .ok (.bipush 24, 2) := by decide +kernel
theorem d_Wall_moveWater_3 : decode b_Wall_moveWater 3 = .ok (.invokestatic 65, 3) := by decide +kernel
theorem d_Wall_moveWater_6 : decode b_Wall_moveWater 6 = .ok (.istore_n 3, 1) := by decide +kernel
theorem d_Wall_moveWater_7 : decode b_Wall_moveWater 7 = .ok (.aload_n 0, 1) := by decide +kernel
theorem d_Wall_moveWater_8 : decode b_Wall_moveWater 8 = .ok (.getfield 18, 3) := by decide +kernel
theorem d_Wall_moveWater_11 : decode b_Wall_moveWater 11 = .ok (.aload_n 1, 1) := by decide +kernel
theorem d_Wall_moveWater_12 : decode b_Wall_moveWater 12 = .ok (.getfield 68, 3) := by decide +kernel
theorem d_Wall_moveWater_15 : decode b_Wall_moveWater 15 = .ok (.iload_n 3, 1) := by decide +kernel
theorem d_Wall_moveWater_16 : decode b_Wall_moveWater 16 = .ok (.iaload, 1) := by decide +kernel
theorem d_Wall_moveWater_17 : decode b_Wall_moveWater 17 = .ok (.aload_n 1, 1) := by decide +kernel
theorem d_Wall_moveWater_18 : decode b_Wall_moveWater 18 = .ok (.getfield 74, 3) := by decide +kernel
theorem d_Wall_moveWater_21 : decode b_Wall_moveWater 21 = .ok (.iload_n 3, 1) := by decide +kernel
theorem d_Wall_moveWater_22 : decode b_Wall_moveWater 22 = .ok (.iaload, 1) := by decide +kernel
theorem d_Wall_moveWater_23 : decode b_Wall_moveWater 23 = .ok (.iadd, 1) := by decide +kernel
theorem d_Wall_moveWater_24 : decode b_Wall_moveWater 24 = .ok (.putfield 77, 3) := by decide +kernel
theorem d_Wall_moveWater_27 : decode b_Wall_moveWater 27 = .ok (.aload_n 0, 1) := by decide +kernel
theorem d_Wall_moveWater_28 : decode b_Wall_moveWater 28 = .ok (.getfield 24, 3) := by decide +kernel
theorem d_Wall_moveWater_31 : decode b_Wall_moveWater 31 = .ok (.aload_n 1, 1) := by decide +kernel
theorem d_Wall_moveWater_32 : decode b_Wall_moveWater 32 = .ok (.getfield 80, 3) := by decide +kernel
theorem d_Wall_moveWater_35 : decode b_Wall_moveWater 35 = .ok (.iload_n 3, 1) := by decide +kernel
theorem d_Wall_moveWater_36 : decode b_Wall_moveWater 36 = .ok (.iaload, 1) := by decide +kernel
theorem d_Wall_moveWater_37 : decode b_Wall_moveWater 37 = .ok (.putfield 77, 3) := by decide +kernel
theorem d_Wall_moveWater_40 : decode b_Wall_moveWater 40 = .ok (.aload_n 0, 1) := by decide +kernel
theorem d_Wall_moveWater_41 : decode b_Wall_moveWater 41 = .ok (.aload_n 1, 1) := by decide +kernel
theorem d_Wall_moveWater_42 : decode b_Wall_moveWater 42 = .ok (.invokevirtual 83, 3) := by decide +kernel
theorem d_Wall_moveWater_45 : decode b_Wall_moveWater 45 = .ok (.aload_n 0, 1) := by decide +kernel
theorem d_Wall_moveWater_46 : decode b_Wall_moveWater 46 = .ok (.getfield 18, 3) := by decide +kernel
theorem d_Wall_moveWater_49 : decode b_Wall_moveWater 49 = .ok (.aload_n 1, 1) := by decide +kernel
theorem d_Wall_moveWater_50 : decode b_Wall_moveWater 50 = .ok (.aload_n 1, 1) := by decide +kernel
theorem d_Wall_moveWater_51 : decode b_Wall_moveWater 51 = .ok (.getfield 87, 3) := by decide +kernel
theorem d_Wall_moveWater_54 : decode b_Wall_moveWater 54 = .ok (.iload_n 3, 1) := by decide +kernel
theorem d_Wall_moveWater_55 : decode b_Wall_moveWater 55 = .ok (.iaload, 1) := by decide +kernel
theorem d_Wall_moveWater_56 : decode b_Wall_moveWater 56 = .ok (.invokevirtual 90, 3) := by decide +kernel
theorem d_Wall_moveWater_59 : decode b_Wall_moveWater 59 = .ok (.aload_n 0, 1) := by decide +kernel
theorem d_Wall_moveWater_60 : decode b_Wall_moveWater 60 = .ok (.getfield 24, 3) := by decide +kernel
theorem d_Wall_moveWater_63 : decode b_Wall_moveWater 63 = .ok (.aload_n 1, 1) := by decide +kernel
theorem d_Wall_moveWater_64 : decode b_Wall_moveWater 64 = .ok (.aload_n 1, 1) := by decide +kernel
theorem d_Wall_moveWater_65 : decode b_Wall_moveWater 65 = .ok (.getfield 94, 3) := by decide +kernel
theorem d_Wall_moveWater_68 : decode b_Wall_moveWater 68 = .ok (.iload_n 3, 1) := by decide +kernel
theorem d_Wall_moveWater_69 : decode b_Wall_moveWater 69 = .ok (.iaload, 1) := by decide +kernel
theorem d_Wall_moveWater_70 : decode b_Wall_moveWater 70 = .ok (.invokevirtual 90, 3) := by decide +kernel
theorem d_Wall_moveWater_73 : decode b_Wall_moveWater 73 = .ok (.aload_n 0, 1) := by decide +kernel
theorem d_Wall_moveWater_74 : decode b_Wall_moveWater 74 = .ok (.getfield 29, 3) := by decide +kernel
theorem d_Wall_moveWater_77 : decode b_Wall_moveWater 77 = .ok (.astore 4, 2) := by decide +kernel
theorem d_Wall_moveWater_79 : decode b_Wall_moveWater 79 = .ok (.aload 4, 2) := by decide +kernel
theorem d_Wall_moveWater_81 : decode b_Wall_moveWater 81 = .ok (.arraylength, 1) := by decide +kernel
theorem d_Wall_moveWater_82 : decode b_Wall_moveWater 82 = .ok (.istore 5, 2) := by decide +kernel
theorem d_Wall_moveWater_84 : decode b_Wall_moveWater 84 = .ok (.iconst 0, 1) := by decide +kernel
theorem d_Wall_moveWater_85 : decode b_Wall_moveWater 85 = .ok (.istore 6, 2) := by decide +kernel
theorem d_Wall_moveWater_87 : decode b_Wall_moveWater 87 = .ok (.iload 6, 2) := by decide +kernel
theorem d_Wall_moveWater_89 : decode b_Wall_moveWater 89 = .ok (.iload 5, 2) := by decide +kernel
theorem d_Wall_moveWater_91 : decode b_Wall_moveWater 91 = .ok (.if_icmp .ge 22, 3) := by decide +kernel
theorem d_Wall_moveWater_94 : decode b_Wall_moveWater 94 = .ok (.aload 4, 2) := by decide +kernel
theorem d_Wall_moveWater_96 : decode b_Wall_moveWater 96 = .ok (.iload 6, 2) := by decide +kernel
theorem d_Wall_moveWater_98 : decode b_Wall_moveWater 98 = .ok (.aaload, 1) := by decide +kernel
theorem d_Wall_moveWater_99 : decode b_Wall_moveWater 99 = .ok (.astore 7, 2) := by decide +kernel
theorem d_Wall_moveWater_101 : decode b_Wall_moveWater 101 = .ok (.aload 7, 2) := by decide +kernel
theorem d_Wall_moveWater_103 : decode b_Wall_moveWater 103 = .ok (.aload_n 1, 1) := by decide +kernel
theorem d_Wall_moveWater_104 : decode b_Wall_moveWater 104 = .ok (.invokevirtual 97, 3) := by decide +kernel
theorem d_Wall_moveWater_107 : decode b_Wall_moveWater 107 = .ok (.iinc 6 1, 3) := by decide +kernel
theorem d_Wall_moveWater_110 : decode b_Wall_moveWater 110 = .ok (.goto (-23), 3) := by decide +kernel
theorem d_Wall_moveWater_113 : decode b_Wall_moveWater 113 = .ok (.aload_n 0, 1) := by decide +kernel
theorem d_Wall_moveWater_114 : decode b_Wall_moveWater 114 = .ok (.aload_n 1, 1) := by decide +kernel
theorem d_Wall_moveWater_115 : decode b_Wall_moveWater 115 = .ok (.getfield 99, 3) := by decide +kernel
theorem d_Wall_moveWater_118 : decode b_Wall_moveWater 118 = .ok (.iload_n 3, 1) := by decide +kernel
theorem d_Wall_moveWater_119 : decode b_Wall_moveWater 119 = .ok (.iaload, 1) := by decide +kernel
theorem d_Wall_moveWater_120 : decode b_Wall_moveWater 120 = .ok (.invokevirtual 102, 3) := by decide +kernel
theorem d_Wall_moveWater_123 : decode b_Wall_moveWater 123 = .ok (.aload_n 0, 1) := by decide +kernel
theorem d_Wall_moveWater_124 : decode b_Wall_moveWater 124 = .ok (.invokevirtual 106, 3) := by decide +kernel
theorem d_Wall_moveWater_127 : decode b_Wall_moveWater 127 = .ok (.aload_n 0, 1) := by decide +kernel
theorem d_Wall_moveWater_128 : decode b_Wall_moveWater 128 = .ok (.invokevirtual 109, 3) := by decide +kernel
theorem d_Wall_moveWater_131 : decode b_Wall_moveWater 131 = .ok (.aload_n 0, 1) := by decide +kernel
theorem d_Wall_moveWater_132 : decode b_Wall_moveWater 132 = .ok (.getfield 58, 3) := by decide +kernel
theorem d_Wall_moveWater_135 : decode b_Wall_moveWater 135 = .ok (.astore 4, 2) := by decide +kernel
theorem d_Wall_moveWater_137 : decode b_Wall_moveWater 137 = .ok (.aload 4, 2) := by decide +kernel
theorem d_Wall_moveWater_139 : decode b_Wall_moveWater 139 = .ok (.arraylength, 1) := by decide +kernel
theorem d_Wall_moveWater_140 : decode b_Wall_moveWater 140 = .ok (.istore 5, 2) := by decide +kernel
theorem d_Wall_moveWater_142 : decode b_Wall_moveWater 142 = .ok (.iconst 0, 1) := by decide +kernel
theorem d_Wall_moveWater_143 : decode b_Wall_moveWater 143 = .ok (.istore 6, 2) := by decide +kernel
theorem d_Wall_moveWater_145 : decode b_Wall_moveWater 145 = .ok (.iload 6, 2) := by decide +kernel
theorem d_Wall_moveWater_147 : decode b_Wall_moveWater 147 = .ok (.iload 5, 2) := by decide +kernel
theorem d_Wall_moveWater_149 : decode b_Wall_moveWater 149 = .ok (.if_icmp .ge 21, 3) := by decide +kernel
theorem d_Wall_moveWater_152 : decode b_Wall_moveWater 152 = .ok (.aload 4, 2) := by decide +kernel
theorem d_Wall_moveWater_154 : decode b_Wall_moveWater 154 = .ok (.iload 6, 2) := by decide +kernel
theorem d_Wall_moveWater_156 : decode b_Wall_moveWater 156 = .ok (.aaload, 1) := by decide +kernel
theorem d_Wall_moveWater_157 : decode b_Wall_moveWater 157 = .ok (.astore 7, 2) := by decide +kernel
theorem d_Wall_moveWater_159 : decode b_Wall_moveWater 159 = .ok (.aload 7, 2) := by decide +kernel
theorem d_Wall_moveWater_161 : decode b_Wall_moveWater 161 = .ok (.invokevirtual 112, 3) := by decide +kernel
theorem d_Wall_moveWater_164 : decode b_Wall_moveWater 164 = .ok (.iinc 6 1, 3) := by decide +kernel
theorem d_Wall_moveWater_167 : decode b_Wall_moveWater 167 = .ok (.goto (-22), 3) := by decide +kernel
theorem d_Wall_moveWater_170 : decode b_Wall_moveWater 170 = .ok (.return_, 1) := by decide +kernel
abbrev b_Wall_tellFrost : ByteArray := prog_11_method_5_code
def y_Wall_tellFrost : MethodName := ⟨"WallDamp$Wall", "tellFrost", "()V"⟩
def ws_Wall_tellFrost : List Cond := .code y_Wall_tellFrost b_Wall_tellFrost 5 none :: x_tb
theorem pd_Wall_tellFrost : y_Wall_tellFrost.cls ≠ "java/lang/invoke/MethodHandle" ∧ y_Wall_tellFrost.cls ≠ "java/lang/invoke/VarHandle" ∧ (parseMethodDescriptor y_Wall_tellFrost.desc).map (fun d => d.parameters.length) = some 0 := by decide +kernel
theorem d_Wall_tellFrost_0 : decode b_Wall_tellFrost 0 = .ok (.aload_n 0, 1) := by decide +kernel
theorem d_Wall_tellFrost_1 : decode b_Wall_tellFrost 1 = .ok (.getfield 29, 3) := by decide +kernel
theorem d_Wall_tellFrost_4 : decode b_Wall_tellFrost 4 = .ok (.astore_n 1, 1) := by decide +kernel
theorem d_Wall_tellFrost_5 : decode b_Wall_tellFrost 5 = .ok (.aload_n 1, 1) := by decide +kernel
theorem d_Wall_tellFrost_6 : decode b_Wall_tellFrost 6 = .ok (.arraylength, 1) := by decide +kernel
theorem d_Wall_tellFrost_7 : decode b_Wall_tellFrost 7 = .ok (.istore_n 2, 1) := by decide +kernel
theorem d_Wall_tellFrost_8 : decode b_Wall_tellFrost 8 = .ok (.iconst 0, 1) := by decide +kernel
theorem d_Wall_tellFrost_9 : decode b_Wall_tellFrost 9 = .ok (.istore_n 3, 1) := by decide +kernel
theorem d_Wall_tellFrost_10 : decode b_Wall_tellFrost 10 = .ok (.iload_n 3, 1) := by decide +kernel
theorem d_Wall_tellFrost_11 : decode b_Wall_tellFrost 11 = .ok (.iload_n 2, 1) := by decide +kernel
theorem d_Wall_tellFrost_12 : decode b_Wall_tellFrost 12 = .ok (.if_icmp .ge 19, 3) := by decide +kernel
theorem d_Wall_tellFrost_15 : decode b_Wall_tellFrost 15 = .ok (.aload_n 1, 1) := by decide +kernel
theorem d_Wall_tellFrost_16 : decode b_Wall_tellFrost 16 = .ok (.iload_n 3, 1) := by decide +kernel
theorem d_Wall_tellFrost_17 : decode b_Wall_tellFrost 17 = .ok (.aaload, 1) := by decide +kernel
theorem d_Wall_tellFrost_18 : decode b_Wall_tellFrost 18 = .ok (.astore 4, 2) := by decide +kernel
theorem d_Wall_tellFrost_20 : decode b_Wall_tellFrost 20 = .ok (.aload 4, 2) := by decide +kernel
theorem d_Wall_tellFrost_22 : decode b_Wall_tellFrost 22 = .ok (.invokevirtual 115, 3) := by decide +kernel
theorem d_Wall_tellFrost_25 : decode b_Wall_tellFrost 25 = .ok (.iinc 3 1, 3) := by decide +kernel
theorem d_Wall_tellFrost_28 : decode b_Wall_tellFrost 28 = .ok (.goto (-18), 3) := by decide +kernel
theorem d_Wall_tellFrost_31 : decode b_Wall_tellFrost 31 = .ok (.return_, 1) := by decide +kernel
abbrev b_Wall_warmCells : ByteArray := prog_11_method_6_code
def y_Wall_warmCells : MethodName := ⟨"WallDamp$Wall", "warmCells", "(LWallDamp$Surroundings;)V"⟩
def ws_Wall_warmCells : List Cond := .code y_Wall_warmCells b_Wall_warmCells 11 none :: x_tb
theorem pd_Wall_warmCells : y_Wall_warmCells.cls ≠ "java/lang/invoke/MethodHandle" ∧ y_Wall_warmCells.cls ≠ "java/lang/invoke/VarHandle" ∧ (parseMethodDescriptor y_Wall_warmCells.desc).map (fun d => d.parameters.length) = some 1 := by decide +kernel
theorem d_Wall_warmCells_0 : decode b_Wall_warmCells 0 = .ok (.ldc2_w 118, 3) := by decide +kernel
theorem d_Wall_warmCells_3 : decode b_Wall_warmCells 3 = .ok (.aload_n 1, 1) := by decide +kernel
theorem d_Wall_warmCells_4 : decode b_Wall_warmCells 4 = .ok (.getfield 120, 3) := by decide +kernel
theorem d_Wall_warmCells_7 : decode b_Wall_warmCells 7 = .ok (.i2l, 1) := by decide +kernel
theorem d_Wall_warmCells_8 : decode b_Wall_warmCells 8 = .ok (.lmul, 1) := by decide +kernel
theorem d_Wall_warmCells_9 : decode b_Wall_warmCells 9 = .ok (.lstore_n 2, 1) := by decide +kernel
theorem d_Wall_warmCells_10 : decode b_Wall_warmCells 10 = .ok (.aload_n 0, 1) := by decide +kernel
theorem d_Wall_warmCells_11 : decode b_Wall_warmCells 11 = .ok (.getfield 29, 3) := by decide +kernel
theorem d_Wall_warmCells_14 : decode b_Wall_warmCells 14 = .ok (.astore 4, 2) := by decide +kernel
theorem d_Wall_warmCells_16 : decode b_Wall_warmCells 16 = .ok (.aload 4, 2) := by decide +kernel
theorem d_Wall_warmCells_18 : decode b_Wall_warmCells 18 = .ok (.arraylength, 1) := by decide +kernel
theorem d_Wall_warmCells_19 : decode b_Wall_warmCells 19 = .ok (.istore 5, 2) := by decide +kernel
theorem d_Wall_warmCells_21 : decode b_Wall_warmCells 21 = .ok (.iconst 0, 1) := by decide +kernel
theorem d_Wall_warmCells_22 : decode b_Wall_warmCells 22 = .ok (.istore 6, 2) := by decide +kernel
theorem d_Wall_warmCells_24 : decode b_Wall_warmCells 24 = .ok (.iload 6, 2) := by decide +kernel
theorem d_Wall_warmCells_26 : decode b_Wall_warmCells 26 = .ok (.iload 5, 2) := by decide +kernel
theorem d_Wall_warmCells_28 : decode b_Wall_warmCells 28 = .ok (.if_icmp .ge 43, 3) := by decide +kernel
theorem d_Wall_warmCells_31 : decode b_Wall_warmCells 31 = .ok (.aload 4, 2) := by decide +kernel
theorem d_Wall_warmCells_33 : decode b_Wall_warmCells 33 = .ok (.iload 6, 2) := by decide +kernel
theorem d_Wall_warmCells_35 : decode b_Wall_warmCells 35 = .ok (.aaload, 1) := by decide +kernel
theorem d_Wall_warmCells_36 : decode b_Wall_warmCells 36 = .ok (.astore 7, 2) := by decide +kernel
theorem d_Wall_warmCells_38 : decode b_Wall_warmCells 38 = .ok (.aload 7, 2) := by decide +kernel
theorem d_Wall_warmCells_40 : decode b_Wall_warmCells 40 = .ok (.invokevirtual 123, 3) := by decide +kernel
theorem d_Wall_warmCells_43 : decode b_Wall_warmCells 43 = .ok (.istore 8, 2) := by decide +kernel
theorem d_Wall_warmCells_45 : decode b_Wall_warmCells 45 = .ok (.aload 7, 2) := by decide +kernel
theorem d_Wall_warmCells_47 : decode b_Wall_warmCells 47 = .ok (.lload_n 2, 1) := by decide +kernel
theorem d_Wall_warmCells_48 : decode b_Wall_warmCells 48 = .ok (.iload 8, 2) := by decide +kernel
theorem d_Wall_warmCells_50 : decode b_Wall_warmCells 50 = .ok (.i2l, 1) := by decide +kernel
theorem d_Wall_warmCells_51 : decode b_Wall_warmCells 51 = .ok (.ladd, 1) := by decide +kernel
theorem d_Wall_warmCells_52 : decode b_Wall_warmCells 52 = .ok (.putfield 127, 3) := by decide +kernel
theorem d_Wall_warmCells_55 : decode b_Wall_warmCells 55 = .ok (.lload_n 2, 1) := by decide +kernel
theorem d_Wall_warmCells_56 : decode b_Wall_warmCells 56 = .ok (.ldc2_w 118, 3) := by decide +kernel
theorem d_Wall_warmCells_59 : decode b_Wall_warmCells 59 = .ok (.iload 8, 2) := by decide +kernel
theorem d_Wall_warmCells_61 : decode b_Wall_warmCells 61 = .ok (.i2l, 1) := by decide +kernel
theorem d_Wall_warmCells_62 : decode b_Wall_warmCells 62 = .ok (.lmul, 1) := by decide +kernel
theorem d_Wall_warmCells_63 : decode b_Wall_warmCells 63 = .ok (.ladd, 1) := by decide +kernel
theorem d_Wall_warmCells_64 : decode b_Wall_warmCells 64 = .ok (.lstore_n 2, 1) := by decide +kernel
theorem d_Wall_warmCells_65 : decode b_Wall_warmCells 65 = .ok (.iinc 6 1, 3) := by decide +kernel
theorem d_Wall_warmCells_68 : decode b_Wall_warmCells 68 = .ok (.goto (-44), 3) := by decide +kernel
theorem d_Wall_warmCells_71 : decode b_Wall_warmCells 71 = .ok (.lload_n 2, 1) := by decide +kernel
theorem d_Wall_warmCells_72 : decode b_Wall_warmCells 72 = .ok (.ldc2_w 118, 3) := by decide +kernel
theorem d_Wall_warmCells_75 : decode b_Wall_warmCells 75 = .ok (.aload_n 1, 1) := by decide +kernel
theorem d_Wall_warmCells_76 : decode b_Wall_warmCells 76 = .ok (.getfield 131, 3) := by decide +kernel
theorem d_Wall_warmCells_79 : decode b_Wall_warmCells 79 = .ok (.i2l, 1) := by decide +kernel
theorem d_Wall_warmCells_80 : decode b_Wall_warmCells 80 = .ok (.lmul, 1) := by decide +kernel
theorem d_Wall_warmCells_81 : decode b_Wall_warmCells 81 = .ok (.ladd, 1) := by decide +kernel
theorem d_Wall_warmCells_82 : decode b_Wall_warmCells 82 = .ok (.lstore_n 2, 1) := by decide +kernel
theorem d_Wall_warmCells_83 : decode b_Wall_warmCells 83 = .ok (.aload_n 0, 1) := by decide +kernel
theorem d_Wall_warmCells_84 : decode b_Wall_warmCells 84 = .ok (.getfield 18, 3) := by decide +kernel
theorem d_Wall_warmCells_87 : decode b_Wall_warmCells 87 = .ok (.getfield 77, 3) := by decide +kernel
theorem d_Wall_warmCells_90 : decode b_Wall_warmCells 90 = .ok (.istore 4, 2) := by decide +kernel
theorem d_Wall_warmCells_92 : decode b_Wall_warmCells 92 = .ok (.aload_n 0, 1) := by decide +kernel
theorem d_Wall_warmCells_93 : decode b_Wall_warmCells 93 = .ok (.getfield 24, 3) := by decide +kernel
theorem d_Wall_warmCells_96 : decode b_Wall_warmCells 96 = .ok (.getfield 77, 3) := by decide +kernel
theorem d_Wall_warmCells_99 : decode b_Wall_warmCells 99 = .ok (.iload 4, 2) := by decide +kernel
theorem d_Wall_warmCells_101 : decode b_Wall_warmCells 101 = .ok (.isub, 1) := by decide +kernel
theorem d_Wall_warmCells_102 : decode b_Wall_warmCells 102 = .ok (.i2l, 1) := by decide +kernel
theorem d_Wall_warmCells_103 : decode b_Wall_warmCells 103 = .ok (.lstore 5, 2) := by decide +kernel
theorem d_Wall_warmCells_105 : decode b_Wall_warmCells 105 = .ok (.aload_n 0, 1) := by decide +kernel
theorem d_Wall_warmCells_106 : decode b_Wall_warmCells 106 = .ok (.getfield 29, 3) := by decide +kernel
theorem d_Wall_warmCells_109 : decode b_Wall_warmCells 109 = .ok (.astore 7, 2) := by decide +kernel
theorem d_Wall_warmCells_111 : decode b_Wall_warmCells 111 = .ok (.aload 7, 2) := by decide +kernel
theorem d_Wall_warmCells_113 : decode b_Wall_warmCells 113 = .ok (.arraylength, 1) := by decide +kernel
theorem d_Wall_warmCells_114 : decode b_Wall_warmCells 114 = .ok (.istore 8, 2) := by decide +kernel
theorem d_Wall_warmCells_116 : decode b_Wall_warmCells 116 = .ok (.iconst 0, 1) := by decide +kernel
theorem d_Wall_warmCells_117 : decode b_Wall_warmCells 117 = .ok (.istore 9, 2) := by decide +kernel
theorem d_Wall_warmCells_119 : decode b_Wall_warmCells 119 = .ok (.iload 9, 2) := by decide +kernel
theorem d_Wall_warmCells_121 : decode b_Wall_warmCells 121 = .ok (.iload 8, 2) := by decide +kernel
theorem d_Wall_warmCells_123 : decode b_Wall_warmCells 123 = .ok (.if_icmp .ge 48, 3) := by decide +kernel
theorem d_Wall_warmCells_126 : decode b_Wall_warmCells 126 = .ok (.aload 7, 2) := by decide +kernel
theorem d_Wall_warmCells_128 : decode b_Wall_warmCells 128 = .ok (.iload 9, 2) := by decide +kernel
theorem d_Wall_warmCells_130 : decode b_Wall_warmCells 130 = .ok (.aaload, 1) := by decide +kernel
theorem d_Wall_warmCells_131 : decode b_Wall_warmCells 131 = .ok (.astore 10, 2) := by decide +kernel
theorem d_Wall_warmCells_133 : decode b_Wall_warmCells 133 = .ok (.aload 10, 2) := by decide +kernel
theorem d_Wall_warmCells_135 : decode b_Wall_warmCells 135 = .ok (.lload_n 2, 1) := by decide +kernel
theorem d_Wall_warmCells_136 : decode b_Wall_warmCells 136 = .ok (.lconst 0, 1) := by decide +kernel
theorem d_Wall_warmCells_137 : decode b_Wall_warmCells 137 = .ok (.lcmp, 1) := by decide +kernel
theorem d_Wall_warmCells_138 : decode b_Wall_warmCells 138 = .ok (.ifCond .gt 8, 3) := by decide +kernel
theorem d_Wall_warmCells_141 : decode b_Wall_warmCells 141 = .ok (.iload 4, 2) := by decide +kernel
theorem d_Wall_warmCells_143 : decode b_Wall_warmCells 143 = .ok (.goto 19, 3) := by decide +kernel
theorem d_Wall_warmCells_146 : decode b_Wall_warmCells 146 = .ok (.iload 4, 2) := by decide +kernel
theorem d_Wall_warmCells_148 : decode b_Wall_warmCells 148 = .ok (.lload 5, 2) := by decide +kernel
theorem d_Wall_warmCells_150 : decode b_Wall_warmCells 150 = .ok (.aload 10, 2) := by decide +kernel
theorem d_Wall_warmCells_152 : decode b_Wall_warmCells 152 = .ok (.getfield 127, 3) := by decide +kernel
theorem d_Wall_warmCells_155 : decode b_Wall_warmCells 155 = .ok (.lmul, 1) := by decide +kernel
theorem d_Wall_warmCells_156 : decode b_Wall_warmCells 156 = .ok (.lload_n 2, 1) := by decide +kernel
theorem d_Wall_warmCells_157 : decode b_Wall_warmCells 157 = .ok (.invokestatic 134, 3) := by decide +kernel
theorem d_Wall_warmCells_160 : decode b_Wall_warmCells 160 = .ok (.l2i, 1) := by decide +kernel
theorem d_Wall_warmCells_161 : decode b_Wall_warmCells 161 = .ok (.iadd, 1) := by decide +kernel
theorem d_Wall_warmCells_162 : decode b_Wall_warmCells 162 = .ok (.putfield 138, 3) := by decide +kernel
theorem d_Wall_warmCells_165 : decode b_Wall_warmCells 165 = .ok (.iinc 9 1, 3) := by decide +kernel
theorem d_Wall_warmCells_168 : decode b_Wall_warmCells 168 = .ok (.goto (-49), 3) := by decide +kernel
theorem d_Wall_warmCells_171 : decode b_Wall_warmCells 171 = .ok (.return_, 1) := by decide +kernel
abbrev b_Wall_setAirFlows : ByteArray := prog_11_method_7_code
def y_Wall_setAirFlows : MethodName := ⟨"WallDamp$Wall", "setAirFlows", "(I)V"⟩
def ws_Wall_setAirFlows : List Cond := .code y_Wall_setAirFlows b_Wall_setAirFlows 6 none :: x_tb
theorem pd_Wall_setAirFlows : y_Wall_setAirFlows.cls ≠ "java/lang/invoke/MethodHandle" ∧ y_Wall_setAirFlows.cls ≠ "java/lang/invoke/VarHandle" ∧ (parseMethodDescriptor y_Wall_setAirFlows.desc).map (fun d => d.parameters.length) = some 1 := by decide +kernel
theorem d_Wall_setAirFlows_0 : decode b_Wall_setAirFlows 0 = .ok (.aload_n 0, 1) := by decide +kernel
theorem d_Wall_setAirFlows_1 : decode b_Wall_setAirFlows 1 = .ok (.getfield 29, 3) := by decide +kernel
theorem d_Wall_setAirFlows_4 : decode b_Wall_setAirFlows 4 = .ok (.iconst 0, 1) := by decide +kernel
theorem d_Wall_setAirFlows_5 : decode b_Wall_setAirFlows 5 = .ok (.aaload, 1) := by decide +kernel
theorem d_Wall_setAirFlows_6 : decode b_Wall_setAirFlows 6 = .ok (.astore_n 2, 1) := by decide +kernel
theorem d_Wall_setAirFlows_7 : decode b_Wall_setAirFlows 7 = .ok (.aload_n 0, 1) := by decide +kernel
theorem d_Wall_setAirFlows_8 : decode b_Wall_setAirFlows 8 = .ok (.invokevirtual 139, 3) := by decide +kernel
theorem d_Wall_setAirFlows_11 : decode b_Wall_setAirFlows 11 = .ok (.astore_n 3, 1) := by decide +kernel
theorem d_Wall_setAirFlows_12 : decode b_Wall_setAirFlows 12 = .ok (.aload_n 0, 1) := by decide +kernel
theorem d_Wall_setAirFlows_13 : decode b_Wall_setAirFlows 13 = .ok (.getfield 48, 3) := by decide +kernel
theorem d_Wall_setAirFlows_16 : decode b_Wall_setAirFlows 16 = .ok (.aload_n 0, 1) := by decide +kernel
theorem d_Wall_setAirFlows_17 : decode b_Wall_setAirFlows 17 = .ok (.getfield 18, 3) := by decide +kernel
theorem d_Wall_setAirFlows_20 : decode b_Wall_setAirFlows 20 = .ok (.getfield 143, 3) := by decide +kernel
theorem d_Wall_setAirFlows_23 : decode b_Wall_setAirFlows 23 = .ok (.aload_n 2, 1) := by decide +kernel
theorem d_Wall_setAirFlows_24 : decode b_Wall_setAirFlows 24 = .ok (.getfield 146, 3) := by decide +kernel
theorem d_Wall_setAirFlows_27 : decode b_Wall_setAirFlows 27 = .ok (.isub, 1) := by decide +kernel
theorem d_Wall_setAirFlows_28 : decode b_Wall_setAirFlows 28 = .ok (.aload_n 2, 1) := by decide +kernel
theorem d_Wall_setAirFlows_29 : decode b_Wall_setAirFlows 29 = .ok (.getfield 147, 3) := by decide +kernel
theorem d_Wall_setAirFlows_32 : decode b_Wall_setAirFlows 32 = .ok (.getfield 151, 3) := by decide +kernel
theorem d_Wall_setAirFlows_35 : decode b_Wall_setAirFlows 35 = .ok (.imul, 1) := by decide +kernel
theorem d_Wall_setAirFlows_36 : decode b_Wall_setAirFlows 36 = .ok (.sipush 1000, 3) := by decide +kernel
theorem d_Wall_setAirFlows_39 : decode b_Wall_setAirFlows 39 = .ok (.idiv, 1) := by decide +kernel
theorem d_Wall_setAirFlows_40 : decode b_Wall_setAirFlows 40 = .ok (.invokevirtual 156, 3) := by decide +kernel
theorem d_Wall_setAirFlows_43 : decode b_Wall_setAirFlows 43 = .ok (.aload_n 0, 1) := by decide +kernel
theorem d_Wall_setAirFlows_44 : decode b_Wall_setAirFlows 44 = .ok (.getfield 52, 3) := by decide +kernel
theorem d_Wall_setAirFlows_47 : decode b_Wall_setAirFlows 47 = .ok (.aload_n 3, 1) := by decide +kernel
theorem d_Wall_setAirFlows_48 : decode b_Wall_setAirFlows 48 = .ok (.getfield 146, 3) := by decide +kernel
theorem d_Wall_setAirFlows_51 : decode b_Wall_setAirFlows 51 = .ok (.aload_n 0, 1) := by decide +kernel
theorem d_Wall_setAirFlows_52 : decode b_Wall_setAirFlows 52 = .ok (.getfield 24, 3) := by decide +kernel
theorem d_Wall_setAirFlows_55 : decode b_Wall_setAirFlows 55 = .ok (.getfield 143, 3) := by decide +kernel
theorem d_Wall_setAirFlows_58 : decode b_Wall_setAirFlows 58 = .ok (.isub, 1) := by decide +kernel
theorem d_Wall_setAirFlows_59 : decode b_Wall_setAirFlows 59 = .ok (.aload_n 3, 1) := by decide +kernel
theorem d_Wall_setAirFlows_60 : decode b_Wall_setAirFlows 60 = .ok (.getfield 147, 3) := by decide +kernel
theorem d_Wall_setAirFlows_63 : decode b_Wall_setAirFlows 63 = .ok (.getfield 151, 3) := by decide +kernel
theorem d_Wall_setAirFlows_66 : decode b_Wall_setAirFlows 66 = .ok (.imul, 1) := by decide +kernel
theorem d_Wall_setAirFlows_67 : decode b_Wall_setAirFlows 67 = .ok (.sipush 1000, 3) := by decide +kernel
theorem d_Wall_setAirFlows_70 : decode b_Wall_setAirFlows 70 = .ok (.idiv, 1) := by decide +kernel
theorem d_Wall_setAirFlows_71 : decode b_Wall_setAirFlows 71 = .ok (.invokevirtual 156, 3) := by decide +kernel
theorem d_Wall_setAirFlows_74 : decode b_Wall_setAirFlows 74 = .ok (.aload_n 0, 1) := by decide +kernel
theorem d_Wall_setAirFlows_75 : decode b_Wall_setAirFlows 75 = .ok (.getfield 55, 3) := by decide +kernel
theorem d_Wall_setAirFlows_78 : decode b_Wall_setAirFlows 78 = .ok (.iload_n 1, 1) := by decide +kernel
theorem d_Wall_setAirFlows_79 : decode b_Wall_setAirFlows 79 = .ok (.aload_n 2, 1) := by decide +kernel
theorem d_Wall_setAirFlows_80 : decode b_Wall_setAirFlows 80 = .ok (.getfield 147, 3) := by decide +kernel
theorem d_Wall_setAirFlows_83 : decode b_Wall_setAirFlows 83 = .ok (.getfield 159, 3) := by decide +kernel
theorem d_Wall_setAirFlows_86 : decode b_Wall_setAirFlows 86 = .ok (.imul, 1) := by decide +kernel
theorem d_Wall_setAirFlows_87 : decode b_Wall_setAirFlows 87 = .ok (.bipush 100, 2) := by decide +kernel
theorem d_Wall_setAirFlows_89 : decode b_Wall_setAirFlows 89 = .ok (.idiv, 1) := by decide +kernel
theorem d_Wall_setAirFlows_90 : decode b_Wall_setAirFlows 90 = .ok (.invokevirtual 156, 3) := by decide +kernel
theorem d_Wall_setAirFlows_93 : decode b_Wall_setAirFlows 93 = .ok (.iconst 0, 1) := by decide +kernel
theorem d_Wall_setAirFlows_94 : decode b_Wall_setAirFlows 94 = .ok (.istore 4, 2) := by decide +kernel
theorem d_Wall_setAirFlows_96 : decode b_Wall_setAirFlows 96 = .ok (.iload 4, 2) := by decide +kernel
theorem d_Wall_setAirFlows_98 : decode b_Wall_setAirFlows 98 = .ok (.aload_n 0, 1) := by decide +kernel
theorem d_Wall_setAirFlows_99 : decode b_Wall_setAirFlows 99 = .ok (.getfield 35, 3) := by decide +kernel
theorem d_Wall_setAirFlows_102 : decode b_Wall_setAirFlows 102 = .ok (.arraylength, 1) := by decide +kernel
theorem d_Wall_setAirFlows_103 : decode b_Wall_setAirFlows 103 = .ok (.if_icmp .ge 71, 3) := by decide +kernel
theorem d_Wall_setAirFlows_106 : decode b_Wall_setAirFlows 106 = .ok (.iload 4, 2) := by decide +kernel
theorem d_Wall_setAirFlows_108 : decode b_Wall_setAirFlows 108 = .ok (.aload_n 0, 1) := by decide +kernel
theorem d_Wall_setAirFlows_109 : decode b_Wall_setAirFlows 109 = .ok (.getfield 29, 3) := by decide +kernel
theorem d_Wall_setAirFlows_112 : decode b_Wall_setAirFlows 112 = .ok (.arraylength, 1) := by decide +kernel
theorem d_Wall_setAirFlows_113 : decode b_Wall_setAirFlows 113 = .ok (.if_icmp .ge 61, 3) := by decide +kernel
theorem d_Wall_setAirFlows_116 : decode b_Wall_setAirFlows 116 = .ok (.iconst 0, 1) := by decide +kernel
theorem d_Wall_setAirFlows_117 : decode b_Wall_setAirFlows 117 = .ok (.aload_n 0, 1) := by decide +kernel
theorem d_Wall_setAirFlows_118 : decode b_Wall_setAirFlows 118 = .ok (.getfield 24, 3) := by decide +kernel
theorem d_Wall_setAirFlows_121 : decode b_Wall_setAirFlows 121 = .ok (.getfield 143, 3) := by decide +kernel
theorem d_Wall_setAirFlows_124 : decode b_Wall_setAirFlows 124 = .ok (.aload_n 0, 1) := by decide +kernel
theorem d_Wall_setAirFlows_125 : decode b_Wall_setAirFlows 125 = .ok (.getfield 29, 3) := by decide +kernel
theorem d_Wall_setAirFlows_128 : decode b_Wall_setAirFlows 128 = .ok (.iload 4, 2) := by decide +kernel
theorem d_Wall_setAirFlows_130 : decode b_Wall_setAirFlows 130 = .ok (.aaload, 1) := by decide +kernel
theorem d_Wall_setAirFlows_131 : decode b_Wall_setAirFlows 131 = .ok (.getfield 146, 3) := by decide +kernel
theorem d_Wall_setAirFlows_134 : decode b_Wall_setAirFlows 134 = .ok (.isub, 1) := by decide +kernel
theorem d_Wall_setAirFlows_135 : decode b_Wall_setAirFlows 135 = .ok (.invokestatic 9, 3) := by decide +kernel
theorem d_Wall_setAirFlows_138 : decode b_Wall_setAirFlows 138 = .ok (.istore 5, 2) := by decide +kernel
theorem d_Wall_setAirFlows_140 : decode b_Wall_setAirFlows 140 = .ok (.aload_n 0, 1) := by decide +kernel
theorem d_Wall_setAirFlows_141 : decode b_Wall_setAirFlows 141 = .ok (.getfield 35, 3) := by decide +kernel
theorem d_Wall_setAirFlows_144 : decode b_Wall_setAirFlows 144 = .ok (.iload 4, 2) := by decide +kernel
theorem d_Wall_setAirFlows_146 : decode b_Wall_setAirFlows 146 = .ok (.aaload, 1) := by decide +kernel
theorem d_Wall_setAirFlows_147 : decode b_Wall_setAirFlows 147 = .ok (.iload 5, 2) := by decide +kernel
theorem d_Wall_setAirFlows_149 : decode b_Wall_setAirFlows 149 = .ok (.aload_n 0, 1) := by decide +kernel
theorem d_Wall_setAirFlows_150 : decode b_Wall_setAirFlows 150 = .ok (.getfield 29, 3) := by decide +kernel
theorem d_Wall_setAirFlows_153 : decode b_Wall_setAirFlows 153 = .ok (.iload 4, 2) := by decide +kernel
theorem d_Wall_setAirFlows_155 : decode b_Wall_setAirFlows 155 = .ok (.aaload, 1) := by decide +kernel
theorem d_Wall_setAirFlows_156 : decode b_Wall_setAirFlows 156 = .ok (.getfield 162, 3) := by decide +kernel
theorem d_Wall_setAirFlows_159 : decode b_Wall_setAirFlows 159 = .ok (.imul, 1) := by decide +kernel
theorem d_Wall_setAirFlows_160 : decode b_Wall_setAirFlows 160 = .ok (.sipush 1000, 3) := by decide +kernel
theorem d_Wall_setAirFlows_163 : decode b_Wall_setAirFlows 163 = .ok (.idiv, 1) := by decide +kernel
theorem d_Wall_setAirFlows_164 : decode b_Wall_setAirFlows 164 = .ok (.ineg, 1) := by decide +kernel
theorem d_Wall_setAirFlows_165 : decode b_Wall_setAirFlows 165 = .ok (.invokevirtual 156, 3) := by decide +kernel
theorem d_Wall_setAirFlows_168 : decode b_Wall_setAirFlows 168 = .ok (.iinc 4 1, 3) := by decide +kernel
theorem d_Wall_setAirFlows_171 : decode b_Wall_setAirFlows 171 = .ok (.goto (-75), 3) := by decide +kernel
theorem d_Wall_setAirFlows_174 : decode b_Wall_setAirFlows 174 = .ok (.return_, 1) := by decide +kernel
abbrev b_Wall_setFlowsBetween : ByteArray := prog_11_method_8_code
def y_Wall_setFlowsBetween : MethodName := ⟨"WallDamp$Wall", "setFlowsBetween", "()V"⟩
def ws_Wall_setFlowsBetween : List Cond := .code y_Wall_setFlowsBetween b_Wall_setFlowsBetween 6 none :: x_tb
theorem pd_Wall_setFlowsBetween : y_Wall_setFlowsBetween.cls ≠ "java/lang/invoke/MethodHandle" ∧ y_Wall_setFlowsBetween.cls ≠ "java/lang/invoke/VarHandle" ∧ (parseMethodDescriptor y_Wall_setFlowsBetween.desc).map (fun d => d.parameters.length) = some 0 := by decide +kernel
theorem d_Wall_setFlowsBetween_0 : decode b_Wall_setFlowsBetween 0 = .ok (.iconst 0, 1) := by decide +kernel
theorem d_Wall_setFlowsBetween_1 : decode b_Wall_setFlowsBetween 1 = .ok (.istore_n 1, 1) := by decide +kernel
theorem d_Wall_setFlowsBetween_2 : decode b_Wall_setFlowsBetween 2 = .ok (.iload_n 1, 1) := by decide +kernel
theorem d_Wall_setFlowsBetween_3 : decode b_Wall_setFlowsBetween 3 = .ok (.aload_n 0, 1) := by decide +kernel
theorem d_Wall_setFlowsBetween_4 : decode b_Wall_setFlowsBetween 4 = .ok (.getfield 45, 3) := by decide +kernel
theorem d_Wall_setFlowsBetween_7 : decode b_Wall_setFlowsBetween 7 = .ok (.arraylength, 1) := by decide +kernel
theorem d_Wall_setFlowsBetween_8 : decode b_Wall_setFlowsBetween 8 = .ok (.if_icmp .ge 116, 3) := by decide +kernel
theorem d_Wall_setFlowsBetween_11 : decode b_Wall_setFlowsBetween 11 = .ok (.iload_n 1, 1) := by decide +kernel
theorem d_Wall_setFlowsBetween_12 : decode b_Wall_setFlowsBetween 12 = .ok (.iconst 1, 1) := by decide +kernel
theorem d_Wall_setFlowsBetween_13 : decode b_Wall_setFlowsBetween 13 = .ok (.iadd, 1) := by decide +kernel
theorem d_Wall_setFlowsBetween_14 : decode b_Wall_setFlowsBetween 14 = .ok (.aload_n 0, 1) := by decide +kernel
theorem d_Wall_setFlowsBetween_15 : decode b_Wall_setFlowsBetween 15 = .ok (.getfield 29, 3) := by decide +kernel
theorem d_Wall_setFlowsBetween_18 : decode b_Wall_setFlowsBetween 18 = .ok (.arraylength, 1) := by decide +kernel
theorem d_Wall_setFlowsBetween_19 : decode b_Wall_setFlowsBetween 19 = .ok (.if_icmp .ge 105, 3) := by decide +kernel
theorem d_Wall_setFlowsBetween_22 : decode b_Wall_setFlowsBetween 22 = .ok (.aload_n 0, 1) := by decide +kernel
theorem d_Wall_setFlowsBetween_23 : decode b_Wall_setFlowsBetween 23 = .ok (.getfield 29, 3) := by decide +kernel
theorem d_Wall_setFlowsBetween_26 : decode b_Wall_setFlowsBetween 26 = .ok (.iload_n 1, 1) := by decide +kernel
theorem d_Wall_setFlowsBetween_27 : decode b_Wall_setFlowsBetween 27 = .ok (.aaload, 1) := by decide +kernel
theorem d_Wall_setFlowsBetween_28 : decode b_Wall_setFlowsBetween 28 = .ok (.astore_n 2, 1) := by decide +kernel
theorem d_Wall_setFlowsBetween_29 : decode b_Wall_setFlowsBetween 29 = .ok (.aload_n 0, 1) := by decide +kernel
theorem d_Wall_setFlowsBetween_30 : decode b_Wall_setFlowsBetween 30 = .ok (.getfield 29, 3) := by decide +kernel
theorem d_Wall_setFlowsBetween_33 : decode b_Wall_setFlowsBetween 33 = .ok (.iload_n 1, 1) := by decide +kernel
theorem d_Wall_setFlowsBetween_34 : decode b_Wall_setFlowsBetween 34 = .ok (.iconst 1, 1) := by decide +kernel
theorem d_Wall_setFlowsBetween_35 : decode b_Wall_setFlowsBetween 35 = .ok (.iadd, 1) := by decide +kernel
theorem d_Wall_setFlowsBetween_36 : decode b_Wall_setFlowsBetween 36 = .ok (.aaload, 1) := by decide +kernel
theorem d_Wall_setFlowsBetween_37 : decode b_Wall_setFlowsBetween 37 = .ok (.astore_n 3, 1) := by decide +kernel
theorem d_Wall_setFlowsBetween_38 : decode b_Wall_setFlowsBetween 38 = .ok (.aload_n 2, 1) := by decide +kernel
theorem d_Wall_setFlowsBetween_39 : decode b_Wall_setFlowsBetween 39 = .ok (.getfield 147, 3) := by decide +kernel
theorem d_Wall_setFlowsBetween_42 : decode b_Wall_setFlowsBetween 42 = .ok (.getfield 151, 3) := by decide +kernel
theorem d_Wall_setFlowsBetween_45 : decode b_Wall_setFlowsBetween 45 = .ok (.aload_n 3, 1) := by decide +kernel
theorem d_Wall_setFlowsBetween_46 : decode b_Wall_setFlowsBetween 46 = .ok (.getfield 147, 3) := by decide +kernel
theorem d_Wall_setFlowsBetween_49 : decode b_Wall_setFlowsBetween 49 = .ok (.getfield 151, 3) := by decide +kernel
theorem d_Wall_setFlowsBetween_52 : decode b_Wall_setFlowsBetween 52 = .ok (.invokestatic 165, 3) := by decide +kernel
theorem d_Wall_setFlowsBetween_55 : decode b_Wall_setFlowsBetween 55 = .ok (.istore 4, 2) := by decide +kernel
theorem d_Wall_setFlowsBetween_57 : decode b_Wall_setFlowsBetween 57 = .ok (.aload_n 2, 1) := by decide +kernel
theorem d_Wall_setFlowsBetween_58 : decode b_Wall_setFlowsBetween 58 = .ok (.getfield 147, 3) := by decide +kernel
theorem d_Wall_setFlowsBetween_61 : decode b_Wall_setFlowsBetween 61 = .ok (.getfield 159, 3) := by decide +kernel
theorem d_Wall_setFlowsBetween_64 : decode b_Wall_setFlowsBetween 64 = .ok (.aload_n 3, 1) := by decide +kernel
theorem d_Wall_setFlowsBetween_65 : decode b_Wall_setFlowsBetween 65 = .ok (.getfield 147, 3) := by decide +kernel
theorem d_Wall_setFlowsBetween_68 : decode b_Wall_setFlowsBetween 68 = .ok (.getfield 159, 3) := by decide +kernel
theorem d_Wall_setFlowsBetween_71 : decode b_Wall_setFlowsBetween 71 = .ok (.invokestatic 165, 3) := by decide +kernel
theorem d_Wall_setFlowsBetween_74 : decode b_Wall_setFlowsBetween 74 = .ok (.istore 5, 2) := by decide +kernel
theorem d_Wall_setFlowsBetween_76 : decode b_Wall_setFlowsBetween 76 = .ok (.aload_n 0, 1) := by decide +kernel
theorem d_Wall_setFlowsBetween_77 : decode b_Wall_setFlowsBetween 77 = .ok (.getfield 45, 3) := by decide +kernel
theorem d_Wall_setFlowsBetween_80 : decode b_Wall_setFlowsBetween 80 = .ok (.iload_n 1, 1) := by decide +kernel
theorem d_Wall_setFlowsBetween_81 : decode b_Wall_setFlowsBetween 81 = .ok (.aaload, 1) := by decide +kernel
theorem d_Wall_setFlowsBetween_82 : decode b_Wall_setFlowsBetween 82 = .ok (.aload_n 2, 1) := by decide +kernel
theorem d_Wall_setFlowsBetween_83 : decode b_Wall_setFlowsBetween 83 = .ok (.getfield 146, 3) := by decide +kernel
theorem d_Wall_setFlowsBetween_86 : decode b_Wall_setFlowsBetween 86 = .ok (.aload_n 3, 1) := by decide +kernel
theorem d_Wall_setFlowsBetween_87 : decode b_Wall_setFlowsBetween 87 = .ok (.getfield 146, 3) := by decide +kernel
theorem d_Wall_setFlowsBetween_90 : decode b_Wall_setFlowsBetween 90 = .ok (.isub, 1) := by decide +kernel
theorem d_Wall_setFlowsBetween_91 : decode b_Wall_setFlowsBetween 91 = .ok (.iload 4, 2) := by decide +kernel
theorem d_Wall_setFlowsBetween_93 : decode b_Wall_setFlowsBetween 93 = .ok (.imul, 1) := by decide +kernel
theorem d_Wall_setFlowsBetween_94 : decode b_Wall_setFlowsBetween 94 = .ok (.sipush 1000, 3) := by decide +kernel
theorem d_Wall_setFlowsBetween_97 : decode b_Wall_setFlowsBetween 97 = .ok (.idiv, 1) := by decide +kernel
theorem d_Wall_setFlowsBetween_98 : decode b_Wall_setFlowsBetween 98 = .ok (.aload_n 2, 1) := by decide +kernel
theorem d_Wall_setFlowsBetween_99 : decode b_Wall_setFlowsBetween 99 = .ok (.getfield 168, 3) := by decide +kernel
theorem d_Wall_setFlowsBetween_102 : decode b_Wall_setFlowsBetween 102 = .ok (.aload_n 3, 1) := by decide +kernel
theorem d_Wall_setFlowsBetween_103 : decode b_Wall_setFlowsBetween 103 = .ok (.getfield 168, 3) := by decide +kernel
theorem d_Wall_setFlowsBetween_106 : decode b_Wall_setFlowsBetween 106 = .ok (.isub, 1) := by decide +kernel
theorem d_Wall_setFlowsBetween_107 : decode b_Wall_setFlowsBetween 107 = .ok (.iload 5, 2) := by decide +kernel
theorem d_Wall_setFlowsBetween_109 : decode b_Wall_setFlowsBetween 109 = .ok (.imul, 1) := by decide +kernel
theorem d_Wall_setFlowsBetween_110 : decode b_Wall_setFlowsBetween 110 = .ok (.sipush 1000, 3) := by decide +kernel
theorem d_Wall_setFlowsBetween_113 : decode b_Wall_setFlowsBetween 113 = .ok (.idiv, 1) := by decide +kernel
theorem d_Wall_setFlowsBetween_114 : decode b_Wall_setFlowsBetween 114 = .ok (.iadd, 1) := by decide +kernel
theorem d_Wall_setFlowsBetween_115 : decode b_Wall_setFlowsBetween 115 = .ok (.invokevirtual 156, 3) := by decide +kernel
theorem d_Wall_setFlowsBetween_118 : decode b_Wall_setFlowsBetween 118 = .ok (.iinc 1 1, 3) := by decide +kernel
theorem d_Wall_setFlowsBetween_121 : decode b_Wall_setFlowsBetween 121 = .ok (.goto (-119), 3) := by decide +kernel
theorem d_Wall_setFlowsBetween_124 : decode b_Wall_setFlowsBetween 124 = .ok (.return_, 1) := by decide +kernel
abbrev b_Wall_limitFlows : ByteArray := prog_11_method_9_code
def y_Wall_limitFlows : MethodName := ⟨"WallDamp$Wall", "limitFlows", "()V"⟩
def ws_Wall_limitFlows : List Cond := .code y_Wall_limitFlows b_Wall_limitFlows 5 none :: x_tb
theorem pd_Wall_limitFlows : y_Wall_limitFlows.cls ≠ "java/lang/invoke/MethodHandle" ∧ y_Wall_limitFlows.cls ≠ "java/lang/invoke/VarHandle" ∧ (parseMethodDescriptor y_Wall_limitFlows.desc).map (fun d => d.parameters.length) = some 0 := by decide +kernel
theorem d_Wall_limitFlows_0 : decode b_Wall_limitFlows 0 = .ok (.aload_n 0, 1) := by decide +kernel
theorem d_Wall_limitFlows_1 : decode b_Wall_limitFlows 1 = .ok (.getfield 58, 3) := by decide +kernel
theorem d_Wall_limitFlows_4 : decode b_Wall_limitFlows 4 = .ok (.astore_n 1, 1) := by decide +kernel
theorem d_Wall_limitFlows_5 : decode b_Wall_limitFlows 5 = .ok (.aload_n 1, 1) := by decide +kernel
theorem d_Wall_limitFlows_6 : decode b_Wall_limitFlows 6 = .ok (.arraylength, 1) := by decide +kernel
theorem d_Wall_limitFlows_7 : decode b_Wall_limitFlows 7 = .ok (.istore_n 2, 1) := by decide +kernel
theorem d_Wall_limitFlows_8 : decode b_Wall_limitFlows 8 = .ok (.iconst 0, 1) := by decide +kernel
theorem d_Wall_limitFlows_9 : decode b_Wall_limitFlows 9 = .ok (.istore_n 3, 1) := by decide +kernel
theorem d_Wall_limitFlows_10 : decode b_Wall_limitFlows 10 = .ok (.iload_n 3, 1) := by decide +kernel
theorem d_Wall_limitFlows_11 : decode b_Wall_limitFlows 11 = .ok (.iload_n 2, 1) := by decide +kernel
theorem d_Wall_limitFlows_12 : decode b_Wall_limitFlows 12 = .ok (.if_icmp .ge 19, 3) := by decide +kernel
theorem d_Wall_limitFlows_15 : decode b_Wall_limitFlows 15 = .ok (.aload_n 1, 1) := by decide +kernel
theorem d_Wall_limitFlows_16 : decode b_Wall_limitFlows 16 = .ok (.iload_n 3, 1) := by decide +kernel
theorem d_Wall_limitFlows_17 : decode b_Wall_limitFlows 17 = .ok (.aaload, 1) := by decide +kernel
theorem d_Wall_limitFlows_18 : decode b_Wall_limitFlows 18 = .ok (.astore 4, 2) := by decide +kernel
theorem d_Wall_limitFlows_20 : decode b_Wall_limitFlows 20 = .ok (.aload 4, 2) := by decide +kernel
theorem d_Wall_limitFlows_22 : decode b_Wall_limitFlows 22 = .ok (.invokevirtual 171, 3) := by decide +kernel
theorem d_Wall_limitFlows_25 : decode b_Wall_limitFlows 25 = .ok (.iinc 3 1, 3) := by decide +kernel
theorem d_Wall_limitFlows_28 : decode b_Wall_limitFlows 28 = .ok (.goto (-18), 3) := by decide +kernel
theorem d_Wall_limitFlows_31 : decode b_Wall_limitFlows 31 = .ok (.aload_n 0, 1) := by decide +kernel
theorem d_Wall_limitFlows_32 : decode b_Wall_limitFlows 32 = .ok (.getfield 58, 3) := by decide +kernel
theorem d_Wall_limitFlows_35 : decode b_Wall_limitFlows 35 = .ok (.astore_n 1, 1) := by decide +kernel
theorem d_Wall_limitFlows_36 : decode b_Wall_limitFlows 36 = .ok (.aload_n 1, 1) := by decide +kernel
theorem d_Wall_limitFlows_37 : decode b_Wall_limitFlows 37 = .ok (.arraylength, 1) := by decide +kernel
theorem d_Wall_limitFlows_38 : decode b_Wall_limitFlows 38 = .ok (.istore_n 2, 1) := by decide +kernel
theorem d_Wall_limitFlows_39 : decode b_Wall_limitFlows 39 = .ok (.iconst 0, 1) := by decide +kernel
theorem d_Wall_limitFlows_40 : decode b_Wall_limitFlows 40 = .ok (.istore_n 3, 1) := by decide +kernel
theorem d_Wall_limitFlows_41 : decode b_Wall_limitFlows 41 = .ok (.iload_n 3, 1) := by decide +kernel
theorem d_Wall_limitFlows_42 : decode b_Wall_limitFlows 42 = .ok (.iload_n 2, 1) := by decide +kernel
theorem d_Wall_limitFlows_43 : decode b_Wall_limitFlows 43 = .ok (.if_icmp .ge 24, 3) := by decide +kernel
theorem d_Wall_limitFlows_46 : decode b_Wall_limitFlows 46 = .ok (.aload_n 1, 1) := by decide +kernel
theorem d_Wall_limitFlows_47 : decode b_Wall_limitFlows 47 = .ok (.iload_n 3, 1) := by decide +kernel
theorem d_Wall_limitFlows_48 : decode b_Wall_limitFlows 48 = .ok (.aaload, 1) := by decide +kernel
theorem d_Wall_limitFlows_49 : decode b_Wall_limitFlows 49 = .ok (.astore 4, 2) := by decide +kernel
theorem d_Wall_limitFlows_51 : decode b_Wall_limitFlows 51 = .ok (.aload 4, 2) := by decide +kernel
theorem d_Wall_limitFlows_53 : decode b_Wall_limitFlows 53 = .ok (.invokevirtual 174, 3) := by decide +kernel
theorem d_Wall_limitFlows_56 : decode b_Wall_limitFlows 56 = .ok (.aload 4, 2) := by decide +kernel
theorem d_Wall_limitFlows_58 : decode b_Wall_limitFlows 58 = .ok (.invokevirtual 177, 3) := by decide +kernel
theorem d_Wall_limitFlows_61 : decode b_Wall_limitFlows 61 = .ok (.iinc 3 1, 3) := by decide +kernel
theorem d_Wall_limitFlows_64 : decode b_Wall_limitFlows 64 = .ok (.goto (-23), 3) := by decide +kernel
theorem d_Wall_limitFlows_67 : decode b_Wall_limitFlows 67 = .ok (.aload_n 0, 1) := by decide +kernel
theorem d_Wall_limitFlows_68 : decode b_Wall_limitFlows 68 = .ok (.getfield 58, 3) := by decide +kernel
theorem d_Wall_limitFlows_71 : decode b_Wall_limitFlows 71 = .ok (.astore_n 1, 1) := by decide +kernel
theorem d_Wall_limitFlows_72 : decode b_Wall_limitFlows 72 = .ok (.aload_n 1, 1) := by decide +kernel
theorem d_Wall_limitFlows_73 : decode b_Wall_limitFlows 73 = .ok (.arraylength, 1) := by decide +kernel
theorem d_Wall_limitFlows_74 : decode b_Wall_limitFlows 74 = .ok (.istore_n 2, 1) := by decide +kernel
theorem d_Wall_limitFlows_75 : decode b_Wall_limitFlows 75 = .ok (.iconst 0, 1) := by decide +kernel
theorem d_Wall_limitFlows_76 : decode b_Wall_limitFlows 76 = .ok (.istore_n 3, 1) := by decide +kernel
theorem d_Wall_limitFlows_77 : decode b_Wall_limitFlows 77 = .ok (.iload_n 3, 1) := by decide +kernel
theorem d_Wall_limitFlows_78 : decode b_Wall_limitFlows 78 = .ok (.iload_n 2, 1) := by decide +kernel
theorem d_Wall_limitFlows_79 : decode b_Wall_limitFlows 79 = .ok (.if_icmp .ge 19, 3) := by decide +kernel
theorem d_Wall_limitFlows_82 : decode b_Wall_limitFlows 82 = .ok (.aload_n 1, 1) := by decide +kernel
theorem d_Wall_limitFlows_83 : decode b_Wall_limitFlows 83 = .ok (.iload_n 3, 1) := by decide +kernel
theorem d_Wall_limitFlows_84 : decode b_Wall_limitFlows 84 = .ok (.aaload, 1) := by decide +kernel
theorem d_Wall_limitFlows_85 : decode b_Wall_limitFlows 85 = .ok (.astore 4, 2) := by decide +kernel
theorem d_Wall_limitFlows_87 : decode b_Wall_limitFlows 87 = .ok (.aload 4, 2) := by decide +kernel
theorem d_Wall_limitFlows_89 : decode b_Wall_limitFlows 89 = .ok (.invokevirtual 180, 3) := by decide +kernel
theorem d_Wall_limitFlows_92 : decode b_Wall_limitFlows 92 = .ok (.iinc 3 1, 3) := by decide +kernel
theorem d_Wall_limitFlows_95 : decode b_Wall_limitFlows 95 = .ok (.goto (-18), 3) := by decide +kernel
theorem d_Wall_limitFlows_98 : decode b_Wall_limitFlows 98 = .ok (.return_, 1) := by decide +kernel
abbrev b_Math_floorDiv : ByteArray := prog_17_method_49_code
def y_Math_floorDiv : MethodName := ⟨"java/lang/Math", "floorDiv", "(JJ)J"⟩
def ws_Math_floorDiv : List Cond := .code y_Math_floorDiv b_Math_floorDiv 6 (some (.long)) :: x_tb
theorem pd_Math_floorDiv : y_Math_floorDiv.cls ≠ "java/lang/invoke/MethodHandle" ∧ y_Math_floorDiv.cls ≠ "java/lang/invoke/VarHandle" ∧ (parseMethodDescriptor y_Math_floorDiv.desc).map (fun d => d.parameters.length) = some 2 := by decide +kernel
theorem d_Math_floorDiv_0 : decode b_Math_floorDiv 0 = .ok (.lload_n 0, 1) := by decide +kernel
theorem d_Math_floorDiv_1 : decode b_Math_floorDiv 1 = .ok (.lload_n 2, 1) := by decide +kernel
theorem d_Math_floorDiv_2 : decode b_Math_floorDiv 2 = .ok (.ldiv, 1) := by decide +kernel
theorem d_Math_floorDiv_3 : decode b_Math_floorDiv 3 = .ok (.lstore 4, 2) := by decide +kernel
theorem d_Math_floorDiv_5 : decode b_Math_floorDiv 5 = .ok (.lload_n 0, 1) := by decide +kernel
theorem d_Math_floorDiv_6 : decode b_Math_floorDiv 6 = .ok (.lload_n 2, 1) := by decide +kernel
theorem d_Math_floorDiv_7 : decode b_Math_floorDiv 7 = .ok (.lxor, 1) := by decide +kernel
theorem d_Math_floorDiv_8 : decode b_Math_floorDiv 8 = .ok (.lconst 0, 1) := by decide +kernel
theorem d_Math_floorDiv_9 : decode b_Math_floorDiv 9 = .ok (.lcmp, 1) := by decide +kernel
theorem d_Math_floorDiv_10 : decode b_Math_floorDiv 10 = .ok (.ifCond .ge 17, 3) := by decide +kernel
theorem d_Math_floorDiv_13 : decode b_Math_floorDiv 13 = .ok (.lload 4, 2) := by decide +kernel
theorem d_Math_floorDiv_15 : decode b_Math_floorDiv 15 = .ok (.lload_n 2, 1) := by decide +kernel
theorem d_Math_floorDiv_16 : decode b_Math_floorDiv 16 = .ok (.lmul, 1) := by decide +kernel
theorem d_Math_floorDiv_17 : decode b_Math_floorDiv 17 = .ok (.lload_n 0, 1) := by decide +kernel
theorem d_Math_floorDiv_18 : decode b_Math_floorDiv 18 = .ok (.lcmp, 1) := by decide +kernel
theorem d_Math_floorDiv_19 : decode b_Math_floorDiv 19 = .ok (.ifCond .eq 8, 3) := by decide +kernel
theorem d_Math_floorDiv_22 : decode b_Math_floorDiv 22 = .ok (.lload 4, 2) := by decide +kernel
theorem d_Math_floorDiv_24 : decode b_Math_floorDiv 24 = .ok (.lconst 1, 1) := by decide +kernel
theorem d_Math_floorDiv_25 : decode b_Math_floorDiv 25 = .ok (.lsub, 1) := by decide +kernel
theorem d_Math_floorDiv_26 : decode b_Math_floorDiv 26 = .ok (.lreturn, 1) := by decide +kernel
theorem d_Math_floorDiv_27 : decode b_Math_floorDiv 27 = .ok (.lload 4, 2) := by decide +kernel
theorem d_Math_floorDiv_29 : decode b_Math_floorDiv 29 = .ok (.lreturn, 1) := by decide +kernel
abbrev b_Math_floorMod : ByteArray := prog_17_method_50_code
def y_Math_floorMod : MethodName := ⟨"java/lang/Math", "floorMod", "(II)I"⟩
def ws_Math_floorMod : List Cond := .code y_Math_floorMod b_Math_floorMod 3 (some (.int)) :: x_tb
theorem pd_Math_floorMod : y_Math_floorMod.cls ≠ "java/lang/invoke/MethodHandle" ∧ y_Math_floorMod.cls ≠ "java/lang/invoke/VarHandle" ∧ (parseMethodDescriptor y_Math_floorMod.desc).map (fun d => d.parameters.length) = some 2 := by decide +kernel
theorem d_Math_floorMod_0 : decode b_Math_floorMod 0 = .ok (.iload_n 0, 1) := by decide +kernel
theorem d_Math_floorMod_1 : decode b_Math_floorMod 1 = .ok (.iload_n 1, 1) := by decide +kernel
theorem d_Math_floorMod_2 : decode b_Math_floorMod 2 = .ok (.irem, 1) := by decide +kernel
theorem d_Math_floorMod_3 : decode b_Math_floorMod 3 = .ok (.istore_n 2, 1) := by decide +kernel
theorem d_Math_floorMod_4 : decode b_Math_floorMod 4 = .ok (.iload_n 0, 1) := by decide +kernel
theorem d_Math_floorMod_5 : decode b_Math_floorMod 5 = .ok (.iload_n 1, 1) := by decide +kernel
theorem d_Math_floorMod_6 : decode b_Math_floorMod 6 = .ok (.ixor, 1) := by decide +kernel
theorem d_Math_floorMod_7 : decode b_Math_floorMod 7 = .ok (.ifCond .ge 11, 3) := by decide +kernel
theorem d_Math_floorMod_10 : decode b_Math_floorMod 10 = .ok (.iload_n 2, 1) := by decide +kernel
theorem d_Math_floorMod_11 : decode b_Math_floorMod 11 = .ok (.ifCond .eq 7, 3) := by decide +kernel
theorem d_Math_floorMod_14 : decode b_Math_floorMod 14 = .ok (.iload_n 2, 1) := by decide +kernel
theorem d_Math_floorMod_15 : decode b_Math_floorMod 15 = .ok (.iload_n 1, 1) := by decide +kernel
theorem d_Math_floorMod_16 : decode b_Math_floorMod 16 = .ok (.iadd, 1) := by decide +kernel
theorem d_Math_floorMod_17 : decode b_Math_floorMod 17 = .ok (.ireturn, 1) := by decide +kernel
theorem d_Math_floorMod_18 : decode b_Math_floorMod 18 = .ok (.iload_n 2, 1) := by decide +kernel
theorem d_Math_floorMod_19 : decode b_Math_floorMod 19 = .ok (.ireturn, 1) := by decide +kernel
abbrev b_Math_max : ByteArray := prog_17_method_65_code
def y_Math_max : MethodName := ⟨"java/lang/Math", "max", "(II)I"⟩
def ws_Math_max : List Cond := .code y_Math_max b_Math_max 2 (some (.int)) :: x_tb
theorem pd_Math_max : y_Math_max.cls ≠ "java/lang/invoke/MethodHandle" ∧ y_Math_max.cls ≠ "java/lang/invoke/VarHandle" ∧ (parseMethodDescriptor y_Math_max.desc).map (fun d => d.parameters.length) = some 2 := by decide +kernel
theorem d_Math_max_0 : decode b_Math_max 0 = .ok (.iload_n 0, 1) := by decide +kernel
theorem d_Math_max_1 : decode b_Math_max 1 = .ok (.iload_n 1, 1) := by decide +kernel
theorem d_Math_max_2 : decode b_Math_max 2 = .ok (.if_icmp .lt 7, 3) := by decide +kernel
theorem d_Math_max_5 : decode b_Math_max 5 = .ok (.iload_n 0, 1) := by decide +kernel
theorem d_Math_max_6 : decode b_Math_max 6 = .ok (.goto 4, 3) := by decide +kernel
theorem d_Math_max_9 : decode b_Math_max 9 = .ok (.iload_n 1, 1) := by decide +kernel
theorem d_Math_max_10 : decode b_Math_max 10 = .ok (.ireturn, 1) := by decide +kernel
abbrev b_Math_min : ByteArray := prog_17_method_69_code
def y_Math_min : MethodName := ⟨"java/lang/Math", "min", "(II)I"⟩
def ws_Math_min : List Cond := .code y_Math_min b_Math_min 2 (some (.int)) :: x_tb
theorem pd_Math_min : y_Math_min.cls ≠ "java/lang/invoke/MethodHandle" ∧ y_Math_min.cls ≠ "java/lang/invoke/VarHandle" ∧ (parseMethodDescriptor y_Math_min.desc).map (fun d => d.parameters.length) = some 2 := by decide +kernel
theorem d_Math_min_0 : decode b_Math_min 0 = .ok (.iload_n 0, 1) := by decide +kernel
theorem d_Math_min_1 : decode b_Math_min 1 = .ok (.iload_n 1, 1) := by decide +kernel
theorem d_Math_min_2 : decode b_Math_min 2 = .ok (.if_icmp .gt 7, 3) := by decide +kernel
theorem d_Math_min_5 : decode b_Math_min 5 = .ok (.iload_n 0, 1) := by decide +kernel
theorem d_Math_min_6 : decode b_Math_min 6 = .ok (.goto 4, 3) := by decide +kernel
theorem d_Math_min_9 : decode b_Math_min 9 = .ok (.iload_n 1, 1) := by decide +kernel
theorem d_Math_min_10 : decode b_Math_min 10 = .ok (.ireturn, 1) := by decide +kernel
