abbrev b_Model_thrown : ByteArray := prog_7_method_2_code
abbrev y_Model_thrown : MethodName := ⟨"LabelRoadsModel", "thrown", "()I"⟩
theorem d_Model_thrown_0 : decode b_Model_thrown 0 = .ok (.aload_n 0, 1) := by decide +kernel
theorem d_Model_thrown_1 : decode b_Model_thrown 1 = .ok (.getfield 57, 3) := by decide +kernel
theorem d_Model_thrown_4 : decode b_Model_thrown 4 = .ok (.ireturn, 1) := by decide +kernel
theorem k_Model_thrown : Cond.code y_Model_thrown b_Model_thrown 1 (some .int) ∈ WS := ws_t 685 (by decide +kernel) (by decide +kernel)
theorem hd_Model_thrown : y_Model_thrown.cls = R_Model ∧ y_Model_thrown.cls ≠ "java/lang/invoke/MethodHandle" ∧ y_Model_thrown.cls ≠ "java/lang/invoke/VarHandle" ∧ (parseMethodDescriptor y_Model_thrown.desc).map (fun d => d.parameters.length) = some 0 := by decide +kernel
abbrev b_Model_within : ByteArray := prog_7_method_3_code
abbrev y_Model_within : MethodName := ⟨"LabelRoadsModel", "within", "(III)Z"⟩
theorem d_Model_within_0 : decode b_Model_within 0 = .ok (.iload_n 0, 1) := by decide +kernel
theorem d_Model_within_1 : decode b_Model_within 1 = .ok (.iload_n 1, 1) := by decide +kernel
theorem d_Model_within_2 : decode b_Model_within 2 = .ok (.if_icmp .lt (12), 3) := by decide +kernel
theorem d_Model_within_5 : decode b_Model_within 5 = .ok (.iload_n 0, 1) := by decide +kernel
theorem d_Model_within_6 : decode b_Model_within 6 = .ok (.iload_n 2, 1) := by decide +kernel
theorem d_Model_within_7 : decode b_Model_within 7 = .ok (.if_icmp .gt (7), 3) := by decide +kernel
theorem d_Model_within_10 : decode b_Model_within 10 = .ok (.iconst 1, 1) := by decide +kernel
theorem d_Model_within_11 : decode b_Model_within 11 = .ok (.goto (4), 3) := by decide +kernel
theorem d_Model_within_14 : decode b_Model_within 14 = .ok (.iconst 0, 1) := by decide +kernel
theorem d_Model_within_15 : decode b_Model_within 15 = .ok (.ireturn, 1) := by decide +kernel
theorem k_Model_within : Cond.code y_Model_within b_Model_within 3 (some .boolean) ∈ WS := ws_t 700 (by decide +kernel) (by decide +kernel)
theorem hd_Model_within : y_Model_within.cls ≠ "java/lang/invoke/MethodHandle" ∧ y_Model_within.cls ≠ "java/lang/invoke/VarHandle" ∧ (parseMethodDescriptor y_Model_within.desc).map (fun d => d.parameters.length) = some 3 := by decide +kernel
abbrev b_Model_isRouter : ByteArray := prog_7_method_4_code
abbrev y_Model_isRouter : MethodName := ⟨"LabelRoadsModel", "isRouter", "(I)Z"⟩
theorem d_Model_isRouter_0 : decode b_Model_isRouter 0 = .ok (.iload_n 1, 1) := by decide +kernel
theorem d_Model_isRouter_1 : decode b_Model_isRouter 1 = .ok (.iconst 0, 1) := by decide +kernel
theorem d_Model_isRouter_2 : decode b_Model_isRouter 2 = .ok (.aload_n 0, 1) := by decide +kernel
theorem d_Model_isRouter_3 : decode b_Model_isRouter 3 = .ok (.getfield 53, 3) := by decide +kernel
theorem d_Model_isRouter_6 : decode b_Model_isRouter 6 = .ok (.iconst 1, 1) := by decide +kernel
theorem d_Model_isRouter_7 : decode b_Model_isRouter 7 = .ok (.isub, 1) := by decide +kernel
theorem d_Model_isRouter_8 : decode b_Model_isRouter 8 = .ok (.invokestatic 60, 3) := by decide +kernel
theorem d_Model_isRouter_11 : decode b_Model_isRouter 11 = .ok (.ireturn, 1) := by decide +kernel
theorem k_Model_isRouter : Cond.code y_Model_isRouter b_Model_isRouter 2 (some .boolean) ∈ WS := ws_t 697 (by decide +kernel) (by decide +kernel)
theorem hd_Model_isRouter : y_Model_isRouter.cls = R_Model ∧ y_Model_isRouter.cls ≠ "java/lang/invoke/MethodHandle" ∧ y_Model_isRouter.cls ≠ "java/lang/invoke/VarHandle" ∧ (parseMethodDescriptor y_Model_isRouter.desc).map (fun d => d.parameters.length) = some 1 := by decide +kernel
abbrev b_Model_isPair : ByteArray := prog_7_method_5_code
abbrev y_Model_isPair : MethodName := ⟨"LabelRoadsModel", "isPair", "(II)Z"⟩
theorem d_Model_isPair_0 : decode b_Model_isPair 0 = .ok (.aload_n 0, 1) := by decide +kernel
theorem d_Model_isPair_1 : decode b_Model_isPair 1 = .ok (.iload_n 1, 1) := by decide +kernel
theorem d_Model_isPair_2 : decode b_Model_isPair 2 = .ok (.invokevirtual 64, 3) := by decide +kernel
theorem d_Model_isPair_5 : decode b_Model_isPair 5 = .ok (.ifCond .eq (20), 3) := by decide +kernel
theorem d_Model_isPair_8 : decode b_Model_isPair 8 = .ok (.aload_n 0, 1) := by decide +kernel
theorem d_Model_isPair_9 : decode b_Model_isPair 9 = .ok (.iload_n 2, 1) := by decide +kernel
theorem d_Model_isPair_10 : decode b_Model_isPair 10 = .ok (.invokevirtual 64, 3) := by decide +kernel
theorem d_Model_isPair_13 : decode b_Model_isPair 13 = .ok (.ifCond .eq (12), 3) := by decide +kernel
theorem d_Model_isPair_16 : decode b_Model_isPair 16 = .ok (.iload_n 1, 1) := by decide +kernel
theorem d_Model_isPair_17 : decode b_Model_isPair 17 = .ok (.iload_n 2, 1) := by decide +kernel
theorem d_Model_isPair_18 : decode b_Model_isPair 18 = .ok (.if_icmp .eq (7), 3) := by decide +kernel
theorem d_Model_isPair_21 : decode b_Model_isPair 21 = .ok (.iconst 1, 1) := by decide +kernel
theorem d_Model_isPair_22 : decode b_Model_isPair 22 = .ok (.goto (4), 3) := by decide +kernel
theorem d_Model_isPair_25 : decode b_Model_isPair 25 = .ok (.iconst 0, 1) := by decide +kernel
theorem d_Model_isPair_26 : decode b_Model_isPair 26 = .ok (.ireturn, 1) := by decide +kernel
theorem k_Model_isPair : Cond.code y_Model_isPair b_Model_isPair 3 (some .boolean) ∈ WS := ws_t 693 (by decide +kernel) (by decide +kernel)
theorem hd_Model_isPair : y_Model_isPair.cls = R_Model ∧ y_Model_isPair.cls ≠ "java/lang/invoke/MethodHandle" ∧ y_Model_isPair.cls ≠ "java/lang/invoke/VarHandle" ∧ (parseMethodDescriptor y_Model_isPair.desc).map (fun d => d.parameters.length) = some 2 := by decide +kernel
abbrev b_Model_good : ByteArray := prog_7_method_6_code
abbrev y_Model_good : MethodName := ⟨"LabelRoadsModel", "good", "(Z)Z"⟩
theorem d_Model_good_0 : decode b_Model_good 0 = .ok (.aload_n 0, 1) := by decide +kernel
theorem d_Model_good_1 : decode b_Model_good 1 = .ok (.iload_n 1, 1) := by decide +kernel
theorem d_Model_good_2 : decode b_Model_good 2 = .ok (.ifCond .eq (7), 3) := by decide +kernel
theorem d_Model_good_5 : decode b_Model_good 5 = .ok (.iconst 0, 1) := by decide +kernel
theorem d_Model_good_6 : decode b_Model_good 6 = .ok (.goto (4), 3) := by decide +kernel
theorem d_Model_good_9 : decode b_Model_good 9 = .ok (.iconst 1, 1) := by decide +kernel
theorem d_Model_good_10 : decode b_Model_good 10 = .ok (.putfield 57, 3) := by decide +kernel
theorem d_Model_good_13 : decode b_Model_good 13 = .ok (.iload_n 1, 1) := by decide +kernel
theorem d_Model_good_14 : decode b_Model_good 14 = .ok (.ireturn, 1) := by decide +kernel
theorem k_Model_good : Cond.code y_Model_good b_Model_good 2 (some .boolean) ∈ WS := ws_t 704 (by decide +kernel) (by decide +kernel)
theorem hd_Model_good : y_Model_good.cls = R_Model ∧ y_Model_good.cls ≠ "java/lang/invoke/MethodHandle" ∧ y_Model_good.cls ≠ "java/lang/invoke/VarHandle" ∧ (parseMethodDescriptor y_Model_good.desc).map (fun d => d.parameters.length) = some 1 := by decide +kernel
abbrev b_Model_measure : ByteArray := prog_7_method_7_code
abbrev y_Model_measure : MethodName := ⟨"LabelRoadsModel", "measure", "(I)V"⟩
theorem d_Model_measure_0 : decode b_Model_measure 0 = .ok (.iconst 0, 1) := by decide +kernel
theorem d_Model_measure_1 : decode b_Model_measure 1 = .ok (.istore_n 2, 1) := by decide +kernel
theorem d_Model_measure_2 : decode b_Model_measure 2 = .ok (.iload_n 2, 1) := by decide +kernel
theorem d_Model_measure_3 : decode b_Model_measure 3 = .ok (.aload_n 0, 1) := by decide +kernel
theorem d_Model_measure_4 : decode b_Model_measure 4 = .ok (.getfield 53, 3) := by decide +kernel
theorem d_Model_measure_7 : decode b_Model_measure 7 = .ok (.if_icmp .ge (30), 3) := by decide +kernel
theorem d_Model_measure_10 : decode b_Model_measure 10 = .ok (.aload_n 0, 1) := by decide +kernel
theorem d_Model_measure_11 : decode b_Model_measure 11 = .ok (.getfield 44, 3) := by decide +kernel
theorem d_Model_measure_14 : decode b_Model_measure 14 = .ok (.iload_n 2, 1) := by decide +kernel
theorem d_Model_measure_15 : decode b_Model_measure 15 = .ok (.aload_n 0, 1) := by decide +kernel
theorem d_Model_measure_16 : decode b_Model_measure 16 = .ok (.getfield 13, 3) := by decide +kernel
theorem d_Model_measure_19 : decode b_Model_measure 19 = .ok (.iload_n 1, 1) := by decide +kernel
theorem d_Model_measure_20 : decode b_Model_measure 20 = .ok (.iaload, 1) := by decide +kernel
theorem d_Model_measure_21 : decode b_Model_measure 21 = .ok (.iload_n 2, 1) := by decide +kernel
theorem d_Model_measure_22 : decode b_Model_measure 22 = .ok (.if_icmp .ne (7), 3) := by decide +kernel
theorem d_Model_measure_25 : decode b_Model_measure 25 = .ok (.iconst 0, 1) := by decide +kernel
theorem d_Model_measure_26 : decode b_Model_measure 26 = .ok (.goto (4), 3) := by decide +kernel
theorem d_Model_measure_29 : decode b_Model_measure 29 = .ok (.iconst (-1), 1) := by decide +kernel
theorem d_Model_measure_30 : decode b_Model_measure 30 = .ok (.iastore, 1) := by decide +kernel
theorem d_Model_measure_31 : decode b_Model_measure 31 = .ok (.iinc 2 (1), 3) := by decide +kernel
theorem d_Model_measure_34 : decode b_Model_measure 34 = .ok (.goto (-32), 3) := by decide +kernel
theorem d_Model_measure_37 : decode b_Model_measure 37 = .ok (.iconst 1, 1) := by decide +kernel
theorem d_Model_measure_38 : decode b_Model_measure 38 = .ok (.istore_n 2, 1) := by decide +kernel
theorem d_Model_measure_39 : decode b_Model_measure 39 = .ok (.iload_n 2, 1) := by decide +kernel
theorem d_Model_measure_40 : decode b_Model_measure 40 = .ok (.aload_n 0, 1) := by decide +kernel
theorem d_Model_measure_41 : decode b_Model_measure 41 = .ok (.getfield 53, 3) := by decide +kernel
theorem d_Model_measure_44 : decode b_Model_measure 44 = .ok (.if_icmp .ge (120), 3) := by decide +kernel
theorem d_Model_measure_47 : decode b_Model_measure 47 = .ok (.iconst 0, 1) := by decide +kernel
theorem d_Model_measure_48 : decode b_Model_measure 48 = .ok (.istore_n 3, 1) := by decide +kernel
theorem d_Model_measure_49 : decode b_Model_measure 49 = .ok (.iload_n 3, 1) := by decide +kernel
theorem d_Model_measure_50 : decode b_Model_measure 50 = .ok (.bipush 36, 2) := by decide +kernel
theorem d_Model_measure_52 : decode b_Model_measure 52 = .ok (.if_icmp .ge (106), 3) := by decide +kernel
theorem d_Model_measure_55 : decode b_Model_measure 55 = .ok (.iload_n 3, 1) := by decide +kernel
theorem d_Model_measure_56 : decode b_Model_measure 56 = .ok (.bipush 6, 2) := by decide +kernel
theorem d_Model_measure_58 : decode b_Model_measure 58 = .ok (.idiv, 1) := by decide +kernel
theorem d_Model_measure_59 : decode b_Model_measure 59 = .ok (.istore 4, 2) := by decide +kernel
theorem d_Model_measure_61 : decode b_Model_measure 61 = .ok (.iload_n 3, 1) := by decide +kernel
theorem d_Model_measure_62 : decode b_Model_measure 62 = .ok (.bipush 6, 2) := by decide +kernel
theorem d_Model_measure_64 : decode b_Model_measure 64 = .ok (.irem, 1) := by decide +kernel
theorem d_Model_measure_65 : decode b_Model_measure 65 = .ok (.istore 5, 2) := by decide +kernel
theorem d_Model_measure_67 : decode b_Model_measure 67 = .ok (.aload_n 0, 1) := by decide +kernel
theorem d_Model_measure_68 : decode b_Model_measure 68 = .ok (.getfield 7, 3) := by decide +kernel
theorem d_Model_measure_71 : decode b_Model_measure 71 = .ok (.iload_n 3, 1) := by decide +kernel
theorem d_Model_measure_72 : decode b_Model_measure 72 = .ok (.iaload, 1) := by decide +kernel
theorem d_Model_measure_73 : decode b_Model_measure 73 = .ok (.ifCond .le (30), 3) := by decide +kernel
theorem d_Model_measure_76 : decode b_Model_measure 76 = .ok (.aload_n 0, 1) := by decide +kernel
theorem d_Model_measure_77 : decode b_Model_measure 77 = .ok (.getfield 44, 3) := by decide +kernel
theorem d_Model_measure_80 : decode b_Model_measure 80 = .ok (.iload 4, 2) := by decide +kernel
theorem d_Model_measure_82 : decode b_Model_measure 82 = .ok (.iaload, 1) := by decide +kernel
theorem d_Model_measure_83 : decode b_Model_measure 83 = .ok (.ifCond .lt (20), 3) := by decide +kernel
theorem d_Model_measure_86 : decode b_Model_measure 86 = .ok (.aload_n 0, 1) := by decide +kernel
theorem d_Model_measure_87 : decode b_Model_measure 87 = .ok (.getfield 44, 3) := by decide +kernel
theorem d_Model_measure_90 : decode b_Model_measure 90 = .ok (.iload 4, 2) := by decide +kernel
theorem d_Model_measure_92 : decode b_Model_measure 92 = .ok (.iaload, 1) := by decide +kernel
theorem d_Model_measure_93 : decode b_Model_measure 93 = .ok (.aload_n 0, 1) := by decide +kernel
theorem d_Model_measure_94 : decode b_Model_measure 94 = .ok (.getfield 7, 3) := by decide +kernel
theorem d_Model_measure_97 : decode b_Model_measure 97 = .ok (.iload_n 3, 1) := by decide +kernel
theorem d_Model_measure_98 : decode b_Model_measure 98 = .ok (.iaload, 1) := by decide +kernel
theorem d_Model_measure_99 : decode b_Model_measure 99 = .ok (.iadd, 1) := by decide +kernel
theorem d_Model_measure_100 : decode b_Model_measure 100 = .ok (.goto (4), 3) := by decide +kernel
theorem d_Model_measure_103 : decode b_Model_measure 103 = .ok (.iconst (-1), 1) := by decide +kernel
theorem d_Model_measure_104 : decode b_Model_measure 104 = .ok (.istore 6, 2) := by decide +kernel
theorem d_Model_measure_106 : decode b_Model_measure 106 = .ok (.aload_n 0, 1) := by decide +kernel
theorem d_Model_measure_107 : decode b_Model_measure 107 = .ok (.getfield 44, 3) := by decide +kernel
theorem d_Model_measure_110 : decode b_Model_measure 110 = .ok (.iload 5, 2) := by decide +kernel
theorem d_Model_measure_112 : decode b_Model_measure 112 = .ok (.iload 6, 2) := by decide +kernel
theorem d_Model_measure_114 : decode b_Model_measure 114 = .ok (.ifCond .lt (30), 3) := by decide +kernel
theorem d_Model_measure_117 : decode b_Model_measure 117 = .ok (.aload_n 0, 1) := by decide +kernel
theorem d_Model_measure_118 : decode b_Model_measure 118 = .ok (.getfield 44, 3) := by decide +kernel
theorem d_Model_measure_121 : decode b_Model_measure 121 = .ok (.iload 5, 2) := by decide +kernel
theorem d_Model_measure_123 : decode b_Model_measure 123 = .ok (.iaload, 1) := by decide +kernel
theorem d_Model_measure_124 : decode b_Model_measure 124 = .ok (.ifCond .lt (15), 3) := by decide +kernel
theorem d_Model_measure_127 : decode b_Model_measure 127 = .ok (.iload 6, 2) := by decide +kernel
theorem d_Model_measure_129 : decode b_Model_measure 129 = .ok (.aload_n 0, 1) := by decide +kernel
theorem d_Model_measure_130 : decode b_Model_measure 130 = .ok (.getfield 44, 3) := by decide +kernel
theorem d_Model_measure_133 : decode b_Model_measure 133 = .ok (.iload 5, 2) := by decide +kernel
theorem d_Model_measure_135 : decode b_Model_measure 135 = .ok (.iaload, 1) := by decide +kernel
theorem d_Model_measure_136 : decode b_Model_measure 136 = .ok (.if_icmp .ge (8), 3) := by decide +kernel
theorem d_Model_measure_139 : decode b_Model_measure 139 = .ok (.iload 6, 2) := by decide +kernel
theorem d_Model_measure_141 : decode b_Model_measure 141 = .ok (.goto (10), 3) := by decide +kernel
theorem d_Model_measure_144 : decode b_Model_measure 144 = .ok (.aload_n 0, 1) := by decide +kernel
theorem d_Model_measure_145 : decode b_Model_measure 145 = .ok (.getfield 44, 3) := by decide +kernel
theorem d_Model_measure_148 : decode b_Model_measure 148 = .ok (.iload 5, 2) := by decide +kernel
theorem d_Model_measure_150 : decode b_Model_measure 150 = .ok (.iaload, 1) := by decide +kernel
theorem d_Model_measure_151 : decode b_Model_measure 151 = .ok (.iastore, 1) := by decide +kernel
theorem d_Model_measure_152 : decode b_Model_measure 152 = .ok (.iinc 3 (1), 3) := by decide +kernel
theorem d_Model_measure_155 : decode b_Model_measure 155 = .ok (.goto (-106), 3) := by decide +kernel
theorem d_Model_measure_158 : decode b_Model_measure 158 = .ok (.iinc 2 (1), 3) := by decide +kernel
theorem d_Model_measure_161 : decode b_Model_measure 161 = .ok (.goto (-122), 3) := by decide +kernel
theorem d_Model_measure_164 : decode b_Model_measure 164 = .ok (.return_, 1) := by decide +kernel
theorem k_Model_measure : Cond.code y_Model_measure b_Model_measure 7 (none) ∈ WS := ws_t 728 (by decide +kernel) (by decide +kernel)
theorem hd_Model_measure : y_Model_measure.cls = R_Model ∧ y_Model_measure.cls ≠ "java/lang/invoke/MethodHandle" ∧ y_Model_measure.cls ≠ "java/lang/invoke/VarHandle" ∧ (parseMethodDescriptor y_Model_measure.desc).map (fun d => d.parameters.length) = some 1 := by decide +kernel
abbrev b_Model_nextOf : ByteArray := prog_7_method_8_code
abbrev y_Model_nextOf : MethodName := ⟨"LabelRoadsModel", "nextOf", "(II)I"⟩
theorem d_Model_nextOf_0 : decode b_Model_nextOf 0 = .ok (.aload_n 0, 1) := by decide +kernel
theorem d_Model_nextOf_1 : decode b_Model_nextOf 1 = .ok (.iload_n 2, 1) := by decide +kernel
theorem d_Model_nextOf_2 : decode b_Model_nextOf 2 = .ok (.invokevirtual 68, 3) := by decide +kernel
theorem d_Model_nextOf_5 : decode b_Model_nextOf 5 = .ok (.iconst (-1), 1) := by decide +kernel
theorem d_Model_nextOf_6 : decode b_Model_nextOf 6 = .ok (.istore_n 3, 1) := by decide +kernel
theorem d_Model_nextOf_7 : decode b_Model_nextOf 7 = .ok (.aload_n 0, 1) := by decide +kernel
theorem d_Model_nextOf_8 : decode b_Model_nextOf 8 = .ok (.getfield 53, 3) := by decide +kernel
theorem d_Model_nextOf_11 : decode b_Model_nextOf 11 = .ok (.iconst 1, 1) := by decide +kernel
theorem d_Model_nextOf_12 : decode b_Model_nextOf 12 = .ok (.isub, 1) := by decide +kernel
theorem d_Model_nextOf_13 : decode b_Model_nextOf 13 = .ok (.istore 4, 2) := by decide +kernel
theorem d_Model_nextOf_15 : decode b_Model_nextOf 15 = .ok (.iload 4, 2) := by decide +kernel
theorem d_Model_nextOf_17 : decode b_Model_nextOf 17 = .ok (.ifCond .lt (73), 3) := by decide +kernel
theorem d_Model_nextOf_20 : decode b_Model_nextOf 20 = .ok (.aload_n 0, 1) := by decide +kernel
theorem d_Model_nextOf_21 : decode b_Model_nextOf 21 = .ok (.getfield 7, 3) := by decide +kernel
theorem d_Model_nextOf_24 : decode b_Model_nextOf 24 = .ok (.bipush 6, 2) := by decide +kernel
theorem d_Model_nextOf_26 : decode b_Model_nextOf 26 = .ok (.iload_n 1, 1) := by decide +kernel
theorem d_Model_nextOf_27 : decode b_Model_nextOf 27 = .ok (.imul, 1) := by decide +kernel
theorem d_Model_nextOf_28 : decode b_Model_nextOf 28 = .ok (.iload 4, 2) := by decide +kernel
theorem d_Model_nextOf_30 : decode b_Model_nextOf 30 = .ok (.iadd, 1) := by decide +kernel
theorem d_Model_nextOf_31 : decode b_Model_nextOf 31 = .ok (.iaload, 1) := by decide +kernel
theorem d_Model_nextOf_32 : decode b_Model_nextOf 32 = .ok (.istore 5, 2) := by decide +kernel
theorem d_Model_nextOf_34 : decode b_Model_nextOf 34 = .ok (.iload 5, 2) := by decide +kernel
theorem d_Model_nextOf_36 : decode b_Model_nextOf 36 = .ok (.ifCond .le (46), 3) := by decide +kernel
theorem d_Model_nextOf_39 : decode b_Model_nextOf 39 = .ok (.aload_n 0, 1) := by decide +kernel
theorem d_Model_nextOf_40 : decode b_Model_nextOf 40 = .ok (.getfield 44, 3) := by decide +kernel
theorem d_Model_nextOf_43 : decode b_Model_nextOf 43 = .ok (.iload 4, 2) := by decide +kernel
theorem d_Model_nextOf_45 : decode b_Model_nextOf 45 = .ok (.iaload, 1) := by decide +kernel
theorem d_Model_nextOf_46 : decode b_Model_nextOf 46 = .ok (.ifCond .lt (36), 3) := by decide +kernel
theorem d_Model_nextOf_49 : decode b_Model_nextOf 49 = .ok (.aload_n 0, 1) := by decide +kernel
theorem d_Model_nextOf_50 : decode b_Model_nextOf 50 = .ok (.getfield 44, 3) := by decide +kernel
theorem d_Model_nextOf_53 : decode b_Model_nextOf 53 = .ok (.iload_n 1, 1) := by decide +kernel
theorem d_Model_nextOf_54 : decode b_Model_nextOf 54 = .ok (.iaload, 1) := by decide +kernel
theorem d_Model_nextOf_55 : decode b_Model_nextOf 55 = .ok (.ifCond .le (27), 3) := by decide +kernel
theorem d_Model_nextOf_58 : decode b_Model_nextOf 58 = .ok (.aload_n 0, 1) := by decide +kernel
theorem d_Model_nextOf_59 : decode b_Model_nextOf 59 = .ok (.getfield 44, 3) := by decide +kernel
theorem d_Model_nextOf_62 : decode b_Model_nextOf 62 = .ok (.iload 4, 2) := by decide +kernel
theorem d_Model_nextOf_64 : decode b_Model_nextOf 64 = .ok (.iaload, 1) := by decide +kernel
theorem d_Model_nextOf_65 : decode b_Model_nextOf 65 = .ok (.iload 5, 2) := by decide +kernel
theorem d_Model_nextOf_67 : decode b_Model_nextOf 67 = .ok (.iadd, 1) := by decide +kernel
theorem d_Model_nextOf_68 : decode b_Model_nextOf 68 = .ok (.aload_n 0, 1) := by decide +kernel
theorem d_Model_nextOf_69 : decode b_Model_nextOf 69 = .ok (.getfield 44, 3) := by decide +kernel
theorem d_Model_nextOf_72 : decode b_Model_nextOf 72 = .ok (.iload_n 1, 1) := by decide +kernel
theorem d_Model_nextOf_73 : decode b_Model_nextOf 73 = .ok (.iaload, 1) := by decide +kernel
theorem d_Model_nextOf_74 : decode b_Model_nextOf 74 = .ok (.if_icmp .ne (8), 3) := by decide +kernel
theorem d_Model_nextOf_77 : decode b_Model_nextOf 77 = .ok (.iload 4, 2) := by decide +kernel
theorem d_Model_nextOf_79 : decode b_Model_nextOf 79 = .ok (.goto (4), 3) := by decide +kernel
theorem d_Model_nextOf_82 : decode b_Model_nextOf 82 = .ok (.iload_n 3, 1) := by decide +kernel
theorem d_Model_nextOf_83 : decode b_Model_nextOf 83 = .ok (.istore_n 3, 1) := by decide +kernel
theorem d_Model_nextOf_84 : decode b_Model_nextOf 84 = .ok (.iinc 4 (-1), 3) := by decide +kernel
theorem d_Model_nextOf_87 : decode b_Model_nextOf 87 = .ok (.goto (-72), 3) := by decide +kernel
theorem d_Model_nextOf_90 : decode b_Model_nextOf 90 = .ok (.iload_n 3, 1) := by decide +kernel
theorem d_Model_nextOf_91 : decode b_Model_nextOf 91 = .ok (.ireturn, 1) := by decide +kernel
theorem k_Model_nextOf : Cond.code y_Model_nextOf b_Model_nextOf 6 (some .int) ∈ WS := ws_t 724 (by decide +kernel) (by decide +kernel)
theorem hd_Model_nextOf : y_Model_nextOf.cls = R_Model ∧ y_Model_nextOf.cls ≠ "java/lang/invoke/MethodHandle" ∧ y_Model_nextOf.cls ≠ "java/lang/invoke/VarHandle" ∧ (parseMethodDescriptor y_Model_nextOf.desc).map (fun d => d.parameters.length) = some 2 := by decide +kernel
abbrev b_Model_isTaken : ByteArray := prog_7_method_9_code
abbrev y_Model_isTaken : MethodName := ⟨"LabelRoadsModel", "isTaken", "(II)Z"⟩
theorem d_Model_isTaken_0 : decode b_Model_isTaken 0 = .ok (.iconst 0, 1) := by decide +kernel
theorem d_Model_isTaken_1 : decode b_Model_isTaken 1 = .ok (.istore_n 3, 1) := by decide +kernel
theorem d_Model_isTaken_2 : decode b_Model_isTaken 2 = .ok (.iconst 0, 1) := by decide +kernel
theorem d_Model_isTaken_3 : decode b_Model_isTaken 3 = .ok (.istore 4, 2) := by decide +kernel
theorem d_Model_isTaken_5 : decode b_Model_isTaken 5 = .ok (.iload 4, 2) := by decide +kernel
theorem d_Model_isTaken_7 : decode b_Model_isTaken 7 = .ok (.iconst 4, 1) := by decide +kernel
theorem d_Model_isTaken_8 : decode b_Model_isTaken 8 = .ok (.if_icmp .ge (37), 3) := by decide +kernel
theorem d_Model_isTaken_11 : decode b_Model_isTaken 11 = .ok (.iload_n 3, 1) := by decide +kernel
theorem d_Model_isTaken_12 : decode b_Model_isTaken 12 = .ok (.ifCond .ne (21), 3) := by decide +kernel
theorem d_Model_isTaken_15 : decode b_Model_isTaken 15 = .ok (.aload_n 0, 1) := by decide +kernel
theorem d_Model_isTaken_16 : decode b_Model_isTaken 16 = .ok (.getfield 19, 3) := by decide +kernel
theorem d_Model_isTaken_19 : decode b_Model_isTaken 19 = .ok (.iconst 4, 1) := by decide +kernel
theorem d_Model_isTaken_20 : decode b_Model_isTaken 20 = .ok (.iload_n 1, 1) := by decide +kernel
theorem d_Model_isTaken_21 : decode b_Model_isTaken 21 = .ok (.imul, 1) := by decide +kernel
theorem d_Model_isTaken_22 : decode b_Model_isTaken 22 = .ok (.iload 4, 2) := by decide +kernel
theorem d_Model_isTaken_24 : decode b_Model_isTaken 24 = .ok (.iadd, 1) := by decide +kernel
theorem d_Model_isTaken_25 : decode b_Model_isTaken 25 = .ok (.iaload, 1) := by decide +kernel
theorem d_Model_isTaken_26 : decode b_Model_isTaken 26 = .ok (.bipush 16, 2) := by decide +kernel
theorem d_Model_isTaken_28 : decode b_Model_isTaken 28 = .ok (.iload_n 2, 1) := by decide +kernel
theorem d_Model_isTaken_29 : decode b_Model_isTaken 29 = .ok (.iadd, 1) := by decide +kernel
theorem d_Model_isTaken_30 : decode b_Model_isTaken 30 = .ok (.if_icmp .ne (7), 3) := by decide +kernel
theorem d_Model_isTaken_33 : decode b_Model_isTaken 33 = .ok (.iconst 1, 1) := by decide +kernel
theorem d_Model_isTaken_34 : decode b_Model_isTaken 34 = .ok (.goto (4), 3) := by decide +kernel
theorem d_Model_isTaken_37 : decode b_Model_isTaken 37 = .ok (.iconst 0, 1) := by decide +kernel
theorem d_Model_isTaken_38 : decode b_Model_isTaken 38 = .ok (.istore_n 3, 1) := by decide +kernel
theorem d_Model_isTaken_39 : decode b_Model_isTaken 39 = .ok (.iinc 4 (1), 3) := by decide +kernel
theorem d_Model_isTaken_42 : decode b_Model_isTaken 42 = .ok (.goto (-37), 3) := by decide +kernel
theorem d_Model_isTaken_45 : decode b_Model_isTaken 45 = .ok (.iconst 0, 1) := by decide +kernel
theorem d_Model_isTaken_46 : decode b_Model_isTaken 46 = .ok (.istore 4, 2) := by decide +kernel
theorem d_Model_isTaken_48 : decode b_Model_isTaken 48 = .ok (.iload 4, 2) := by decide +kernel
theorem d_Model_isTaken_50 : decode b_Model_isTaken 50 = .ok (.bipush 6, 2) := by decide +kernel
theorem d_Model_isTaken_52 : decode b_Model_isTaken 52 = .ok (.if_icmp .ge (39), 3) := by decide +kernel
theorem d_Model_isTaken_55 : decode b_Model_isTaken 55 = .ok (.iload_n 3, 1) := by decide +kernel
theorem d_Model_isTaken_56 : decode b_Model_isTaken 56 = .ok (.ifCond .ne (23), 3) := by decide +kernel
theorem d_Model_isTaken_59 : decode b_Model_isTaken 59 = .ok (.aload_n 0, 1) := by decide +kernel
theorem d_Model_isTaken_60 : decode b_Model_isTaken 60 = .ok (.getfield 25, 3) := by decide +kernel
theorem d_Model_isTaken_63 : decode b_Model_isTaken 63 = .ok (.bipush 48, 2) := by decide +kernel
theorem d_Model_isTaken_65 : decode b_Model_isTaken 65 = .ok (.iload_n 1, 1) := by decide +kernel
theorem d_Model_isTaken_66 : decode b_Model_isTaken 66 = .ok (.imul, 1) := by decide +kernel
theorem d_Model_isTaken_67 : decode b_Model_isTaken 67 = .ok (.bipush 8, 2) := by decide +kernel
theorem d_Model_isTaken_69 : decode b_Model_isTaken 69 = .ok (.iload 4, 2) := by decide +kernel
theorem d_Model_isTaken_71 : decode b_Model_isTaken 71 = .ok (.imul, 1) := by decide +kernel
theorem d_Model_isTaken_72 : decode b_Model_isTaken 72 = .ok (.iadd, 1) := by decide +kernel
theorem d_Model_isTaken_73 : decode b_Model_isTaken 73 = .ok (.iload_n 2, 1) := by decide +kernel
theorem d_Model_isTaken_74 : decode b_Model_isTaken 74 = .ok (.iadd, 1) := by decide +kernel
theorem d_Model_isTaken_75 : decode b_Model_isTaken 75 = .ok (.baload, 1) := by decide +kernel
theorem d_Model_isTaken_76 : decode b_Model_isTaken 76 = .ok (.ifCond .eq (7), 3) := by decide +kernel
theorem d_Model_isTaken_79 : decode b_Model_isTaken 79 = .ok (.iconst 1, 1) := by decide +kernel
theorem d_Model_isTaken_80 : decode b_Model_isTaken 80 = .ok (.goto (4), 3) := by decide +kernel
theorem d_Model_isTaken_83 : decode b_Model_isTaken 83 = .ok (.iconst 0, 1) := by decide +kernel
theorem d_Model_isTaken_84 : decode b_Model_isTaken 84 = .ok (.istore_n 3, 1) := by decide +kernel
theorem d_Model_isTaken_85 : decode b_Model_isTaken 85 = .ok (.iinc 4 (1), 3) := by decide +kernel
theorem d_Model_isTaken_88 : decode b_Model_isTaken 88 = .ok (.goto (-40), 3) := by decide +kernel
theorem d_Model_isTaken_91 : decode b_Model_isTaken 91 = .ok (.iload_n 3, 1) := by decide +kernel
theorem d_Model_isTaken_92 : decode b_Model_isTaken 92 = .ok (.ireturn, 1) := by decide +kernel
theorem k_Model_isTaken : Cond.code y_Model_isTaken b_Model_isTaken 5 (some .boolean) ∈ WS := ws_t 736 (by decide +kernel) (by decide +kernel)
theorem hd_Model_isTaken : y_Model_isTaken.cls = R_Model ∧ y_Model_isTaken.cls ≠ "java/lang/invoke/MethodHandle" ∧ y_Model_isTaken.cls ≠ "java/lang/invoke/VarHandle" ∧ (parseMethodDescriptor y_Model_isTaken.desc).map (fun d => d.parameters.length) = some 2 := by decide +kernel
abbrev b_Model_takenOf : ByteArray := prog_7_method_10_code
abbrev y_Model_takenOf : MethodName := ⟨"LabelRoadsModel", "takenOf", "(I)I"⟩
theorem d_Model_takenOf_0 : decode b_Model_takenOf 0 = .ok (.iconst 0, 1) := by decide +kernel
theorem d_Model_takenOf_1 : decode b_Model_takenOf 1 = .ok (.istore_n 2, 1) := by decide +kernel
theorem d_Model_takenOf_2 : decode b_Model_takenOf 2 = .ok (.iconst 0, 1) := by decide +kernel
theorem d_Model_takenOf_3 : decode b_Model_takenOf 3 = .ok (.istore_n 3, 1) := by decide +kernel
theorem d_Model_takenOf_4 : decode b_Model_takenOf 4 = .ok (.iload_n 3, 1) := by decide +kernel
theorem d_Model_takenOf_5 : decode b_Model_takenOf 5 = .ok (.bipush 8, 2) := by decide +kernel
theorem d_Model_takenOf_7 : decode b_Model_takenOf 7 = .ok (.if_icmp .ge (26), 3) := by decide +kernel
theorem d_Model_takenOf_10 : decode b_Model_takenOf 10 = .ok (.aload_n 0, 1) := by decide +kernel
theorem d_Model_takenOf_11 : decode b_Model_takenOf 11 = .ok (.iload_n 1, 1) := by decide +kernel
theorem d_Model_takenOf_12 : decode b_Model_takenOf 12 = .ok (.iload_n 3, 1) := by decide +kernel
theorem d_Model_takenOf_13 : decode b_Model_takenOf 13 = .ok (.invokevirtual 72, 3) := by decide +kernel
theorem d_Model_takenOf_16 : decode b_Model_takenOf 16 = .ok (.ifCond .eq (9), 3) := by decide +kernel
theorem d_Model_takenOf_19 : decode b_Model_takenOf 19 = .ok (.iload_n 2, 1) := by decide +kernel
theorem d_Model_takenOf_20 : decode b_Model_takenOf 20 = .ok (.iconst 1, 1) := by decide +kernel
theorem d_Model_takenOf_21 : decode b_Model_takenOf 21 = .ok (.iadd, 1) := by decide +kernel
theorem d_Model_takenOf_22 : decode b_Model_takenOf 22 = .ok (.goto (4), 3) := by decide +kernel
theorem d_Model_takenOf_25 : decode b_Model_takenOf 25 = .ok (.iload_n 2, 1) := by decide +kernel
theorem d_Model_takenOf_26 : decode b_Model_takenOf 26 = .ok (.istore_n 2, 1) := by decide +kernel
theorem d_Model_takenOf_27 : decode b_Model_takenOf 27 = .ok (.iinc 3 (1), 3) := by decide +kernel
theorem d_Model_takenOf_30 : decode b_Model_takenOf 30 = .ok (.goto (-26), 3) := by decide +kernel
theorem d_Model_takenOf_33 : decode b_Model_takenOf 33 = .ok (.iload_n 2, 1) := by decide +kernel
theorem d_Model_takenOf_34 : decode b_Model_takenOf 34 = .ok (.ireturn, 1) := by decide +kernel
theorem k_Model_takenOf : Cond.code y_Model_takenOf b_Model_takenOf 4 (some .int) ∈ WS := ws_t 804 (by decide +kernel) (by decide +kernel)
theorem hd_Model_takenOf : y_Model_takenOf.cls = R_Model ∧ y_Model_takenOf.cls ≠ "java/lang/invoke/MethodHandle" ∧ y_Model_takenOf.cls ≠ "java/lang/invoke/VarHandle" ∧ (parseMethodDescriptor y_Model_takenOf.desc).map (fun d => d.parameters.length) = some 1 := by decide +kernel
abbrev b_Model_post : ByteArray := prog_7_method_11_code
abbrev y_Model_post : MethodName := ⟨"LabelRoadsModel", "post", "(IIIII)V"⟩
theorem d_Model_post_0 : decode b_Model_post 0 = .ok (.aload_n 0, 1) := by decide +kernel
theorem d_Model_post_1 : decode b_Model_post 1 = .ok (.getfield 76, 3) := by decide +kernel
theorem d_Model_post_4 : decode b_Model_post 4 = .ok (.sipush 240, 3) := by decide +kernel
theorem d_Model_post_7 : decode b_Model_post 7 = .ok (.if_icmp .ne (14), 3) := by decide +kernel
theorem d_Model_post_10 : decode b_Model_post 10 = .ok (.aload_n 0, 1) := by decide +kernel
theorem d_Model_post_11 : decode b_Model_post 11 = .ok (.dup, 1) := by decide +kernel
theorem d_Model_post_12 : decode b_Model_post 12 = .ok (.getfield 79, 3) := by decide +kernel
theorem d_Model_post_15 : decode b_Model_post 15 = .ok (.iconst 1, 1) := by decide +kernel
theorem d_Model_post_16 : decode b_Model_post 16 = .ok (.iadd, 1) := by decide +kernel
theorem d_Model_post_17 : decode b_Model_post 17 = .ok (.putfield 79, 3) := by decide +kernel
theorem d_Model_post_20 : decode b_Model_post 20 = .ok (.return_, 1) := by decide +kernel
theorem d_Model_post_21 : decode b_Model_post 21 = .ok (.aload_n 0, 1) := by decide +kernel
theorem d_Model_post_22 : decode b_Model_post 22 = .ok (.getfield 29, 3) := by decide +kernel
theorem d_Model_post_25 : decode b_Model_post 25 = .ok (.aload_n 0, 1) := by decide +kernel
theorem d_Model_post_26 : decode b_Model_post 26 = .ok (.getfield 76, 3) := by decide +kernel
theorem d_Model_post_29 : decode b_Model_post 29 = .ok (.iload_n 1, 1) := by decide +kernel
theorem d_Model_post_30 : decode b_Model_post 30 = .ok (.iastore, 1) := by decide +kernel
theorem d_Model_post_31 : decode b_Model_post 31 = .ok (.aload_n 0, 1) := by decide +kernel
theorem d_Model_post_32 : decode b_Model_post 32 = .ok (.getfield 32, 3) := by decide +kernel
theorem d_Model_post_35 : decode b_Model_post 35 = .ok (.aload_n 0, 1) := by decide +kernel
theorem d_Model_post_36 : decode b_Model_post 36 = .ok (.getfield 76, 3) := by decide +kernel
theorem d_Model_post_39 : decode b_Model_post 39 = .ok (.iload_n 2, 1) := by decide +kernel
theorem d_Model_post_40 : decode b_Model_post 40 = .ok (.iastore, 1) := by decide +kernel
theorem d_Model_post_41 : decode b_Model_post 41 = .ok (.aload_n 0, 1) := by decide +kernel
theorem d_Model_post_42 : decode b_Model_post 42 = .ok (.getfield 35, 3) := by decide +kernel
theorem d_Model_post_45 : decode b_Model_post 45 = .ok (.aload_n 0, 1) := by decide +kernel
theorem d_Model_post_46 : decode b_Model_post 46 = .ok (.getfield 76, 3) := by decide +kernel
theorem d_Model_post_49 : decode b_Model_post 49 = .ok (.iload_n 3, 1) := by decide +kernel
theorem d_Model_post_50 : decode b_Model_post 50 = .ok (.iastore, 1) := by decide +kernel
theorem d_Model_post_51 : decode b_Model_post 51 = .ok (.aload_n 0, 1) := by decide +kernel
theorem d_Model_post_52 : decode b_Model_post 52 = .ok (.getfield 38, 3) := by decide +kernel
theorem d_Model_post_55 : decode b_Model_post 55 = .ok (.aload_n 0, 1) := by decide +kernel
theorem d_Model_post_56 : decode b_Model_post 56 = .ok (.getfield 76, 3) := by decide +kernel
theorem d_Model_post_59 : decode b_Model_post 59 = .ok (.iload 4, 2) := by decide +kernel
theorem d_Model_post_61 : decode b_Model_post 61 = .ok (.iastore, 1) := by decide +kernel
theorem d_Model_post_62 : decode b_Model_post 62 = .ok (.aload_n 0, 1) := by decide +kernel
theorem d_Model_post_63 : decode b_Model_post 63 = .ok (.getfield 41, 3) := by decide +kernel
theorem d_Model_post_66 : decode b_Model_post 66 = .ok (.aload_n 0, 1) := by decide +kernel
theorem d_Model_post_67 : decode b_Model_post 67 = .ok (.getfield 76, 3) := by decide +kernel
theorem d_Model_post_70 : decode b_Model_post 70 = .ok (.iload 5, 2) := by decide +kernel
theorem d_Model_post_72 : decode b_Model_post 72 = .ok (.iastore, 1) := by decide +kernel
theorem d_Model_post_73 : decode b_Model_post 73 = .ok (.aload_n 0, 1) := by decide +kernel
theorem d_Model_post_74 : decode b_Model_post 74 = .ok (.dup, 1) := by decide +kernel
theorem d_Model_post_75 : decode b_Model_post 75 = .ok (.getfield 76, 3) := by decide +kernel
theorem d_Model_post_78 : decode b_Model_post 78 = .ok (.iconst 1, 1) := by decide +kernel
theorem d_Model_post_79 : decode b_Model_post 79 = .ok (.iadd, 1) := by decide +kernel
theorem d_Model_post_80 : decode b_Model_post 80 = .ok (.putfield 76, 3) := by decide +kernel
theorem d_Model_post_83 : decode b_Model_post 83 = .ok (.return_, 1) := by decide +kernel
theorem k_Model_post : Cond.code y_Model_post b_Model_post 6 (none) ∈ WS := ws_t 740 (by decide +kernel) (by decide +kernel)
theorem hd_Model_post : y_Model_post.cls = R_Model ∧ y_Model_post.cls ≠ "java/lang/invoke/MethodHandle" ∧ y_Model_post.cls ≠ "java/lang/invoke/VarHandle" ∧ (parseMethodDescriptor y_Model_post.desc).map (fun d => d.parameters.length) = some 5 := by decide +kernel
abbrev b_Model_take : ByteArray := prog_7_method_12_code
abbrev y_Model_take : MethodName := ⟨"LabelRoadsModel", "take", "(II)V"⟩
theorem d_Model_take_0 : decode b_Model_take 0 = .ok (.iconst 0, 1) := by decide +kernel
theorem d_Model_take_1 : decode b_Model_take 1 = .ok (.istore_n 3, 1) := by decide +kernel
theorem d_Model_take_2 : decode b_Model_take 2 = .ok (.iload_n 3, 1) := by decide +kernel
theorem d_Model_take_3 : decode b_Model_take 3 = .ok (.bipush 8, 2) := by decide +kernel
theorem d_Model_take_5 : decode b_Model_take 5 = .ok (.if_icmp .ge (18), 3) := by decide +kernel
theorem d_Model_take_8 : decode b_Model_take 8 = .ok (.aload_n 0, 1) := by decide +kernel
theorem d_Model_take_9 : decode b_Model_take 9 = .ok (.iload_n 1, 1) := by decide +kernel
theorem d_Model_take_10 : decode b_Model_take 10 = .ok (.iload_n 3, 1) := by decide +kernel
theorem d_Model_take_11 : decode b_Model_take 11 = .ok (.invokevirtual 72, 3) := by decide +kernel
theorem d_Model_take_14 : decode b_Model_take 14 = .ok (.ifCond .eq (9), 3) := by decide +kernel
theorem d_Model_take_17 : decode b_Model_take 17 = .ok (.iinc 3 (1), 3) := by decide +kernel
theorem d_Model_take_20 : decode b_Model_take 20 = .ok (.goto (-18), 3) := by decide +kernel
theorem d_Model_take_23 : decode b_Model_take 23 = .ok (.iload_n 3, 1) := by decide +kernel
theorem d_Model_take_24 : decode b_Model_take 24 = .ok (.bipush 8, 2) := by decide +kernel
theorem d_Model_take_26 : decode b_Model_take 26 = .ok (.if_icmp .ne (4), 3) := by decide +kernel
theorem d_Model_take_29 : decode b_Model_take 29 = .ok (.return_, 1) := by decide +kernel
theorem d_Model_take_30 : decode b_Model_take 30 = .ok (.aload_n 0, 1) := by decide +kernel
theorem d_Model_take_31 : decode b_Model_take 31 = .ok (.getfield 19, 3) := by decide +kernel
theorem d_Model_take_34 : decode b_Model_take 34 = .ok (.iconst 4, 1) := by decide +kernel
theorem d_Model_take_35 : decode b_Model_take 35 = .ok (.iload_n 1, 1) := by decide +kernel
theorem d_Model_take_36 : decode b_Model_take 36 = .ok (.imul, 1) := by decide +kernel
theorem d_Model_take_37 : decode b_Model_take 37 = .ok (.iload_n 2, 1) := by decide +kernel
theorem d_Model_take_38 : decode b_Model_take 38 = .ok (.iadd, 1) := by decide +kernel
theorem d_Model_take_39 : decode b_Model_take 39 = .ok (.bipush 16, 2) := by decide +kernel
theorem d_Model_take_41 : decode b_Model_take 41 = .ok (.iload_n 3, 1) := by decide +kernel
theorem d_Model_take_42 : decode b_Model_take 42 = .ok (.iadd, 1) := by decide +kernel
theorem d_Model_take_43 : decode b_Model_take 43 = .ok (.iastore, 1) := by decide +kernel
theorem d_Model_take_44 : decode b_Model_take 44 = .ok (.iconst 0, 1) := by decide +kernel
theorem d_Model_take_45 : decode b_Model_take 45 = .ok (.istore 4, 2) := by decide +kernel
theorem d_Model_take_47 : decode b_Model_take 47 = .ok (.iload 4, 2) := by decide +kernel
theorem d_Model_take_49 : decode b_Model_take 49 = .ok (.aload_n 0, 1) := by decide +kernel
theorem d_Model_take_50 : decode b_Model_take 50 = .ok (.getfield 53, 3) := by decide +kernel
theorem d_Model_take_53 : decode b_Model_take 53 = .ok (.if_icmp .ge (37), 3) := by decide +kernel
theorem d_Model_take_56 : decode b_Model_take 56 = .ok (.aload_n 0, 1) := by decide +kernel
theorem d_Model_take_57 : decode b_Model_take 57 = .ok (.getfield 7, 3) := by decide +kernel
theorem d_Model_take_60 : decode b_Model_take 60 = .ok (.bipush 6, 2) := by decide +kernel
theorem d_Model_take_62 : decode b_Model_take 62 = .ok (.iload_n 1, 1) := by decide +kernel
theorem d_Model_take_63 : decode b_Model_take 63 = .ok (.imul, 1) := by decide +kernel
theorem d_Model_take_64 : decode b_Model_take 64 = .ok (.iload 4, 2) := by decide +kernel
theorem d_Model_take_66 : decode b_Model_take 66 = .ok (.iadd, 1) := by decide +kernel
theorem d_Model_take_67 : decode b_Model_take 67 = .ok (.iaload, 1) := by decide +kernel
theorem d_Model_take_68 : decode b_Model_take 68 = .ok (.ifCond .le (16), 3) := by decide +kernel
theorem d_Model_take_71 : decode b_Model_take 71 = .ok (.aload_n 0, 1) := by decide +kernel
theorem d_Model_take_72 : decode b_Model_take 72 = .ok (.iload_n 1, 1) := by decide +kernel
theorem d_Model_take_73 : decode b_Model_take 73 = .ok (.iload 4, 2) := by decide +kernel
theorem d_Model_take_75 : decode b_Model_take 75 = .ok (.iconst 1, 1) := by decide +kernel
theorem d_Model_take_76 : decode b_Model_take 76 = .ok (.iload_n 2, 1) := by decide +kernel
theorem d_Model_take_77 : decode b_Model_take 77 = .ok (.bipush 16, 2) := by decide +kernel
theorem d_Model_take_79 : decode b_Model_take 79 = .ok (.iload_n 3, 1) := by decide +kernel
theorem d_Model_take_80 : decode b_Model_take 80 = .ok (.iadd, 1) := by decide +kernel
theorem d_Model_take_81 : decode b_Model_take 81 = .ok (.invokevirtual 82, 3) := by decide +kernel
theorem d_Model_take_84 : decode b_Model_take 84 = .ok (.iinc 4 (1), 3) := by decide +kernel
theorem d_Model_take_87 : decode b_Model_take 87 = .ok (.goto (-40), 3) := by decide +kernel
theorem d_Model_take_90 : decode b_Model_take 90 = .ok (.return_, 1) := by decide +kernel
theorem k_Model_take : Cond.code y_Model_take b_Model_take 5 (none) ∈ WS := ws_t 732 (by decide +kernel) (by decide +kernel)
theorem hd_Model_take : y_Model_take.cls = R_Model ∧ y_Model_take.cls ≠ "java/lang/invoke/MethodHandle" ∧ y_Model_take.cls ≠ "java/lang/invoke/VarHandle" ∧ (parseMethodDescriptor y_Model_take.desc).map (fun d => d.parameters.length) = some 2 := by decide +kernel
abbrev b_Model_withdraw : ByteArray := prog_7_method_13_code
abbrev y_Model_withdraw : MethodName := ⟨"LabelRoadsModel", "withdraw", "(II)V"⟩
theorem d_Model_withdraw_0 : decode b_Model_withdraw 0 = .ok (.aload_n 0, 1) := by decide +kernel
theorem d_Model_withdraw_1 : decode b_Model_withdraw 1 = .ok (.getfield 19, 3) := by decide +kernel
theorem d_Model_withdraw_4 : decode b_Model_withdraw 4 = .ok (.iconst 4, 1) := by decide +kernel
theorem d_Model_withdraw_5 : decode b_Model_withdraw 5 = .ok (.iload_n 1, 1) := by decide +kernel
theorem d_Model_withdraw_6 : decode b_Model_withdraw 6 = .ok (.imul, 1) := by decide +kernel
theorem d_Model_withdraw_7 : decode b_Model_withdraw 7 = .ok (.iload_n 2, 1) := by decide +kernel
theorem d_Model_withdraw_8 : decode b_Model_withdraw 8 = .ok (.iadd, 1) := by decide +kernel
theorem d_Model_withdraw_9 : decode b_Model_withdraw 9 = .ok (.iaload, 1) := by decide +kernel
theorem d_Model_withdraw_10 : decode b_Model_withdraw 10 = .ok (.istore_n 3, 1) := by decide +kernel
theorem d_Model_withdraw_11 : decode b_Model_withdraw 11 = .ok (.aload_n 0, 1) := by decide +kernel
theorem d_Model_withdraw_12 : decode b_Model_withdraw 12 = .ok (.getfield 19, 3) := by decide +kernel
theorem d_Model_withdraw_15 : decode b_Model_withdraw 15 = .ok (.iconst 4, 1) := by decide +kernel
theorem d_Model_withdraw_16 : decode b_Model_withdraw 16 = .ok (.iload_n 1, 1) := by decide +kernel
theorem d_Model_withdraw_17 : decode b_Model_withdraw 17 = .ok (.imul, 1) := by decide +kernel
theorem d_Model_withdraw_18 : decode b_Model_withdraw 18 = .ok (.iload_n 2, 1) := by decide +kernel
theorem d_Model_withdraw_19 : decode b_Model_withdraw 19 = .ok (.iadd, 1) := by decide +kernel
theorem d_Model_withdraw_20 : decode b_Model_withdraw 20 = .ok (.iconst 0, 1) := by decide +kernel
theorem d_Model_withdraw_21 : decode b_Model_withdraw 21 = .ok (.iastore, 1) := by decide +kernel
theorem d_Model_withdraw_22 : decode b_Model_withdraw 22 = .ok (.iconst 0, 1) := by decide +kernel
theorem d_Model_withdraw_23 : decode b_Model_withdraw 23 = .ok (.istore 4, 2) := by decide +kernel
theorem d_Model_withdraw_25 : decode b_Model_withdraw 25 = .ok (.iload 4, 2) := by decide +kernel
theorem d_Model_withdraw_27 : decode b_Model_withdraw 27 = .ok (.aload_n 0, 1) := by decide +kernel
theorem d_Model_withdraw_28 : decode b_Model_withdraw 28 = .ok (.getfield 53, 3) := by decide +kernel
theorem d_Model_withdraw_31 : decode b_Model_withdraw 31 = .ok (.if_icmp .ge (55), 3) := by decide +kernel
theorem d_Model_withdraw_34 : decode b_Model_withdraw 34 = .ok (.aload_n 0, 1) := by decide +kernel
theorem d_Model_withdraw_35 : decode b_Model_withdraw 35 = .ok (.getfield 7, 3) := by decide +kernel
theorem d_Model_withdraw_38 : decode b_Model_withdraw 38 = .ok (.bipush 6, 2) := by decide +kernel
theorem d_Model_withdraw_40 : decode b_Model_withdraw 40 = .ok (.iload_n 1, 1) := by decide +kernel
theorem d_Model_withdraw_41 : decode b_Model_withdraw 41 = .ok (.imul, 1) := by decide +kernel
theorem d_Model_withdraw_42 : decode b_Model_withdraw 42 = .ok (.iload 4, 2) := by decide +kernel
theorem d_Model_withdraw_44 : decode b_Model_withdraw 44 = .ok (.iadd, 1) := by decide +kernel
theorem d_Model_withdraw_45 : decode b_Model_withdraw 45 = .ok (.iaload, 1) := by decide +kernel
theorem d_Model_withdraw_46 : decode b_Model_withdraw 46 = .ok (.ifCond .le (34), 3) := by decide +kernel
theorem d_Model_withdraw_49 : decode b_Model_withdraw 49 = .ok (.aload_n 0, 1) := by decide +kernel
theorem d_Model_withdraw_50 : decode b_Model_withdraw 50 = .ok (.iload_n 1, 1) := by decide +kernel
theorem d_Model_withdraw_51 : decode b_Model_withdraw 51 = .ok (.iload 4, 2) := by decide +kernel
theorem d_Model_withdraw_53 : decode b_Model_withdraw 53 = .ok (.iconst 2, 1) := by decide +kernel
theorem d_Model_withdraw_54 : decode b_Model_withdraw 54 = .ok (.iload_n 2, 1) := by decide +kernel
theorem d_Model_withdraw_55 : decode b_Model_withdraw 55 = .ok (.iload_n 3, 1) := by decide +kernel
theorem d_Model_withdraw_56 : decode b_Model_withdraw 56 = .ok (.invokevirtual 82, 3) := by decide +kernel
theorem d_Model_withdraw_59 : decode b_Model_withdraw 59 = .ok (.aload_n 0, 1) := by decide +kernel
theorem d_Model_withdraw_60 : decode b_Model_withdraw 60 = .ok (.getfield 25, 3) := by decide +kernel
theorem d_Model_withdraw_63 : decode b_Model_withdraw 63 = .ok (.bipush 48, 2) := by decide +kernel
theorem d_Model_withdraw_65 : decode b_Model_withdraw 65 = .ok (.iload_n 1, 1) := by decide +kernel
theorem d_Model_withdraw_66 : decode b_Model_withdraw 66 = .ok (.imul, 1) := by decide +kernel
theorem d_Model_withdraw_67 : decode b_Model_withdraw 67 = .ok (.bipush 8, 2) := by decide +kernel
theorem d_Model_withdraw_69 : decode b_Model_withdraw 69 = .ok (.iload 4, 2) := by decide +kernel
theorem d_Model_withdraw_71 : decode b_Model_withdraw 71 = .ok (.imul, 1) := by decide +kernel
theorem d_Model_withdraw_72 : decode b_Model_withdraw 72 = .ok (.iadd, 1) := by decide +kernel
theorem d_Model_withdraw_73 : decode b_Model_withdraw 73 = .ok (.iload_n 3, 1) := by decide +kernel
theorem d_Model_withdraw_74 : decode b_Model_withdraw 74 = .ok (.iadd, 1) := by decide +kernel
theorem d_Model_withdraw_75 : decode b_Model_withdraw 75 = .ok (.bipush 16, 2) := by decide +kernel
theorem d_Model_withdraw_77 : decode b_Model_withdraw 77 = .ok (.isub, 1) := by decide +kernel
theorem d_Model_withdraw_78 : decode b_Model_withdraw 78 = .ok (.iconst 1, 1) := by decide +kernel
theorem d_Model_withdraw_79 : decode b_Model_withdraw 79 = .ok (.bastore, 1) := by decide +kernel
theorem d_Model_withdraw_80 : decode b_Model_withdraw 80 = .ok (.iinc 4 (1), 3) := by decide +kernel
theorem d_Model_withdraw_83 : decode b_Model_withdraw 83 = .ok (.goto (-58), 3) := by decide +kernel
theorem d_Model_withdraw_86 : decode b_Model_withdraw 86 = .ok (.return_, 1) := by decide +kernel
theorem k_Model_withdraw : Cond.code y_Model_withdraw b_Model_withdraw 5 (none) ∈ WS := ws_t 744 (by decide +kernel) (by decide +kernel)
theorem hd_Model_withdraw : y_Model_withdraw.cls = R_Model ∧ y_Model_withdraw.cls ≠ "java/lang/invoke/MethodHandle" ∧ y_Model_withdraw.cls ≠ "java/lang/invoke/VarHandle" ∧ (parseMethodDescriptor y_Model_withdraw.desc).map (fun d => d.parameters.length) = some 2 := by decide +kernel
abbrev b_Model_settle : ByteArray := prog_7_method_14_code
abbrev y_Model_settle : MethodName := ⟨"LabelRoadsModel", "settle", "(II)V"⟩
theorem d_Model_settle_0 : decode b_Model_settle 0 = .ok (.aload_n 0, 1) := by decide +kernel
theorem d_Model_settle_1 : decode b_Model_settle 1 = .ok (.iload_n 1, 1) := by decide +kernel
theorem d_Model_settle_2 : decode b_Model_settle 2 = .ok (.iload_n 2, 1) := by decide +kernel
theorem d_Model_settle_3 : decode b_Model_settle 3 = .ok (.invokevirtual 86, 3) := by decide +kernel
theorem d_Model_settle_6 : decode b_Model_settle 6 = .ok (.istore_n 3, 1) := by decide +kernel
theorem d_Model_settle_7 : decode b_Model_settle 7 = .ok (.aload_n 0, 1) := by decide +kernel
theorem d_Model_settle_8 : decode b_Model_settle 8 = .ok (.getfield 13, 3) := by decide +kernel
theorem d_Model_settle_11 : decode b_Model_settle 11 = .ok (.iload_n 2, 1) := by decide +kernel
theorem d_Model_settle_12 : decode b_Model_settle 12 = .ok (.iaload, 1) := by decide +kernel
theorem d_Model_settle_13 : decode b_Model_settle 13 = .ok (.iload_n 1, 1) := by decide +kernel
theorem d_Model_settle_14 : decode b_Model_settle 14 = .ok (.if_icmp .eq (26), 3) := by decide +kernel
theorem d_Model_settle_17 : decode b_Model_settle 17 = .ok (.iload_n 3, 1) := by decide +kernel
theorem d_Model_settle_18 : decode b_Model_settle 18 = .ok (.iconst (-1), 1) := by decide +kernel
theorem d_Model_settle_19 : decode b_Model_settle 19 = .ok (.if_icmp .eq (25), 3) := by decide +kernel
theorem d_Model_settle_22 : decode b_Model_settle 22 = .ok (.aload_n 0, 1) := by decide +kernel
theorem d_Model_settle_23 : decode b_Model_settle 23 = .ok (.getfield 22, 3) := by decide +kernel
theorem d_Model_settle_26 : decode b_Model_settle 26 = .ok (.bipush 24, 2) := by decide +kernel
theorem d_Model_settle_28 : decode b_Model_settle 28 = .ok (.iload_n 1, 1) := by decide +kernel
theorem d_Model_settle_29 : decode b_Model_settle 29 = .ok (.imul, 1) := by decide +kernel
theorem d_Model_settle_30 : decode b_Model_settle 30 = .ok (.iconst 4, 1) := by decide +kernel
theorem d_Model_settle_31 : decode b_Model_settle 31 = .ok (.iload_n 3, 1) := by decide +kernel
theorem d_Model_settle_32 : decode b_Model_settle 32 = .ok (.imul, 1) := by decide +kernel
theorem d_Model_settle_33 : decode b_Model_settle 33 = .ok (.iadd, 1) := by decide +kernel
theorem d_Model_settle_34 : decode b_Model_settle 34 = .ok (.iload_n 2, 1) := by decide +kernel
theorem d_Model_settle_35 : decode b_Model_settle 35 = .ok (.iadd, 1) := by decide +kernel
theorem d_Model_settle_36 : decode b_Model_settle 36 = .ok (.iaload, 1) := by decide +kernel
theorem d_Model_settle_37 : decode b_Model_settle 37 = .ok (.ifCond .le (7), 3) := by decide +kernel
theorem d_Model_settle_40 : decode b_Model_settle 40 = .ok (.iconst 1, 1) := by decide +kernel
theorem d_Model_settle_41 : decode b_Model_settle 41 = .ok (.goto (4), 3) := by decide +kernel
theorem d_Model_settle_44 : decode b_Model_settle 44 = .ok (.iconst 0, 1) := by decide +kernel
theorem d_Model_settle_45 : decode b_Model_settle 45 = .ok (.istore 4, 2) := by decide +kernel
theorem d_Model_settle_47 : decode b_Model_settle 47 = .ok (.aload_n 0, 1) := by decide +kernel
theorem d_Model_settle_48 : decode b_Model_settle 48 = .ok (.getfield 19, 3) := by decide +kernel
theorem d_Model_settle_51 : decode b_Model_settle 51 = .ok (.iconst 4, 1) := by decide +kernel
theorem d_Model_settle_52 : decode b_Model_settle 52 = .ok (.iload_n 1, 1) := by decide +kernel
theorem d_Model_settle_53 : decode b_Model_settle 53 = .ok (.imul, 1) := by decide +kernel
theorem d_Model_settle_54 : decode b_Model_settle 54 = .ok (.iload_n 2, 1) := by decide +kernel
theorem d_Model_settle_55 : decode b_Model_settle 55 = .ok (.iadd, 1) := by decide +kernel
theorem d_Model_settle_56 : decode b_Model_settle 56 = .ok (.iaload, 1) := by decide +kernel
theorem d_Model_settle_57 : decode b_Model_settle 57 = .ok (.ifCond .le (7), 3) := by decide +kernel
theorem d_Model_settle_60 : decode b_Model_settle 60 = .ok (.iconst 1, 1) := by decide +kernel
theorem d_Model_settle_61 : decode b_Model_settle 61 = .ok (.goto (4), 3) := by decide +kernel
theorem d_Model_settle_64 : decode b_Model_settle 64 = .ok (.iconst 0, 1) := by decide +kernel
theorem d_Model_settle_65 : decode b_Model_settle 65 = .ok (.istore 5, 2) := by decide +kernel
theorem d_Model_settle_67 : decode b_Model_settle 67 = .ok (.iload 4, 2) := by decide +kernel
theorem d_Model_settle_69 : decode b_Model_settle 69 = .ok (.ifCond .eq (17), 3) := by decide +kernel
theorem d_Model_settle_72 : decode b_Model_settle 72 = .ok (.iload 5, 2) := by decide +kernel
theorem d_Model_settle_74 : decode b_Model_settle 74 = .ok (.ifCond .ne (12), 3) := by decide +kernel
theorem d_Model_settle_77 : decode b_Model_settle 77 = .ok (.aload_n 0, 1) := by decide +kernel
theorem d_Model_settle_78 : decode b_Model_settle 78 = .ok (.iload_n 1, 1) := by decide +kernel
theorem d_Model_settle_79 : decode b_Model_settle 79 = .ok (.iload_n 2, 1) := by decide +kernel
theorem d_Model_settle_80 : decode b_Model_settle 80 = .ok (.invokevirtual 90, 3) := by decide +kernel
theorem d_Model_settle_83 : decode b_Model_settle 83 = .ok (.goto (19), 3) := by decide +kernel
theorem d_Model_settle_86 : decode b_Model_settle 86 = .ok (.iload 4, 2) := by decide +kernel
theorem d_Model_settle_88 : decode b_Model_settle 88 = .ok (.ifCond .ne (14), 3) := by decide +kernel
theorem d_Model_settle_91 : decode b_Model_settle 91 = .ok (.iload 5, 2) := by decide +kernel
theorem d_Model_settle_93 : decode b_Model_settle 93 = .ok (.ifCond .eq (9), 3) := by decide +kernel
theorem d_Model_settle_96 : decode b_Model_settle 96 = .ok (.aload_n 0, 1) := by decide +kernel
theorem d_Model_settle_97 : decode b_Model_settle 97 = .ok (.iload_n 1, 1) := by decide +kernel
theorem d_Model_settle_98 : decode b_Model_settle 98 = .ok (.iload_n 2, 1) := by decide +kernel
theorem d_Model_settle_99 : decode b_Model_settle 99 = .ok (.invokevirtual 94, 3) := by decide +kernel
theorem d_Model_settle_102 : decode b_Model_settle 102 = .ok (.return_, 1) := by decide +kernel
theorem k_Model_settle : Cond.code y_Model_settle b_Model_settle 6 (none) ∈ WS := ws_t 720 (by decide +kernel) (by decide +kernel)
theorem hd_Model_settle : y_Model_settle.cls = R_Model ∧ y_Model_settle.cls ≠ "java/lang/invoke/MethodHandle" ∧ y_Model_settle.cls ≠ "java/lang/invoke/VarHandle" ∧ (parseMethodDescriptor y_Model_settle.desc).map (fun d => d.parameters.length) = some 2 := by decide +kernel
abbrev b_Model_settleAll : ByteArray := prog_7_method_15_code
abbrev y_Model_settleAll : MethodName := ⟨"LabelRoadsModel", "settleAll", "(I)V"⟩
theorem d_Model_settleAll_0 : decode b_Model_settleAll 0 = .ok (.iconst 0, 1) := by decide +kernel
theorem d_Model_settleAll_1 : decode b_Model_settleAll 1 = .ok (.istore_n 2, 1) := by decide +kernel
theorem d_Model_settleAll_2 : decode b_Model_settleAll 2 = .ok (.iload_n 2, 1) := by decide +kernel
theorem d_Model_settleAll_3 : decode b_Model_settleAll 3 = .ok (.iconst 4, 1) := by decide +kernel
theorem d_Model_settleAll_4 : decode b_Model_settleAll 4 = .ok (.if_icmp .ge (15), 3) := by decide +kernel
theorem d_Model_settleAll_7 : decode b_Model_settleAll 7 = .ok (.aload_n 0, 1) := by decide +kernel
theorem d_Model_settleAll_8 : decode b_Model_settleAll 8 = .ok (.iload_n 1, 1) := by decide +kernel
theorem d_Model_settleAll_9 : decode b_Model_settleAll 9 = .ok (.iload_n 2, 1) := by decide +kernel
theorem d_Model_settleAll_10 : decode b_Model_settleAll 10 = .ok (.invokevirtual 97, 3) := by decide +kernel
theorem d_Model_settleAll_13 : decode b_Model_settleAll 13 = .ok (.iinc 2 (1), 3) := by decide +kernel
theorem d_Model_settleAll_16 : decode b_Model_settleAll 16 = .ok (.goto (-14), 3) := by decide +kernel
theorem d_Model_settleAll_19 : decode b_Model_settleAll 19 = .ok (.return_, 1) := by decide +kernel
theorem k_Model_settleAll : Cond.code y_Model_settleAll b_Model_settleAll 3 (none) ∈ WS := ws_t 716 (by decide +kernel) (by decide +kernel)
theorem hd_Model_settleAll : y_Model_settleAll.cls = R_Model ∧ y_Model_settleAll.cls ≠ "java/lang/invoke/MethodHandle" ∧ y_Model_settleAll.cls ≠ "java/lang/invoke/VarHandle" ∧ (parseMethodDescriptor y_Model_settleAll.desc).map (fun d => d.parameters.length) = some 1 := by decide +kernel
