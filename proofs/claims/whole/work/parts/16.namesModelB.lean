abbrev b_Model_changed : ByteArray := prog_7_method_16_code
abbrev y_Model_changed : MethodName := ⟨"LabelRoadsModel", "changed", "()V"⟩
theorem d_Model_changed_0 : decode b_Model_changed 0 = .ok (.iconst 0, 1) := by decide +kernel
theorem d_Model_changed_1 : decode b_Model_changed 1 = .ok (.istore_n 1, 1) := by decide +kernel
theorem d_Model_changed_2 : decode b_Model_changed 2 = .ok (.iload_n 1, 1) := by decide +kernel
theorem d_Model_changed_3 : decode b_Model_changed 3 = .ok (.aload_n 0, 1) := by decide +kernel
theorem d_Model_changed_4 : decode b_Model_changed 4 = .ok (.getfield 53, 3) := by decide +kernel
theorem d_Model_changed_7 : decode b_Model_changed 7 = .ok (.if_icmp .ge (14), 3) := by decide +kernel
theorem d_Model_changed_10 : decode b_Model_changed 10 = .ok (.aload_n 0, 1) := by decide +kernel
theorem d_Model_changed_11 : decode b_Model_changed 11 = .ok (.iload_n 1, 1) := by decide +kernel
theorem d_Model_changed_12 : decode b_Model_changed 12 = .ok (.invokevirtual 100, 3) := by decide +kernel
theorem d_Model_changed_15 : decode b_Model_changed 15 = .ok (.iinc 1 (1), 3) := by decide +kernel
theorem d_Model_changed_18 : decode b_Model_changed 18 = .ok (.goto (-16), 3) := by decide +kernel
theorem d_Model_changed_21 : decode b_Model_changed 21 = .ok (.return_, 1) := by decide +kernel
theorem k_Model_changed : Cond.code y_Model_changed b_Model_changed 2 (none) ∈ WS := ws_t 772 (by decide +kernel) (by decide +kernel)
theorem hd_Model_changed : y_Model_changed.cls = R_Model ∧ y_Model_changed.cls ≠ "java/lang/invoke/MethodHandle" ∧ y_Model_changed.cls ≠ "java/lang/invoke/VarHandle" ∧ (parseMethodDescriptor y_Model_changed.desc).map (fun d => d.parameters.length) = some 0 := by decide +kernel
abbrev b_Model_dropMessage : ByteArray := prog_7_method_17_code
abbrev y_Model_dropMessage : MethodName := ⟨"LabelRoadsModel", "dropMessage", "(I)V"⟩
theorem d_Model_dropMessage_0 : decode b_Model_dropMessage 0 = .ok (.aload_n 0, 1) := by decide +kernel
theorem d_Model_dropMessage_1 : decode b_Model_dropMessage 1 = .ok (.dup, 1) := by decide +kernel
theorem d_Model_dropMessage_2 : decode b_Model_dropMessage 2 = .ok (.getfield 76, 3) := by decide +kernel
theorem d_Model_dropMessage_5 : decode b_Model_dropMessage 5 = .ok (.iconst 1, 1) := by decide +kernel
theorem d_Model_dropMessage_6 : decode b_Model_dropMessage 6 = .ok (.isub, 1) := by decide +kernel
theorem d_Model_dropMessage_7 : decode b_Model_dropMessage 7 = .ok (.putfield 76, 3) := by decide +kernel
theorem d_Model_dropMessage_10 : decode b_Model_dropMessage 10 = .ok (.iload_n 1, 1) := by decide +kernel
theorem d_Model_dropMessage_11 : decode b_Model_dropMessage 11 = .ok (.istore_n 2, 1) := by decide +kernel
theorem d_Model_dropMessage_12 : decode b_Model_dropMessage 12 = .ok (.iload_n 2, 1) := by decide +kernel
theorem d_Model_dropMessage_13 : decode b_Model_dropMessage 13 = .ok (.aload_n 0, 1) := by decide +kernel
theorem d_Model_dropMessage_14 : decode b_Model_dropMessage 14 = .ok (.getfield 76, 3) := by decide +kernel
theorem d_Model_dropMessage_17 : decode b_Model_dropMessage 17 = .ok (.if_icmp .ge (79), 3) := by decide +kernel
theorem d_Model_dropMessage_20 : decode b_Model_dropMessage 20 = .ok (.aload_n 0, 1) := by decide +kernel
theorem d_Model_dropMessage_21 : decode b_Model_dropMessage 21 = .ok (.getfield 29, 3) := by decide +kernel
theorem d_Model_dropMessage_24 : decode b_Model_dropMessage 24 = .ok (.iload_n 2, 1) := by decide +kernel
theorem d_Model_dropMessage_25 : decode b_Model_dropMessage 25 = .ok (.aload_n 0, 1) := by decide +kernel
theorem d_Model_dropMessage_26 : decode b_Model_dropMessage 26 = .ok (.getfield 29, 3) := by decide +kernel
theorem d_Model_dropMessage_29 : decode b_Model_dropMessage 29 = .ok (.iload_n 2, 1) := by decide +kernel
theorem d_Model_dropMessage_30 : decode b_Model_dropMessage 30 = .ok (.iconst 1, 1) := by decide +kernel
theorem d_Model_dropMessage_31 : decode b_Model_dropMessage 31 = .ok (.iadd, 1) := by decide +kernel
theorem d_Model_dropMessage_32 : decode b_Model_dropMessage 32 = .ok (.iaload, 1) := by decide +kernel
theorem d_Model_dropMessage_33 : decode b_Model_dropMessage 33 = .ok (.iastore, 1) := by decide +kernel
theorem d_Model_dropMessage_34 : decode b_Model_dropMessage 34 = .ok (.aload_n 0, 1) := by decide +kernel
theorem d_Model_dropMessage_35 : decode b_Model_dropMessage 35 = .ok (.getfield 32, 3) := by decide +kernel
theorem d_Model_dropMessage_38 : decode b_Model_dropMessage 38 = .ok (.iload_n 2, 1) := by decide +kernel
theorem d_Model_dropMessage_39 : decode b_Model_dropMessage 39 = .ok (.aload_n 0, 1) := by decide +kernel
theorem d_Model_dropMessage_40 : decode b_Model_dropMessage 40 = .ok (.getfield 32, 3) := by decide +kernel
theorem d_Model_dropMessage_43 : decode b_Model_dropMessage 43 = .ok (.iload_n 2, 1) := by decide +kernel
theorem d_Model_dropMessage_44 : decode b_Model_dropMessage 44 = .ok (.iconst 1, 1) := by decide +kernel
theorem d_Model_dropMessage_45 : decode b_Model_dropMessage 45 = .ok (.iadd, 1) := by decide +kernel
theorem d_Model_dropMessage_46 : decode b_Model_dropMessage 46 = .ok (.iaload, 1) := by decide +kernel
theorem d_Model_dropMessage_47 : decode b_Model_dropMessage 47 = .ok (.iastore, 1) := by decide +kernel
theorem d_Model_dropMessage_48 : decode b_Model_dropMessage 48 = .ok (.aload_n 0, 1) := by decide +kernel
theorem d_Model_dropMessage_49 : decode b_Model_dropMessage 49 = .ok (.getfield 35, 3) := by decide +kernel
theorem d_Model_dropMessage_52 : decode b_Model_dropMessage 52 = .ok (.iload_n 2, 1) := by decide +kernel
theorem d_Model_dropMessage_53 : decode b_Model_dropMessage 53 = .ok (.aload_n 0, 1) := by decide +kernel
theorem d_Model_dropMessage_54 : decode b_Model_dropMessage 54 = .ok (.getfield 35, 3) := by decide +kernel
theorem d_Model_dropMessage_57 : decode b_Model_dropMessage 57 = .ok (.iload_n 2, 1) := by decide +kernel
theorem d_Model_dropMessage_58 : decode b_Model_dropMessage 58 = .ok (.iconst 1, 1) := by decide +kernel
theorem d_Model_dropMessage_59 : decode b_Model_dropMessage 59 = .ok (.iadd, 1) := by decide +kernel
theorem d_Model_dropMessage_60 : decode b_Model_dropMessage 60 = .ok (.iaload, 1) := by decide +kernel
theorem d_Model_dropMessage_61 : decode b_Model_dropMessage 61 = .ok (.iastore, 1) := by decide +kernel
theorem d_Model_dropMessage_62 : decode b_Model_dropMessage 62 = .ok (.aload_n 0, 1) := by decide +kernel
theorem d_Model_dropMessage_63 : decode b_Model_dropMessage 63 = .ok (.getfield 38, 3) := by decide +kernel
theorem d_Model_dropMessage_66 : decode b_Model_dropMessage 66 = .ok (.iload_n 2, 1) := by decide +kernel
theorem d_Model_dropMessage_67 : decode b_Model_dropMessage 67 = .ok (.aload_n 0, 1) := by decide +kernel
theorem d_Model_dropMessage_68 : decode b_Model_dropMessage 68 = .ok (.getfield 38, 3) := by decide +kernel
theorem d_Model_dropMessage_71 : decode b_Model_dropMessage 71 = .ok (.iload_n 2, 1) := by decide +kernel
theorem d_Model_dropMessage_72 : decode b_Model_dropMessage 72 = .ok (.iconst 1, 1) := by decide +kernel
theorem d_Model_dropMessage_73 : decode b_Model_dropMessage 73 = .ok (.iadd, 1) := by decide +kernel
theorem d_Model_dropMessage_74 : decode b_Model_dropMessage 74 = .ok (.iaload, 1) := by decide +kernel
theorem d_Model_dropMessage_75 : decode b_Model_dropMessage 75 = .ok (.iastore, 1) := by decide +kernel
theorem d_Model_dropMessage_76 : decode b_Model_dropMessage 76 = .ok (.aload_n 0, 1) := by decide +kernel
theorem d_Model_dropMessage_77 : decode b_Model_dropMessage 77 = .ok (.getfield 41, 3) := by decide +kernel
theorem d_Model_dropMessage_80 : decode b_Model_dropMessage 80 = .ok (.iload_n 2, 1) := by decide +kernel
theorem d_Model_dropMessage_81 : decode b_Model_dropMessage 81 = .ok (.aload_n 0, 1) := by decide +kernel
theorem d_Model_dropMessage_82 : decode b_Model_dropMessage 82 = .ok (.getfield 41, 3) := by decide +kernel
theorem d_Model_dropMessage_85 : decode b_Model_dropMessage 85 = .ok (.iload_n 2, 1) := by decide +kernel
theorem d_Model_dropMessage_86 : decode b_Model_dropMessage 86 = .ok (.iconst 1, 1) := by decide +kernel
theorem d_Model_dropMessage_87 : decode b_Model_dropMessage 87 = .ok (.iadd, 1) := by decide +kernel
theorem d_Model_dropMessage_88 : decode b_Model_dropMessage 88 = .ok (.iaload, 1) := by decide +kernel
theorem d_Model_dropMessage_89 : decode b_Model_dropMessage 89 = .ok (.iastore, 1) := by decide +kernel
theorem d_Model_dropMessage_90 : decode b_Model_dropMessage 90 = .ok (.iinc 2 (1), 3) := by decide +kernel
theorem d_Model_dropMessage_93 : decode b_Model_dropMessage 93 = .ok (.goto (-81), 3) := by decide +kernel
theorem d_Model_dropMessage_96 : decode b_Model_dropMessage 96 = .ok (.return_, 1) := by decide +kernel
theorem k_Model_dropMessage : Cond.code y_Model_dropMessage b_Model_dropMessage 3 (none) ∈ WS := ws_t 712 (by decide +kernel) (by decide +kernel)
theorem hd_Model_dropMessage : y_Model_dropMessage.cls = R_Model ∧ y_Model_dropMessage.cls ≠ "java/lang/invoke/MethodHandle" ∧ y_Model_dropMessage.cls ≠ "java/lang/invoke/VarHandle" ∧ (parseMethodDescriptor y_Model_dropMessage.desc).map (fun d => d.parameters.length) = some 1 := by decide +kernel
abbrev b_Model_come : ByteArray := prog_7_method_18_code
abbrev y_Model_come : MethodName := ⟨"LabelRoadsModel", "come", "(I)I"⟩
theorem d_Model_come_0 : decode b_Model_come 0 = .ok (.aload_n 0, 1) := by decide +kernel
theorem d_Model_come_1 : decode b_Model_come 1 = .ok (.getfield 29, 3) := by decide +kernel
theorem d_Model_come_4 : decode b_Model_come 4 = .ok (.iload_n 1, 1) := by decide +kernel
theorem d_Model_come_5 : decode b_Model_come 5 = .ok (.iaload, 1) := by decide +kernel
theorem d_Model_come_6 : decode b_Model_come 6 = .ok (.istore_n 2, 1) := by decide +kernel
theorem d_Model_come_7 : decode b_Model_come 7 = .ok (.aload_n 0, 1) := by decide +kernel
theorem d_Model_come_8 : decode b_Model_come 8 = .ok (.getfield 32, 3) := by decide +kernel
theorem d_Model_come_11 : decode b_Model_come 11 = .ok (.iload_n 1, 1) := by decide +kernel
theorem d_Model_come_12 : decode b_Model_come 12 = .ok (.iaload, 1) := by decide +kernel
theorem d_Model_come_13 : decode b_Model_come 13 = .ok (.istore_n 3, 1) := by decide +kernel
theorem d_Model_come_14 : decode b_Model_come 14 = .ok (.aload_n 0, 1) := by decide +kernel
theorem d_Model_come_15 : decode b_Model_come 15 = .ok (.getfield 35, 3) := by decide +kernel
theorem d_Model_come_18 : decode b_Model_come 18 = .ok (.iload_n 1, 1) := by decide +kernel
theorem d_Model_come_19 : decode b_Model_come 19 = .ok (.iaload, 1) := by decide +kernel
theorem d_Model_come_20 : decode b_Model_come 20 = .ok (.istore 4, 2) := by decide +kernel
theorem d_Model_come_22 : decode b_Model_come 22 = .ok (.aload_n 0, 1) := by decide +kernel
theorem d_Model_come_23 : decode b_Model_come 23 = .ok (.getfield 38, 3) := by decide +kernel
theorem d_Model_come_26 : decode b_Model_come 26 = .ok (.iload_n 1, 1) := by decide +kernel
theorem d_Model_come_27 : decode b_Model_come 27 = .ok (.iaload, 1) := by decide +kernel
theorem d_Model_come_28 : decode b_Model_come 28 = .ok (.istore 5, 2) := by decide +kernel
theorem d_Model_come_30 : decode b_Model_come 30 = .ok (.aload_n 0, 1) := by decide +kernel
theorem d_Model_come_31 : decode b_Model_come 31 = .ok (.getfield 41, 3) := by decide +kernel
theorem d_Model_come_34 : decode b_Model_come 34 = .ok (.iload_n 1, 1) := by decide +kernel
theorem d_Model_come_35 : decode b_Model_come 35 = .ok (.iaload, 1) := by decide +kernel
theorem d_Model_come_36 : decode b_Model_come 36 = .ok (.istore 6, 2) := by decide +kernel
theorem d_Model_come_38 : decode b_Model_come 38 = .ok (.aload_n 0, 1) := by decide +kernel
theorem d_Model_come_39 : decode b_Model_come 39 = .ok (.iload_n 1, 1) := by decide +kernel
theorem d_Model_come_40 : decode b_Model_come 40 = .ok (.invokevirtual 103, 3) := by decide +kernel
theorem d_Model_come_43 : decode b_Model_come 43 = .ok (.bipush 24, 2) := by decide +kernel
theorem d_Model_come_45 : decode b_Model_come 45 = .ok (.iload_n 3, 1) := by decide +kernel
theorem d_Model_come_46 : decode b_Model_come 46 = .ok (.imul, 1) := by decide +kernel
theorem d_Model_come_47 : decode b_Model_come 47 = .ok (.iconst 4, 1) := by decide +kernel
theorem d_Model_come_48 : decode b_Model_come 48 = .ok (.iload_n 2, 1) := by decide +kernel
theorem d_Model_come_49 : decode b_Model_come 49 = .ok (.imul, 1) := by decide +kernel
theorem d_Model_come_50 : decode b_Model_come 50 = .ok (.iadd, 1) := by decide +kernel
theorem d_Model_come_51 : decode b_Model_come 51 = .ok (.iload 5, 2) := by decide +kernel
theorem d_Model_come_53 : decode b_Model_come 53 = .ok (.iadd, 1) := by decide +kernel
theorem d_Model_come_54 : decode b_Model_come 54 = .ok (.istore 7, 2) := by decide +kernel
theorem d_Model_come_56 : decode b_Model_come 56 = .ok (.iload 4, 2) := by decide +kernel
theorem d_Model_come_58 : decode b_Model_come 58 = .ok (.iconst 3, 1) := by decide +kernel
theorem d_Model_come_59 : decode b_Model_come 59 = .ok (.if_icmp .ne (32), 3) := by decide +kernel
theorem d_Model_come_62 : decode b_Model_come 62 = .ok (.aload_n 0, 1) := by decide +kernel
theorem d_Model_come_63 : decode b_Model_come 63 = .ok (.getfield 25, 3) := by decide +kernel
theorem d_Model_come_66 : decode b_Model_come 66 = .ok (.bipush 48, 2) := by decide +kernel
theorem d_Model_come_68 : decode b_Model_come 68 = .ok (.iload_n 3, 1) := by decide +kernel
theorem d_Model_come_69 : decode b_Model_come 69 = .ok (.imul, 1) := by decide +kernel
theorem d_Model_come_70 : decode b_Model_come 70 = .ok (.bipush 8, 2) := by decide +kernel
theorem d_Model_come_72 : decode b_Model_come 72 = .ok (.iload_n 2, 1) := by decide +kernel
theorem d_Model_come_73 : decode b_Model_come 73 = .ok (.imul, 1) := by decide +kernel
theorem d_Model_come_74 : decode b_Model_come 74 = .ok (.iadd, 1) := by decide +kernel
theorem d_Model_come_75 : decode b_Model_come 75 = .ok (.iload 6, 2) := by decide +kernel
theorem d_Model_come_77 : decode b_Model_come 77 = .ok (.iadd, 1) := by decide +kernel
theorem d_Model_come_78 : decode b_Model_come 78 = .ok (.bipush 16, 2) := by decide +kernel
theorem d_Model_come_80 : decode b_Model_come 80 = .ok (.isub, 1) := by decide +kernel
theorem d_Model_come_81 : decode b_Model_come 81 = .ok (.iconst 0, 1) := by decide +kernel
theorem d_Model_come_82 : decode b_Model_come 82 = .ok (.bastore, 1) := by decide +kernel
theorem d_Model_come_83 : decode b_Model_come 83 = .ok (.aload_n 0, 1) := by decide +kernel
theorem d_Model_come_84 : decode b_Model_come 84 = .ok (.iload_n 3, 1) := by decide +kernel
theorem d_Model_come_85 : decode b_Model_come 85 = .ok (.invokevirtual 100, 3) := by decide +kernel
theorem d_Model_come_88 : decode b_Model_come 88 = .ok (.iload 4, 2) := by decide +kernel
theorem d_Model_come_90 : decode b_Model_come 90 = .ok (.ireturn, 1) := by decide +kernel
theorem d_Model_come_91 : decode b_Model_come 91 = .ok (.iload 4, 2) := by decide +kernel
theorem d_Model_come_93 : decode b_Model_come 93 = .ok (.iconst 1, 1) := by decide +kernel
theorem d_Model_come_94 : decode b_Model_come 94 = .ok (.if_icmp .ne (15), 3) := by decide +kernel
theorem d_Model_come_97 : decode b_Model_come 97 = .ok (.aload_n 0, 1) := by decide +kernel
theorem d_Model_come_98 : decode b_Model_come 98 = .ok (.getfield 22, 3) := by decide +kernel
theorem d_Model_come_101 : decode b_Model_come 101 = .ok (.iload 7, 2) := by decide +kernel
theorem d_Model_come_103 : decode b_Model_come 103 = .ok (.iload 6, 2) := by decide +kernel
theorem d_Model_come_105 : decode b_Model_come 105 = .ok (.iastore, 1) := by decide +kernel
theorem d_Model_come_106 : decode b_Model_come 106 = .ok (.goto (44), 3) := by decide +kernel
theorem d_Model_come_109 : decode b_Model_come 109 = .ok (.aload_n 0, 1) := by decide +kernel
theorem d_Model_come_110 : decode b_Model_come 110 = .ok (.getfield 22, 3) := by decide +kernel
theorem d_Model_come_113 : decode b_Model_come 113 = .ok (.iload 7, 2) := by decide +kernel
theorem d_Model_come_115 : decode b_Model_come 115 = .ok (.aload_n 0, 1) := by decide +kernel
theorem d_Model_come_116 : decode b_Model_come 116 = .ok (.getfield 22, 3) := by decide +kernel
theorem d_Model_come_119 : decode b_Model_come 119 = .ok (.iload 7, 2) := by decide +kernel
theorem d_Model_come_121 : decode b_Model_come 121 = .ok (.iaload, 1) := by decide +kernel
theorem d_Model_come_122 : decode b_Model_come 122 = .ok (.iload 6, 2) := by decide +kernel
theorem d_Model_come_124 : decode b_Model_come 124 = .ok (.if_icmp .ne (7), 3) := by decide +kernel
theorem d_Model_come_127 : decode b_Model_come 127 = .ok (.iconst 0, 1) := by decide +kernel
theorem d_Model_come_128 : decode b_Model_come 128 = .ok (.goto (10), 3) := by decide +kernel
theorem d_Model_come_131 : decode b_Model_come 131 = .ok (.aload_n 0, 1) := by decide +kernel
theorem d_Model_come_132 : decode b_Model_come 132 = .ok (.getfield 22, 3) := by decide +kernel
theorem d_Model_come_135 : decode b_Model_come 135 = .ok (.iload 7, 2) := by decide +kernel
theorem d_Model_come_137 : decode b_Model_come 137 = .ok (.iaload, 1) := by decide +kernel
theorem d_Model_come_138 : decode b_Model_come 138 = .ok (.iastore, 1) := by decide +kernel
theorem d_Model_come_139 : decode b_Model_come 139 = .ok (.aload_n 0, 1) := by decide +kernel
theorem d_Model_come_140 : decode b_Model_come 140 = .ok (.iload_n 3, 1) := by decide +kernel
theorem d_Model_come_141 : decode b_Model_come 141 = .ok (.iload_n 2, 1) := by decide +kernel
theorem d_Model_come_142 : decode b_Model_come 142 = .ok (.iconst 3, 1) := by decide +kernel
theorem d_Model_come_143 : decode b_Model_come 143 = .ok (.iload 5, 2) := by decide +kernel
theorem d_Model_come_145 : decode b_Model_come 145 = .ok (.iload 6, 2) := by decide +kernel
theorem d_Model_come_147 : decode b_Model_come 147 = .ok (.invokevirtual 82, 3) := by decide +kernel
theorem d_Model_come_150 : decode b_Model_come 150 = .ok (.aload_n 0, 1) := by decide +kernel
theorem d_Model_come_151 : decode b_Model_come 151 = .ok (.iload_n 3, 1) := by decide +kernel
theorem d_Model_come_152 : decode b_Model_come 152 = .ok (.iload 5, 2) := by decide +kernel
theorem d_Model_come_154 : decode b_Model_come 154 = .ok (.invokevirtual 97, 3) := by decide +kernel
theorem d_Model_come_157 : decode b_Model_come 157 = .ok (.iload 4, 2) := by decide +kernel
theorem d_Model_come_159 : decode b_Model_come 159 = .ok (.ireturn, 1) := by decide +kernel
theorem k_Model_come : Cond.code y_Model_come b_Model_come 8 (some .int) ∈ WS := ws_t 708 (by decide +kernel) (by decide +kernel)
theorem hd_Model_come : y_Model_come.cls = R_Model ∧ y_Model_come.cls ≠ "java/lang/invoke/MethodHandle" ∧ y_Model_come.cls ≠ "java/lang/invoke/VarHandle" ∧ (parseMethodDescriptor y_Model_come.desc).map (fun d => d.parameters.length) = some 1 := by decide +kernel
abbrev b_Model_step : ByteArray := prog_7_method_19_code
abbrev y_Model_step : MethodName := ⟨"LabelRoadsModel", "step", "(II)I"⟩
theorem d_Model_step_0 : decode b_Model_step 0 = .ok (.aload_n 0, 1) := by decide +kernel
theorem d_Model_step_1 : decode b_Model_step 1 = .ok (.aload_n 0, 1) := by decide +kernel
theorem d_Model_step_2 : decode b_Model_step 2 = .ok (.iload_n 1, 1) := by decide +kernel
theorem d_Model_step_3 : decode b_Model_step 3 = .ok (.iload_n 2, 1) := by decide +kernel
theorem d_Model_step_4 : decode b_Model_step 4 = .ok (.invokevirtual 106, 3) := by decide +kernel
theorem d_Model_step_7 : decode b_Model_step 7 = .ok (.invokevirtual 109, 3) := by decide +kernel
theorem d_Model_step_10 : decode b_Model_step 10 = .ok (.ifCond .ne (5), 3) := by decide +kernel
theorem d_Model_step_13 : decode b_Model_step 13 = .ok (.iconst 0, 1) := by decide +kernel
theorem d_Model_step_14 : decode b_Model_step 14 = .ok (.ireturn, 1) := by decide +kernel
theorem d_Model_step_15 : decode b_Model_step 15 = .ok (.iconst 0, 1) := by decide +kernel
theorem d_Model_step_16 : decode b_Model_step 16 = .ok (.istore_n 3, 1) := by decide +kernel
theorem d_Model_step_17 : decode b_Model_step 17 = .ok (.iload_n 3, 1) := by decide +kernel
theorem d_Model_step_18 : decode b_Model_step 18 = .ok (.aload_n 0, 1) := by decide +kernel
theorem d_Model_step_19 : decode b_Model_step 19 = .ok (.getfield 76, 3) := by decide +kernel
theorem d_Model_step_22 : decode b_Model_step 22 = .ok (.if_icmp .ge (35), 3) := by decide +kernel
theorem d_Model_step_25 : decode b_Model_step 25 = .ok (.aload_n 0, 1) := by decide +kernel
theorem d_Model_step_26 : decode b_Model_step 26 = .ok (.getfield 29, 3) := by decide +kernel
theorem d_Model_step_29 : decode b_Model_step 29 = .ok (.iload_n 3, 1) := by decide +kernel
theorem d_Model_step_30 : decode b_Model_step 30 = .ok (.iaload, 1) := by decide +kernel
theorem d_Model_step_31 : decode b_Model_step 31 = .ok (.iload_n 1, 1) := by decide +kernel
theorem d_Model_step_32 : decode b_Model_step 32 = .ok (.if_icmp .ne (19), 3) := by decide +kernel
theorem d_Model_step_35 : decode b_Model_step 35 = .ok (.aload_n 0, 1) := by decide +kernel
theorem d_Model_step_36 : decode b_Model_step 36 = .ok (.getfield 32, 3) := by decide +kernel
theorem d_Model_step_39 : decode b_Model_step 39 = .ok (.iload_n 3, 1) := by decide +kernel
theorem d_Model_step_40 : decode b_Model_step 40 = .ok (.iaload, 1) := by decide +kernel
theorem d_Model_step_41 : decode b_Model_step 41 = .ok (.iload_n 2, 1) := by decide +kernel
theorem d_Model_step_42 : decode b_Model_step 42 = .ok (.if_icmp .ne (9), 3) := by decide +kernel
theorem d_Model_step_45 : decode b_Model_step 45 = .ok (.aload_n 0, 1) := by decide +kernel
theorem d_Model_step_46 : decode b_Model_step 46 = .ok (.iload_n 3, 1) := by decide +kernel
theorem d_Model_step_47 : decode b_Model_step 47 = .ok (.invokevirtual 113, 3) := by decide +kernel
theorem d_Model_step_50 : decode b_Model_step 50 = .ok (.ireturn, 1) := by decide +kernel
theorem d_Model_step_51 : decode b_Model_step 51 = .ok (.iinc 3 (1), 3) := by decide +kernel
theorem d_Model_step_54 : decode b_Model_step 54 = .ok (.goto (-37), 3) := by decide +kernel
theorem d_Model_step_57 : decode b_Model_step 57 = .ok (.iconst 0, 1) := by decide +kernel
theorem d_Model_step_58 : decode b_Model_step 58 = .ok (.ireturn, 1) := by decide +kernel
theorem k_Model_step : Cond.code y_Model_step b_Model_step 4 (some .int) ∈ WS := ws_t 689 (by decide +kernel) (by decide +kernel)
theorem hd_Model_step : y_Model_step.cls = R_Model ∧ y_Model_step.cls ≠ "java/lang/invoke/MethodHandle" ∧ y_Model_step.cls ≠ "java/lang/invoke/VarHandle" ∧ (parseMethodDescriptor y_Model_step.desc).map (fun d => d.parameters.length) = some 2 := by decide +kernel
abbrev b_Model_run : ByteArray := prog_7_method_20_code
abbrev y_Model_run : MethodName := ⟨"LabelRoadsModel", "run", "(I)I"⟩
theorem d_Model_run_0 : decode b_Model_run 0 = .ok (.iconst 0, 1) := by decide +kernel
theorem d_Model_run_1 : decode b_Model_run 1 = .ok (.istore_n 2, 1) := by decide +kernel
theorem d_Model_run_2 : decode b_Model_run 2 = .ok (.aload_n 0, 1) := by decide +kernel
theorem d_Model_run_3 : decode b_Model_run 3 = .ok (.iload_n 1, 1) := by decide +kernel
theorem d_Model_run_4 : decode b_Model_run 4 = .ok (.iconst 0, 1) := by decide +kernel
theorem d_Model_run_5 : decode b_Model_run 5 = .ok (.sipush 400, 3) := by decide +kernel
theorem d_Model_run_8 : decode b_Model_run 8 = .ok (.invokestatic 60, 3) := by decide +kernel
theorem d_Model_run_11 : decode b_Model_run 11 = .ok (.invokevirtual 109, 3) := by decide +kernel
theorem d_Model_run_14 : decode b_Model_run 14 = .ok (.ifCond .eq (36), 3) := by decide +kernel
theorem d_Model_run_17 : decode b_Model_run 17 = .ok (.iload_n 2, 1) := by decide +kernel
theorem d_Model_run_18 : decode b_Model_run 18 = .ok (.iload_n 1, 1) := by decide +kernel
theorem d_Model_run_19 : decode b_Model_run 19 = .ok (.if_icmp .ge (31), 3) := by decide +kernel
theorem d_Model_run_22 : decode b_Model_run 22 = .ok (.aload_n 0, 1) := by decide +kernel
theorem d_Model_run_23 : decode b_Model_run 23 = .ok (.getfield 76, 3) := by decide +kernel
theorem d_Model_run_26 : decode b_Model_run 26 = .ok (.ifCond .le (24), 3) := by decide +kernel
theorem d_Model_run_29 : decode b_Model_run 29 = .ok (.aload_n 0, 1) := by decide +kernel
theorem d_Model_run_30 : decode b_Model_run 30 = .ok (.iconst 0, 1) := by decide +kernel
theorem d_Model_run_31 : decode b_Model_run 31 = .ok (.invokevirtual 113, 3) := by decide +kernel
theorem d_Model_run_34 : decode b_Model_run 34 = .ok (.istore_n 3, 1) := by decide +kernel
theorem d_Model_run_35 : decode b_Model_run 35 = .ok (.iload_n 3, 1) := by decide +kernel
theorem d_Model_run_36 : decode b_Model_run 36 = .ok (.ifCond .le (9), 3) := by decide +kernel
theorem d_Model_run_39 : decode b_Model_run 39 = .ok (.iload_n 2, 1) := by decide +kernel
theorem d_Model_run_40 : decode b_Model_run 40 = .ok (.iconst 1, 1) := by decide +kernel
theorem d_Model_run_41 : decode b_Model_run 41 = .ok (.iadd, 1) := by decide +kernel
theorem d_Model_run_42 : decode b_Model_run 42 = .ok (.goto (4), 3) := by decide +kernel
theorem d_Model_run_45 : decode b_Model_run 45 = .ok (.iload_n 2, 1) := by decide +kernel
theorem d_Model_run_46 : decode b_Model_run 46 = .ok (.istore_n 2, 1) := by decide +kernel
theorem d_Model_run_47 : decode b_Model_run 47 = .ok (.goto (-30), 3) := by decide +kernel
theorem d_Model_run_50 : decode b_Model_run 50 = .ok (.iload_n 2, 1) := by decide +kernel
theorem d_Model_run_51 : decode b_Model_run 51 = .ok (.ireturn, 1) := by decide +kernel
theorem k_Model_run : Cond.code y_Model_run b_Model_run 4 (some .int) ∈ WS := ws_t 748 (by decide +kernel) (by decide +kernel)
theorem hd_Model_run : y_Model_run.cls = R_Model ∧ y_Model_run.cls ≠ "java/lang/invoke/MethodHandle" ∧ y_Model_run.cls ≠ "java/lang/invoke/VarHandle" ∧ (parseMethodDescriptor y_Model_run.desc).map (fun d => d.parameters.length) = some 1 := by decide +kernel
abbrev b_Model_waiting : ByteArray := prog_7_method_21_code
abbrev y_Model_waiting : MethodName := ⟨"LabelRoadsModel", "waiting", "()I"⟩
theorem d_Model_waiting_0 : decode b_Model_waiting 0 = .ok (.aload_n 0, 1) := by decide +kernel
theorem d_Model_waiting_1 : decode b_Model_waiting 1 = .ok (.iconst 0, 1) := by decide +kernel
theorem d_Model_waiting_2 : decode b_Model_waiting 2 = .ok (.putfield 57, 3) := by decide +kernel
theorem d_Model_waiting_5 : decode b_Model_waiting 5 = .ok (.aload_n 0, 1) := by decide +kernel
theorem d_Model_waiting_6 : decode b_Model_waiting 6 = .ok (.getfield 76, 3) := by decide +kernel
theorem d_Model_waiting_9 : decode b_Model_waiting 9 = .ok (.ireturn, 1) := by decide +kernel
theorem k_Model_waiting : Cond.code y_Model_waiting b_Model_waiting 1 (some .int) ∈ WS := ws_t 752 (by decide +kernel) (by decide +kernel)
theorem hd_Model_waiting : y_Model_waiting.cls = R_Model ∧ y_Model_waiting.cls ≠ "java/lang/invoke/MethodHandle" ∧ y_Model_waiting.cls ≠ "java/lang/invoke/VarHandle" ∧ (parseMethodDescriptor y_Model_waiting.desc).map (fun d => d.parameters.length) = some 0 := by decide +kernel
abbrev b_Model_lost : ByteArray := prog_7_method_22_code
abbrev y_Model_lost : MethodName := ⟨"LabelRoadsModel", "lost", "()I"⟩
theorem d_Model_lost_0 : decode b_Model_lost 0 = .ok (.aload_n 0, 1) := by decide +kernel
theorem d_Model_lost_1 : decode b_Model_lost 1 = .ok (.iconst 0, 1) := by decide +kernel
theorem d_Model_lost_2 : decode b_Model_lost 2 = .ok (.putfield 57, 3) := by decide +kernel
theorem d_Model_lost_5 : decode b_Model_lost 5 = .ok (.aload_n 0, 1) := by decide +kernel
theorem d_Model_lost_6 : decode b_Model_lost 6 = .ok (.getfield 79, 3) := by decide +kernel
theorem d_Model_lost_9 : decode b_Model_lost 9 = .ok (.ireturn, 1) := by decide +kernel
theorem k_Model_lost : Cond.code y_Model_lost b_Model_lost 1 (some .int) ∈ WS := ws_t 756 (by decide +kernel) (by decide +kernel)
theorem hd_Model_lost : y_Model_lost.cls = R_Model ∧ y_Model_lost.cls ≠ "java/lang/invoke/MethodHandle" ∧ y_Model_lost.cls ≠ "java/lang/invoke/VarHandle" ∧ (parseMethodDescriptor y_Model_lost.desc).map (fun d => d.parameters.length) = some 0 := by decide +kernel
abbrev b_Model_forget : ByteArray := prog_7_method_23_code
abbrev y_Model_forget : MethodName := ⟨"LabelRoadsModel", "forget", "(II)V"⟩
theorem d_Model_forget_0 : decode b_Model_forget 0 = .ok (.aload_n 0, 1) := by decide +kernel
theorem d_Model_forget_1 : decode b_Model_forget 1 = .ok (.getfield 76, 3) := by decide +kernel
theorem d_Model_forget_4 : decode b_Model_forget 4 = .ok (.iconst 1, 1) := by decide +kernel
theorem d_Model_forget_5 : decode b_Model_forget 5 = .ok (.isub, 1) := by decide +kernel
theorem d_Model_forget_6 : decode b_Model_forget 6 = .ok (.istore_n 3, 1) := by decide +kernel
theorem d_Model_forget_7 : decode b_Model_forget 7 = .ok (.iload_n 3, 1) := by decide +kernel
theorem d_Model_forget_8 : decode b_Model_forget 8 = .ok (.ifCond .lt (54), 3) := by decide +kernel
theorem d_Model_forget_11 : decode b_Model_forget 11 = .ok (.aload_n 0, 1) := by decide +kernel
theorem d_Model_forget_12 : decode b_Model_forget 12 = .ok (.getfield 29, 3) := by decide +kernel
theorem d_Model_forget_15 : decode b_Model_forget 15 = .ok (.iload_n 3, 1) := by decide +kernel
theorem d_Model_forget_16 : decode b_Model_forget 16 = .ok (.iaload, 1) := by decide +kernel
theorem d_Model_forget_17 : decode b_Model_forget 17 = .ok (.iload_n 1, 1) := by decide +kernel
theorem d_Model_forget_18 : decode b_Model_forget 18 = .ok (.if_icmp .ne (13), 3) := by decide +kernel
theorem d_Model_forget_21 : decode b_Model_forget 21 = .ok (.aload_n 0, 1) := by decide +kernel
theorem d_Model_forget_22 : decode b_Model_forget 22 = .ok (.getfield 32, 3) := by decide +kernel
theorem d_Model_forget_25 : decode b_Model_forget 25 = .ok (.iload_n 3, 1) := by decide +kernel
theorem d_Model_forget_26 : decode b_Model_forget 26 = .ok (.iaload, 1) := by decide +kernel
theorem d_Model_forget_27 : decode b_Model_forget 27 = .ok (.iload_n 2, 1) := by decide +kernel
theorem d_Model_forget_28 : decode b_Model_forget 28 = .ok (.if_icmp .eq (23), 3) := by decide +kernel
theorem d_Model_forget_31 : decode b_Model_forget 31 = .ok (.aload_n 0, 1) := by decide +kernel
theorem d_Model_forget_32 : decode b_Model_forget 32 = .ok (.getfield 29, 3) := by decide +kernel
theorem d_Model_forget_35 : decode b_Model_forget 35 = .ok (.iload_n 3, 1) := by decide +kernel
theorem d_Model_forget_36 : decode b_Model_forget 36 = .ok (.iaload, 1) := by decide +kernel
theorem d_Model_forget_37 : decode b_Model_forget 37 = .ok (.iload_n 2, 1) := by decide +kernel
theorem d_Model_forget_38 : decode b_Model_forget 38 = .ok (.if_icmp .ne (18), 3) := by decide +kernel
theorem d_Model_forget_41 : decode b_Model_forget 41 = .ok (.aload_n 0, 1) := by decide +kernel
theorem d_Model_forget_42 : decode b_Model_forget 42 = .ok (.getfield 32, 3) := by decide +kernel
theorem d_Model_forget_45 : decode b_Model_forget 45 = .ok (.iload_n 3, 1) := by decide +kernel
theorem d_Model_forget_46 : decode b_Model_forget 46 = .ok (.iaload, 1) := by decide +kernel
theorem d_Model_forget_47 : decode b_Model_forget 47 = .ok (.iload_n 1, 1) := by decide +kernel
theorem d_Model_forget_48 : decode b_Model_forget 48 = .ok (.if_icmp .ne (8), 3) := by decide +kernel
theorem d_Model_forget_51 : decode b_Model_forget 51 = .ok (.aload_n 0, 1) := by decide +kernel
theorem d_Model_forget_52 : decode b_Model_forget 52 = .ok (.iload_n 3, 1) := by decide +kernel
theorem d_Model_forget_53 : decode b_Model_forget 53 = .ok (.invokevirtual 103, 3) := by decide +kernel
theorem d_Model_forget_56 : decode b_Model_forget 56 = .ok (.iinc 3 (-1), 3) := by decide +kernel
theorem d_Model_forget_59 : decode b_Model_forget 59 = .ok (.goto (-52), 3) := by decide +kernel
theorem d_Model_forget_62 : decode b_Model_forget 62 = .ok (.iconst 0, 1) := by decide +kernel
theorem d_Model_forget_63 : decode b_Model_forget 63 = .ok (.istore_n 3, 1) := by decide +kernel
theorem d_Model_forget_64 : decode b_Model_forget 64 = .ok (.iload_n 3, 1) := by decide +kernel
theorem d_Model_forget_65 : decode b_Model_forget 65 = .ok (.iconst 4, 1) := by decide +kernel
theorem d_Model_forget_66 : decode b_Model_forget 66 = .ok (.if_icmp .ge (41), 3) := by decide +kernel
theorem d_Model_forget_69 : decode b_Model_forget 69 = .ok (.aload_n 0, 1) := by decide +kernel
theorem d_Model_forget_70 : decode b_Model_forget 70 = .ok (.getfield 22, 3) := by decide +kernel
theorem d_Model_forget_73 : decode b_Model_forget 73 = .ok (.bipush 24, 2) := by decide +kernel
theorem d_Model_forget_75 : decode b_Model_forget 75 = .ok (.iload_n 1, 1) := by decide +kernel
theorem d_Model_forget_76 : decode b_Model_forget 76 = .ok (.imul, 1) := by decide +kernel
theorem d_Model_forget_77 : decode b_Model_forget 77 = .ok (.iconst 4, 1) := by decide +kernel
theorem d_Model_forget_78 : decode b_Model_forget 78 = .ok (.iload_n 2, 1) := by decide +kernel
theorem d_Model_forget_79 : decode b_Model_forget 79 = .ok (.imul, 1) := by decide +kernel
theorem d_Model_forget_80 : decode b_Model_forget 80 = .ok (.iadd, 1) := by decide +kernel
theorem d_Model_forget_81 : decode b_Model_forget 81 = .ok (.iload_n 3, 1) := by decide +kernel
theorem d_Model_forget_82 : decode b_Model_forget 82 = .ok (.iadd, 1) := by decide +kernel
theorem d_Model_forget_83 : decode b_Model_forget 83 = .ok (.iconst 0, 1) := by decide +kernel
theorem d_Model_forget_84 : decode b_Model_forget 84 = .ok (.iastore, 1) := by decide +kernel
theorem d_Model_forget_85 : decode b_Model_forget 85 = .ok (.aload_n 0, 1) := by decide +kernel
theorem d_Model_forget_86 : decode b_Model_forget 86 = .ok (.getfield 22, 3) := by decide +kernel
theorem d_Model_forget_89 : decode b_Model_forget 89 = .ok (.bipush 24, 2) := by decide +kernel
theorem d_Model_forget_91 : decode b_Model_forget 91 = .ok (.iload_n 2, 1) := by decide +kernel
theorem d_Model_forget_92 : decode b_Model_forget 92 = .ok (.imul, 1) := by decide +kernel
theorem d_Model_forget_93 : decode b_Model_forget 93 = .ok (.iconst 4, 1) := by decide +kernel
theorem d_Model_forget_94 : decode b_Model_forget 94 = .ok (.iload_n 1, 1) := by decide +kernel
theorem d_Model_forget_95 : decode b_Model_forget 95 = .ok (.imul, 1) := by decide +kernel
theorem d_Model_forget_96 : decode b_Model_forget 96 = .ok (.iadd, 1) := by decide +kernel
theorem d_Model_forget_97 : decode b_Model_forget 97 = .ok (.iload_n 3, 1) := by decide +kernel
theorem d_Model_forget_98 : decode b_Model_forget 98 = .ok (.iadd, 1) := by decide +kernel
theorem d_Model_forget_99 : decode b_Model_forget 99 = .ok (.iconst 0, 1) := by decide +kernel
theorem d_Model_forget_100 : decode b_Model_forget 100 = .ok (.iastore, 1) := by decide +kernel
theorem d_Model_forget_101 : decode b_Model_forget 101 = .ok (.iinc 3 (1), 3) := by decide +kernel
theorem d_Model_forget_104 : decode b_Model_forget 104 = .ok (.goto (-40), 3) := by decide +kernel
theorem d_Model_forget_107 : decode b_Model_forget 107 = .ok (.iconst 0, 1) := by decide +kernel
theorem d_Model_forget_108 : decode b_Model_forget 108 = .ok (.istore_n 3, 1) := by decide +kernel
theorem d_Model_forget_109 : decode b_Model_forget 109 = .ok (.iload_n 3, 1) := by decide +kernel
theorem d_Model_forget_110 : decode b_Model_forget 110 = .ok (.bipush 8, 2) := by decide +kernel
theorem d_Model_forget_112 : decode b_Model_forget 112 = .ok (.if_icmp .ge (43), 3) := by decide +kernel
theorem d_Model_forget_115 : decode b_Model_forget 115 = .ok (.aload_n 0, 1) := by decide +kernel
theorem d_Model_forget_116 : decode b_Model_forget 116 = .ok (.getfield 25, 3) := by decide +kernel
theorem d_Model_forget_119 : decode b_Model_forget 119 = .ok (.bipush 48, 2) := by decide +kernel
theorem d_Model_forget_121 : decode b_Model_forget 121 = .ok (.iload_n 1, 1) := by decide +kernel
theorem d_Model_forget_122 : decode b_Model_forget 122 = .ok (.imul, 1) := by decide +kernel
theorem d_Model_forget_123 : decode b_Model_forget 123 = .ok (.bipush 8, 2) := by decide +kernel
theorem d_Model_forget_125 : decode b_Model_forget 125 = .ok (.iload_n 2, 1) := by decide +kernel
theorem d_Model_forget_126 : decode b_Model_forget 126 = .ok (.imul, 1) := by decide +kernel
theorem d_Model_forget_127 : decode b_Model_forget 127 = .ok (.iadd, 1) := by decide +kernel
theorem d_Model_forget_128 : decode b_Model_forget 128 = .ok (.iload_n 3, 1) := by decide +kernel
theorem d_Model_forget_129 : decode b_Model_forget 129 = .ok (.iadd, 1) := by decide +kernel
theorem d_Model_forget_130 : decode b_Model_forget 130 = .ok (.iconst 0, 1) := by decide +kernel
theorem d_Model_forget_131 : decode b_Model_forget 131 = .ok (.bastore, 1) := by decide +kernel
theorem d_Model_forget_132 : decode b_Model_forget 132 = .ok (.aload_n 0, 1) := by decide +kernel
theorem d_Model_forget_133 : decode b_Model_forget 133 = .ok (.getfield 25, 3) := by decide +kernel
theorem d_Model_forget_136 : decode b_Model_forget 136 = .ok (.bipush 48, 2) := by decide +kernel
theorem d_Model_forget_138 : decode b_Model_forget 138 = .ok (.iload_n 2, 1) := by decide +kernel
theorem d_Model_forget_139 : decode b_Model_forget 139 = .ok (.imul, 1) := by decide +kernel
theorem d_Model_forget_140 : decode b_Model_forget 140 = .ok (.bipush 8, 2) := by decide +kernel
theorem d_Model_forget_142 : decode b_Model_forget 142 = .ok (.iload_n 1, 1) := by decide +kernel
theorem d_Model_forget_143 : decode b_Model_forget 143 = .ok (.imul, 1) := by decide +kernel
theorem d_Model_forget_144 : decode b_Model_forget 144 = .ok (.iadd, 1) := by decide +kernel
theorem d_Model_forget_145 : decode b_Model_forget 145 = .ok (.iload_n 3, 1) := by decide +kernel
theorem d_Model_forget_146 : decode b_Model_forget 146 = .ok (.iadd, 1) := by decide +kernel
theorem d_Model_forget_147 : decode b_Model_forget 147 = .ok (.iconst 0, 1) := by decide +kernel
theorem d_Model_forget_148 : decode b_Model_forget 148 = .ok (.bastore, 1) := by decide +kernel
theorem d_Model_forget_149 : decode b_Model_forget 149 = .ok (.iinc 3 (1), 3) := by decide +kernel
theorem d_Model_forget_152 : decode b_Model_forget 152 = .ok (.goto (-43), 3) := by decide +kernel
theorem d_Model_forget_155 : decode b_Model_forget 155 = .ok (.return_, 1) := by decide +kernel
theorem k_Model_forget : Cond.code y_Model_forget b_Model_forget 4 (none) ∈ WS := ws_t 764 (by decide +kernel) (by decide +kernel)
theorem hd_Model_forget : y_Model_forget.cls = R_Model ∧ y_Model_forget.cls ≠ "java/lang/invoke/MethodHandle" ∧ y_Model_forget.cls ≠ "java/lang/invoke/VarHandle" ∧ (parseMethodDescriptor y_Model_forget.desc).map (fun d => d.parameters.length) = some 2 := by decide +kernel
abbrev b_Model_tellLabels : ByteArray := prog_7_method_24_code
abbrev y_Model_tellLabels : MethodName := ⟨"LabelRoadsModel", "tellLabels", "(II)V"⟩
theorem d_Model_tellLabels_0 : decode b_Model_tellLabels 0 = .ok (.iconst 0, 1) := by decide +kernel
theorem d_Model_tellLabels_1 : decode b_Model_tellLabels 1 = .ok (.istore_n 3, 1) := by decide +kernel
theorem d_Model_tellLabels_2 : decode b_Model_tellLabels 2 = .ok (.iload_n 3, 1) := by decide +kernel
theorem d_Model_tellLabels_3 : decode b_Model_tellLabels 3 = .ok (.iconst 4, 1) := by decide +kernel
theorem d_Model_tellLabels_4 : decode b_Model_tellLabels 4 = .ok (.if_icmp .ge (40), 3) := by decide +kernel
theorem d_Model_tellLabels_7 : decode b_Model_tellLabels 7 = .ok (.aload_n 0, 1) := by decide +kernel
theorem d_Model_tellLabels_8 : decode b_Model_tellLabels 8 = .ok (.getfield 19, 3) := by decide +kernel
theorem d_Model_tellLabels_11 : decode b_Model_tellLabels 11 = .ok (.iconst 4, 1) := by decide +kernel
theorem d_Model_tellLabels_12 : decode b_Model_tellLabels 12 = .ok (.iload_n 1, 1) := by decide +kernel
theorem d_Model_tellLabels_13 : decode b_Model_tellLabels 13 = .ok (.imul, 1) := by decide +kernel
theorem d_Model_tellLabels_14 : decode b_Model_tellLabels 14 = .ok (.iload_n 3, 1) := by decide +kernel
theorem d_Model_tellLabels_15 : decode b_Model_tellLabels 15 = .ok (.iadd, 1) := by decide +kernel
theorem d_Model_tellLabels_16 : decode b_Model_tellLabels 16 = .ok (.iaload, 1) := by decide +kernel
theorem d_Model_tellLabels_17 : decode b_Model_tellLabels 17 = .ok (.ifCond .le (21), 3) := by decide +kernel
theorem d_Model_tellLabels_20 : decode b_Model_tellLabels 20 = .ok (.aload_n 0, 1) := by decide +kernel
theorem d_Model_tellLabels_21 : decode b_Model_tellLabels 21 = .ok (.iload_n 1, 1) := by decide +kernel
theorem d_Model_tellLabels_22 : decode b_Model_tellLabels 22 = .ok (.iload_n 2, 1) := by decide +kernel
theorem d_Model_tellLabels_23 : decode b_Model_tellLabels 23 = .ok (.iconst 1, 1) := by decide +kernel
theorem d_Model_tellLabels_24 : decode b_Model_tellLabels 24 = .ok (.iload_n 3, 1) := by decide +kernel
theorem d_Model_tellLabels_25 : decode b_Model_tellLabels 25 = .ok (.aload_n 0, 1) := by decide +kernel
theorem d_Model_tellLabels_26 : decode b_Model_tellLabels 26 = .ok (.getfield 19, 3) := by decide +kernel
theorem d_Model_tellLabels_29 : decode b_Model_tellLabels 29 = .ok (.iconst 4, 1) := by decide +kernel
theorem d_Model_tellLabels_30 : decode b_Model_tellLabels 30 = .ok (.iload_n 1, 1) := by decide +kernel
theorem d_Model_tellLabels_31 : decode b_Model_tellLabels 31 = .ok (.imul, 1) := by decide +kernel
theorem d_Model_tellLabels_32 : decode b_Model_tellLabels 32 = .ok (.iload_n 3, 1) := by decide +kernel
theorem d_Model_tellLabels_33 : decode b_Model_tellLabels 33 = .ok (.iadd, 1) := by decide +kernel
theorem d_Model_tellLabels_34 : decode b_Model_tellLabels 34 = .ok (.iaload, 1) := by decide +kernel
theorem d_Model_tellLabels_35 : decode b_Model_tellLabels 35 = .ok (.invokevirtual 82, 3) := by decide +kernel
theorem d_Model_tellLabels_38 : decode b_Model_tellLabels 38 = .ok (.iinc 3 (1), 3) := by decide +kernel
theorem d_Model_tellLabels_41 : decode b_Model_tellLabels 41 = .ok (.goto (-39), 3) := by decide +kernel
theorem d_Model_tellLabels_44 : decode b_Model_tellLabels 44 = .ok (.return_, 1) := by decide +kernel
theorem k_Model_tellLabels : Cond.code y_Model_tellLabels b_Model_tellLabels 4 (none) ∈ WS := ws_t 768 (by decide +kernel) (by decide +kernel)
theorem hd_Model_tellLabels : y_Model_tellLabels.cls = R_Model ∧ y_Model_tellLabels.cls ≠ "java/lang/invoke/MethodHandle" ∧ y_Model_tellLabels.cls ≠ "java/lang/invoke/VarHandle" ∧ (parseMethodDescriptor y_Model_tellLabels.desc).map (fun d => d.parameters.length) = some 2 := by decide +kernel
abbrev b_Model_link : ByteArray := prog_7_method_25_code
abbrev y_Model_link : MethodName := ⟨"LabelRoadsModel", "link", "(III)I"⟩
theorem d_Model_link_0 : decode b_Model_link 0 = .ok (.aload_n 0, 1) := by decide +kernel
theorem d_Model_link_1 : decode b_Model_link 1 = .ok (.aload_n 0, 1) := by decide +kernel
theorem d_Model_link_2 : decode b_Model_link 2 = .ok (.iload_n 1, 1) := by decide +kernel
theorem d_Model_link_3 : decode b_Model_link 3 = .ok (.iload_n 2, 1) := by decide +kernel
theorem d_Model_link_4 : decode b_Model_link 4 = .ok (.invokevirtual 106, 3) := by decide +kernel
theorem d_Model_link_7 : decode b_Model_link 7 = .ok (.ifCond .eq (17), 3) := by decide +kernel
theorem d_Model_link_10 : decode b_Model_link 10 = .ok (.iload_n 3, 1) := by decide +kernel
theorem d_Model_link_11 : decode b_Model_link 11 = .ok (.iconst 0, 1) := by decide +kernel
theorem d_Model_link_12 : decode b_Model_link 12 = .ok (.bipush 15, 2) := by decide +kernel
theorem d_Model_link_14 : decode b_Model_link 14 = .ok (.invokestatic 60, 3) := by decide +kernel
theorem d_Model_link_17 : decode b_Model_link 17 = .ok (.ifCond .eq (7), 3) := by decide +kernel
theorem d_Model_link_20 : decode b_Model_link 20 = .ok (.iconst 1, 1) := by decide +kernel
theorem d_Model_link_21 : decode b_Model_link 21 = .ok (.goto (4), 3) := by decide +kernel
theorem d_Model_link_24 : decode b_Model_link 24 = .ok (.iconst 0, 1) := by decide +kernel
theorem d_Model_link_25 : decode b_Model_link 25 = .ok (.invokevirtual 109, 3) := by decide +kernel
theorem d_Model_link_28 : decode b_Model_link 28 = .ok (.ifCond .ne (5), 3) := by decide +kernel
theorem d_Model_link_31 : decode b_Model_link 31 = .ok (.iconst 0, 1) := by decide +kernel
theorem d_Model_link_32 : decode b_Model_link 32 = .ok (.ireturn, 1) := by decide +kernel
theorem d_Model_link_33 : decode b_Model_link 33 = .ok (.aload_n 0, 1) := by decide +kernel
theorem d_Model_link_34 : decode b_Model_link 34 = .ok (.getfield 7, 3) := by decide +kernel
theorem d_Model_link_37 : decode b_Model_link 37 = .ok (.bipush 6, 2) := by decide +kernel
theorem d_Model_link_39 : decode b_Model_link 39 = .ok (.iload_n 1, 1) := by decide +kernel
theorem d_Model_link_40 : decode b_Model_link 40 = .ok (.imul, 1) := by decide +kernel
theorem d_Model_link_41 : decode b_Model_link 41 = .ok (.iload_n 2, 1) := by decide +kernel
theorem d_Model_link_42 : decode b_Model_link 42 = .ok (.iadd, 1) := by decide +kernel
theorem d_Model_link_43 : decode b_Model_link 43 = .ok (.iaload, 1) := by decide +kernel
theorem d_Model_link_44 : decode b_Model_link 44 = .ok (.istore 4, 2) := by decide +kernel
theorem d_Model_link_46 : decode b_Model_link 46 = .ok (.iload 4, 2) := by decide +kernel
theorem d_Model_link_48 : decode b_Model_link 48 = .ok (.iload_n 3, 1) := by decide +kernel
theorem d_Model_link_49 : decode b_Model_link 49 = .ok (.if_icmp .ne (6), 3) := by decide +kernel
theorem d_Model_link_52 : decode b_Model_link 52 = .ok (.iload 4, 2) := by decide +kernel
theorem d_Model_link_54 : decode b_Model_link 54 = .ok (.ireturn, 1) := by decide +kernel
theorem d_Model_link_55 : decode b_Model_link 55 = .ok (.aload_n 0, 1) := by decide +kernel
theorem d_Model_link_56 : decode b_Model_link 56 = .ok (.getfield 7, 3) := by decide +kernel
theorem d_Model_link_59 : decode b_Model_link 59 = .ok (.bipush 6, 2) := by decide +kernel
theorem d_Model_link_61 : decode b_Model_link 61 = .ok (.iload_n 1, 1) := by decide +kernel
theorem d_Model_link_62 : decode b_Model_link 62 = .ok (.imul, 1) := by decide +kernel
theorem d_Model_link_63 : decode b_Model_link 63 = .ok (.iload_n 2, 1) := by decide +kernel
theorem d_Model_link_64 : decode b_Model_link 64 = .ok (.iadd, 1) := by decide +kernel
theorem d_Model_link_65 : decode b_Model_link 65 = .ok (.iload_n 3, 1) := by decide +kernel
theorem d_Model_link_66 : decode b_Model_link 66 = .ok (.iastore, 1) := by decide +kernel
theorem d_Model_link_67 : decode b_Model_link 67 = .ok (.aload_n 0, 1) := by decide +kernel
theorem d_Model_link_68 : decode b_Model_link 68 = .ok (.getfield 7, 3) := by decide +kernel
theorem d_Model_link_71 : decode b_Model_link 71 = .ok (.bipush 6, 2) := by decide +kernel
theorem d_Model_link_73 : decode b_Model_link 73 = .ok (.iload_n 2, 1) := by decide +kernel
theorem d_Model_link_74 : decode b_Model_link 74 = .ok (.imul, 1) := by decide +kernel
theorem d_Model_link_75 : decode b_Model_link 75 = .ok (.iload_n 1, 1) := by decide +kernel
theorem d_Model_link_76 : decode b_Model_link 76 = .ok (.iadd, 1) := by decide +kernel
theorem d_Model_link_77 : decode b_Model_link 77 = .ok (.iload_n 3, 1) := by decide +kernel
theorem d_Model_link_78 : decode b_Model_link 78 = .ok (.iastore, 1) := by decide +kernel
theorem d_Model_link_79 : decode b_Model_link 79 = .ok (.iload_n 3, 1) := by decide +kernel
theorem d_Model_link_80 : decode b_Model_link 80 = .ok (.ifCond .ne (12), 3) := by decide +kernel
theorem d_Model_link_83 : decode b_Model_link 83 = .ok (.aload_n 0, 1) := by decide +kernel
theorem d_Model_link_84 : decode b_Model_link 84 = .ok (.iload_n 1, 1) := by decide +kernel
theorem d_Model_link_85 : decode b_Model_link 85 = .ok (.iload_n 2, 1) := by decide +kernel
theorem d_Model_link_86 : decode b_Model_link 86 = .ok (.invokevirtual 117, 3) := by decide +kernel
theorem d_Model_link_89 : decode b_Model_link 89 = .ok (.goto (56), 3) := by decide +kernel
theorem d_Model_link_92 : decode b_Model_link 92 = .ok (.iload 4, 2) := by decide +kernel
theorem d_Model_link_94 : decode b_Model_link 94 = .ok (.ifCond .ne (51), 3) := by decide +kernel
theorem d_Model_link_97 : decode b_Model_link 97 = .ok (.aload_n 0, 1) := by decide +kernel
theorem d_Model_link_98 : decode b_Model_link 98 = .ok (.iload_n 1, 1) := by decide +kernel
theorem d_Model_link_99 : decode b_Model_link 99 = .ok (.iload_n 2, 1) := by decide +kernel
theorem d_Model_link_100 : decode b_Model_link 100 = .ok (.if_icmp .ge (7), 3) := by decide +kernel
theorem d_Model_link_103 : decode b_Model_link 103 = .ok (.iload_n 1, 1) := by decide +kernel
theorem d_Model_link_104 : decode b_Model_link 104 = .ok (.goto (4), 3) := by decide +kernel
theorem d_Model_link_107 : decode b_Model_link 107 = .ok (.iload_n 2, 1) := by decide +kernel
theorem d_Model_link_108 : decode b_Model_link 108 = .ok (.iload_n 1, 1) := by decide +kernel
theorem d_Model_link_109 : decode b_Model_link 109 = .ok (.iload_n 2, 1) := by decide +kernel
theorem d_Model_link_110 : decode b_Model_link 110 = .ok (.if_icmp .ge (7), 3) := by decide +kernel
theorem d_Model_link_113 : decode b_Model_link 113 = .ok (.iload_n 2, 1) := by decide +kernel
theorem d_Model_link_114 : decode b_Model_link 114 = .ok (.goto (4), 3) := by decide +kernel
theorem d_Model_link_117 : decode b_Model_link 117 = .ok (.iload_n 1, 1) := by decide +kernel
theorem d_Model_link_118 : decode b_Model_link 118 = .ok (.invokevirtual 120, 3) := by decide +kernel
theorem d_Model_link_121 : decode b_Model_link 121 = .ok (.aload_n 0, 1) := by decide +kernel
theorem d_Model_link_122 : decode b_Model_link 122 = .ok (.iload_n 1, 1) := by decide +kernel
theorem d_Model_link_123 : decode b_Model_link 123 = .ok (.iload_n 2, 1) := by decide +kernel
theorem d_Model_link_124 : decode b_Model_link 124 = .ok (.if_icmp .ge (7), 3) := by decide +kernel
theorem d_Model_link_127 : decode b_Model_link 127 = .ok (.iload_n 2, 1) := by decide +kernel
theorem d_Model_link_128 : decode b_Model_link 128 = .ok (.goto (4), 3) := by decide +kernel
theorem d_Model_link_131 : decode b_Model_link 131 = .ok (.iload_n 1, 1) := by decide +kernel
theorem d_Model_link_132 : decode b_Model_link 132 = .ok (.iload_n 1, 1) := by decide +kernel
theorem d_Model_link_133 : decode b_Model_link 133 = .ok (.iload_n 2, 1) := by decide +kernel
theorem d_Model_link_134 : decode b_Model_link 134 = .ok (.if_icmp .ge (7), 3) := by decide +kernel
theorem d_Model_link_137 : decode b_Model_link 137 = .ok (.iload_n 1, 1) := by decide +kernel
theorem d_Model_link_138 : decode b_Model_link 138 = .ok (.goto (4), 3) := by decide +kernel
theorem d_Model_link_141 : decode b_Model_link 141 = .ok (.iload_n 2, 1) := by decide +kernel
theorem d_Model_link_142 : decode b_Model_link 142 = .ok (.invokevirtual 120, 3) := by decide +kernel
theorem d_Model_link_145 : decode b_Model_link 145 = .ok (.aload_n 0, 1) := by decide +kernel
theorem d_Model_link_146 : decode b_Model_link 146 = .ok (.invokevirtual 123, 3) := by decide +kernel
theorem d_Model_link_149 : decode b_Model_link 149 = .ok (.iload 4, 2) := by decide +kernel
theorem d_Model_link_151 : decode b_Model_link 151 = .ok (.ireturn, 1) := by decide +kernel
theorem k_Model_link : Cond.code y_Model_link b_Model_link 5 (some .int) ∈ WS := ws_t 760 (by decide +kernel) (by decide +kernel)
theorem hd_Model_link : y_Model_link.cls = R_Model ∧ y_Model_link.cls ≠ "java/lang/invoke/MethodHandle" ∧ y_Model_link.cls ≠ "java/lang/invoke/VarHandle" ∧ (parseMethodDescriptor y_Model_link.desc).map (fun d => d.parameters.length) = some 3 := by decide +kernel
abbrev b_Model_own : ByteArray := prog_7_method_26_code
abbrev y_Model_own : MethodName := ⟨"LabelRoadsModel", "own", "(II)I"⟩
theorem d_Model_own_0 : decode b_Model_own 0 = .ok (.aload_n 0, 1) := by decide +kernel
theorem d_Model_own_1 : decode b_Model_own 1 = .ok (.iload_n 1, 1) := by decide +kernel
theorem d_Model_own_2 : decode b_Model_own 2 = .ok (.iconst 0, 1) := by decide +kernel
theorem d_Model_own_3 : decode b_Model_own 3 = .ok (.iconst 3, 1) := by decide +kernel
theorem d_Model_own_4 : decode b_Model_own 4 = .ok (.invokestatic 60, 3) := by decide +kernel
theorem d_Model_own_7 : decode b_Model_own 7 = .ok (.ifCond .eq (20), 3) := by decide +kernel
theorem d_Model_own_10 : decode b_Model_own 10 = .ok (.iload_n 2, 1) := by decide +kernel
theorem d_Model_own_11 : decode b_Model_own 11 = .ok (.iconst (-1), 1) := by decide +kernel
theorem d_Model_own_12 : decode b_Model_own 12 = .ok (.if_icmp .eq (11), 3) := by decide +kernel
theorem d_Model_own_15 : decode b_Model_own 15 = .ok (.aload_n 0, 1) := by decide +kernel
theorem d_Model_own_16 : decode b_Model_own 16 = .ok (.iload_n 2, 1) := by decide +kernel
theorem d_Model_own_17 : decode b_Model_own 17 = .ok (.invokevirtual 64, 3) := by decide +kernel
theorem d_Model_own_20 : decode b_Model_own 20 = .ok (.ifCond .eq (7), 3) := by decide +kernel
theorem d_Model_own_23 : decode b_Model_own 23 = .ok (.iconst 1, 1) := by decide +kernel
theorem d_Model_own_24 : decode b_Model_own 24 = .ok (.goto (4), 3) := by decide +kernel
theorem d_Model_own_27 : decode b_Model_own 27 = .ok (.iconst 0, 1) := by decide +kernel
theorem d_Model_own_28 : decode b_Model_own 28 = .ok (.invokevirtual 109, 3) := by decide +kernel
theorem d_Model_own_31 : decode b_Model_own 31 = .ok (.ifCond .ne (5), 3) := by decide +kernel
theorem d_Model_own_34 : decode b_Model_own 34 = .ok (.iconst 0, 1) := by decide +kernel
theorem d_Model_own_35 : decode b_Model_own 35 = .ok (.ireturn, 1) := by decide +kernel
theorem d_Model_own_36 : decode b_Model_own 36 = .ok (.aload_n 0, 1) := by decide +kernel
theorem d_Model_own_37 : decode b_Model_own 37 = .ok (.getfield 13, 3) := by decide +kernel
theorem d_Model_own_40 : decode b_Model_own 40 = .ok (.iload_n 1, 1) := by decide +kernel
theorem d_Model_own_41 : decode b_Model_own 41 = .ok (.iaload, 1) := by decide +kernel
theorem d_Model_own_42 : decode b_Model_own 42 = .ok (.istore_n 3, 1) := by decide +kernel
theorem d_Model_own_43 : decode b_Model_own 43 = .ok (.iload_n 3, 1) := by decide +kernel
theorem d_Model_own_44 : decode b_Model_own 44 = .ok (.iload_n 2, 1) := by decide +kernel
theorem d_Model_own_45 : decode b_Model_own 45 = .ok (.if_icmp .eq (14), 3) := by decide +kernel
theorem d_Model_own_48 : decode b_Model_own 48 = .ok (.aload_n 0, 1) := by decide +kernel
theorem d_Model_own_49 : decode b_Model_own 49 = .ok (.getfield 13, 3) := by decide +kernel
theorem d_Model_own_52 : decode b_Model_own 52 = .ok (.iload_n 1, 1) := by decide +kernel
theorem d_Model_own_53 : decode b_Model_own 53 = .ok (.iload_n 2, 1) := by decide +kernel
theorem d_Model_own_54 : decode b_Model_own 54 = .ok (.iastore, 1) := by decide +kernel
theorem d_Model_own_55 : decode b_Model_own 55 = .ok (.aload_n 0, 1) := by decide +kernel
theorem d_Model_own_56 : decode b_Model_own 56 = .ok (.invokevirtual 123, 3) := by decide +kernel
theorem d_Model_own_59 : decode b_Model_own 59 = .ok (.iload_n 3, 1) := by decide +kernel
theorem d_Model_own_60 : decode b_Model_own 60 = .ok (.ireturn, 1) := by decide +kernel
theorem k_Model_own : Cond.code y_Model_own b_Model_own 4 (some .int) ∈ WS := ws_t 776 (by decide +kernel) (by decide +kernel)
theorem hd_Model_own : y_Model_own.cls = R_Model ∧ y_Model_own.cls ≠ "java/lang/invoke/MethodHandle" ∧ y_Model_own.cls ≠ "java/lang/invoke/VarHandle" ∧ (parseMethodDescriptor y_Model_own.desc).map (fun d => d.parameters.length) = some 2 := by decide +kernel
abbrev b_Model_serve : ByteArray := prog_7_method_27_code
abbrev y_Model_serve : MethodName := ⟨"LabelRoadsModel", "serve", "(II)I"⟩
theorem d_Model_serve_0 : decode b_Model_serve 0 = .ok (.aload_n 0, 1) := by decide +kernel
theorem d_Model_serve_1 : decode b_Model_serve 1 = .ok (.iload_n 1, 1) := by decide +kernel
theorem d_Model_serve_2 : decode b_Model_serve 2 = .ok (.iconst 0, 1) := by decide +kernel
theorem d_Model_serve_3 : decode b_Model_serve 3 = .ok (.iconst 3, 1) := by decide +kernel
theorem d_Model_serve_4 : decode b_Model_serve 4 = .ok (.invokestatic 60, 3) := by decide +kernel
theorem d_Model_serve_7 : decode b_Model_serve 7 = .ok (.ifCond .eq (20), 3) := by decide +kernel
theorem d_Model_serve_10 : decode b_Model_serve 10 = .ok (.iload_n 2, 1) := by decide +kernel
theorem d_Model_serve_11 : decode b_Model_serve 11 = .ok (.iconst (-1), 1) := by decide +kernel
theorem d_Model_serve_12 : decode b_Model_serve 12 = .ok (.if_icmp .eq (11), 3) := by decide +kernel
theorem d_Model_serve_15 : decode b_Model_serve 15 = .ok (.aload_n 0, 1) := by decide +kernel
theorem d_Model_serve_16 : decode b_Model_serve 16 = .ok (.iload_n 2, 1) := by decide +kernel
theorem d_Model_serve_17 : decode b_Model_serve 17 = .ok (.invokevirtual 64, 3) := by decide +kernel
theorem d_Model_serve_20 : decode b_Model_serve 20 = .ok (.ifCond .eq (7), 3) := by decide +kernel
theorem d_Model_serve_23 : decode b_Model_serve 23 = .ok (.iconst 1, 1) := by decide +kernel
theorem d_Model_serve_24 : decode b_Model_serve 24 = .ok (.goto (4), 3) := by decide +kernel
theorem d_Model_serve_27 : decode b_Model_serve 27 = .ok (.iconst 0, 1) := by decide +kernel
theorem d_Model_serve_28 : decode b_Model_serve 28 = .ok (.invokevirtual 109, 3) := by decide +kernel
theorem d_Model_serve_31 : decode b_Model_serve 31 = .ok (.ifCond .ne (5), 3) := by decide +kernel
theorem d_Model_serve_34 : decode b_Model_serve 34 = .ok (.iconst 0, 1) := by decide +kernel
theorem d_Model_serve_35 : decode b_Model_serve 35 = .ok (.ireturn, 1) := by decide +kernel
theorem d_Model_serve_36 : decode b_Model_serve 36 = .ok (.aload_n 0, 1) := by decide +kernel
theorem d_Model_serve_37 : decode b_Model_serve 37 = .ok (.getfield 16, 3) := by decide +kernel
theorem d_Model_serve_40 : decode b_Model_serve 40 = .ok (.iload_n 1, 1) := by decide +kernel
theorem d_Model_serve_41 : decode b_Model_serve 41 = .ok (.iaload, 1) := by decide +kernel
theorem d_Model_serve_42 : decode b_Model_serve 42 = .ok (.istore_n 3, 1) := by decide +kernel
theorem d_Model_serve_43 : decode b_Model_serve 43 = .ok (.aload_n 0, 1) := by decide +kernel
theorem d_Model_serve_44 : decode b_Model_serve 44 = .ok (.getfield 16, 3) := by decide +kernel
theorem d_Model_serve_47 : decode b_Model_serve 47 = .ok (.iload_n 1, 1) := by decide +kernel
theorem d_Model_serve_48 : decode b_Model_serve 48 = .ok (.iload_n 2, 1) := by decide +kernel
theorem d_Model_serve_49 : decode b_Model_serve 49 = .ok (.iastore, 1) := by decide +kernel
theorem d_Model_serve_50 : decode b_Model_serve 50 = .ok (.iload_n 3, 1) := by decide +kernel
theorem d_Model_serve_51 : decode b_Model_serve 51 = .ok (.ireturn, 1) := by decide +kernel
theorem k_Model_serve : Cond.code y_Model_serve b_Model_serve 4 (some .int) ∈ WS := ws_t 780 (by decide +kernel) (by decide +kernel)
theorem hd_Model_serve : y_Model_serve.cls = R_Model ∧ y_Model_serve.cls ≠ "java/lang/invoke/MethodHandle" ∧ y_Model_serve.cls ≠ "java/lang/invoke/VarHandle" ∧ (parseMethodDescriptor y_Model_serve.desc).map (fun d => d.parameters.length) = some 2 := by decide +kernel
abbrev b_Model_distance : ByteArray := prog_7_method_28_code
abbrev y_Model_distance : MethodName := ⟨"LabelRoadsModel", "distance", "(II)I"⟩
theorem d_Model_distance_0 : decode b_Model_distance 0 = .ok (.aload_n 0, 1) := by decide +kernel
theorem d_Model_distance_1 : decode b_Model_distance 1 = .ok (.aload_n 0, 1) := by decide +kernel
theorem d_Model_distance_2 : decode b_Model_distance 2 = .ok (.iload_n 1, 1) := by decide +kernel
theorem d_Model_distance_3 : decode b_Model_distance 3 = .ok (.invokevirtual 64, 3) := by decide +kernel
theorem d_Model_distance_6 : decode b_Model_distance 6 = .ok (.ifCond .eq (16), 3) := by decide +kernel
theorem d_Model_distance_9 : decode b_Model_distance 9 = .ok (.iload_n 2, 1) := by decide +kernel
theorem d_Model_distance_10 : decode b_Model_distance 10 = .ok (.iconst 0, 1) := by decide +kernel
theorem d_Model_distance_11 : decode b_Model_distance 11 = .ok (.iconst 3, 1) := by decide +kernel
theorem d_Model_distance_12 : decode b_Model_distance 12 = .ok (.invokestatic 60, 3) := by decide +kernel
theorem d_Model_distance_15 : decode b_Model_distance 15 = .ok (.ifCond .eq (7), 3) := by decide +kernel
theorem d_Model_distance_18 : decode b_Model_distance 18 = .ok (.iconst 1, 1) := by decide +kernel
theorem d_Model_distance_19 : decode b_Model_distance 19 = .ok (.goto (4), 3) := by decide +kernel
theorem d_Model_distance_22 : decode b_Model_distance 22 = .ok (.iconst 0, 1) := by decide +kernel
theorem d_Model_distance_23 : decode b_Model_distance 23 = .ok (.invokevirtual 109, 3) := by decide +kernel
theorem d_Model_distance_26 : decode b_Model_distance 26 = .ok (.ifCond .ne (5), 3) := by decide +kernel
theorem d_Model_distance_29 : decode b_Model_distance 29 = .ok (.iconst 0, 1) := by decide +kernel
theorem d_Model_distance_30 : decode b_Model_distance 30 = .ok (.ireturn, 1) := by decide +kernel
theorem d_Model_distance_31 : decode b_Model_distance 31 = .ok (.aload_n 0, 1) := by decide +kernel
theorem d_Model_distance_32 : decode b_Model_distance 32 = .ok (.iload_n 2, 1) := by decide +kernel
theorem d_Model_distance_33 : decode b_Model_distance 33 = .ok (.invokevirtual 68, 3) := by decide +kernel
theorem d_Model_distance_36 : decode b_Model_distance 36 = .ok (.aload_n 0, 1) := by decide +kernel
theorem d_Model_distance_37 : decode b_Model_distance 37 = .ok (.getfield 44, 3) := by decide +kernel
theorem d_Model_distance_40 : decode b_Model_distance 40 = .ok (.iload_n 1, 1) := by decide +kernel
theorem d_Model_distance_41 : decode b_Model_distance 41 = .ok (.iaload, 1) := by decide +kernel
theorem d_Model_distance_42 : decode b_Model_distance 42 = .ok (.ireturn, 1) := by decide +kernel
theorem k_Model_distance : Cond.code y_Model_distance b_Model_distance 3 (some .int) ∈ WS := ws_t 784 (by decide +kernel) (by decide +kernel)
theorem hd_Model_distance : y_Model_distance.cls = R_Model ∧ y_Model_distance.cls ≠ "java/lang/invoke/MethodHandle" ∧ y_Model_distance.cls ≠ "java/lang/invoke/VarHandle" ∧ (parseMethodDescriptor y_Model_distance.desc).map (fun d => d.parameters.length) = some 2 := by decide +kernel
abbrev b_Model_next : ByteArray := prog_7_method_29_code
abbrev y_Model_next : MethodName := ⟨"LabelRoadsModel", "next", "(II)I"⟩
theorem d_Model_next_0 : decode b_Model_next 0 = .ok (.aload_n 0, 1) := by decide +kernel
theorem d_Model_next_1 : decode b_Model_next 1 = .ok (.aload_n 0, 1) := by decide +kernel
theorem d_Model_next_2 : decode b_Model_next 2 = .ok (.iload_n 1, 1) := by decide +kernel
theorem d_Model_next_3 : decode b_Model_next 3 = .ok (.invokevirtual 64, 3) := by decide +kernel
theorem d_Model_next_6 : decode b_Model_next 6 = .ok (.ifCond .eq (16), 3) := by decide +kernel
theorem d_Model_next_9 : decode b_Model_next 9 = .ok (.iload_n 2, 1) := by decide +kernel
theorem d_Model_next_10 : decode b_Model_next 10 = .ok (.iconst 0, 1) := by decide +kernel
theorem d_Model_next_11 : decode b_Model_next 11 = .ok (.iconst 3, 1) := by decide +kernel
theorem d_Model_next_12 : decode b_Model_next 12 = .ok (.invokestatic 60, 3) := by decide +kernel
theorem d_Model_next_15 : decode b_Model_next 15 = .ok (.ifCond .eq (7), 3) := by decide +kernel
theorem d_Model_next_18 : decode b_Model_next 18 = .ok (.iconst 1, 1) := by decide +kernel
theorem d_Model_next_19 : decode b_Model_next 19 = .ok (.goto (4), 3) := by decide +kernel
theorem d_Model_next_22 : decode b_Model_next 22 = .ok (.iconst 0, 1) := by decide +kernel
theorem d_Model_next_23 : decode b_Model_next 23 = .ok (.invokevirtual 109, 3) := by decide +kernel
theorem d_Model_next_26 : decode b_Model_next 26 = .ok (.ifCond .eq (12), 3) := by decide +kernel
theorem d_Model_next_29 : decode b_Model_next 29 = .ok (.aload_n 0, 1) := by decide +kernel
theorem d_Model_next_30 : decode b_Model_next 30 = .ok (.iload_n 1, 1) := by decide +kernel
theorem d_Model_next_31 : decode b_Model_next 31 = .ok (.iload_n 2, 1) := by decide +kernel
theorem d_Model_next_32 : decode b_Model_next 32 = .ok (.invokevirtual 86, 3) := by decide +kernel
theorem d_Model_next_35 : decode b_Model_next 35 = .ok (.goto (4), 3) := by decide +kernel
theorem d_Model_next_38 : decode b_Model_next 38 = .ok (.iconst 0, 1) := by decide +kernel
theorem d_Model_next_39 : decode b_Model_next 39 = .ok (.ireturn, 1) := by decide +kernel
theorem k_Model_next : Cond.code y_Model_next b_Model_next 3 (some .int) ∈ WS := ws_t 788 (by decide +kernel) (by decide +kernel)
theorem hd_Model_next : y_Model_next.cls = R_Model ∧ y_Model_next.cls ≠ "java/lang/invoke/MethodHandle" ∧ y_Model_next.cls ≠ "java/lang/invoke/VarHandle" ∧ (parseMethodDescriptor y_Model_next.desc).map (fun d => d.parameters.length) = some 2 := by decide +kernel
abbrev b_Model_label : ByteArray := prog_7_method_30_code
abbrev y_Model_label : MethodName := ⟨"LabelRoadsModel", "label", "(II)I"⟩
theorem d_Model_label_0 : decode b_Model_label 0 = .ok (.aload_n 0, 1) := by decide +kernel
theorem d_Model_label_1 : decode b_Model_label 1 = .ok (.aload_n 0, 1) := by decide +kernel
theorem d_Model_label_2 : decode b_Model_label 2 = .ok (.iload_n 1, 1) := by decide +kernel
theorem d_Model_label_3 : decode b_Model_label 3 = .ok (.invokevirtual 64, 3) := by decide +kernel
theorem d_Model_label_6 : decode b_Model_label 6 = .ok (.ifCond .eq (16), 3) := by decide +kernel
theorem d_Model_label_9 : decode b_Model_label 9 = .ok (.iload_n 2, 1) := by decide +kernel
theorem d_Model_label_10 : decode b_Model_label 10 = .ok (.iconst 0, 1) := by decide +kernel
theorem d_Model_label_11 : decode b_Model_label 11 = .ok (.iconst 3, 1) := by decide +kernel
theorem d_Model_label_12 : decode b_Model_label 12 = .ok (.invokestatic 60, 3) := by decide +kernel
theorem d_Model_label_15 : decode b_Model_label 15 = .ok (.ifCond .eq (7), 3) := by decide +kernel
theorem d_Model_label_18 : decode b_Model_label 18 = .ok (.iconst 1, 1) := by decide +kernel
theorem d_Model_label_19 : decode b_Model_label 19 = .ok (.goto (4), 3) := by decide +kernel
theorem d_Model_label_22 : decode b_Model_label 22 = .ok (.iconst 0, 1) := by decide +kernel
theorem d_Model_label_23 : decode b_Model_label 23 = .ok (.invokevirtual 109, 3) := by decide +kernel
theorem d_Model_label_26 : decode b_Model_label 26 = .ok (.ifCond .eq (16), 3) := by decide +kernel
theorem d_Model_label_29 : decode b_Model_label 29 = .ok (.aload_n 0, 1) := by decide +kernel
theorem d_Model_label_30 : decode b_Model_label 30 = .ok (.getfield 19, 3) := by decide +kernel
theorem d_Model_label_33 : decode b_Model_label 33 = .ok (.iconst 4, 1) := by decide +kernel
theorem d_Model_label_34 : decode b_Model_label 34 = .ok (.iload_n 1, 1) := by decide +kernel
theorem d_Model_label_35 : decode b_Model_label 35 = .ok (.imul, 1) := by decide +kernel
theorem d_Model_label_36 : decode b_Model_label 36 = .ok (.iload_n 2, 1) := by decide +kernel
theorem d_Model_label_37 : decode b_Model_label 37 = .ok (.iadd, 1) := by decide +kernel
theorem d_Model_label_38 : decode b_Model_label 38 = .ok (.iaload, 1) := by decide +kernel
theorem d_Model_label_39 : decode b_Model_label 39 = .ok (.goto (4), 3) := by decide +kernel
theorem d_Model_label_42 : decode b_Model_label 42 = .ok (.iconst 0, 1) := by decide +kernel
theorem d_Model_label_43 : decode b_Model_label 43 = .ok (.ireturn, 1) := by decide +kernel
theorem k_Model_label : Cond.code y_Model_label b_Model_label 3 (some .int) ∈ WS := ws_t 792 (by decide +kernel) (by decide +kernel)
theorem hd_Model_label : y_Model_label.cls = R_Model ∧ y_Model_label.cls ≠ "java/lang/invoke/MethodHandle" ∧ y_Model_label.cls ≠ "java/lang/invoke/VarHandle" ∧ (parseMethodDescriptor y_Model_label.desc).map (fun d => d.parameters.length) = some 2 := by decide +kernel
abbrev b_Model_told : ByteArray := prog_7_method_31_code
abbrev y_Model_told : MethodName := ⟨"LabelRoadsModel", "told", "(III)I"⟩
theorem d_Model_told_0 : decode b_Model_told 0 = .ok (.aload_n 0, 1) := by decide +kernel
theorem d_Model_told_1 : decode b_Model_told 1 = .ok (.aload_n 0, 1) := by decide +kernel
theorem d_Model_told_2 : decode b_Model_told 2 = .ok (.iload_n 1, 1) := by decide +kernel
theorem d_Model_told_3 : decode b_Model_told 3 = .ok (.iload_n 2, 1) := by decide +kernel
theorem d_Model_told_4 : decode b_Model_told 4 = .ok (.invokevirtual 106, 3) := by decide +kernel
theorem d_Model_told_7 : decode b_Model_told 7 = .ok (.ifCond .eq (16), 3) := by decide +kernel
theorem d_Model_told_10 : decode b_Model_told 10 = .ok (.iload_n 3, 1) := by decide +kernel
theorem d_Model_told_11 : decode b_Model_told 11 = .ok (.iconst 0, 1) := by decide +kernel
theorem d_Model_told_12 : decode b_Model_told 12 = .ok (.iconst 3, 1) := by decide +kernel
theorem d_Model_told_13 : decode b_Model_told 13 = .ok (.invokestatic 60, 3) := by decide +kernel
theorem d_Model_told_16 : decode b_Model_told 16 = .ok (.ifCond .eq (7), 3) := by decide +kernel
theorem d_Model_told_19 : decode b_Model_told 19 = .ok (.iconst 1, 1) := by decide +kernel
theorem d_Model_told_20 : decode b_Model_told 20 = .ok (.goto (4), 3) := by decide +kernel
theorem d_Model_told_23 : decode b_Model_told 23 = .ok (.iconst 0, 1) := by decide +kernel
theorem d_Model_told_24 : decode b_Model_told 24 = .ok (.invokevirtual 109, 3) := by decide +kernel
theorem d_Model_told_27 : decode b_Model_told 27 = .ok (.ifCond .eq (21), 3) := by decide +kernel
theorem d_Model_told_30 : decode b_Model_told 30 = .ok (.aload_n 0, 1) := by decide +kernel
theorem d_Model_told_31 : decode b_Model_told 31 = .ok (.getfield 22, 3) := by decide +kernel
theorem d_Model_told_34 : decode b_Model_told 34 = .ok (.bipush 24, 2) := by decide +kernel
theorem d_Model_told_36 : decode b_Model_told 36 = .ok (.iload_n 1, 1) := by decide +kernel
theorem d_Model_told_37 : decode b_Model_told 37 = .ok (.imul, 1) := by decide +kernel
theorem d_Model_told_38 : decode b_Model_told 38 = .ok (.iconst 4, 1) := by decide +kernel
theorem d_Model_told_39 : decode b_Model_told 39 = .ok (.iload_n 2, 1) := by decide +kernel
theorem d_Model_told_40 : decode b_Model_told 40 = .ok (.imul, 1) := by decide +kernel
theorem d_Model_told_41 : decode b_Model_told 41 = .ok (.iadd, 1) := by decide +kernel
theorem d_Model_told_42 : decode b_Model_told 42 = .ok (.iload_n 3, 1) := by decide +kernel
theorem d_Model_told_43 : decode b_Model_told 43 = .ok (.iadd, 1) := by decide +kernel
theorem d_Model_told_44 : decode b_Model_told 44 = .ok (.iaload, 1) := by decide +kernel
theorem d_Model_told_45 : decode b_Model_told 45 = .ok (.goto (4), 3) := by decide +kernel
theorem d_Model_told_48 : decode b_Model_told 48 = .ok (.iconst 0, 1) := by decide +kernel
theorem d_Model_told_49 : decode b_Model_told 49 = .ok (.ireturn, 1) := by decide +kernel
theorem k_Model_told : Cond.code y_Model_told b_Model_told 4 (some .int) ∈ WS := ws_t 796 (by decide +kernel) (by decide +kernel)
theorem hd_Model_told : y_Model_told.cls = R_Model ∧ y_Model_told.cls ≠ "java/lang/invoke/MethodHandle" ∧ y_Model_told.cls ≠ "java/lang/invoke/VarHandle" ∧ (parseMethodDescriptor y_Model_told.desc).map (fun d => d.parameters.length) = some 3 := by decide +kernel
abbrev b_Model_taken : ByteArray := prog_7_method_32_code
abbrev y_Model_taken : MethodName := ⟨"LabelRoadsModel", "taken", "(I)I"⟩
theorem d_Model_taken_0 : decode b_Model_taken 0 = .ok (.aload_n 0, 1) := by decide +kernel
theorem d_Model_taken_1 : decode b_Model_taken 1 = .ok (.aload_n 0, 1) := by decide +kernel
theorem d_Model_taken_2 : decode b_Model_taken 2 = .ok (.iload_n 1, 1) := by decide +kernel
theorem d_Model_taken_3 : decode b_Model_taken 3 = .ok (.invokevirtual 64, 3) := by decide +kernel
theorem d_Model_taken_6 : decode b_Model_taken 6 = .ok (.invokevirtual 109, 3) := by decide +kernel
theorem d_Model_taken_9 : decode b_Model_taken 9 = .ok (.ifCond .eq (11), 3) := by decide +kernel
theorem d_Model_taken_12 : decode b_Model_taken 12 = .ok (.aload_n 0, 1) := by decide +kernel
theorem d_Model_taken_13 : decode b_Model_taken 13 = .ok (.iload_n 1, 1) := by decide +kernel
theorem d_Model_taken_14 : decode b_Model_taken 14 = .ok (.invokevirtual 126, 3) := by decide +kernel
theorem d_Model_taken_17 : decode b_Model_taken 17 = .ok (.goto (4), 3) := by decide +kernel
theorem d_Model_taken_20 : decode b_Model_taken 20 = .ok (.iconst 0, 1) := by decide +kernel
theorem d_Model_taken_21 : decode b_Model_taken 21 = .ok (.ireturn, 1) := by decide +kernel
theorem k_Model_taken : Cond.code y_Model_taken b_Model_taken 2 (some .int) ∈ WS := ws_t 800 (by decide +kernel) (by decide +kernel)
theorem hd_Model_taken : y_Model_taken.cls = R_Model ∧ y_Model_taken.cls ≠ "java/lang/invoke/MethodHandle" ∧ y_Model_taken.cls ≠ "java/lang/invoke/VarHandle" ∧ (parseMethodDescriptor y_Model_taken.desc).map (fun d => d.parameters.length) = some 1 := by decide +kernel
abbrev b_Model_arrive : ByteArray := prog_7_method_33_code
abbrev y_Model_arrive : MethodName := ⟨"LabelRoadsModel", "arrive", "(I)V"⟩
theorem d_Model_arrive_0 : decode b_Model_arrive 0 = .ok (.aload_n 0, 1) := by decide +kernel
theorem d_Model_arrive_1 : decode b_Model_arrive 1 = .ok (.getfield 47, 3) := by decide +kernel
theorem d_Model_arrive_4 : decode b_Model_arrive 4 = .ok (.aload_n 0, 1) := by decide +kernel
theorem d_Model_arrive_5 : decode b_Model_arrive 5 = .ok (.getfield 129, 3) := by decide +kernel
theorem d_Model_arrive_8 : decode b_Model_arrive 8 = .ok (.iload_n 1, 1) := by decide +kernel
theorem d_Model_arrive_9 : decode b_Model_arrive 9 = .ok (.iastore, 1) := by decide +kernel
theorem d_Model_arrive_10 : decode b_Model_arrive 10 = .ok (.aload_n 0, 1) := by decide +kernel
theorem d_Model_arrive_11 : decode b_Model_arrive 11 = .ok (.getfield 132, 3) := by decide +kernel
theorem d_Model_arrive_14 : decode b_Model_arrive 14 = .ok (.ifCond .le (14), 3) := by decide +kernel
theorem d_Model_arrive_17 : decode b_Model_arrive 17 = .ok (.aload_n 0, 1) := by decide +kernel
theorem d_Model_arrive_18 : decode b_Model_arrive 18 = .ok (.getfield 135, 3) := by decide +kernel
theorem d_Model_arrive_21 : decode b_Model_arrive 21 = .ok (.ifCond .le (7), 3) := by decide +kernel
theorem d_Model_arrive_24 : decode b_Model_arrive 24 = .ok (.iconst 1, 1) := by decide +kernel
theorem d_Model_arrive_25 : decode b_Model_arrive 25 = .ok (.goto (4), 3) := by decide +kernel
theorem d_Model_arrive_28 : decode b_Model_arrive 28 = .ok (.iconst 0, 1) := by decide +kernel
theorem d_Model_arrive_29 : decode b_Model_arrive 29 = .ok (.istore_n 2, 1) := by decide +kernel
theorem d_Model_arrive_30 : decode b_Model_arrive 30 = .ok (.aload_n 0, 1) := by decide +kernel
theorem d_Model_arrive_31 : decode b_Model_arrive 31 = .ok (.getfield 132, 3) := by decide +kernel
theorem d_Model_arrive_34 : decode b_Model_arrive 34 = .ok (.ifCond .le (10), 3) := by decide +kernel
theorem d_Model_arrive_37 : decode b_Model_arrive 37 = .ok (.aload_n 0, 1) := by decide +kernel
theorem d_Model_arrive_38 : decode b_Model_arrive 38 = .ok (.getfield 132, 3) := by decide +kernel
theorem d_Model_arrive_41 : decode b_Model_arrive 41 = .ok (.goto (7), 3) := by decide +kernel
theorem d_Model_arrive_44 : decode b_Model_arrive 44 = .ok (.aload_n 0, 1) := by decide +kernel
theorem d_Model_arrive_45 : decode b_Model_arrive 45 = .ok (.getfield 135, 3) := by decide +kernel
theorem d_Model_arrive_48 : decode b_Model_arrive 48 = .ok (.istore_n 3, 1) := by decide +kernel
theorem d_Model_arrive_49 : decode b_Model_arrive 49 = .ok (.aload_n 0, 1) := by decide +kernel
theorem d_Model_arrive_50 : decode b_Model_arrive 50 = .ok (.getfield 132, 3) := by decide +kernel
theorem d_Model_arrive_53 : decode b_Model_arrive 53 = .ok (.ifCond .le (10), 3) := by decide +kernel
theorem d_Model_arrive_56 : decode b_Model_arrive 56 = .ok (.aload_n 0, 1) := by decide +kernel
theorem d_Model_arrive_57 : decode b_Model_arrive 57 = .ok (.getfield 138, 3) := by decide +kernel
theorem d_Model_arrive_60 : decode b_Model_arrive 60 = .ok (.goto (7), 3) := by decide +kernel
theorem d_Model_arrive_63 : decode b_Model_arrive 63 = .ok (.aload_n 0, 1) := by decide +kernel
theorem d_Model_arrive_64 : decode b_Model_arrive 64 = .ok (.getfield 141, 3) := by decide +kernel
theorem d_Model_arrive_67 : decode b_Model_arrive 67 = .ok (.istore 4, 2) := by decide +kernel
theorem d_Model_arrive_69 : decode b_Model_arrive 69 = .ok (.aload_n 0, 1) := by decide +kernel
theorem d_Model_arrive_70 : decode b_Model_arrive 70 = .ok (.getfield 50, 3) := by decide +kernel
theorem d_Model_arrive_73 : decode b_Model_arrive 73 = .ok (.aload_n 0, 1) := by decide +kernel
theorem d_Model_arrive_74 : decode b_Model_arrive 74 = .ok (.getfield 129, 3) := by decide +kernel
theorem d_Model_arrive_77 : decode b_Model_arrive 77 = .ok (.iload_n 3, 1) := by decide +kernel
theorem d_Model_arrive_78 : decode b_Model_arrive 78 = .ok (.ifCond .ne (7), 3) := by decide +kernel
theorem d_Model_arrive_81 : decode b_Model_arrive 81 = .ok (.iconst 0, 1) := by decide +kernel
theorem d_Model_arrive_82 : decode b_Model_arrive 82 = .ok (.goto (23), 3) := by decide +kernel
theorem d_Model_arrive_85 : decode b_Model_arrive 85 = .ok (.sipush 4096, 3) := by decide +kernel
theorem d_Model_arrive_88 : decode b_Model_arrive 88 = .ok (.iload_n 3, 1) := by decide +kernel
theorem d_Model_arrive_89 : decode b_Model_arrive 89 = .ok (.imul, 1) := by decide +kernel
theorem d_Model_arrive_90 : decode b_Model_arrive 90 = .ok (.iload_n 2, 1) := by decide +kernel
theorem d_Model_arrive_91 : decode b_Model_arrive 91 = .ok (.ifCond .eq (7), 3) := by decide +kernel
theorem d_Model_arrive_94 : decode b_Model_arrive 94 = .ok (.iconst 0, 1) := by decide +kernel
theorem d_Model_arrive_95 : decode b_Model_arrive 95 = .ok (.goto (6), 3) := by decide +kernel
theorem d_Model_arrive_98 : decode b_Model_arrive 98 = .ok (.sipush 256, 3) := by decide +kernel
theorem d_Model_arrive_101 : decode b_Model_arrive 101 = .ok (.iadd, 1) := by decide +kernel
theorem d_Model_arrive_102 : decode b_Model_arrive 102 = .ok (.iload 4, 2) := by decide +kernel
theorem d_Model_arrive_104 : decode b_Model_arrive 104 = .ok (.iadd, 1) := by decide +kernel
theorem d_Model_arrive_105 : decode b_Model_arrive 105 = .ok (.iastore, 1) := by decide +kernel
theorem d_Model_arrive_106 : decode b_Model_arrive 106 = .ok (.aload_n 0, 1) := by decide +kernel
theorem d_Model_arrive_107 : decode b_Model_arrive 107 = .ok (.dup, 1) := by decide +kernel
theorem d_Model_arrive_108 : decode b_Model_arrive 108 = .ok (.getfield 129, 3) := by decide +kernel
theorem d_Model_arrive_111 : decode b_Model_arrive 111 = .ok (.iconst 1, 1) := by decide +kernel
theorem d_Model_arrive_112 : decode b_Model_arrive 112 = .ok (.iadd, 1) := by decide +kernel
theorem d_Model_arrive_113 : decode b_Model_arrive 113 = .ok (.putfield 129, 3) := by decide +kernel
theorem d_Model_arrive_116 : decode b_Model_arrive 116 = .ok (.return_, 1) := by decide +kernel
theorem k_Model_arrive : Cond.code y_Model_arrive b_Model_arrive 5 (none) ∈ WS := ws_t 812 (by decide +kernel) (by decide +kernel)
theorem hd_Model_arrive : y_Model_arrive.cls = R_Model ∧ y_Model_arrive.cls ≠ "java/lang/invoke/MethodHandle" ∧ y_Model_arrive.cls ≠ "java/lang/invoke/VarHandle" ∧ (parseMethodDescriptor y_Model_arrive.desc).map (fun d => d.parameters.length) = some 1 := by decide +kernel
abbrev b_Model_prefixAt : ByteArray := prog_7_method_34_code
abbrev y_Model_prefixAt : MethodName := ⟨"LabelRoadsModel", "prefixAt", "(II)I"⟩
theorem d_Model_prefixAt_0 : decode b_Model_prefixAt 0 = .ok (.iconst 0, 1) := by decide +kernel
theorem d_Model_prefixAt_1 : decode b_Model_prefixAt 1 = .ok (.istore_n 3, 1) := by decide +kernel
theorem d_Model_prefixAt_2 : decode b_Model_prefixAt 2 = .ok (.iload_n 3, 1) := by decide +kernel
theorem d_Model_prefixAt_3 : decode b_Model_prefixAt 3 = .ok (.iconst 4, 1) := by decide +kernel
theorem d_Model_prefixAt_4 : decode b_Model_prefixAt 4 = .ok (.if_icmp .ge (23), 3) := by decide +kernel
theorem d_Model_prefixAt_7 : decode b_Model_prefixAt 7 = .ok (.aload_n 0, 1) := by decide +kernel
theorem d_Model_prefixAt_8 : decode b_Model_prefixAt 8 = .ok (.getfield 19, 3) := by decide +kernel
theorem d_Model_prefixAt_11 : decode b_Model_prefixAt 11 = .ok (.iconst 4, 1) := by decide +kernel
theorem d_Model_prefixAt_12 : decode b_Model_prefixAt 12 = .ok (.iload_n 1, 1) := by decide +kernel
theorem d_Model_prefixAt_13 : decode b_Model_prefixAt 13 = .ok (.imul, 1) := by decide +kernel
theorem d_Model_prefixAt_14 : decode b_Model_prefixAt 14 = .ok (.iload_n 3, 1) := by decide +kernel
theorem d_Model_prefixAt_15 : decode b_Model_prefixAt 15 = .ok (.iadd, 1) := by decide +kernel
theorem d_Model_prefixAt_16 : decode b_Model_prefixAt 16 = .ok (.iaload, 1) := by decide +kernel
theorem d_Model_prefixAt_17 : decode b_Model_prefixAt 17 = .ok (.iload_n 2, 1) := by decide +kernel
theorem d_Model_prefixAt_18 : decode b_Model_prefixAt 18 = .ok (.if_icmp .eq (9), 3) := by decide +kernel
theorem d_Model_prefixAt_21 : decode b_Model_prefixAt 21 = .ok (.iinc 3 (1), 3) := by decide +kernel
theorem d_Model_prefixAt_24 : decode b_Model_prefixAt 24 = .ok (.goto (-22), 3) := by decide +kernel
theorem d_Model_prefixAt_27 : decode b_Model_prefixAt 27 = .ok (.iload_n 3, 1) := by decide +kernel
theorem d_Model_prefixAt_28 : decode b_Model_prefixAt 28 = .ok (.iconst 4, 1) := by decide +kernel
theorem d_Model_prefixAt_29 : decode b_Model_prefixAt 29 = .ok (.if_icmp .ne (7), 3) := by decide +kernel
theorem d_Model_prefixAt_32 : decode b_Model_prefixAt 32 = .ok (.iconst (-1), 1) := by decide +kernel
theorem d_Model_prefixAt_33 : decode b_Model_prefixAt 33 = .ok (.goto (4), 3) := by decide +kernel
theorem d_Model_prefixAt_36 : decode b_Model_prefixAt 36 = .ok (.iload_n 3, 1) := by decide +kernel
theorem d_Model_prefixAt_37 : decode b_Model_prefixAt 37 = .ok (.ireturn, 1) := by decide +kernel
theorem k_Model_prefixAt : Cond.code y_Model_prefixAt b_Model_prefixAt 4 (some .int) ∈ WS := ws_t 820 (by decide +kernel) (by decide +kernel)
theorem hd_Model_prefixAt : y_Model_prefixAt.cls = R_Model ∧ y_Model_prefixAt.cls ≠ "java/lang/invoke/MethodHandle" ∧ y_Model_prefixAt.cls ≠ "java/lang/invoke/VarHandle" ∧ (parseMethodDescriptor y_Model_prefixAt.desc).map (fun d => d.parameters.length) = some 2 := by decide +kernel
abbrev b_Model_looked : ByteArray := prog_7_method_35_code
abbrev y_Model_looked : MethodName := ⟨"LabelRoadsModel", "looked", "(I)I"⟩
theorem d_Model_looked_0 : decode b_Model_looked 0 = .ok (.aload_n 0, 1) := by decide +kernel
theorem d_Model_looked_1 : decode b_Model_looked 1 = .ok (.getfield 16, 3) := by decide +kernel
theorem d_Model_looked_4 : decode b_Model_looked 4 = .ok (.aload_n 0, 1) := by decide +kernel
theorem d_Model_looked_5 : decode b_Model_looked 5 = .ok (.getfield 135, 3) := by decide +kernel
theorem d_Model_looked_8 : decode b_Model_looked 8 = .ok (.bipush 32, 2) := by decide +kernel
theorem d_Model_looked_10 : decode b_Model_looked 10 = .ok (.isub, 1) := by decide +kernel
theorem d_Model_looked_11 : decode b_Model_looked 11 = .ok (.iaload, 1) := by decide +kernel
theorem d_Model_looked_12 : decode b_Model_looked 12 = .ok (.iload_n 1, 1) := by decide +kernel
theorem d_Model_looked_13 : decode b_Model_looked 13 = .ok (.if_icmp .ne (7), 3) := by decide +kernel
theorem d_Model_looked_16 : decode b_Model_looked 16 = .ok (.iconst 0, 1) := by decide +kernel
theorem d_Model_looked_17 : decode b_Model_looked 17 = .ok (.goto (4), 3) := by decide +kernel
theorem d_Model_looked_20 : decode b_Model_looked 20 = .ok (.iconst 3, 1) := by decide +kernel
theorem d_Model_looked_21 : decode b_Model_looked 21 = .ok (.ireturn, 1) := by decide +kernel
theorem k_Model_looked : Cond.code y_Model_looked b_Model_looked 2 (some .int) ∈ WS := ws_t 824 (by decide +kernel) (by decide +kernel)
theorem hd_Model_looked : y_Model_looked.cls = R_Model ∧ y_Model_looked.cls ≠ "java/lang/invoke/MethodHandle" ∧ y_Model_looked.cls ≠ "java/lang/invoke/VarHandle" ∧ (parseMethodDescriptor y_Model_looked.desc).map (fun d => d.parameters.length) = some 1 := by decide +kernel
abbrev b_Model_at : ByteArray := prog_7_method_36_code
abbrev y_Model_at : MethodName := ⟨"LabelRoadsModel", "at", "(IZ)I"⟩
theorem d_Model_at_0 : decode b_Model_at 0 = .ok (.aload_n 0, 1) := by decide +kernel
theorem d_Model_at_1 : decode b_Model_at 1 = .ok (.getfield 144, 3) := by decide +kernel
theorem d_Model_at_4 : decode b_Model_at 4 = .ok (.istore_n 3, 1) := by decide +kernel
theorem d_Model_at_5 : decode b_Model_at 5 = .ok (.aload_n 0, 1) := by decide +kernel
theorem d_Model_at_6 : decode b_Model_at 6 = .ok (.getfield 132, 3) := by decide +kernel
theorem d_Model_at_9 : decode b_Model_at 9 = .ok (.ifCond .le (72), 3) := by decide +kernel
theorem d_Model_at_12 : decode b_Model_at 12 = .ok (.aload_n 0, 1) := by decide +kernel
theorem d_Model_at_13 : decode b_Model_at 13 = .ok (.iload_n 1, 1) := by decide +kernel
theorem d_Model_at_14 : decode b_Model_at 14 = .ok (.aload_n 0, 1) := by decide +kernel
theorem d_Model_at_15 : decode b_Model_at 15 = .ok (.getfield 132, 3) := by decide +kernel
theorem d_Model_at_18 : decode b_Model_at 18 = .ok (.invokevirtual 147, 3) := by decide +kernel
theorem d_Model_at_21 : decode b_Model_at 21 = .ok (.istore 4, 2) := by decide +kernel
theorem d_Model_at_23 : decode b_Model_at 23 = .ok (.iload 4, 2) := by decide +kernel
theorem d_Model_at_25 : decode b_Model_at 25 = .ok (.iconst (-1), 1) := by decide +kernel
theorem d_Model_at_26 : decode b_Model_at 26 = .ok (.if_icmp .ne (5), 3) := by decide +kernel
theorem d_Model_at_29 : decode b_Model_at 29 = .ok (.iconst 3, 1) := by decide +kernel
theorem d_Model_at_30 : decode b_Model_at 30 = .ok (.ireturn, 1) := by decide +kernel
theorem d_Model_at_31 : decode b_Model_at 31 = .ok (.aload_n 0, 1) := by decide +kernel
theorem d_Model_at_32 : decode b_Model_at 32 = .ok (.getfield 13, 3) := by decide +kernel
theorem d_Model_at_35 : decode b_Model_at 35 = .ok (.iload 4, 2) := by decide +kernel
theorem d_Model_at_37 : decode b_Model_at 37 = .ok (.iaload, 1) := by decide +kernel
theorem d_Model_at_38 : decode b_Model_at 38 = .ok (.iload_n 1, 1) := by decide +kernel
theorem d_Model_at_39 : decode b_Model_at 39 = .ok (.if_icmp .ne (7), 3) := by decide +kernel
theorem d_Model_at_42 : decode b_Model_at 42 = .ok (.iconst 1, 1) := by decide +kernel
theorem d_Model_at_43 : decode b_Model_at 43 = .ok (.goto (4), 3) := by decide +kernel
theorem d_Model_at_46 : decode b_Model_at 46 = .ok (.iconst 0, 1) := by decide +kernel
theorem d_Model_at_47 : decode b_Model_at 47 = .ok (.istore 5, 2) := by decide +kernel
theorem d_Model_at_49 : decode b_Model_at 49 = .ok (.aload_n 0, 1) := by decide +kernel
theorem d_Model_at_50 : decode b_Model_at 50 = .ok (.iload 5, 2) := by decide +kernel
theorem d_Model_at_52 : decode b_Model_at 52 = .ok (.ifCond .eq (7), 3) := by decide +kernel
theorem d_Model_at_55 : decode b_Model_at 55 = .ok (.iconst 0, 1) := by decide +kernel
theorem d_Model_at_56 : decode b_Model_at 56 = .ok (.goto (7), 3) := by decide +kernel
theorem d_Model_at_59 : decode b_Model_at 59 = .ok (.aload_n 0, 1) := by decide +kernel
theorem d_Model_at_60 : decode b_Model_at 60 = .ok (.getfield 132, 3) := by decide +kernel
theorem d_Model_at_63 : decode b_Model_at 63 = .ok (.putfield 132, 3) := by decide +kernel
theorem d_Model_at_66 : decode b_Model_at 66 = .ok (.iload 5, 2) := by decide +kernel
theorem d_Model_at_68 : decode b_Model_at 68 = .ok (.ifCond .eq (10), 3) := by decide +kernel
theorem d_Model_at_71 : decode b_Model_at 71 = .ok (.aload_n 0, 1) := by decide +kernel
theorem d_Model_at_72 : decode b_Model_at 72 = .ok (.getfield 144, 3) := by decide +kernel
theorem d_Model_at_75 : decode b_Model_at 75 = .ok (.goto (5), 3) := by decide +kernel
theorem d_Model_at_78 : decode b_Model_at 78 = .ok (.iload 4, 2) := by decide +kernel
theorem d_Model_at_80 : decode b_Model_at 80 = .ok (.istore_n 3, 1) := by decide +kernel
theorem d_Model_at_81 : decode b_Model_at 81 = .ok (.aload_n 0, 1) := by decide +kernel
theorem d_Model_at_82 : decode b_Model_at 82 = .ok (.getfield 132, 3) := by decide +kernel
theorem d_Model_at_85 : decode b_Model_at 85 = .ok (.ifCond .ne (33), 3) := by decide +kernel
theorem d_Model_at_88 : decode b_Model_at 88 = .ok (.aload_n 0, 1) := by decide +kernel
theorem d_Model_at_89 : decode b_Model_at 89 = .ok (.getfield 135, 3) := by decide +kernel
theorem d_Model_at_92 : decode b_Model_at 92 = .ok (.ifCond .le (26), 3) := by decide +kernel
theorem d_Model_at_95 : decode b_Model_at 95 = .ok (.iload_n 2, 1) := by decide +kernel
theorem d_Model_at_96 : decode b_Model_at 96 = .ok (.ifCond .eq (16), 3) := by decide +kernel
theorem d_Model_at_99 : decode b_Model_at 99 = .ok (.aload_n 0, 1) := by decide +kernel
theorem d_Model_at_100 : decode b_Model_at 100 = .ok (.getfield 13, 3) := by decide +kernel
theorem d_Model_at_103 : decode b_Model_at 103 = .ok (.aload_n 0, 1) := by decide +kernel
theorem d_Model_at_104 : decode b_Model_at 104 = .ok (.getfield 144, 3) := by decide +kernel
theorem d_Model_at_107 : decode b_Model_at 107 = .ok (.iaload, 1) := by decide +kernel
theorem d_Model_at_108 : decode b_Model_at 108 = .ok (.iload_n 1, 1) := by decide +kernel
theorem d_Model_at_109 : decode b_Model_at 109 = .ok (.if_icmp .ne (9), 3) := by decide +kernel
theorem d_Model_at_112 : decode b_Model_at 112 = .ok (.aload_n 0, 1) := by decide +kernel
theorem d_Model_at_113 : decode b_Model_at 113 = .ok (.iload_n 1, 1) := by decide +kernel
theorem d_Model_at_114 : decode b_Model_at 114 = .ok (.invokevirtual 150, 3) := by decide +kernel
theorem d_Model_at_117 : decode b_Model_at 117 = .ok (.ireturn, 1) := by decide +kernel
theorem d_Model_at_118 : decode b_Model_at 118 = .ok (.aload_n 0, 1) := by decide +kernel
theorem d_Model_at_119 : decode b_Model_at 119 = .ok (.getfield 132, 3) := by decide +kernel
theorem d_Model_at_122 : decode b_Model_at 122 = .ok (.ifCond .ne (15), 3) := by decide +kernel
theorem d_Model_at_125 : decode b_Model_at 125 = .ok (.aload_n 0, 1) := by decide +kernel
theorem d_Model_at_126 : decode b_Model_at 126 = .ok (.getfield 13, 3) := by decide +kernel
theorem d_Model_at_129 : decode b_Model_at 129 = .ok (.iload_n 3, 1) := by decide +kernel
theorem d_Model_at_130 : decode b_Model_at 130 = .ok (.iaload, 1) := by decide +kernel
theorem d_Model_at_131 : decode b_Model_at 131 = .ok (.iload_n 1, 1) := by decide +kernel
theorem d_Model_at_132 : decode b_Model_at 132 = .ok (.if_icmp .ne (5), 3) := by decide +kernel
theorem d_Model_at_135 : decode b_Model_at 135 = .ok (.iconst 0, 1) := by decide +kernel
theorem d_Model_at_136 : decode b_Model_at 136 = .ok (.ireturn, 1) := by decide +kernel
theorem d_Model_at_137 : decode b_Model_at 137 = .ok (.aload_n 0, 1) := by decide +kernel
theorem d_Model_at_138 : decode b_Model_at 138 = .ok (.iload_n 1, 1) := by decide +kernel
theorem d_Model_at_139 : decode b_Model_at 139 = .ok (.iload_n 3, 1) := by decide +kernel
theorem d_Model_at_140 : decode b_Model_at 140 = .ok (.invokevirtual 86, 3) := by decide +kernel
theorem d_Model_at_143 : decode b_Model_at 143 = .ok (.istore 4, 2) := by decide +kernel
theorem d_Model_at_145 : decode b_Model_at 145 = .ok (.iload 4, 2) := by decide +kernel
theorem d_Model_at_147 : decode b_Model_at 147 = .ok (.iconst (-1), 1) := by decide +kernel
theorem d_Model_at_148 : decode b_Model_at 148 = .ok (.if_icmp .ne (5), 3) := by decide +kernel
theorem d_Model_at_151 : decode b_Model_at 151 = .ok (.iconst 1, 1) := by decide +kernel
theorem d_Model_at_152 : decode b_Model_at 152 = .ok (.ireturn, 1) := by decide +kernel
theorem d_Model_at_153 : decode b_Model_at 153 = .ok (.aload_n 0, 1) := by decide +kernel
theorem d_Model_at_154 : decode b_Model_at 154 = .ok (.getfield 22, 3) := by decide +kernel
theorem d_Model_at_157 : decode b_Model_at 157 = .ok (.bipush 24, 2) := by decide +kernel
theorem d_Model_at_159 : decode b_Model_at 159 = .ok (.iload_n 1, 1) := by decide +kernel
theorem d_Model_at_160 : decode b_Model_at 160 = .ok (.imul, 1) := by decide +kernel
theorem d_Model_at_161 : decode b_Model_at 161 = .ok (.iconst 4, 1) := by decide +kernel
theorem d_Model_at_162 : decode b_Model_at 162 = .ok (.iload 4, 2) := by decide +kernel
theorem d_Model_at_164 : decode b_Model_at 164 = .ok (.imul, 1) := by decide +kernel
theorem d_Model_at_165 : decode b_Model_at 165 = .ok (.iadd, 1) := by decide +kernel
theorem d_Model_at_166 : decode b_Model_at 166 = .ok (.iload_n 3, 1) := by decide +kernel
theorem d_Model_at_167 : decode b_Model_at 167 = .ok (.iadd, 1) := by decide +kernel
theorem d_Model_at_168 : decode b_Model_at 168 = .ok (.iaload, 1) := by decide +kernel
theorem d_Model_at_169 : decode b_Model_at 169 = .ok (.istore 5, 2) := by decide +kernel
theorem d_Model_at_171 : decode b_Model_at 171 = .ok (.iload 5, 2) := by decide +kernel
theorem d_Model_at_173 : decode b_Model_at 173 = .ok (.ifCond .ne (19), 3) := by decide +kernel
theorem d_Model_at_176 : decode b_Model_at 176 = .ok (.aload_n 0, 1) := by decide +kernel
theorem d_Model_at_177 : decode b_Model_at 177 = .ok (.getfield 132, 3) := by decide +kernel
theorem d_Model_at_180 : decode b_Model_at 180 = .ok (.ifCond .gt (10), 3) := by decide +kernel
theorem d_Model_at_183 : decode b_Model_at 183 = .ok (.aload_n 0, 1) := by decide +kernel
theorem d_Model_at_184 : decode b_Model_at 184 = .ok (.getfield 135, 3) := by decide +kernel
theorem d_Model_at_187 : decode b_Model_at 187 = .ok (.ifCond .le (5), 3) := by decide +kernel
theorem d_Model_at_190 : decode b_Model_at 190 = .ok (.iconst 4, 1) := by decide +kernel
theorem d_Model_at_191 : decode b_Model_at 191 = .ok (.ireturn, 1) := by decide +kernel
theorem d_Model_at_192 : decode b_Model_at 192 = .ok (.aload_n 0, 1) := by decide +kernel
theorem d_Model_at_193 : decode b_Model_at 193 = .ok (.iload 5, 2) := by decide +kernel
theorem d_Model_at_195 : decode b_Model_at 195 = .ok (.putfield 132, 3) := by decide +kernel
theorem d_Model_at_198 : decode b_Model_at 198 = .ok (.aload_n 0, 1) := by decide +kernel
theorem d_Model_at_199 : decode b_Model_at 199 = .ok (.getfield 138, 3) := by decide +kernel
theorem d_Model_at_202 : decode b_Model_at 202 = .ok (.iconst 1, 1) := by decide +kernel
theorem d_Model_at_203 : decode b_Model_at 203 = .ok (.if_icmp .ne (7), 3) := by decide +kernel
theorem d_Model_at_206 : decode b_Model_at 206 = .ok (.iconst 2, 1) := by decide +kernel
theorem d_Model_at_207 : decode b_Model_at 207 = .ok (.goto (8), 3) := by decide +kernel
theorem d_Model_at_210 : decode b_Model_at 210 = .ok (.bipush 8, 2) := by decide +kernel
theorem d_Model_at_212 : decode b_Model_at 212 = .ok (.iload 4, 2) := by decide +kernel
theorem d_Model_at_214 : decode b_Model_at 214 = .ok (.iadd, 1) := by decide +kernel
theorem d_Model_at_215 : decode b_Model_at 215 = .ok (.ireturn, 1) := by decide +kernel
theorem k_Model_at : Cond.code y_Model_at b_Model_at 6 (some .int) ∈ WS := ws_t 816 (by decide +kernel) (by decide +kernel)
theorem hd_Model_at : y_Model_at.cls = R_Model ∧ y_Model_at.cls ≠ "java/lang/invoke/MethodHandle" ∧ y_Model_at.cls ≠ "java/lang/invoke/VarHandle" ∧ (parseMethodDescriptor y_Model_at.desc).map (fun d => d.parameters.length) = some 2 := by decide +kernel
abbrev b_Model_send : ByteArray := prog_7_method_37_code
abbrev y_Model_send : MethodName := ⟨"LabelRoadsModel", "send", "(IIII)I"⟩
theorem d_Model_send_0 : decode b_Model_send 0 = .ok (.aload_n 0, 1) := by decide +kernel
theorem d_Model_send_1 : decode b_Model_send 1 = .ok (.aload_n 0, 1) := by decide +kernel
theorem d_Model_send_2 : decode b_Model_send 2 = .ok (.iload_n 1, 1) := by decide +kernel
theorem d_Model_send_3 : decode b_Model_send 3 = .ok (.invokevirtual 64, 3) := by decide +kernel
theorem d_Model_send_6 : decode b_Model_send 6 = .ok (.ifCond .eq (37), 3) := by decide +kernel
theorem d_Model_send_9 : decode b_Model_send 9 = .ok (.iload_n 2, 1) := by decide +kernel
theorem d_Model_send_10 : decode b_Model_send 10 = .ok (.iconst 0, 1) := by decide +kernel
theorem d_Model_send_11 : decode b_Model_send 11 = .ok (.iconst 3, 1) := by decide +kernel
theorem d_Model_send_12 : decode b_Model_send 12 = .ok (.invokestatic 60, 3) := by decide +kernel
theorem d_Model_send_15 : decode b_Model_send 15 = .ok (.ifCond .eq (28), 3) := by decide +kernel
theorem d_Model_send_18 : decode b_Model_send 18 = .ok (.iload_n 3, 1) := by decide +kernel
theorem d_Model_send_19 : decode b_Model_send 19 = .ok (.iconst (-1), 1) := by decide +kernel
theorem d_Model_send_20 : decode b_Model_send 20 = .ok (.iconst 3, 1) := by decide +kernel
theorem d_Model_send_21 : decode b_Model_send 21 = .ok (.invokestatic 60, 3) := by decide +kernel
theorem d_Model_send_24 : decode b_Model_send 24 = .ok (.ifCond .eq (19), 3) := by decide +kernel
theorem d_Model_send_27 : decode b_Model_send 27 = .ok (.iload 4, 2) := by decide +kernel
theorem d_Model_send_29 : decode b_Model_send 29 = .ok (.iconst 1, 1) := by decide +kernel
theorem d_Model_send_30 : decode b_Model_send 30 = .ok (.sipush 255, 3) := by decide +kernel
theorem d_Model_send_33 : decode b_Model_send 33 = .ok (.invokestatic 60, 3) := by decide +kernel
theorem d_Model_send_36 : decode b_Model_send 36 = .ok (.ifCond .eq (7), 3) := by decide +kernel
theorem d_Model_send_39 : decode b_Model_send 39 = .ok (.iconst 1, 1) := by decide +kernel
theorem d_Model_send_40 : decode b_Model_send 40 = .ok (.goto (4), 3) := by decide +kernel
theorem d_Model_send_43 : decode b_Model_send 43 = .ok (.iconst 0, 1) := by decide +kernel
theorem d_Model_send_44 : decode b_Model_send 44 = .ok (.invokevirtual 109, 3) := by decide +kernel
theorem d_Model_send_47 : decode b_Model_send 47 = .ok (.ifCond .ne (5), 3) := by decide +kernel
theorem d_Model_send_50 : decode b_Model_send 50 = .ok (.iconst 0, 1) := by decide +kernel
theorem d_Model_send_51 : decode b_Model_send 51 = .ok (.ireturn, 1) := by decide +kernel
theorem d_Model_send_52 : decode b_Model_send 52 = .ok (.aload_n 0, 1) := by decide +kernel
theorem d_Model_send_53 : decode b_Model_send 53 = .ok (.iload_n 2, 1) := by decide +kernel
theorem d_Model_send_54 : decode b_Model_send 54 = .ok (.putfield 144, 3) := by decide +kernel
theorem d_Model_send_57 : decode b_Model_send 57 = .ok (.aload_n 0, 1) := by decide +kernel
theorem d_Model_send_58 : decode b_Model_send 58 = .ok (.iconst 0, 1) := by decide +kernel
theorem d_Model_send_59 : decode b_Model_send 59 = .ok (.putfield 132, 3) := by decide +kernel
theorem d_Model_send_62 : decode b_Model_send 62 = .ok (.aload_n 0, 1) := by decide +kernel
theorem d_Model_send_63 : decode b_Model_send 63 = .ok (.iload_n 3, 1) := by decide +kernel
theorem d_Model_send_64 : decode b_Model_send 64 = .ok (.iconst (-1), 1) := by decide +kernel
theorem d_Model_send_65 : decode b_Model_send 65 = .ok (.if_icmp .ne (7), 3) := by decide +kernel
theorem d_Model_send_68 : decode b_Model_send 68 = .ok (.iconst 0, 1) := by decide +kernel
theorem d_Model_send_69 : decode b_Model_send 69 = .ok (.goto (7), 3) := by decide +kernel
theorem d_Model_send_72 : decode b_Model_send 72 = .ok (.bipush 32, 2) := by decide +kernel
theorem d_Model_send_74 : decode b_Model_send 74 = .ok (.iload_n 3, 1) := by decide +kernel
theorem d_Model_send_75 : decode b_Model_send 75 = .ok (.iadd, 1) := by decide +kernel
theorem d_Model_send_76 : decode b_Model_send 76 = .ok (.putfield 135, 3) := by decide +kernel
theorem d_Model_send_79 : decode b_Model_send 79 = .ok (.aload_n 0, 1) := by decide +kernel
theorem d_Model_send_80 : decode b_Model_send 80 = .ok (.iload 4, 2) := by decide +kernel
theorem d_Model_send_82 : decode b_Model_send 82 = .ok (.putfield 138, 3) := by decide +kernel
theorem d_Model_send_85 : decode b_Model_send 85 = .ok (.aload_n 0, 1) := by decide +kernel
theorem d_Model_send_86 : decode b_Model_send 86 = .ok (.iload 4, 2) := by decide +kernel
theorem d_Model_send_88 : decode b_Model_send 88 = .ok (.putfield 141, 3) := by decide +kernel
theorem d_Model_send_91 : decode b_Model_send 91 = .ok (.aload_n 0, 1) := by decide +kernel
theorem d_Model_send_92 : decode b_Model_send 92 = .ok (.iconst 0, 1) := by decide +kernel
theorem d_Model_send_93 : decode b_Model_send 93 = .ok (.putfield 129, 3) := by decide +kernel
theorem d_Model_send_96 : decode b_Model_send 96 = .ok (.aload_n 0, 1) := by decide +kernel
theorem d_Model_send_97 : decode b_Model_send 97 = .ok (.iload_n 1, 1) := by decide +kernel
theorem d_Model_send_98 : decode b_Model_send 98 = .ok (.invokevirtual 153, 3) := by decide +kernel
theorem d_Model_send_101 : decode b_Model_send 101 = .ok (.aload_n 0, 1) := by decide +kernel
theorem d_Model_send_102 : decode b_Model_send 102 = .ok (.iload_n 1, 1) := by decide +kernel
theorem d_Model_send_103 : decode b_Model_send 103 = .ok (.iconst 1, 1) := by decide +kernel
theorem d_Model_send_104 : decode b_Model_send 104 = .ok (.invokevirtual 156, 3) := by decide +kernel
theorem d_Model_send_107 : decode b_Model_send 107 = .ok (.istore 5, 2) := by decide +kernel
theorem d_Model_send_109 : decode b_Model_send 109 = .ok (.iload 5, 2) := by decide +kernel
theorem d_Model_send_111 : decode b_Model_send 111 = .ok (.bipush 8, 2) := by decide +kernel
theorem d_Model_send_113 : decode b_Model_send 113 = .ok (.if_icmp .lt (38), 3) := by decide +kernel
theorem d_Model_send_116 : decode b_Model_send 116 = .ok (.iload 5, 2) := by decide +kernel
theorem d_Model_send_118 : decode b_Model_send 118 = .ok (.bipush 8, 2) := by decide +kernel
theorem d_Model_send_120 : decode b_Model_send 120 = .ok (.isub, 1) := by decide +kernel
theorem d_Model_send_121 : decode b_Model_send 121 = .ok (.istore 6, 2) := by decide +kernel
theorem d_Model_send_123 : decode b_Model_send 123 = .ok (.aload_n 0, 1) := by decide +kernel
theorem d_Model_send_124 : decode b_Model_send 124 = .ok (.dup, 1) := by decide +kernel
theorem d_Model_send_125 : decode b_Model_send 125 = .ok (.getfield 138, 3) := by decide +kernel
theorem d_Model_send_128 : decode b_Model_send 128 = .ok (.iconst 1, 1) := by decide +kernel
theorem d_Model_send_129 : decode b_Model_send 129 = .ok (.isub, 1) := by decide +kernel
theorem d_Model_send_130 : decode b_Model_send 130 = .ok (.putfield 138, 3) := by decide +kernel
theorem d_Model_send_133 : decode b_Model_send 133 = .ok (.aload_n 0, 1) := by decide +kernel
theorem d_Model_send_134 : decode b_Model_send 134 = .ok (.iload 6, 2) := by decide +kernel
theorem d_Model_send_136 : decode b_Model_send 136 = .ok (.invokevirtual 153, 3) := by decide +kernel
theorem d_Model_send_139 : decode b_Model_send 139 = .ok (.aload_n 0, 1) := by decide +kernel
theorem d_Model_send_140 : decode b_Model_send 140 = .ok (.iload 6, 2) := by decide +kernel
theorem d_Model_send_142 : decode b_Model_send 142 = .ok (.iconst 0, 1) := by decide +kernel
theorem d_Model_send_143 : decode b_Model_send 143 = .ok (.invokevirtual 156, 3) := by decide +kernel
theorem d_Model_send_146 : decode b_Model_send 146 = .ok (.istore 5, 2) := by decide +kernel
theorem d_Model_send_148 : decode b_Model_send 148 = .ok (.goto (-39), 3) := by decide +kernel
theorem d_Model_send_151 : decode b_Model_send 151 = .ok (.iload 5, 2) := by decide +kernel
theorem d_Model_send_153 : decode b_Model_send 153 = .ok (.ireturn, 1) := by decide +kernel
theorem k_Model_send : Cond.code y_Model_send b_Model_send 7 (some .int) ∈ WS := ws_t 808 (by decide +kernel) (by decide +kernel)
theorem hd_Model_send : y_Model_send.cls = R_Model ∧ y_Model_send.cls ≠ "java/lang/invoke/MethodHandle" ∧ y_Model_send.cls ≠ "java/lang/invoke/VarHandle" ∧ (parseMethodDescriptor y_Model_send.desc).map (fun d => d.parameters.length) = some 4 := by decide +kernel
abbrev b_Model_hops : ByteArray := prog_7_method_38_code
abbrev y_Model_hops : MethodName := ⟨"LabelRoadsModel", "hops", "()I"⟩
theorem d_Model_hops_0 : decode b_Model_hops 0 = .ok (.aload_n 0, 1) := by decide +kernel
theorem d_Model_hops_1 : decode b_Model_hops 1 = .ok (.iconst 0, 1) := by decide +kernel
theorem d_Model_hops_2 : decode b_Model_hops 2 = .ok (.putfield 57, 3) := by decide +kernel
theorem d_Model_hops_5 : decode b_Model_hops 5 = .ok (.aload_n 0, 1) := by decide +kernel
theorem d_Model_hops_6 : decode b_Model_hops 6 = .ok (.getfield 129, 3) := by decide +kernel
theorem d_Model_hops_9 : decode b_Model_hops 9 = .ok (.ireturn, 1) := by decide +kernel
theorem k_Model_hops : Cond.code y_Model_hops b_Model_hops 1 (some .int) ∈ WS := ws_t 828 (by decide +kernel) (by decide +kernel)
theorem hd_Model_hops : y_Model_hops.cls = R_Model ∧ y_Model_hops.cls ≠ "java/lang/invoke/MethodHandle" ∧ y_Model_hops.cls ≠ "java/lang/invoke/VarHandle" ∧ (parseMethodDescriptor y_Model_hops.desc).map (fun d => d.parameters.length) = some 0 := by decide +kernel
abbrev b_Model_hop : ByteArray := prog_7_method_39_code
abbrev y_Model_hop : MethodName := ⟨"LabelRoadsModel", "hop", "(I)I"⟩
theorem d_Model_hop_0 : decode b_Model_hop 0 = .ok (.aload_n 0, 1) := by decide +kernel
theorem d_Model_hop_1 : decode b_Model_hop 1 = .ok (.iload_n 1, 1) := by decide +kernel
theorem d_Model_hop_2 : decode b_Model_hop 2 = .ok (.iconst 0, 1) := by decide +kernel
theorem d_Model_hop_3 : decode b_Model_hop 3 = .ok (.aload_n 0, 1) := by decide +kernel
theorem d_Model_hop_4 : decode b_Model_hop 4 = .ok (.getfield 129, 3) := by decide +kernel
theorem d_Model_hop_7 : decode b_Model_hop 7 = .ok (.iconst 1, 1) := by decide +kernel
theorem d_Model_hop_8 : decode b_Model_hop 8 = .ok (.isub, 1) := by decide +kernel
theorem d_Model_hop_9 : decode b_Model_hop 9 = .ok (.invokestatic 60, 3) := by decide +kernel
theorem d_Model_hop_12 : decode b_Model_hop 12 = .ok (.invokevirtual 109, 3) := by decide +kernel
theorem d_Model_hop_15 : decode b_Model_hop 15 = .ok (.ifCond .eq (12), 3) := by decide +kernel
theorem d_Model_hop_18 : decode b_Model_hop 18 = .ok (.aload_n 0, 1) := by decide +kernel
theorem d_Model_hop_19 : decode b_Model_hop 19 = .ok (.getfield 47, 3) := by decide +kernel
theorem d_Model_hop_22 : decode b_Model_hop 22 = .ok (.iload_n 1, 1) := by decide +kernel
theorem d_Model_hop_23 : decode b_Model_hop 23 = .ok (.iaload, 1) := by decide +kernel
theorem d_Model_hop_24 : decode b_Model_hop 24 = .ok (.goto (4), 3) := by decide +kernel
theorem d_Model_hop_27 : decode b_Model_hop 27 = .ok (.iconst 0, 1) := by decide +kernel
theorem d_Model_hop_28 : decode b_Model_hop 28 = .ok (.ireturn, 1) := by decide +kernel
theorem k_Model_hop : Cond.code y_Model_hop b_Model_hop 2 (some .int) ∈ WS := ws_t 832 (by decide +kernel) (by decide +kernel)
theorem hd_Model_hop : y_Model_hop.cls = R_Model ∧ y_Model_hop.cls ≠ "java/lang/invoke/MethodHandle" ∧ y_Model_hop.cls ≠ "java/lang/invoke/VarHandle" ∧ (parseMethodDescriptor y_Model_hop.desc).map (fun d => d.parameters.length) = some 1 := by decide +kernel
abbrev b_Model_entry : ByteArray := prog_7_method_40_code
abbrev y_Model_entry : MethodName := ⟨"LabelRoadsModel", "entry", "(I)I"⟩
theorem d_Model_entry_0 : decode b_Model_entry 0 = .ok (.aload_n 0, 1) := by decide +kernel
theorem d_Model_entry_1 : decode b_Model_entry 1 = .ok (.iload_n 1, 1) := by decide +kernel
theorem d_Model_entry_2 : decode b_Model_entry 2 = .ok (.iconst 0, 1) := by decide +kernel
theorem d_Model_entry_3 : decode b_Model_entry 3 = .ok (.aload_n 0, 1) := by decide +kernel
theorem d_Model_entry_4 : decode b_Model_entry 4 = .ok (.getfield 129, 3) := by decide +kernel
theorem d_Model_entry_7 : decode b_Model_entry 7 = .ok (.iconst 1, 1) := by decide +kernel
theorem d_Model_entry_8 : decode b_Model_entry 8 = .ok (.isub, 1) := by decide +kernel
theorem d_Model_entry_9 : decode b_Model_entry 9 = .ok (.invokestatic 60, 3) := by decide +kernel
theorem d_Model_entry_12 : decode b_Model_entry 12 = .ok (.invokevirtual 109, 3) := by decide +kernel
theorem d_Model_entry_15 : decode b_Model_entry 15 = .ok (.ifCond .eq (12), 3) := by decide +kernel
theorem d_Model_entry_18 : decode b_Model_entry 18 = .ok (.aload_n 0, 1) := by decide +kernel
theorem d_Model_entry_19 : decode b_Model_entry 19 = .ok (.getfield 50, 3) := by decide +kernel
theorem d_Model_entry_22 : decode b_Model_entry 22 = .ok (.iload_n 1, 1) := by decide +kernel
theorem d_Model_entry_23 : decode b_Model_entry 23 = .ok (.iaload, 1) := by decide +kernel
theorem d_Model_entry_24 : decode b_Model_entry 24 = .ok (.goto (4), 3) := by decide +kernel
theorem d_Model_entry_27 : decode b_Model_entry 27 = .ok (.iconst 0, 1) := by decide +kernel
theorem d_Model_entry_28 : decode b_Model_entry 28 = .ok (.ireturn, 1) := by decide +kernel
theorem k_Model_entry : Cond.code y_Model_entry b_Model_entry 2 (some .int) ∈ WS := ws_t 836 (by decide +kernel) (by decide +kernel)
theorem hd_Model_entry : y_Model_entry.cls = R_Model ∧ y_Model_entry.cls ≠ "java/lang/invoke/MethodHandle" ∧ y_Model_entry.cls ≠ "java/lang/invoke/VarHandle" ∧ (parseMethodDescriptor y_Model_entry.desc).map (fun d => d.parameters.length) = some 1 := by decide +kernel
