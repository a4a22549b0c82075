abbrev b_Router_labelOf : ByteArray := prog_4_method_2_code
abbrev y_Router_labelOf : MethodName := ⟨"LabelRoads$Router", "labelOf", "(I)I"⟩
theorem d_Router_labelOf_0 : decode b_Router_labelOf 0 = .ok (.aload_n 0, 1) := by decide +kernel
theorem d_Router_labelOf_1 : decode b_Router_labelOf 1 = .ok (.getfield 9, 3) := by decide +kernel
theorem d_Router_labelOf_4 : decode b_Router_labelOf 4 = .ok (.iload_n 1, 1) := by decide +kernel
theorem d_Router_labelOf_5 : decode b_Router_labelOf 5 = .ok (.iaload, 1) := by decide +kernel
theorem d_Router_labelOf_6 : decode b_Router_labelOf 6 = .ok (.ireturn, 1) := by decide +kernel
theorem k_Router_labelOf : Cond.code y_Router_labelOf b_Router_labelOf 2 (some .int) ∈ WS := ws_t 302 (by decide +kernel) (by decide +kernel)
theorem hd_Router_labelOf : y_Router_labelOf.cls = R_Router ∧ y_Router_labelOf.cls ≠ "java/lang/invoke/MethodHandle" ∧ y_Router_labelOf.cls ≠ "java/lang/invoke/VarHandle" ∧ (parseMethodDescriptor y_Router_labelOf.desc).map (fun d => d.parameters.length) = some 1 := by decide +kernel
abbrev b_Router_setLabel : ByteArray := prog_4_method_3_code
abbrev y_Router_setLabel : MethodName := ⟨"LabelRoads$Router", "setLabel", "(II)V"⟩
theorem d_Router_setLabel_0 : decode b_Router_setLabel 0 = .ok (.aload_n 0, 1) := by decide +kernel
theorem d_Router_setLabel_1 : decode b_Router_setLabel 1 = .ok (.getfield 9, 3) := by decide +kernel
theorem d_Router_setLabel_4 : decode b_Router_setLabel 4 = .ok (.iload_n 1, 1) := by decide +kernel
theorem d_Router_setLabel_5 : decode b_Router_setLabel 5 = .ok (.iload_n 2, 1) := by decide +kernel
theorem d_Router_setLabel_6 : decode b_Router_setLabel 6 = .ok (.iastore, 1) := by decide +kernel
theorem d_Router_setLabel_7 : decode b_Router_setLabel 7 = .ok (.return_, 1) := by decide +kernel
theorem k_Router_setLabel : Cond.code y_Router_setLabel b_Router_setLabel 3 (none) ∈ WS := ws_t 350 (by decide +kernel) (by decide +kernel)
theorem hd_Router_setLabel : y_Router_setLabel.cls = R_Router ∧ y_Router_setLabel.cls ≠ "java/lang/invoke/MethodHandle" ∧ y_Router_setLabel.cls ≠ "java/lang/invoke/VarHandle" ∧ (parseMethodDescriptor y_Router_setLabel.desc).map (fun d => d.parameters.length) = some 2 := by decide +kernel
abbrev b_Router_prefixOf : ByteArray := prog_4_method_4_code
abbrev y_Router_prefixOf : MethodName := ⟨"LabelRoads$Router", "prefixOf", "(I)I"⟩
theorem d_Router_prefixOf_0 : decode b_Router_prefixOf 0 = .ok (.iconst 0, 1) := by decide +kernel
theorem d_Router_prefixOf_1 : decode b_Router_prefixOf 1 = .ok (.istore_n 2, 1) := by decide +kernel
theorem d_Router_prefixOf_2 : decode b_Router_prefixOf 2 = .ok (.iload_n 2, 1) := by decide +kernel
theorem d_Router_prefixOf_3 : decode b_Router_prefixOf 3 = .ok (.iconst 4, 1) := by decide +kernel
theorem d_Router_prefixOf_4 : decode b_Router_prefixOf 4 = .ok (.if_icmp .ge (21), 3) := by decide +kernel
theorem d_Router_prefixOf_7 : decode b_Router_prefixOf 7 = .ok (.aload_n 0, 1) := by decide +kernel
theorem d_Router_prefixOf_8 : decode b_Router_prefixOf 8 = .ok (.getfield 9, 3) := by decide +kernel
theorem d_Router_prefixOf_11 : decode b_Router_prefixOf 11 = .ok (.iload_n 2, 1) := by decide +kernel
theorem d_Router_prefixOf_12 : decode b_Router_prefixOf 12 = .ok (.iaload, 1) := by decide +kernel
theorem d_Router_prefixOf_13 : decode b_Router_prefixOf 13 = .ok (.iload_n 1, 1) := by decide +kernel
theorem d_Router_prefixOf_14 : decode b_Router_prefixOf 14 = .ok (.if_icmp .ne (5), 3) := by decide +kernel
theorem d_Router_prefixOf_17 : decode b_Router_prefixOf 17 = .ok (.iload_n 2, 1) := by decide +kernel
theorem d_Router_prefixOf_18 : decode b_Router_prefixOf 18 = .ok (.ireturn, 1) := by decide +kernel
theorem d_Router_prefixOf_19 : decode b_Router_prefixOf 19 = .ok (.iinc 2 (1), 3) := by decide +kernel
theorem d_Router_prefixOf_22 : decode b_Router_prefixOf 22 = .ok (.goto (-20), 3) := by decide +kernel
theorem d_Router_prefixOf_25 : decode b_Router_prefixOf 25 = .ok (.iconst (-1), 1) := by decide +kernel
theorem d_Router_prefixOf_26 : decode b_Router_prefixOf 26 = .ok (.ireturn, 1) := by decide +kernel
theorem k_Router_prefixOf : Cond.code y_Router_prefixOf b_Router_prefixOf 3 (some .int) ∈ WS := ws_t 554 (by decide +kernel) (by decide +kernel)
theorem hd_Router_prefixOf : y_Router_prefixOf.cls = R_Router ∧ y_Router_prefixOf.cls ≠ "java/lang/invoke/MethodHandle" ∧ y_Router_prefixOf.cls ≠ "java/lang/invoke/VarHandle" ∧ (parseMethodDescriptor y_Router_prefixOf.desc).map (fun d => d.parameters.length) = some 1 := by decide +kernel
abbrev b_Router_takenBits : ByteArray := prog_4_method_7_code
abbrev y_Router_takenBits : MethodName := ⟨"LabelRoads$Router", "takenBits", "()I"⟩
theorem d_Router_takenBits_0 : decode b_Router_takenBits 0 = .ok (.iconst 0, 1) := by decide +kernel
theorem d_Router_takenBits_1 : decode b_Router_takenBits 1 = .ok (.istore_n 1, 1) := by decide +kernel
theorem d_Router_takenBits_2 : decode b_Router_takenBits 2 = .ok (.iconst 0, 1) := by decide +kernel
theorem d_Router_takenBits_3 : decode b_Router_takenBits 3 = .ok (.istore_n 2, 1) := by decide +kernel
theorem d_Router_takenBits_4 : decode b_Router_takenBits 4 = .ok (.iload_n 2, 1) := by decide +kernel
theorem d_Router_takenBits_5 : decode b_Router_takenBits 5 = .ok (.bipush 8, 2) := by decide +kernel
theorem d_Router_takenBits_7 : decode b_Router_takenBits 7 = .ok (.if_icmp .ge (24), 3) := by decide +kernel
theorem d_Router_takenBits_10 : decode b_Router_takenBits 10 = .ok (.aload_n 0, 1) := by decide +kernel
theorem d_Router_takenBits_11 : decode b_Router_takenBits 11 = .ok (.getfield 20, 3) := by decide +kernel
theorem d_Router_takenBits_14 : decode b_Router_takenBits 14 = .ok (.iload_n 2, 1) := by decide +kernel
theorem d_Router_takenBits_15 : decode b_Router_takenBits 15 = .ok (.iaload, 1) := by decide +kernel
theorem d_Router_takenBits_16 : decode b_Router_takenBits 16 = .ok (.ifCond .eq (9), 3) := by decide +kernel
theorem d_Router_takenBits_19 : decode b_Router_takenBits 19 = .ok (.iload_n 1, 1) := by decide +kernel
theorem d_Router_takenBits_20 : decode b_Router_takenBits 20 = .ok (.iconst 1, 1) := by decide +kernel
theorem d_Router_takenBits_21 : decode b_Router_takenBits 21 = .ok (.iload_n 2, 1) := by decide +kernel
theorem d_Router_takenBits_22 : decode b_Router_takenBits 22 = .ok (.ishl, 1) := by decide +kernel
theorem d_Router_takenBits_23 : decode b_Router_takenBits 23 = .ok (.ior, 1) := by decide +kernel
theorem d_Router_takenBits_24 : decode b_Router_takenBits 24 = .ok (.istore_n 1, 1) := by decide +kernel
theorem d_Router_takenBits_25 : decode b_Router_takenBits 25 = .ok (.iinc 2 (1), 3) := by decide +kernel
theorem d_Router_takenBits_28 : decode b_Router_takenBits 28 = .ok (.goto (-24), 3) := by decide +kernel
theorem d_Router_takenBits_31 : decode b_Router_takenBits 31 = .ok (.iconst 0, 1) := by decide +kernel
theorem d_Router_takenBits_32 : decode b_Router_takenBits 32 = .ok (.istore_n 2, 1) := by decide +kernel
theorem d_Router_takenBits_33 : decode b_Router_takenBits 33 = .ok (.iload_n 2, 1) := by decide +kernel
theorem d_Router_takenBits_34 : decode b_Router_takenBits 34 = .ok (.iconst 4, 1) := by decide +kernel
theorem d_Router_takenBits_35 : decode b_Router_takenBits 35 = .ok (.if_icmp .ge (32), 3) := by decide +kernel
theorem d_Router_takenBits_38 : decode b_Router_takenBits 38 = .ok (.aload_n 0, 1) := by decide +kernel
theorem d_Router_takenBits_39 : decode b_Router_takenBits 39 = .ok (.getfield 9, 3) := by decide +kernel
theorem d_Router_takenBits_42 : decode b_Router_takenBits 42 = .ok (.iload_n 2, 1) := by decide +kernel
theorem d_Router_takenBits_43 : decode b_Router_takenBits 43 = .ok (.iaload, 1) := by decide +kernel
theorem d_Router_takenBits_44 : decode b_Router_takenBits 44 = .ok (.ifCond .eq (17), 3) := by decide +kernel
theorem d_Router_takenBits_47 : decode b_Router_takenBits 47 = .ok (.iload_n 1, 1) := by decide +kernel
theorem d_Router_takenBits_48 : decode b_Router_takenBits 48 = .ok (.iconst 1, 1) := by decide +kernel
theorem d_Router_takenBits_49 : decode b_Router_takenBits 49 = .ok (.aload_n 0, 1) := by decide +kernel
theorem d_Router_takenBits_50 : decode b_Router_takenBits 50 = .ok (.getfield 9, 3) := by decide +kernel
theorem d_Router_takenBits_53 : decode b_Router_takenBits 53 = .ok (.iload_n 2, 1) := by decide +kernel
theorem d_Router_takenBits_54 : decode b_Router_takenBits 54 = .ok (.iaload, 1) := by decide +kernel
theorem d_Router_takenBits_55 : decode b_Router_takenBits 55 = .ok (.bipush 16, 2) := by decide +kernel
theorem d_Router_takenBits_57 : decode b_Router_takenBits 57 = .ok (.isub, 1) := by decide +kernel
theorem d_Router_takenBits_58 : decode b_Router_takenBits 58 = .ok (.ishl, 1) := by decide +kernel
theorem d_Router_takenBits_59 : decode b_Router_takenBits 59 = .ok (.ior, 1) := by decide +kernel
theorem d_Router_takenBits_60 : decode b_Router_takenBits 60 = .ok (.istore_n 1, 1) := by decide +kernel
theorem d_Router_takenBits_61 : decode b_Router_takenBits 61 = .ok (.iinc 2 (1), 3) := by decide +kernel
theorem d_Router_takenBits_64 : decode b_Router_takenBits 64 = .ok (.goto (-31), 3) := by decide +kernel
theorem d_Router_takenBits_67 : decode b_Router_takenBits 67 = .ok (.iload_n 1, 1) := by decide +kernel
theorem d_Router_takenBits_68 : decode b_Router_takenBits 68 = .ok (.ireturn, 1) := by decide +kernel
theorem k_Router_takenBits : Cond.code y_Router_takenBits b_Router_takenBits 3 (some .int) ∈ WS := ws_t 346 (by decide +kernel) (by decide +kernel)
theorem hd_Router_takenBits : y_Router_takenBits.cls = R_Router ∧ y_Router_takenBits.cls ≠ "java/lang/invoke/MethodHandle" ∧ y_Router_takenBits.cls ≠ "java/lang/invoke/VarHandle" ∧ (parseMethodDescriptor y_Router_takenBits.desc).map (fun d => d.parameters.length) = some 0 := by decide +kernel
abbrev b_Router_leastFree : ByteArray := prog_4_method_5_code
abbrev y_Router_leastFree : MethodName := ⟨"LabelRoads$Router", "leastFree", "()I"⟩
theorem d_Router_leastFree_0 : decode b_Router_leastFree 0 = .ok (.aload_n 0, 1) := by decide +kernel
theorem d_Router_leastFree_1 : decode b_Router_leastFree 1 = .ok (.invokevirtual 23, 3) := by decide +kernel
theorem d_Router_leastFree_4 : decode b_Router_leastFree 4 = .ok (.istore_n 1, 1) := by decide +kernel
theorem d_Router_leastFree_5 : decode b_Router_leastFree 5 = .ok (.iconst 0, 1) := by decide +kernel
theorem d_Router_leastFree_6 : decode b_Router_leastFree 6 = .ok (.istore_n 2, 1) := by decide +kernel
theorem d_Router_leastFree_7 : decode b_Router_leastFree 7 = .ok (.iload_n 2, 1) := by decide +kernel
theorem d_Router_leastFree_8 : decode b_Router_leastFree 8 = .ok (.bipush 8, 2) := by decide +kernel
theorem d_Router_leastFree_10 : decode b_Router_leastFree 10 = .ok (.if_icmp .ge (22), 3) := by decide +kernel
theorem d_Router_leastFree_13 : decode b_Router_leastFree 13 = .ok (.iload_n 1, 1) := by decide +kernel
theorem d_Router_leastFree_14 : decode b_Router_leastFree 14 = .ok (.iload_n 2, 1) := by decide +kernel
theorem d_Router_leastFree_15 : decode b_Router_leastFree 15 = .ok (.ishr, 1) := by decide +kernel
theorem d_Router_leastFree_16 : decode b_Router_leastFree 16 = .ok (.iconst 1, 1) := by decide +kernel
theorem d_Router_leastFree_17 : decode b_Router_leastFree 17 = .ok (.iand, 1) := by decide +kernel
theorem d_Router_leastFree_18 : decode b_Router_leastFree 18 = .ok (.ifCond .ne (8), 3) := by decide +kernel
theorem d_Router_leastFree_21 : decode b_Router_leastFree 21 = .ok (.bipush 16, 2) := by decide +kernel
theorem d_Router_leastFree_23 : decode b_Router_leastFree 23 = .ok (.iload_n 2, 1) := by decide +kernel
theorem d_Router_leastFree_24 : decode b_Router_leastFree 24 = .ok (.iadd, 1) := by decide +kernel
theorem d_Router_leastFree_25 : decode b_Router_leastFree 25 = .ok (.ireturn, 1) := by decide +kernel
theorem d_Router_leastFree_26 : decode b_Router_leastFree 26 = .ok (.iinc 2 (1), 3) := by decide +kernel
theorem d_Router_leastFree_29 : decode b_Router_leastFree 29 = .ok (.goto (-22), 3) := by decide +kernel
theorem d_Router_leastFree_32 : decode b_Router_leastFree 32 = .ok (.iconst 0, 1) := by decide +kernel
theorem d_Router_leastFree_33 : decode b_Router_leastFree 33 = .ok (.ireturn, 1) := by decide +kernel
theorem k_Router_leastFree : Cond.code y_Router_leastFree b_Router_leastFree 3 (some .int) ∈ WS := ws_t 342 (by decide +kernel) (by decide +kernel)
theorem hd_Router_leastFree : y_Router_leastFree.cls = R_Router ∧ y_Router_leastFree.cls ≠ "java/lang/invoke/MethodHandle" ∧ y_Router_leastFree.cls ≠ "java/lang/invoke/VarHandle" ∧ (parseMethodDescriptor y_Router_leastFree.desc).map (fun d => d.parameters.length) = some 0 := by decide +kernel
abbrev b_Int_bitCount : ByteArray := prog_10_method_49_code
abbrev y_Int_bitCount : MethodName := ⟨"java/lang/Integer", "bitCount", "(I)I"⟩
theorem d_Int_bitCount_0 : decode b_Int_bitCount 0 = .ok (.iload_n 0, 1) := by decide +kernel
theorem d_Int_bitCount_1 : decode b_Int_bitCount 1 = .ok (.iload_n 0, 1) := by decide +kernel
theorem d_Int_bitCount_2 : decode b_Int_bitCount 2 = .ok (.iconst 1, 1) := by decide +kernel
theorem d_Int_bitCount_3 : decode b_Int_bitCount 3 = .ok (.iushr, 1) := by decide +kernel
theorem d_Int_bitCount_4 : decode b_Int_bitCount 4 = .ok (.ldc_w 265, 3) := by decide +kernel
theorem d_Int_bitCount_7 : decode b_Int_bitCount 7 = .ok (.iand, 1) := by decide +kernel
theorem d_Int_bitCount_8 : decode b_Int_bitCount 8 = .ok (.isub, 1) := by decide +kernel
theorem d_Int_bitCount_9 : decode b_Int_bitCount 9 = .ok (.istore_n 0, 1) := by decide +kernel
theorem d_Int_bitCount_10 : decode b_Int_bitCount 10 = .ok (.iload_n 0, 1) := by decide +kernel
theorem d_Int_bitCount_11 : decode b_Int_bitCount 11 = .ok (.ldc_w 266, 3) := by decide +kernel
theorem d_Int_bitCount_14 : decode b_Int_bitCount 14 = .ok (.iand, 1) := by decide +kernel
theorem d_Int_bitCount_15 : decode b_Int_bitCount 15 = .ok (.iload_n 0, 1) := by decide +kernel
theorem d_Int_bitCount_16 : decode b_Int_bitCount 16 = .ok (.iconst 2, 1) := by decide +kernel
theorem d_Int_bitCount_17 : decode b_Int_bitCount 17 = .ok (.iushr, 1) := by decide +kernel
theorem d_Int_bitCount_18 : decode b_Int_bitCount 18 = .ok (.ldc_w 266, 3) := by decide +kernel
theorem d_Int_bitCount_21 : decode b_Int_bitCount 21 = .ok (.iand, 1) := by decide +kernel
theorem d_Int_bitCount_22 : decode b_Int_bitCount 22 = .ok (.iadd, 1) := by decide +kernel
theorem d_Int_bitCount_23 : decode b_Int_bitCount 23 = .ok (.istore_n 0, 1) := by decide +kernel
theorem d_Int_bitCount_24 : decode b_Int_bitCount 24 = .ok (.iload_n 0, 1) := by decide +kernel
theorem d_Int_bitCount_25 : decode b_Int_bitCount 25 = .ok (.iload_n 0, 1) := by decide +kernel
theorem d_Int_bitCount_26 : decode b_Int_bitCount 26 = .ok (.iconst 4, 1) := by decide +kernel
theorem d_Int_bitCount_27 : decode b_Int_bitCount 27 = .ok (.iushr, 1) := by decide +kernel
theorem d_Int_bitCount_28 : decode b_Int_bitCount 28 = .ok (.iadd, 1) := by decide +kernel
theorem d_Int_bitCount_29 : decode b_Int_bitCount 29 = .ok (.ldc_w 267, 3) := by decide +kernel
theorem d_Int_bitCount_32 : decode b_Int_bitCount 32 = .ok (.iand, 1) := by decide +kernel
theorem d_Int_bitCount_33 : decode b_Int_bitCount 33 = .ok (.istore_n 0, 1) := by decide +kernel
theorem d_Int_bitCount_34 : decode b_Int_bitCount 34 = .ok (.iload_n 0, 1) := by decide +kernel
theorem d_Int_bitCount_35 : decode b_Int_bitCount 35 = .ok (.iload_n 0, 1) := by decide +kernel
theorem d_Int_bitCount_36 : decode b_Int_bitCount 36 = .ok (.bipush 8, 2) := by decide +kernel
theorem d_Int_bitCount_38 : decode b_Int_bitCount 38 = .ok (.iushr, 1) := by decide +kernel
theorem d_Int_bitCount_39 : decode b_Int_bitCount 39 = .ok (.iadd, 1) := by decide +kernel
theorem d_Int_bitCount_40 : decode b_Int_bitCount 40 = .ok (.istore_n 0, 1) := by decide +kernel
theorem d_Int_bitCount_41 : decode b_Int_bitCount 41 = .ok (.iload_n 0, 1) := by decide +kernel
theorem d_Int_bitCount_42 : decode b_Int_bitCount 42 = .ok (.iload_n 0, 1) := by decide +kernel
theorem d_Int_bitCount_43 : decode b_Int_bitCount 43 = .ok (.bipush 16, 2) := by decide +kernel
theorem d_Int_bitCount_45 : decode b_Int_bitCount 45 = .ok (.iushr, 1) := by decide +kernel
theorem d_Int_bitCount_46 : decode b_Int_bitCount 46 = .ok (.iadd, 1) := by decide +kernel
theorem d_Int_bitCount_47 : decode b_Int_bitCount 47 = .ok (.istore_n 0, 1) := by decide +kernel
theorem d_Int_bitCount_48 : decode b_Int_bitCount 48 = .ok (.iload_n 0, 1) := by decide +kernel
theorem d_Int_bitCount_49 : decode b_Int_bitCount 49 = .ok (.bipush 63, 2) := by decide +kernel
theorem d_Int_bitCount_51 : decode b_Int_bitCount 51 = .ok (.iand, 1) := by decide +kernel
theorem d_Int_bitCount_52 : decode b_Int_bitCount 52 = .ok (.ireturn, 1) := by decide +kernel
theorem k_Int_bitCount : Cond.code y_Int_bitCount b_Int_bitCount 1 (some .int) ∈ WS := ws_t 483 (by decide +kernel) (by decide +kernel)
theorem hd_Int_bitCount : y_Int_bitCount.cls ≠ "java/lang/invoke/MethodHandle" ∧ y_Int_bitCount.cls ≠ "java/lang/invoke/VarHandle" ∧ (parseMethodDescriptor y_Int_bitCount.desc).map (fun d => d.parameters.length) = some 1 := by decide +kernel
abbrev b_Router_takenCount : ByteArray := prog_4_method_6_code
abbrev y_Router_takenCount : MethodName := ⟨"LabelRoads$Router", "takenCount", "()I"⟩
theorem d_Router_takenCount_0 : decode b_Router_takenCount 0 = .ok (.aload_n 0, 1) := by decide +kernel
theorem d_Router_takenCount_1 : decode b_Router_takenCount 1 = .ok (.invokevirtual 23, 3) := by decide +kernel
theorem d_Router_takenCount_4 : decode b_Router_takenCount 4 = .ok (.invokestatic 27, 3) := by decide +kernel
theorem d_Router_takenCount_7 : decode b_Router_takenCount 7 = .ok (.ireturn, 1) := by decide +kernel
theorem k_Router_takenCount : Cond.code y_Router_takenCount b_Router_takenCount 1 (some .int) ∈ WS := ws_t 480 (by decide +kernel) (by decide +kernel)
theorem hd_Router_takenCount : y_Router_takenCount.cls = R_Router ∧ y_Router_takenCount.cls ≠ "java/lang/invoke/MethodHandle" ∧ y_Router_takenCount.cls ≠ "java/lang/invoke/VarHandle" ∧ (parseMethodDescriptor y_Router_takenCount.desc).map (fun d => d.parameters.length) = some 0 := by decide +kernel
abbrev b_Router_awaitRelease : ByteArray := prog_4_method_8_code
abbrev y_Router_awaitRelease : MethodName := ⟨"LabelRoads$Router", "awaitRelease", "(II)V"⟩
theorem d_Router_awaitRelease_0 : decode b_Router_awaitRelease 0 = .ok (.aload_n 0, 1) := by decide +kernel
theorem d_Router_awaitRelease_1 : decode b_Router_awaitRelease 1 = .ok (.getfield 20, 3) := by decide +kernel
theorem d_Router_awaitRelease_4 : decode b_Router_awaitRelease 4 = .ok (.iload_n 1, 1) := by decide +kernel
theorem d_Router_awaitRelease_5 : decode b_Router_awaitRelease 5 = .ok (.bipush 16, 2) := by decide +kernel
theorem d_Router_awaitRelease_7 : decode b_Router_awaitRelease 7 = .ok (.isub, 1) := by decide +kernel
theorem d_Router_awaitRelease_8 : decode b_Router_awaitRelease 8 = .ok (.dup2, 1) := by decide +kernel
theorem d_Router_awaitRelease_9 : decode b_Router_awaitRelease 9 = .ok (.iaload, 1) := by decide +kernel
theorem d_Router_awaitRelease_10 : decode b_Router_awaitRelease 10 = .ok (.iconst 1, 1) := by decide +kernel
theorem d_Router_awaitRelease_11 : decode b_Router_awaitRelease 11 = .ok (.iload_n 2, 1) := by decide +kernel
theorem d_Router_awaitRelease_12 : decode b_Router_awaitRelease 12 = .ok (.ishl, 1) := by decide +kernel
theorem d_Router_awaitRelease_13 : decode b_Router_awaitRelease 13 = .ok (.ior, 1) := by decide +kernel
theorem d_Router_awaitRelease_14 : decode b_Router_awaitRelease 14 = .ok (.iastore, 1) := by decide +kernel
theorem d_Router_awaitRelease_15 : decode b_Router_awaitRelease 15 = .ok (.return_, 1) := by decide +kernel
theorem k_Router_awaitRelease : Cond.code y_Router_awaitRelease b_Router_awaitRelease 3 (none) ∈ WS := ws_t 359 (by decide +kernel) (by decide +kernel)
theorem hd_Router_awaitRelease : y_Router_awaitRelease.cls = R_Router ∧ y_Router_awaitRelease.cls ≠ "java/lang/invoke/MethodHandle" ∧ y_Router_awaitRelease.cls ≠ "java/lang/invoke/VarHandle" ∧ (parseMethodDescriptor y_Router_awaitRelease.desc).map (fun d => d.parameters.length) = some 2 := by decide +kernel
abbrev b_Router_endRelease : ByteArray := prog_4_method_9_code
abbrev y_Router_endRelease : MethodName := ⟨"LabelRoads$Router", "endRelease", "(II)V"⟩
theorem d_Router_endRelease_0 : decode b_Router_endRelease 0 = .ok (.aload_n 0, 1) := by decide +kernel
theorem d_Router_endRelease_1 : decode b_Router_endRelease 1 = .ok (.getfield 20, 3) := by decide +kernel
theorem d_Router_endRelease_4 : decode b_Router_endRelease 4 = .ok (.iload_n 1, 1) := by decide +kernel
theorem d_Router_endRelease_5 : decode b_Router_endRelease 5 = .ok (.bipush 16, 2) := by decide +kernel
theorem d_Router_endRelease_7 : decode b_Router_endRelease 7 = .ok (.isub, 1) := by decide +kernel
theorem d_Router_endRelease_8 : decode b_Router_endRelease 8 = .ok (.dup2, 1) := by decide +kernel
theorem d_Router_endRelease_9 : decode b_Router_endRelease 9 = .ok (.iaload, 1) := by decide +kernel
theorem d_Router_endRelease_10 : decode b_Router_endRelease 10 = .ok (.iconst 1, 1) := by decide +kernel
theorem d_Router_endRelease_11 : decode b_Router_endRelease 11 = .ok (.iload_n 2, 1) := by decide +kernel
theorem d_Router_endRelease_12 : decode b_Router_endRelease 12 = .ok (.ishl, 1) := by decide +kernel
theorem d_Router_endRelease_13 : decode b_Router_endRelease 13 = .ok (.iconst (-1), 1) := by decide +kernel
theorem d_Router_endRelease_14 : decode b_Router_endRelease 14 = .ok (.ixor, 1) := by decide +kernel
theorem d_Router_endRelease_15 : decode b_Router_endRelease 15 = .ok (.iand, 1) := by decide +kernel
theorem d_Router_endRelease_16 : decode b_Router_endRelease 16 = .ok (.iastore, 1) := by decide +kernel
theorem d_Router_endRelease_17 : decode b_Router_endRelease 17 = .ok (.return_, 1) := by decide +kernel
theorem k_Router_endRelease : Cond.code y_Router_endRelease b_Router_endRelease 3 (none) ∈ WS := ws_t 294 (by decide +kernel) (by decide +kernel)
theorem hd_Router_endRelease : y_Router_endRelease.cls = R_Router ∧ y_Router_endRelease.cls ≠ "java/lang/invoke/MethodHandle" ∧ y_Router_endRelease.cls ≠ "java/lang/invoke/VarHandle" ∧ (parseMethodDescriptor y_Router_endRelease.desc).map (fun d => d.parameters.length) = some 2 := by decide +kernel
abbrev b_Router_toldBy : ByteArray := prog_4_method_10_code
abbrev y_Router_toldBy : MethodName := ⟨"LabelRoads$Router", "toldBy", "(II)I"⟩
theorem d_Router_toldBy_0 : decode b_Router_toldBy 0 = .ok (.aload_n 0, 1) := by decide +kernel
theorem d_Router_toldBy_1 : decode b_Router_toldBy 1 = .ok (.getfield 17, 3) := by decide +kernel
theorem d_Router_toldBy_4 : decode b_Router_toldBy 4 = .ok (.iload_n 1, 1) := by decide +kernel
theorem d_Router_toldBy_5 : decode b_Router_toldBy 5 = .ok (.aaload, 1) := by decide +kernel
theorem d_Router_toldBy_6 : decode b_Router_toldBy 6 = .ok (.iload_n 2, 1) := by decide +kernel
theorem d_Router_toldBy_7 : decode b_Router_toldBy 7 = .ok (.iaload, 1) := by decide +kernel
theorem d_Router_toldBy_8 : decode b_Router_toldBy 8 = .ok (.ireturn, 1) := by decide +kernel
theorem k_Router_toldBy : Cond.code y_Router_toldBy b_Router_toldBy 3 (some .int) ∈ WS := ws_t 334 (by decide +kernel) (by decide +kernel)
theorem hd_Router_toldBy : y_Router_toldBy.cls = R_Router ∧ y_Router_toldBy.cls ≠ "java/lang/invoke/MethodHandle" ∧ y_Router_toldBy.cls ≠ "java/lang/invoke/VarHandle" ∧ (parseMethodDescriptor y_Router_toldBy.desc).map (fun d => d.parameters.length) = some 2 := by decide +kernel
abbrev b_Router_hear : ByteArray := prog_4_method_11_code
abbrev y_Router_hear : MethodName := ⟨"LabelRoads$Router", "hear", "(III)V"⟩
theorem d_Router_hear_0 : decode b_Router_hear 0 = .ok (.aload_n 0, 1) := by decide +kernel
theorem d_Router_hear_1 : decode b_Router_hear 1 = .ok (.getfield 17, 3) := by decide +kernel
theorem d_Router_hear_4 : decode b_Router_hear 4 = .ok (.iload_n 1, 1) := by decide +kernel
theorem d_Router_hear_5 : decode b_Router_hear 5 = .ok (.aaload, 1) := by decide +kernel
theorem d_Router_hear_6 : decode b_Router_hear 6 = .ok (.iload_n 2, 1) := by decide +kernel
theorem d_Router_hear_7 : decode b_Router_hear 7 = .ok (.iload_n 3, 1) := by decide +kernel
theorem d_Router_hear_8 : decode b_Router_hear 8 = .ok (.iastore, 1) := by decide +kernel
theorem d_Router_hear_9 : decode b_Router_hear 9 = .ok (.return_, 1) := by decide +kernel
theorem k_Router_hear : Cond.code y_Router_hear b_Router_hear 4 (none) ∈ WS := ws_t 425 (by decide +kernel) (by decide +kernel)
theorem hd_Router_hear : y_Router_hear.cls = R_Router ∧ y_Router_hear.cls ≠ "java/lang/invoke/MethodHandle" ∧ y_Router_hear.cls ≠ "java/lang/invoke/VarHandle" ∧ (parseMethodDescriptor y_Router_hear.desc).map (fun d => d.parameters.length) = some 3 := by decide +kernel
abbrev b_Router_unhear : ByteArray := prog_4_method_12_code
abbrev y_Router_unhear : MethodName := ⟨"LabelRoads$Router", "unhear", "(III)V"⟩
theorem d_Router_unhear_0 : decode b_Router_unhear 0 = .ok (.aload_n 0, 1) := by decide +kernel
theorem d_Router_unhear_1 : decode b_Router_unhear 1 = .ok (.getfield 17, 3) := by decide +kernel
theorem d_Router_unhear_4 : decode b_Router_unhear 4 = .ok (.iload_n 1, 1) := by decide +kernel
theorem d_Router_unhear_5 : decode b_Router_unhear 5 = .ok (.aaload, 1) := by decide +kernel
theorem d_Router_unhear_6 : decode b_Router_unhear 6 = .ok (.iload_n 2, 1) := by decide +kernel
theorem d_Router_unhear_7 : decode b_Router_unhear 7 = .ok (.iaload, 1) := by decide +kernel
theorem d_Router_unhear_8 : decode b_Router_unhear 8 = .ok (.iload_n 3, 1) := by decide +kernel
theorem d_Router_unhear_9 : decode b_Router_unhear 9 = .ok (.if_icmp .ne (12), 3) := by decide +kernel
theorem d_Router_unhear_12 : decode b_Router_unhear 12 = .ok (.aload_n 0, 1) := by decide +kernel
theorem d_Router_unhear_13 : decode b_Router_unhear 13 = .ok (.getfield 17, 3) := by decide +kernel
theorem d_Router_unhear_16 : decode b_Router_unhear 16 = .ok (.iload_n 1, 1) := by decide +kernel
theorem d_Router_unhear_17 : decode b_Router_unhear 17 = .ok (.aaload, 1) := by decide +kernel
theorem d_Router_unhear_18 : decode b_Router_unhear 18 = .ok (.iload_n 2, 1) := by decide +kernel
theorem d_Router_unhear_19 : decode b_Router_unhear 19 = .ok (.iconst 0, 1) := by decide +kernel
theorem d_Router_unhear_20 : decode b_Router_unhear 20 = .ok (.iastore, 1) := by decide +kernel
theorem d_Router_unhear_21 : decode b_Router_unhear 21 = .ok (.return_, 1) := by decide +kernel
theorem k_Router_unhear : Cond.code y_Router_unhear b_Router_unhear 4 (none) ∈ WS := ws_t 429 (by decide +kernel) (by decide +kernel)
theorem hd_Router_unhear : y_Router_unhear.cls = R_Router ∧ y_Router_unhear.cls ≠ "java/lang/invoke/MethodHandle" ∧ y_Router_unhear.cls ≠ "java/lang/invoke/VarHandle" ∧ (parseMethodDescriptor y_Router_unhear.desc).map (fun d => d.parameters.length) = some 3 := by decide +kernel
abbrev b_Router_forget : ByteArray := prog_4_method_13_code
abbrev y_Router_forget : MethodName := ⟨"LabelRoads$Router", "forget", "(I)V"⟩
theorem d_Router_forget_0 : decode b_Router_forget 0 = .ok (.aload_n 0, 1) := by decide +kernel
theorem d_Router_forget_1 : decode b_Router_forget 1 = .ok (.getfield 17, 3) := by decide +kernel
theorem d_Router_forget_4 : decode b_Router_forget 4 = .ok (.iload_n 1, 1) := by decide +kernel
theorem d_Router_forget_5 : decode b_Router_forget 5 = .ok (.aaload, 1) := by decide +kernel
theorem d_Router_forget_6 : decode b_Router_forget 6 = .ok (.iconst 0, 1) := by decide +kernel
theorem d_Router_forget_7 : decode b_Router_forget 7 = .ok (.invokestatic 33, 3) := by decide +kernel
theorem d_Router_forget_10 : decode b_Router_forget 10 = .ok (.iconst 0, 1) := by decide +kernel
theorem d_Router_forget_11 : decode b_Router_forget 11 = .ok (.istore_n 2, 1) := by decide +kernel
theorem d_Router_forget_12 : decode b_Router_forget 12 = .ok (.iload_n 2, 1) := by decide +kernel
theorem d_Router_forget_13 : decode b_Router_forget 13 = .ok (.bipush 8, 2) := by decide +kernel
theorem d_Router_forget_15 : decode b_Router_forget 15 = .ok (.if_icmp .ge (18), 3) := by decide +kernel
theorem d_Router_forget_18 : decode b_Router_forget 18 = .ok (.aload_n 0, 1) := by decide +kernel
theorem d_Router_forget_19 : decode b_Router_forget 19 = .ok (.bipush 16, 2) := by decide +kernel
theorem d_Router_forget_21 : decode b_Router_forget 21 = .ok (.iload_n 2, 1) := by decide +kernel
theorem d_Router_forget_22 : decode b_Router_forget 22 = .ok (.iadd, 1) := by decide +kernel
theorem d_Router_forget_23 : decode b_Router_forget 23 = .ok (.iload_n 1, 1) := by decide +kernel
theorem d_Router_forget_24 : decode b_Router_forget 24 = .ok (.invokevirtual 39, 3) := by decide +kernel
theorem d_Router_forget_27 : decode b_Router_forget 27 = .ok (.iinc 2 (1), 3) := by decide +kernel
theorem d_Router_forget_30 : decode b_Router_forget 30 = .ok (.goto (-18), 3) := by decide +kernel
theorem d_Router_forget_33 : decode b_Router_forget 33 = .ok (.return_, 1) := by decide +kernel
theorem k_Router_forget : Cond.code y_Router_forget b_Router_forget 3 (none) ∈ WS := ws_t 289 (by decide +kernel) (by decide +kernel)
theorem hd_Router_forget : y_Router_forget.cls = R_Router ∧ y_Router_forget.cls ≠ "java/lang/invoke/MethodHandle" ∧ y_Router_forget.cls ≠ "java/lang/invoke/VarHandle" ∧ (parseMethodDescriptor y_Router_forget.desc).map (fun d => d.parameters.length) = some 1 := by decide +kernel
