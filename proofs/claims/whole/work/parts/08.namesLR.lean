abbrev b_LR_checkRange : ByteArray := prog_1_method_18_code
abbrev y_LR_checkRange : MethodName := ⟨"LabelRoads", "checkRange", "(III)V"⟩
theorem d_LR_checkRange_0 : decode b_LR_checkRange 0 = .ok (.iload_n 0, 1) := by decide +kernel
theorem d_LR_checkRange_1 : decode b_LR_checkRange 1 = .ok (.iload_n 1, 1) := by decide +kernel
theorem d_LR_checkRange_2 : decode b_LR_checkRange 2 = .ok (.if_icmp .lt (8), 3) := by decide +kernel
theorem d_LR_checkRange_5 : decode b_LR_checkRange 5 = .ok (.iload_n 0, 1) := by decide +kernel
theorem d_LR_checkRange_6 : decode b_LR_checkRange 6 = .ok (.iload_n 2, 1) := by decide +kernel
theorem d_LR_checkRange_7 : decode b_LR_checkRange 7 = .ok (.if_icmp .le (13), 3) := by decide +kernel
theorem d_LR_checkRange_10 : decode b_LR_checkRange 10 = .ok (.new 153, 3) := by decide +kernel
theorem d_LR_checkRange_13 : decode b_LR_checkRange 13 = .ok (.dup, 1) := by decide +kernel
theorem d_LR_checkRange_14 : decode b_LR_checkRange 14 = .ok (.ldc 155, 2) := by decide +kernel
theorem d_LR_checkRange_16 : decode b_LR_checkRange 16 = .ok (.invokespecial 157, 3) := by decide +kernel
theorem d_LR_checkRange_19 : decode b_LR_checkRange 19 = .ok (.athrow, 1) := by decide +kernel
theorem d_LR_checkRange_20 : decode b_LR_checkRange 20 = .ok (.return_, 1) := by decide +kernel
theorem k_LR_checkRange : Cond.code y_LR_checkRange b_LR_checkRange 3 (none) ∈ WS := ws_t 182 (by decide +kernel) (by decide +kernel)
theorem hd_LR_checkRange : y_LR_checkRange.cls ≠ "java/lang/invoke/MethodHandle" ∧ y_LR_checkRange.cls ≠ "java/lang/invoke/VarHandle" ∧ (parseMethodDescriptor y_LR_checkRange.desc).map (fun d => d.parameters.length) = some 3 := by decide +kernel
abbrev b_LR_checkRouter : ByteArray := prog_1_method_19_code
abbrev y_LR_checkRouter : MethodName := ⟨"LabelRoads", "checkRouter", "(I)V"⟩
theorem d_LR_checkRouter_0 : decode b_LR_checkRouter 0 = .ok (.iload_n 1, 1) := by decide +kernel
theorem d_LR_checkRouter_1 : decode b_LR_checkRouter 1 = .ok (.iconst 0, 1) := by decide +kernel
theorem d_LR_checkRouter_2 : decode b_LR_checkRouter 2 = .ok (.aload_n 0, 1) := by decide +kernel
theorem d_LR_checkRouter_3 : decode b_LR_checkRouter 3 = .ok (.getfield 18, 3) := by decide +kernel
theorem d_LR_checkRouter_6 : decode b_LR_checkRouter 6 = .ok (.iconst 1, 1) := by decide +kernel
theorem d_LR_checkRouter_7 : decode b_LR_checkRouter 7 = .ok (.isub, 1) := by decide +kernel
theorem d_LR_checkRouter_8 : decode b_LR_checkRouter 8 = .ok (.invokestatic 66, 3) := by decide +kernel
theorem d_LR_checkRouter_11 : decode b_LR_checkRouter 11 = .ok (.return_, 1) := by decide +kernel
theorem k_LR_checkRouter : Cond.code y_LR_checkRouter b_LR_checkRouter 2 (none) ∈ WS := ws_t 179 (by decide +kernel) (by decide +kernel)
theorem hd_LR_checkRouter : y_LR_checkRouter.cls = R_LR ∧ y_LR_checkRouter.cls ≠ "java/lang/invoke/MethodHandle" ∧ y_LR_checkRouter.cls ≠ "java/lang/invoke/VarHandle" ∧ (parseMethodDescriptor y_LR_checkRouter.desc).map (fun d => d.parameters.length) = some 1 := by decide +kernel
abbrev b_LR_checkRouterOrNone : ByteArray := prog_1_method_20_code
abbrev y_LR_checkRouterOrNone : MethodName := ⟨"LabelRoads", "checkRouterOrNone", "(I)V"⟩
theorem d_LR_checkRouterOrNone_0 : decode b_LR_checkRouterOrNone 0 = .ok (.iload_n 1, 1) := by decide +kernel
theorem d_LR_checkRouterOrNone_1 : decode b_LR_checkRouterOrNone 1 = .ok (.iconst (-1), 1) := by decide +kernel
theorem d_LR_checkRouterOrNone_2 : decode b_LR_checkRouterOrNone 2 = .ok (.aload_n 0, 1) := by decide +kernel
theorem d_LR_checkRouterOrNone_3 : decode b_LR_checkRouterOrNone 3 = .ok (.getfield 18, 3) := by decide +kernel
theorem d_LR_checkRouterOrNone_6 : decode b_LR_checkRouterOrNone 6 = .ok (.iconst 1, 1) := by decide +kernel
theorem d_LR_checkRouterOrNone_7 : decode b_LR_checkRouterOrNone 7 = .ok (.isub, 1) := by decide +kernel
theorem d_LR_checkRouterOrNone_8 : decode b_LR_checkRouterOrNone 8 = .ok (.invokestatic 66, 3) := by decide +kernel
theorem d_LR_checkRouterOrNone_11 : decode b_LR_checkRouterOrNone 11 = .ok (.return_, 1) := by decide +kernel
theorem k_LR_checkRouterOrNone : Cond.code y_LR_checkRouterOrNone b_LR_checkRouterOrNone 2 (none) ∈ WS := ws_t 373 (by decide +kernel) (by decide +kernel)
theorem hd_LR_checkRouterOrNone : y_LR_checkRouterOrNone.cls = R_LR ∧ y_LR_checkRouterOrNone.cls ≠ "java/lang/invoke/MethodHandle" ∧ y_LR_checkRouterOrNone.cls ≠ "java/lang/invoke/VarHandle" ∧ (parseMethodDescriptor y_LR_checkRouterOrNone.desc).map (fun d => d.parameters.length) = some 1 := by decide +kernel
abbrev b_LR_checkTwoRouters : ByteArray := prog_1_method_21_code
abbrev y_LR_checkTwoRouters : MethodName := ⟨"LabelRoads", "checkTwoRouters", "(II)V"⟩
theorem d_LR_checkTwoRouters_0 : decode b_LR_checkTwoRouters 0 = .ok (.aload_n 0, 1) := by decide +kernel
theorem d_LR_checkTwoRouters_1 : decode b_LR_checkTwoRouters 1 = .ok (.iload_n 1, 1) := by decide +kernel
theorem d_LR_checkTwoRouters_2 : decode b_LR_checkTwoRouters 2 = .ok (.invokevirtual 116, 3) := by decide +kernel
theorem d_LR_checkTwoRouters_5 : decode b_LR_checkTwoRouters 5 = .ok (.aload_n 0, 1) := by decide +kernel
theorem d_LR_checkTwoRouters_6 : decode b_LR_checkTwoRouters 6 = .ok (.iload_n 2, 1) := by decide +kernel
theorem d_LR_checkTwoRouters_7 : decode b_LR_checkTwoRouters 7 = .ok (.invokevirtual 116, 3) := by decide +kernel
theorem d_LR_checkTwoRouters_10 : decode b_LR_checkTwoRouters 10 = .ok (.iload_n 1, 1) := by decide +kernel
theorem d_LR_checkTwoRouters_11 : decode b_LR_checkTwoRouters 11 = .ok (.iload_n 2, 1) := by decide +kernel
theorem d_LR_checkTwoRouters_12 : decode b_LR_checkTwoRouters 12 = .ok (.if_icmp .ne (13), 3) := by decide +kernel
theorem d_LR_checkTwoRouters_15 : decode b_LR_checkTwoRouters 15 = .ok (.new 153, 3) := by decide +kernel
theorem d_LR_checkTwoRouters_18 : decode b_LR_checkTwoRouters 18 = .ok (.dup, 1) := by decide +kernel
theorem d_LR_checkTwoRouters_19 : decode b_LR_checkTwoRouters 19 = .ok (.ldc 160, 2) := by decide +kernel
theorem d_LR_checkTwoRouters_21 : decode b_LR_checkTwoRouters 21 = .ok (.invokespecial 157, 3) := by decide +kernel
theorem d_LR_checkTwoRouters_24 : decode b_LR_checkTwoRouters 24 = .ok (.athrow, 1) := by decide +kernel
theorem d_LR_checkTwoRouters_25 : decode b_LR_checkTwoRouters 25 = .ok (.return_, 1) := by decide +kernel
theorem k_LR_checkTwoRouters : Cond.code y_LR_checkTwoRouters b_LR_checkTwoRouters 3 (none) ∈ WS := ws_t 175 (by decide +kernel) (by decide +kernel)
theorem hd_LR_checkTwoRouters : y_LR_checkTwoRouters.cls = R_LR ∧ y_LR_checkTwoRouters.cls ≠ "java/lang/invoke/MethodHandle" ∧ y_LR_checkTwoRouters.cls ≠ "java/lang/invoke/VarHandle" ∧ (parseMethodDescriptor y_LR_checkTwoRouters.desc).map (fun d => d.parameters.length) = some 2 := by decide +kernel
abbrev b_LR_checkPrefix : ByteArray := prog_1_method_22_code
abbrev y_LR_checkPrefix : MethodName := ⟨"LabelRoads", "checkPrefix", "(I)V"⟩
theorem d_LR_checkPrefix_0 : decode b_LR_checkPrefix 0 = .ok (.iload_n 0, 1) := by decide +kernel
theorem d_LR_checkPrefix_1 : decode b_LR_checkPrefix 1 = .ok (.iconst 0, 1) := by decide +kernel
theorem d_LR_checkPrefix_2 : decode b_LR_checkPrefix 2 = .ok (.iconst 3, 1) := by decide +kernel
theorem d_LR_checkPrefix_3 : decode b_LR_checkPrefix 3 = .ok (.invokestatic 66, 3) := by decide +kernel
theorem d_LR_checkPrefix_6 : decode b_LR_checkPrefix 6 = .ok (.return_, 1) := by decide +kernel
theorem k_LR_checkPrefix : Cond.code y_LR_checkPrefix b_LR_checkPrefix 1 (none) ∈ WS := ws_t 369 (by decide +kernel) (by decide +kernel)
theorem hd_LR_checkPrefix : y_LR_checkPrefix.cls ≠ "java/lang/invoke/MethodHandle" ∧ y_LR_checkPrefix.cls ≠ "java/lang/invoke/VarHandle" ∧ (parseMethodDescriptor y_LR_checkPrefix.desc).map (fun d => d.parameters.length) = some 1 := by decide +kernel
abbrev b_LR_checkHop : ByteArray := prog_1_method_23_code
abbrev y_LR_checkHop : MethodName := ⟨"LabelRoads", "checkHop", "(I)V"⟩
theorem d_LR_checkHop_0 : decode b_LR_checkHop 0 = .ok (.iload_n 1, 1) := by decide +kernel
theorem d_LR_checkHop_1 : decode b_LR_checkHop 1 = .ok (.ifCond .lt (14), 3) := by decide +kernel
theorem d_LR_checkHop_4 : decode b_LR_checkHop 4 = .ok (.iload_n 1, 1) := by decide +kernel
theorem d_LR_checkHop_5 : decode b_LR_checkHop 5 = .ok (.aload_n 0, 1) := by decide +kernel
theorem d_LR_checkHop_6 : decode b_LR_checkHop 6 = .ok (.getfield 58, 3) := by decide +kernel
theorem d_LR_checkHop_9 : decode b_LR_checkHop 9 = .ok (.invokevirtual 141, 3) := by decide +kernel
theorem d_LR_checkHop_12 : decode b_LR_checkHop 12 = .ok (.if_icmp .lt (13), 3) := by decide +kernel
theorem d_LR_checkHop_15 : decode b_LR_checkHop 15 = .ok (.new 162, 3) := by decide +kernel
theorem d_LR_checkHop_18 : decode b_LR_checkHop 18 = .ok (.dup, 1) := by decide +kernel
theorem d_LR_checkHop_19 : decode b_LR_checkHop 19 = .ok (.ldc 164, 2) := by decide +kernel
theorem d_LR_checkHop_21 : decode b_LR_checkHop 21 = .ok (.invokespecial 166, 3) := by decide +kernel
theorem d_LR_checkHop_24 : decode b_LR_checkHop 24 = .ok (.athrow, 1) := by decide +kernel
theorem d_LR_checkHop_25 : decode b_LR_checkHop 25 = .ok (.return_, 1) := by decide +kernel
theorem k_LR_checkHop : Cond.code y_LR_checkHop b_LR_checkHop 2 (none) ∈ WS := ws_t 570 (by decide +kernel) (by decide +kernel)
theorem hd_LR_checkHop : y_LR_checkHop.cls = R_LR ∧ y_LR_checkHop.cls ≠ "java/lang/invoke/MethodHandle" ∧ y_LR_checkHop.cls ≠ "java/lang/invoke/VarHandle" ∧ (parseMethodDescriptor y_LR_checkHop.desc).map (fun d => d.parameters.length) = some 1 := by decide +kernel
abbrev b_LR_cutOff : ByteArray := prog_1_method_24_code
abbrev y_LR_cutOff : MethodName := ⟨"LabelRoads", "cutOff", "(II)V"⟩
theorem d_LR_cutOff_0 : decode b_LR_cutOff 0 = .ok (.aload_n 0, 1) := by decide +kernel
theorem d_LR_cutOff_1 : decode b_LR_cutOff 1 = .ok (.getfield 34, 3) := by decide +kernel
theorem d_LR_cutOff_4 : decode b_LR_cutOff 4 = .ok (.iload_n 1, 1) := by decide +kernel
theorem d_LR_cutOff_5 : decode b_LR_cutOff 5 = .ok (.iload_n 2, 1) := by decide +kernel
theorem d_LR_cutOff_6 : decode b_LR_cutOff 6 = .ok (.invokevirtual 167, 3) := by decide +kernel
theorem d_LR_cutOff_9 : decode b_LR_cutOff 9 = .ok (.aload_n 0, 1) := by decide +kernel
theorem d_LR_cutOff_10 : decode b_LR_cutOff 10 = .ok (.getfield 40, 3) := by decide +kernel
theorem d_LR_cutOff_13 : decode b_LR_cutOff 13 = .ok (.iload_n 1, 1) := by decide +kernel
theorem d_LR_cutOff_14 : decode b_LR_cutOff 14 = .ok (.aaload, 1) := by decide +kernel
theorem d_LR_cutOff_15 : decode b_LR_cutOff 15 = .ok (.iload_n 2, 1) := by decide +kernel
theorem d_LR_cutOff_16 : decode b_LR_cutOff 16 = .ok (.invokevirtual 170, 3) := by decide +kernel
theorem d_LR_cutOff_19 : decode b_LR_cutOff 19 = .ok (.aload_n 0, 1) := by decide +kernel
theorem d_LR_cutOff_20 : decode b_LR_cutOff 20 = .ok (.getfield 40, 3) := by decide +kernel
theorem d_LR_cutOff_23 : decode b_LR_cutOff 23 = .ok (.iload_n 2, 1) := by decide +kernel
theorem d_LR_cutOff_24 : decode b_LR_cutOff 24 = .ok (.aaload, 1) := by decide +kernel
theorem d_LR_cutOff_25 : decode b_LR_cutOff 25 = .ok (.iload_n 1, 1) := by decide +kernel
theorem d_LR_cutOff_26 : decode b_LR_cutOff 26 = .ok (.invokevirtual 170, 3) := by decide +kernel
theorem d_LR_cutOff_29 : decode b_LR_cutOff 29 = .ok (.return_, 1) := by decide +kernel
theorem k_LR_cutOff : Cond.code y_LR_cutOff b_LR_cutOff 3 (none) ∈ WS := ws_t 275 (by decide +kernel) (by decide +kernel)
theorem hd_LR_cutOff : y_LR_cutOff.cls = R_LR ∧ y_LR_cutOff.cls ≠ "java/lang/invoke/MethodHandle" ∧ y_LR_cutOff.cls ≠ "java/lang/invoke/VarHandle" ∧ (parseMethodDescriptor y_LR_cutOff.desc).map (fun d => d.parameters.length) = some 2 := by decide +kernel
abbrev b_LR_tellLabels : ByteArray := prog_1_method_25_code
abbrev y_LR_tellLabels : MethodName := ⟨"LabelRoads", "tellLabels", "(II)V"⟩
theorem d_LR_tellLabels_0 : decode b_LR_tellLabels 0 = .ok (.iconst 0, 1) := by decide +kernel
theorem d_LR_tellLabels_1 : decode b_LR_tellLabels 1 = .ok (.istore_n 3, 1) := by decide +kernel
theorem d_LR_tellLabels_2 : decode b_LR_tellLabels 2 = .ok (.iload_n 3, 1) := by decide +kernel
theorem d_LR_tellLabels_3 : decode b_LR_tellLabels 3 = .ok (.iconst 4, 1) := by decide +kernel
theorem d_LR_tellLabels_4 : decode b_LR_tellLabels 4 = .ok (.if_icmp .ge (39), 3) := by decide +kernel
theorem d_LR_tellLabels_7 : decode b_LR_tellLabels 7 = .ok (.aload_n 0, 1) := by decide +kernel
theorem d_LR_tellLabels_8 : decode b_LR_tellLabels 8 = .ok (.getfield 40, 3) := by decide +kernel
theorem d_LR_tellLabels_11 : decode b_LR_tellLabels 11 = .ok (.iload_n 1, 1) := by decide +kernel
theorem d_LR_tellLabels_12 : decode b_LR_tellLabels 12 = .ok (.aaload, 1) := by decide +kernel
theorem d_LR_tellLabels_13 : decode b_LR_tellLabels 13 = .ok (.iload_n 3, 1) := by decide +kernel
theorem d_LR_tellLabels_14 : decode b_LR_tellLabels 14 = .ok (.invokevirtual 125, 3) := by decide +kernel
theorem d_LR_tellLabels_17 : decode b_LR_tellLabels 17 = .ok (.istore 4, 2) := by decide +kernel
theorem d_LR_tellLabels_19 : decode b_LR_tellLabels 19 = .ok (.iload 4, 2) := by decide +kernel
theorem d_LR_tellLabels_21 : decode b_LR_tellLabels 21 = .ok (.ifCond .eq (16), 3) := by decide +kernel
theorem d_LR_tellLabels_24 : decode b_LR_tellLabels 24 = .ok (.aload_n 0, 1) := by decide +kernel
theorem d_LR_tellLabels_25 : decode b_LR_tellLabels 25 = .ok (.getfield 34, 3) := by decide +kernel
theorem d_LR_tellLabels_28 : decode b_LR_tellLabels 28 = .ok (.iconst 1, 1) := by decide +kernel
theorem d_LR_tellLabels_29 : decode b_LR_tellLabels 29 = .ok (.iload_n 1, 1) := by decide +kernel
theorem d_LR_tellLabels_30 : decode b_LR_tellLabels 30 = .ok (.iload_n 2, 1) := by decide +kernel
theorem d_LR_tellLabels_31 : decode b_LR_tellLabels 31 = .ok (.iload_n 3, 1) := by decide +kernel
theorem d_LR_tellLabels_32 : decode b_LR_tellLabels 32 = .ok (.iload 4, 2) := by decide +kernel
theorem d_LR_tellLabels_34 : decode b_LR_tellLabels 34 = .ok (.invokevirtual 173, 3) := by decide +kernel
theorem d_LR_tellLabels_37 : decode b_LR_tellLabels 37 = .ok (.iinc 3 (1), 3) := by decide +kernel
theorem d_LR_tellLabels_40 : decode b_LR_tellLabels 40 = .ok (.goto (-38), 3) := by decide +kernel
theorem d_LR_tellLabels_43 : decode b_LR_tellLabels 43 = .ok (.return_, 1) := by decide +kernel
theorem k_LR_tellLabels : Cond.code y_LR_tellLabels b_LR_tellLabels 5 (none) ∈ WS := ws_t 298 (by decide +kernel) (by decide +kernel)
theorem hd_LR_tellLabels : y_LR_tellLabels.cls = R_LR ∧ y_LR_tellLabels.cls ≠ "java/lang/invoke/MethodHandle" ∧ y_LR_tellLabels.cls ≠ "java/lang/invoke/VarHandle" ∧ (parseMethodDescriptor y_LR_tellLabels.desc).map (fun d => d.parameters.length) = some 2 := by decide +kernel
abbrev b_LR_isReady : ByteArray := prog_1_method_29_code
abbrev y_LR_isReady : MethodName := ⟨"LabelRoads", "isReady", "(II)Z"⟩
theorem d_LR_isReady_0 : decode b_LR_isReady 0 = .ok (.aload_n 0, 1) := by decide +kernel
theorem d_LR_isReady_1 : decode b_LR_isReady 1 = .ok (.getfield 27, 3) := by decide +kernel
theorem d_LR_isReady_4 : decode b_LR_isReady 4 = .ok (.iload_n 1, 1) := by decide +kernel
theorem d_LR_isReady_5 : decode b_LR_isReady 5 = .ok (.iload_n 2, 1) := by decide +kernel
theorem d_LR_isReady_6 : decode b_LR_isReady 6 = .ok (.invokevirtual 193, 3) := by decide +kernel
theorem d_LR_isReady_9 : decode b_LR_isReady 9 = .ok (.ifCond .eq (5), 3) := by decide +kernel
theorem d_LR_isReady_12 : decode b_LR_isReady 12 = .ok (.iconst 1, 1) := by decide +kernel
theorem d_LR_isReady_13 : decode b_LR_isReady 13 = .ok (.ireturn, 1) := by decide +kernel
theorem d_LR_isReady_14 : decode b_LR_isReady 14 = .ok (.aload_n 0, 1) := by decide +kernel
theorem d_LR_isReady_15 : decode b_LR_isReady 15 = .ok (.getfield 27, 3) := by decide +kernel
theorem d_LR_isReady_18 : decode b_LR_isReady 18 = .ok (.iload_n 1, 1) := by decide +kernel
theorem d_LR_isReady_19 : decode b_LR_isReady 19 = .ok (.iload_n 2, 1) := by decide +kernel
theorem d_LR_isReady_20 : decode b_LR_isReady 20 = .ok (.invokevirtual 122, 3) := by decide +kernel
theorem d_LR_isReady_23 : decode b_LR_isReady 23 = .ok (.istore_n 3, 1) := by decide +kernel
theorem d_LR_isReady_24 : decode b_LR_isReady 24 = .ok (.iload_n 3, 1) := by decide +kernel
theorem d_LR_isReady_25 : decode b_LR_isReady 25 = .ok (.iconst (-1), 1) := by decide +kernel
theorem d_LR_isReady_26 : decode b_LR_isReady 26 = .ok (.if_icmp .eq (21), 3) := by decide +kernel
theorem d_LR_isReady_29 : decode b_LR_isReady 29 = .ok (.aload_n 0, 1) := by decide +kernel
theorem d_LR_isReady_30 : decode b_LR_isReady 30 = .ok (.getfield 40, 3) := by decide +kernel
theorem d_LR_isReady_33 : decode b_LR_isReady 33 = .ok (.iload_n 1, 1) := by decide +kernel
theorem d_LR_isReady_34 : decode b_LR_isReady 34 = .ok (.aaload, 1) := by decide +kernel
theorem d_LR_isReady_35 : decode b_LR_isReady 35 = .ok (.iload_n 3, 1) := by decide +kernel
theorem d_LR_isReady_36 : decode b_LR_isReady 36 = .ok (.iload_n 2, 1) := by decide +kernel
theorem d_LR_isReady_37 : decode b_LR_isReady 37 = .ok (.invokevirtual 128, 3) := by decide +kernel
theorem d_LR_isReady_40 : decode b_LR_isReady 40 = .ok (.ifCond .eq (7), 3) := by decide +kernel
theorem d_LR_isReady_43 : decode b_LR_isReady 43 = .ok (.iconst 1, 1) := by decide +kernel
theorem d_LR_isReady_44 : decode b_LR_isReady 44 = .ok (.goto (4), 3) := by decide +kernel
theorem d_LR_isReady_47 : decode b_LR_isReady 47 = .ok (.iconst 0, 1) := by decide +kernel
theorem d_LR_isReady_48 : decode b_LR_isReady 48 = .ok (.ireturn, 1) := by decide +kernel
theorem k_LR_isReady : Cond.code y_LR_isReady b_LR_isReady 4 (some .boolean) ∈ WS := ws_t 322 (by decide +kernel) (by decide +kernel)
theorem hd_LR_isReady : y_LR_isReady.cls = R_LR ∧ y_LR_isReady.cls ≠ "java/lang/invoke/MethodHandle" ∧ y_LR_isReady.cls ≠ "java/lang/invoke/VarHandle" ∧ (parseMethodDescriptor y_LR_isReady.desc).map (fun d => d.parameters.length) = some 2 := by decide +kernel
abbrev b_LR_giveLabel : ByteArray := prog_1_method_30_code
abbrev y_LR_giveLabel : MethodName := ⟨"LabelRoads", "giveLabel", "(II)V"⟩
theorem d_LR_giveLabel_0 : decode b_LR_giveLabel 0 = .ok (.aload_n 0, 1) := by decide +kernel
theorem d_LR_giveLabel_1 : decode b_LR_giveLabel 1 = .ok (.getfield 40, 3) := by decide +kernel
theorem d_LR_giveLabel_4 : decode b_LR_giveLabel 4 = .ok (.iload_n 1, 1) := by decide +kernel
theorem d_LR_giveLabel_5 : decode b_LR_giveLabel 5 = .ok (.aaload, 1) := by decide +kernel
theorem d_LR_giveLabel_6 : decode b_LR_giveLabel 6 = .ok (.invokevirtual 196, 3) := by decide +kernel
theorem d_LR_giveLabel_9 : decode b_LR_giveLabel 9 = .ok (.istore_n 3, 1) := by decide +kernel
theorem d_LR_giveLabel_10 : decode b_LR_giveLabel 10 = .ok (.iload_n 3, 1) := by decide +kernel
theorem d_LR_giveLabel_11 : decode b_LR_giveLabel 11 = .ok (.ifCond .ne (4), 3) := by decide +kernel
theorem d_LR_giveLabel_14 : decode b_LR_giveLabel 14 = .ok (.return_, 1) := by decide +kernel
theorem d_LR_giveLabel_15 : decode b_LR_giveLabel 15 = .ok (.aload_n 0, 1) := by decide +kernel
theorem d_LR_giveLabel_16 : decode b_LR_giveLabel 16 = .ok (.getfield 40, 3) := by decide +kernel
theorem d_LR_giveLabel_19 : decode b_LR_giveLabel 19 = .ok (.iload_n 1, 1) := by decide +kernel
theorem d_LR_giveLabel_20 : decode b_LR_giveLabel 20 = .ok (.aaload, 1) := by decide +kernel
theorem d_LR_giveLabel_21 : decode b_LR_giveLabel 21 = .ok (.iload_n 2, 1) := by decide +kernel
theorem d_LR_giveLabel_22 : decode b_LR_giveLabel 22 = .ok (.iload_n 3, 1) := by decide +kernel
theorem d_LR_giveLabel_23 : decode b_LR_giveLabel 23 = .ok (.invokevirtual 199, 3) := by decide +kernel
theorem d_LR_giveLabel_26 : decode b_LR_giveLabel 26 = .ok (.iconst 0, 1) := by decide +kernel
theorem d_LR_giveLabel_27 : decode b_LR_giveLabel 27 = .ok (.istore 4, 2) := by decide +kernel
theorem d_LR_giveLabel_29 : decode b_LR_giveLabel 29 = .ok (.iload 4, 2) := by decide +kernel
theorem d_LR_giveLabel_31 : decode b_LR_giveLabel 31 = .ok (.aload_n 0, 1) := by decide +kernel
theorem d_LR_giveLabel_32 : decode b_LR_giveLabel 32 = .ok (.getfield 18, 3) := by decide +kernel
theorem d_LR_giveLabel_35 : decode b_LR_giveLabel 35 = .ok (.if_icmp .ge (35), 3) := by decide +kernel
theorem d_LR_giveLabel_38 : decode b_LR_giveLabel 38 = .ok (.aload_n 0, 1) := by decide +kernel
theorem d_LR_giveLabel_39 : decode b_LR_giveLabel 39 = .ok (.getfield 27, 3) := by decide +kernel
theorem d_LR_giveLabel_42 : decode b_LR_giveLabel 42 = .ok (.iload_n 1, 1) := by decide +kernel
theorem d_LR_giveLabel_43 : decode b_LR_giveLabel 43 = .ok (.iload 4, 2) := by decide +kernel
theorem d_LR_giveLabel_45 : decode b_LR_giveLabel 45 = .ok (.invokevirtual 202, 3) := by decide +kernel
theorem d_LR_giveLabel_48 : decode b_LR_giveLabel 48 = .ok (.ifCond .eq (16), 3) := by decide +kernel
theorem d_LR_giveLabel_51 : decode b_LR_giveLabel 51 = .ok (.aload_n 0, 1) := by decide +kernel
theorem d_LR_giveLabel_52 : decode b_LR_giveLabel 52 = .ok (.getfield 34, 3) := by decide +kernel
theorem d_LR_giveLabel_55 : decode b_LR_giveLabel 55 = .ok (.iconst 1, 1) := by decide +kernel
theorem d_LR_giveLabel_56 : decode b_LR_giveLabel 56 = .ok (.iload_n 1, 1) := by decide +kernel
theorem d_LR_giveLabel_57 : decode b_LR_giveLabel 57 = .ok (.iload 4, 2) := by decide +kernel
theorem d_LR_giveLabel_59 : decode b_LR_giveLabel 59 = .ok (.iload_n 2, 1) := by decide +kernel
theorem d_LR_giveLabel_60 : decode b_LR_giveLabel 60 = .ok (.iload_n 3, 1) := by decide +kernel
theorem d_LR_giveLabel_61 : decode b_LR_giveLabel 61 = .ok (.invokevirtual 173, 3) := by decide +kernel
theorem d_LR_giveLabel_64 : decode b_LR_giveLabel 64 = .ok (.iinc 4 (1), 3) := by decide +kernel
theorem d_LR_giveLabel_67 : decode b_LR_giveLabel 67 = .ok (.goto (-38), 3) := by decide +kernel
theorem d_LR_giveLabel_70 : decode b_LR_giveLabel 70 = .ok (.return_, 1) := by decide +kernel
theorem k_LR_giveLabel : Cond.code y_LR_giveLabel b_LR_giveLabel 5 (none) ∈ WS := ws_t 338 (by decide +kernel) (by decide +kernel)
theorem hd_LR_giveLabel : y_LR_giveLabel.cls = R_LR ∧ y_LR_giveLabel.cls ≠ "java/lang/invoke/MethodHandle" ∧ y_LR_giveLabel.cls ≠ "java/lang/invoke/VarHandle" ∧ (parseMethodDescriptor y_LR_giveLabel.desc).map (fun d => d.parameters.length) = some 2 := by decide +kernel
abbrev b_LR_withdrawLabel : ByteArray := prog_1_method_31_code
abbrev y_LR_withdrawLabel : MethodName := ⟨"LabelRoads", "withdrawLabel", "(II)V"⟩
theorem d_LR_withdrawLabel_0 : decode b_LR_withdrawLabel 0 = .ok (.aload_n 0, 1) := by decide +kernel
theorem d_LR_withdrawLabel_1 : decode b_LR_withdrawLabel 1 = .ok (.getfield 40, 3) := by decide +kernel
theorem d_LR_withdrawLabel_4 : decode b_LR_withdrawLabel 4 = .ok (.iload_n 1, 1) := by decide +kernel
theorem d_LR_withdrawLabel_5 : decode b_LR_withdrawLabel 5 = .ok (.aaload, 1) := by decide +kernel
theorem d_LR_withdrawLabel_6 : decode b_LR_withdrawLabel 6 = .ok (.iload_n 2, 1) := by decide +kernel
theorem d_LR_withdrawLabel_7 : decode b_LR_withdrawLabel 7 = .ok (.invokevirtual 125, 3) := by decide +kernel
theorem d_LR_withdrawLabel_10 : decode b_LR_withdrawLabel 10 = .ok (.istore_n 3, 1) := by decide +kernel
theorem d_LR_withdrawLabel_11 : decode b_LR_withdrawLabel 11 = .ok (.iconst 0, 1) := by decide +kernel
theorem d_LR_withdrawLabel_12 : decode b_LR_withdrawLabel 12 = .ok (.istore 4, 2) := by decide +kernel
theorem d_LR_withdrawLabel_14 : decode b_LR_withdrawLabel 14 = .ok (.iload 4, 2) := by decide +kernel
theorem d_LR_withdrawLabel_16 : decode b_LR_withdrawLabel 16 = .ok (.aload_n 0, 1) := by decide +kernel
theorem d_LR_withdrawLabel_17 : decode b_LR_withdrawLabel 17 = .ok (.getfield 18, 3) := by decide +kernel
theorem d_LR_withdrawLabel_20 : decode b_LR_withdrawLabel 20 = .ok (.if_icmp .ge (47), 3) := by decide +kernel
theorem d_LR_withdrawLabel_23 : decode b_LR_withdrawLabel 23 = .ok (.aload_n 0, 1) := by decide +kernel
theorem d_LR_withdrawLabel_24 : decode b_LR_withdrawLabel 24 = .ok (.getfield 27, 3) := by decide +kernel
theorem d_LR_withdrawLabel_27 : decode b_LR_withdrawLabel 27 = .ok (.iload_n 1, 1) := by decide +kernel
theorem d_LR_withdrawLabel_28 : decode b_LR_withdrawLabel 28 = .ok (.iload 4, 2) := by decide +kernel
theorem d_LR_withdrawLabel_30 : decode b_LR_withdrawLabel 30 = .ok (.invokevirtual 202, 3) := by decide +kernel
theorem d_LR_withdrawLabel_33 : decode b_LR_withdrawLabel 33 = .ok (.ifCond .eq (28), 3) := by decide +kernel
theorem d_LR_withdrawLabel_36 : decode b_LR_withdrawLabel 36 = .ok (.aload_n 0, 1) := by decide +kernel
theorem d_LR_withdrawLabel_37 : decode b_LR_withdrawLabel 37 = .ok (.getfield 34, 3) := by decide +kernel
theorem d_LR_withdrawLabel_40 : decode b_LR_withdrawLabel 40 = .ok (.iconst 2, 1) := by decide +kernel
theorem d_LR_withdrawLabel_41 : decode b_LR_withdrawLabel 41 = .ok (.iload_n 1, 1) := by decide +kernel
theorem d_LR_withdrawLabel_42 : decode b_LR_withdrawLabel 42 = .ok (.iload 4, 2) := by decide +kernel
theorem d_LR_withdrawLabel_44 : decode b_LR_withdrawLabel 44 = .ok (.iload_n 2, 1) := by decide +kernel
theorem d_LR_withdrawLabel_45 : decode b_LR_withdrawLabel 45 = .ok (.iload_n 3, 1) := by decide +kernel
theorem d_LR_withdrawLabel_46 : decode b_LR_withdrawLabel 46 = .ok (.invokevirtual 173, 3) := by decide +kernel
theorem d_LR_withdrawLabel_49 : decode b_LR_withdrawLabel 49 = .ok (.aload_n 0, 1) := by decide +kernel
theorem d_LR_withdrawLabel_50 : decode b_LR_withdrawLabel 50 = .ok (.getfield 40, 3) := by decide +kernel
theorem d_LR_withdrawLabel_53 : decode b_LR_withdrawLabel 53 = .ok (.iload_n 1, 1) := by decide +kernel
theorem d_LR_withdrawLabel_54 : decode b_LR_withdrawLabel 54 = .ok (.aaload, 1) := by decide +kernel
theorem d_LR_withdrawLabel_55 : decode b_LR_withdrawLabel 55 = .ok (.iload_n 3, 1) := by decide +kernel
theorem d_LR_withdrawLabel_56 : decode b_LR_withdrawLabel 56 = .ok (.iload 4, 2) := by decide +kernel
theorem d_LR_withdrawLabel_58 : decode b_LR_withdrawLabel 58 = .ok (.invokevirtual 205, 3) := by decide +kernel
theorem d_LR_withdrawLabel_61 : decode b_LR_withdrawLabel 61 = .ok (.iinc 4 (1), 3) := by decide +kernel
theorem d_LR_withdrawLabel_64 : decode b_LR_withdrawLabel 64 = .ok (.goto (-50), 3) := by decide +kernel
theorem d_LR_withdrawLabel_67 : decode b_LR_withdrawLabel 67 = .ok (.aload_n 0, 1) := by decide +kernel
theorem d_LR_withdrawLabel_68 : decode b_LR_withdrawLabel 68 = .ok (.getfield 40, 3) := by decide +kernel
theorem d_LR_withdrawLabel_71 : decode b_LR_withdrawLabel 71 = .ok (.iload_n 1, 1) := by decide +kernel
theorem d_LR_withdrawLabel_72 : decode b_LR_withdrawLabel 72 = .ok (.aaload, 1) := by decide +kernel
theorem d_LR_withdrawLabel_73 : decode b_LR_withdrawLabel 73 = .ok (.iload_n 2, 1) := by decide +kernel
theorem d_LR_withdrawLabel_74 : decode b_LR_withdrawLabel 74 = .ok (.iconst 0, 1) := by decide +kernel
theorem d_LR_withdrawLabel_75 : decode b_LR_withdrawLabel 75 = .ok (.invokevirtual 199, 3) := by decide +kernel
theorem d_LR_withdrawLabel_78 : decode b_LR_withdrawLabel 78 = .ok (.return_, 1) := by decide +kernel
theorem k_LR_withdrawLabel : Cond.code y_LR_withdrawLabel b_LR_withdrawLabel 5 (none) ∈ WS := ws_t 355 (by decide +kernel) (by decide +kernel)
theorem hd_LR_withdrawLabel : y_LR_withdrawLabel.cls = R_LR ∧ y_LR_withdrawLabel.cls ≠ "java/lang/invoke/MethodHandle" ∧ y_LR_withdrawLabel.cls ≠ "java/lang/invoke/VarHandle" ∧ (parseMethodDescriptor y_LR_withdrawLabel.desc).map (fun d => d.parameters.length) = some 2 := by decide +kernel
abbrev b_LR_settle : ByteArray := prog_1_method_28_code
abbrev y_LR_settle : MethodName := ⟨"LabelRoads", "settle", "(II)V"⟩
theorem d_LR_settle_0 : decode b_LR_settle 0 = .ok (.aload_n 0, 1) := by decide +kernel
theorem d_LR_settle_1 : decode b_LR_settle 1 = .ok (.iload_n 1, 1) := by decide +kernel
theorem d_LR_settle_2 : decode b_LR_settle 2 = .ok (.iload_n 2, 1) := by decide +kernel
theorem d_LR_settle_3 : decode b_LR_settle 3 = .ok (.invokevirtual 183, 3) := by decide +kernel
theorem d_LR_settle_6 : decode b_LR_settle 6 = .ok (.istore_n 3, 1) := by decide +kernel
theorem d_LR_settle_7 : decode b_LR_settle 7 = .ok (.aload_n 0, 1) := by decide +kernel
theorem d_LR_settle_8 : decode b_LR_settle 8 = .ok (.getfield 40, 3) := by decide +kernel
theorem d_LR_settle_11 : decode b_LR_settle 11 = .ok (.iload_n 1, 1) := by decide +kernel
theorem d_LR_settle_12 : decode b_LR_settle 12 = .ok (.aaload, 1) := by decide +kernel
theorem d_LR_settle_13 : decode b_LR_settle 13 = .ok (.iload_n 2, 1) := by decide +kernel
theorem d_LR_settle_14 : decode b_LR_settle 14 = .ok (.invokevirtual 125, 3) := by decide +kernel
theorem d_LR_settle_17 : decode b_LR_settle 17 = .ok (.ifCond .eq (7), 3) := by decide +kernel
theorem d_LR_settle_20 : decode b_LR_settle 20 = .ok (.iconst 1, 1) := by decide +kernel
theorem d_LR_settle_21 : decode b_LR_settle 21 = .ok (.goto (4), 3) := by decide +kernel
theorem d_LR_settle_24 : decode b_LR_settle 24 = .ok (.iconst 0, 1) := by decide +kernel
theorem d_LR_settle_25 : decode b_LR_settle 25 = .ok (.istore 4, 2) := by decide +kernel
theorem d_LR_settle_27 : decode b_LR_settle 27 = .ok (.iload_n 3, 1) := by decide +kernel
theorem d_LR_settle_28 : decode b_LR_settle 28 = .ok (.ifCond .eq (17), 3) := by decide +kernel
theorem d_LR_settle_31 : decode b_LR_settle 31 = .ok (.iload 4, 2) := by decide +kernel
theorem d_LR_settle_33 : decode b_LR_settle 33 = .ok (.ifCond .ne (12), 3) := by decide +kernel
theorem d_LR_settle_36 : decode b_LR_settle 36 = .ok (.aload_n 0, 1) := by decide +kernel
theorem d_LR_settle_37 : decode b_LR_settle 37 = .ok (.iload_n 1, 1) := by decide +kernel
theorem d_LR_settle_38 : decode b_LR_settle 38 = .ok (.iload_n 2, 1) := by decide +kernel
theorem d_LR_settle_39 : decode b_LR_settle 39 = .ok (.invokevirtual 187, 3) := by decide +kernel
theorem d_LR_settle_42 : decode b_LR_settle 42 = .ok (.goto (18), 3) := by decide +kernel
theorem d_LR_settle_45 : decode b_LR_settle 45 = .ok (.iload_n 3, 1) := by decide +kernel
theorem d_LR_settle_46 : decode b_LR_settle 46 = .ok (.ifCond .ne (14), 3) := by decide +kernel
theorem d_LR_settle_49 : decode b_LR_settle 49 = .ok (.iload 4, 2) := by decide +kernel
theorem d_LR_settle_51 : decode b_LR_settle 51 = .ok (.ifCond .eq (9), 3) := by decide +kernel
theorem d_LR_settle_54 : decode b_LR_settle 54 = .ok (.aload_n 0, 1) := by decide +kernel
theorem d_LR_settle_55 : decode b_LR_settle 55 = .ok (.iload_n 1, 1) := by decide +kernel
theorem d_LR_settle_56 : decode b_LR_settle 56 = .ok (.iload_n 2, 1) := by decide +kernel
theorem d_LR_settle_57 : decode b_LR_settle 57 = .ok (.invokevirtual 190, 3) := by decide +kernel
theorem d_LR_settle_60 : decode b_LR_settle 60 = .ok (.return_, 1) := by decide +kernel
theorem k_LR_settle : Cond.code y_LR_settle b_LR_settle 5 (none) ∈ WS := ws_t 318 (by decide +kernel) (by decide +kernel)
theorem hd_LR_settle : y_LR_settle.cls = R_LR ∧ y_LR_settle.cls ≠ "java/lang/invoke/MethodHandle" ∧ y_LR_settle.cls ≠ "java/lang/invoke/VarHandle" ∧ (parseMethodDescriptor y_LR_settle.desc).map (fun d => d.parameters.length) = some 2 := by decide +kernel
abbrev b_LR_settlePrefixes : ByteArray := prog_1_method_27_code
abbrev y_LR_settlePrefixes : MethodName := ⟨"LabelRoads", "settlePrefixes", "(I)V"⟩
theorem d_LR_settlePrefixes_0 : decode b_LR_settlePrefixes 0 = .ok (.iconst 0, 1) := by decide +kernel
theorem d_LR_settlePrefixes_1 : decode b_LR_settlePrefixes 1 = .ok (.istore_n 2, 1) := by decide +kernel
theorem d_LR_settlePrefixes_2 : decode b_LR_settlePrefixes 2 = .ok (.iload_n 2, 1) := by decide +kernel
theorem d_LR_settlePrefixes_3 : decode b_LR_settlePrefixes 3 = .ok (.iconst 4, 1) := by decide +kernel
theorem d_LR_settlePrefixes_4 : decode b_LR_settlePrefixes 4 = .ok (.if_icmp .ge (15), 3) := by decide +kernel
theorem d_LR_settlePrefixes_7 : decode b_LR_settlePrefixes 7 = .ok (.aload_n 0, 1) := by decide +kernel
theorem d_LR_settlePrefixes_8 : decode b_LR_settlePrefixes 8 = .ok (.iload_n 1, 1) := by decide +kernel
theorem d_LR_settlePrefixes_9 : decode b_LR_settlePrefixes 9 = .ok (.iload_n 2, 1) := by decide +kernel
theorem d_LR_settlePrefixes_10 : decode b_LR_settlePrefixes 10 = .ok (.invokevirtual 180, 3) := by decide +kernel
theorem d_LR_settlePrefixes_13 : decode b_LR_settlePrefixes 13 = .ok (.iinc 2 (1), 3) := by decide +kernel
theorem d_LR_settlePrefixes_16 : decode b_LR_settlePrefixes 16 = .ok (.goto (-14), 3) := by decide +kernel
theorem d_LR_settlePrefixes_19 : decode b_LR_settlePrefixes 19 = .ok (.return_, 1) := by decide +kernel
theorem k_LR_settlePrefixes : Cond.code y_LR_settlePrefixes b_LR_settlePrefixes 3 (none) ∈ WS := ws_t 314 (by decide +kernel) (by decide +kernel)
theorem hd_LR_settlePrefixes : y_LR_settlePrefixes.cls = R_LR ∧ y_LR_settlePrefixes.cls ≠ "java/lang/invoke/MethodHandle" ∧ y_LR_settlePrefixes.cls ≠ "java/lang/invoke/VarHandle" ∧ (parseMethodDescriptor y_LR_settlePrefixes.desc).map (fun d => d.parameters.length) = some 1 := by decide +kernel
abbrev b_LR_settleAll : ByteArray := prog_1_method_26_code
abbrev y_LR_settleAll : MethodName := ⟨"LabelRoads", "settleAll", "()V"⟩
theorem d_LR_settleAll_0 : decode b_LR_settleAll 0 = .ok (.iconst 0, 1) := by decide +kernel
theorem d_LR_settleAll_1 : decode b_LR_settleAll 1 = .ok (.istore_n 1, 1) := by decide +kernel
theorem d_LR_settleAll_2 : decode b_LR_settleAll 2 = .ok (.iload_n 1, 1) := by decide +kernel
theorem d_LR_settleAll_3 : decode b_LR_settleAll 3 = .ok (.aload_n 0, 1) := by decide +kernel
theorem d_LR_settleAll_4 : decode b_LR_settleAll 4 = .ok (.getfield 18, 3) := by decide +kernel
theorem d_LR_settleAll_7 : decode b_LR_settleAll 7 = .ok (.if_icmp .ge (14), 3) := by decide +kernel
theorem d_LR_settleAll_10 : decode b_LR_settleAll 10 = .ok (.aload_n 0, 1) := by decide +kernel
theorem d_LR_settleAll_11 : decode b_LR_settleAll 11 = .ok (.iload_n 1, 1) := by decide +kernel
theorem d_LR_settleAll_12 : decode b_LR_settleAll 12 = .ok (.invokevirtual 177, 3) := by decide +kernel
theorem d_LR_settleAll_15 : decode b_LR_settleAll 15 = .ok (.iinc 1 (1), 3) := by decide +kernel
theorem d_LR_settleAll_18 : decode b_LR_settleAll 18 = .ok (.goto (-16), 3) := by decide +kernel
theorem d_LR_settleAll_21 : decode b_LR_settleAll 21 = .ok (.return_, 1) := by decide +kernel
theorem k_LR_settleAll : Cond.code y_LR_settleAll b_LR_settleAll 2 (none) ∈ WS := ws_t 310 (by decide +kernel) (by decide +kernel)
theorem hd_LR_settleAll : y_LR_settleAll.cls = R_LR ∧ y_LR_settleAll.cls ≠ "java/lang/invoke/MethodHandle" ∧ y_LR_settleAll.cls ≠ "java/lang/invoke/VarHandle" ∧ (parseMethodDescriptor y_LR_settleAll.desc).map (fun d => d.parameters.length) = some 0 := by decide +kernel
abbrev b_LR_receive : ByteArray := prog_1_method_32_code
abbrev y_LR_receive : MethodName := ⟨"LabelRoads", "receive", "(I)V"⟩
theorem d_LR_receive_0 : decode b_LR_receive 0 = .ok (.iload_n 1, 1) := by decide +kernel
theorem d_LR_receive_1 : decode b_LR_receive 1 = .ok (.invokestatic 208, 3) := by decide +kernel
theorem d_LR_receive_4 : decode b_LR_receive 4 = .ok (.istore_n 2, 1) := by decide +kernel
theorem d_LR_receive_5 : decode b_LR_receive 5 = .ok (.iload_n 1, 1) := by decide +kernel
theorem d_LR_receive_6 : decode b_LR_receive 6 = .ok (.invokestatic 211, 3) := by decide +kernel
theorem d_LR_receive_9 : decode b_LR_receive 9 = .ok (.istore_n 3, 1) := by decide +kernel
theorem d_LR_receive_10 : decode b_LR_receive 10 = .ok (.iload_n 1, 1) := by decide +kernel
theorem d_LR_receive_11 : decode b_LR_receive 11 = .ok (.invokestatic 214, 3) := by decide +kernel
theorem d_LR_receive_14 : decode b_LR_receive 14 = .ok (.istore 4, 2) := by decide +kernel
theorem d_LR_receive_16 : decode b_LR_receive 16 = .ok (.iload_n 1, 1) := by decide +kernel
theorem d_LR_receive_17 : decode b_LR_receive 17 = .ok (.invokestatic 217, 3) := by decide +kernel
theorem d_LR_receive_20 : decode b_LR_receive 20 = .ok (.istore 5, 2) := by decide +kernel
theorem d_LR_receive_22 : decode b_LR_receive 22 = .ok (.iload_n 1, 1) := by decide +kernel
theorem d_LR_receive_23 : decode b_LR_receive 23 = .ok (.invokestatic 107, 3) := by decide +kernel
theorem d_LR_receive_26 : decode b_LR_receive 26 = .ok (.lookupswitch (88) #[(1, 26), (2, 50)], 26) := by decide +kernel
theorem d_LR_receive_52 : decode b_LR_receive 52 = .ok (.aload_n 0, 1) := by decide +kernel
theorem d_LR_receive_53 : decode b_LR_receive 53 = .ok (.getfield 40, 3) := by decide +kernel
theorem d_LR_receive_56 : decode b_LR_receive 56 = .ok (.iload_n 3, 1) := by decide +kernel
theorem d_LR_receive_57 : decode b_LR_receive 57 = .ok (.aaload, 1) := by decide +kernel
theorem d_LR_receive_58 : decode b_LR_receive 58 = .ok (.iload_n 2, 1) := by decide +kernel
theorem d_LR_receive_59 : decode b_LR_receive 59 = .ok (.iload 4, 2) := by decide +kernel
theorem d_LR_receive_61 : decode b_LR_receive 61 = .ok (.iload 5, 2) := by decide +kernel
theorem d_LR_receive_63 : decode b_LR_receive 63 = .ok (.invokevirtual 218, 3) := by decide +kernel
theorem d_LR_receive_66 : decode b_LR_receive 66 = .ok (.aload_n 0, 1) := by decide +kernel
theorem d_LR_receive_67 : decode b_LR_receive 67 = .ok (.iload_n 3, 1) := by decide +kernel
theorem d_LR_receive_68 : decode b_LR_receive 68 = .ok (.iload 4, 2) := by decide +kernel
theorem d_LR_receive_70 : decode b_LR_receive 70 = .ok (.invokevirtual 180, 3) := by decide +kernel
theorem d_LR_receive_73 : decode b_LR_receive 73 = .ok (.goto (58), 3) := by decide +kernel
theorem d_LR_receive_76 : decode b_LR_receive 76 = .ok (.aload_n 0, 1) := by decide +kernel
theorem d_LR_receive_77 : decode b_LR_receive 77 = .ok (.getfield 40, 3) := by decide +kernel
theorem d_LR_receive_80 : decode b_LR_receive 80 = .ok (.iload_n 3, 1) := by decide +kernel
theorem d_LR_receive_81 : decode b_LR_receive 81 = .ok (.aaload, 1) := by decide +kernel
theorem d_LR_receive_82 : decode b_LR_receive 82 = .ok (.iload_n 2, 1) := by decide +kernel
theorem d_LR_receive_83 : decode b_LR_receive 83 = .ok (.iload 4, 2) := by decide +kernel
theorem d_LR_receive_85 : decode b_LR_receive 85 = .ok (.iload 5, 2) := by decide +kernel
theorem d_LR_receive_87 : decode b_LR_receive 87 = .ok (.invokevirtual 221, 3) := by decide +kernel
theorem d_LR_receive_90 : decode b_LR_receive 90 = .ok (.aload_n 0, 1) := by decide +kernel
theorem d_LR_receive_91 : decode b_LR_receive 91 = .ok (.getfield 34, 3) := by decide +kernel
theorem d_LR_receive_94 : decode b_LR_receive 94 = .ok (.iconst 3, 1) := by decide +kernel
theorem d_LR_receive_95 : decode b_LR_receive 95 = .ok (.iload_n 3, 1) := by decide +kernel
theorem d_LR_receive_96 : decode b_LR_receive 96 = .ok (.iload_n 2, 1) := by decide +kernel
theorem d_LR_receive_97 : decode b_LR_receive 97 = .ok (.iload 4, 2) := by decide +kernel
theorem d_LR_receive_99 : decode b_LR_receive 99 = .ok (.iload 5, 2) := by decide +kernel
theorem d_LR_receive_101 : decode b_LR_receive 101 = .ok (.invokevirtual 173, 3) := by decide +kernel
theorem d_LR_receive_104 : decode b_LR_receive 104 = .ok (.aload_n 0, 1) := by decide +kernel
theorem d_LR_receive_105 : decode b_LR_receive 105 = .ok (.iload_n 3, 1) := by decide +kernel
theorem d_LR_receive_106 : decode b_LR_receive 106 = .ok (.iload 4, 2) := by decide +kernel
theorem d_LR_receive_108 : decode b_LR_receive 108 = .ok (.invokevirtual 180, 3) := by decide +kernel
theorem d_LR_receive_111 : decode b_LR_receive 111 = .ok (.goto (20), 3) := by decide +kernel
theorem d_LR_receive_114 : decode b_LR_receive 114 = .ok (.aload_n 0, 1) := by decide +kernel
theorem d_LR_receive_115 : decode b_LR_receive 115 = .ok (.getfield 40, 3) := by decide +kernel
theorem d_LR_receive_118 : decode b_LR_receive 118 = .ok (.iload_n 3, 1) := by decide +kernel
theorem d_LR_receive_119 : decode b_LR_receive 119 = .ok (.aaload, 1) := by decide +kernel
theorem d_LR_receive_120 : decode b_LR_receive 120 = .ok (.iload 5, 2) := by decide +kernel
theorem d_LR_receive_122 : decode b_LR_receive 122 = .ok (.iload_n 2, 1) := by decide +kernel
theorem d_LR_receive_123 : decode b_LR_receive 123 = .ok (.invokevirtual 224, 3) := by decide +kernel
theorem d_LR_receive_126 : decode b_LR_receive 126 = .ok (.aload_n 0, 1) := by decide +kernel
theorem d_LR_receive_127 : decode b_LR_receive 127 = .ok (.iload_n 3, 1) := by decide +kernel
theorem d_LR_receive_128 : decode b_LR_receive 128 = .ok (.invokevirtual 177, 3) := by decide +kernel
theorem d_LR_receive_131 : decode b_LR_receive 131 = .ok (.return_, 1) := by decide +kernel
theorem k_LR_receive : Cond.code y_LR_receive b_LR_receive 6 (none) ∈ WS := ws_t 410 (by decide +kernel) (by decide +kernel)
theorem hd_LR_receive : y_LR_receive.cls = R_LR ∧ y_LR_receive.cls ≠ "java/lang/invoke/MethodHandle" ∧ y_LR_receive.cls ≠ "java/lang/invoke/VarHandle" ∧ (parseMethodDescriptor y_LR_receive.desc).map (fun d => d.parameters.length) = some 1 := by decide +kernel
abbrev b_LR_goOn : ByteArray := prog_1_method_36_code
abbrev y_LR_goOn : MethodName := ⟨"LabelRoads", "goOn", "(IIZ)I"⟩
theorem d_LR_goOn_0 : decode b_LR_goOn 0 = .ok (.aload_n 0, 1) := by decide +kernel
theorem d_LR_goOn_1 : decode b_LR_goOn 1 = .ok (.getfield 27, 3) := by decide +kernel
theorem d_LR_goOn_4 : decode b_LR_goOn 4 = .ok (.iload_n 1, 1) := by decide +kernel
theorem d_LR_goOn_5 : decode b_LR_goOn 5 = .ok (.iload_n 2, 1) := by decide +kernel
theorem d_LR_goOn_6 : decode b_LR_goOn 6 = .ok (.invokevirtual 122, 3) := by decide +kernel
theorem d_LR_goOn_9 : decode b_LR_goOn 9 = .ok (.istore 4, 2) := by decide +kernel
theorem d_LR_goOn_11 : decode b_LR_goOn 11 = .ok (.iload 4, 2) := by decide +kernel
theorem d_LR_goOn_13 : decode b_LR_goOn 13 = .ok (.iconst (-1), 1) := by decide +kernel
theorem d_LR_goOn_14 : decode b_LR_goOn 14 = .ok (.if_icmp .ne (5), 3) := by decide +kernel
theorem d_LR_goOn_17 : decode b_LR_goOn 17 = .ok (.iconst 1, 1) := by decide +kernel
theorem d_LR_goOn_18 : decode b_LR_goOn 18 = .ok (.ireturn, 1) := by decide +kernel
theorem d_LR_goOn_19 : decode b_LR_goOn 19 = .ok (.aload_n 0, 1) := by decide +kernel
theorem d_LR_goOn_20 : decode b_LR_goOn 20 = .ok (.getfield 40, 3) := by decide +kernel
theorem d_LR_goOn_23 : decode b_LR_goOn 23 = .ok (.iload_n 1, 1) := by decide +kernel
theorem d_LR_goOn_24 : decode b_LR_goOn 24 = .ok (.aaload, 1) := by decide +kernel
theorem d_LR_goOn_25 : decode b_LR_goOn 25 = .ok (.iload 4, 2) := by decide +kernel
theorem d_LR_goOn_27 : decode b_LR_goOn 27 = .ok (.iload_n 2, 1) := by decide +kernel
theorem d_LR_goOn_28 : decode b_LR_goOn 28 = .ok (.invokevirtual 128, 3) := by decide +kernel
theorem d_LR_goOn_31 : decode b_LR_goOn 31 = .ok (.istore 5, 2) := by decide +kernel
theorem d_LR_goOn_33 : decode b_LR_goOn 33 = .ok (.iload_n 3, 1) := by decide +kernel
theorem d_LR_goOn_34 : decode b_LR_goOn 34 = .ok (.ifCond .eq (10), 3) := by decide +kernel
theorem d_LR_goOn_37 : decode b_LR_goOn 37 = .ok (.iload 5, 2) := by decide +kernel
theorem d_LR_goOn_39 : decode b_LR_goOn 39 = .ok (.ifCond .ne (5), 3) := by decide +kernel
theorem d_LR_goOn_42 : decode b_LR_goOn 42 = .ok (.iconst 4, 1) := by decide +kernel
theorem d_LR_goOn_43 : decode b_LR_goOn 43 = .ok (.ireturn, 1) := by decide +kernel
theorem d_LR_goOn_44 : decode b_LR_goOn 44 = .ok (.aload_n 0, 1) := by decide +kernel
theorem d_LR_goOn_45 : decode b_LR_goOn 45 = .ok (.getfield 58, 3) := by decide +kernel
theorem d_LR_goOn_48 : decode b_LR_goOn 48 = .ok (.invokevirtual 257, 3) := by decide +kernel
theorem d_LR_goOn_51 : decode b_LR_goOn 51 = .ok (.ifCond .eq (5), 3) := by decide +kernel
theorem d_LR_goOn_54 : decode b_LR_goOn 54 = .ok (.iconst 2, 1) := by decide +kernel
theorem d_LR_goOn_55 : decode b_LR_goOn 55 = .ok (.ireturn, 1) := by decide +kernel
theorem d_LR_goOn_56 : decode b_LR_goOn 56 = .ok (.aload_n 0, 1) := by decide +kernel
theorem d_LR_goOn_57 : decode b_LR_goOn 57 = .ok (.getfield 58, 3) := by decide +kernel
theorem d_LR_goOn_60 : decode b_LR_goOn 60 = .ok (.iload 4, 2) := by decide +kernel
theorem d_LR_goOn_62 : decode b_LR_goOn 62 = .ok (.iload 5, 2) := by decide +kernel
theorem d_LR_goOn_64 : decode b_LR_goOn 64 = .ok (.invokevirtual 260, 3) := by decide +kernel
theorem d_LR_goOn_67 : decode b_LR_goOn 67 = .ok (.iconst (-1), 1) := by decide +kernel
theorem d_LR_goOn_68 : decode b_LR_goOn 68 = .ok (.ireturn, 1) := by decide +kernel
theorem k_LR_goOn : Cond.code y_LR_goOn b_LR_goOn 6 (some .int) ∈ WS := ws_t 542 (by decide +kernel) (by decide +kernel)
theorem hd_LR_goOn : y_LR_goOn.cls = R_LR ∧ y_LR_goOn.cls ≠ "java/lang/invoke/MethodHandle" ∧ y_LR_goOn.cls ≠ "java/lang/invoke/VarHandle" ∧ (parseMethodDescriptor y_LR_goOn.desc).map (fun d => d.parameters.length) = some 3 := by decide +kernel
abbrev b_LR_tryService : ByteArray := prog_1_method_35_code
abbrev y_LR_tryService : MethodName := ⟨"LabelRoads", "tryService", "(I)I"⟩
theorem d_LR_tryService_0 : decode b_LR_tryService 0 = .ok (.aload_n 0, 1) := by decide +kernel
theorem d_LR_tryService_1 : decode b_LR_tryService 1 = .ok (.getfield 45, 3) := by decide +kernel
theorem d_LR_tryService_4 : decode b_LR_tryService 4 = .ok (.aload_n 0, 1) := by decide +kernel
theorem d_LR_tryService_5 : decode b_LR_tryService 5 = .ok (.getfield 58, 3) := by decide +kernel
theorem d_LR_tryService_8 : decode b_LR_tryService 8 = .ok (.invokevirtual 254, 3) := by decide +kernel
theorem d_LR_tryService_11 : decode b_LR_tryService 11 = .ok (.iaload, 1) := by decide +kernel
theorem d_LR_tryService_12 : decode b_LR_tryService 12 = .ok (.iload_n 1, 1) := by decide +kernel
theorem d_LR_tryService_13 : decode b_LR_tryService 13 = .ok (.if_icmp .ne (7), 3) := by decide +kernel
theorem d_LR_tryService_16 : decode b_LR_tryService 16 = .ok (.iconst 0, 1) := by decide +kernel
theorem d_LR_tryService_17 : decode b_LR_tryService 17 = .ok (.goto (4), 3) := by decide +kernel
theorem d_LR_tryService_20 : decode b_LR_tryService 20 = .ok (.iconst 3, 1) := by decide +kernel
theorem d_LR_tryService_21 : decode b_LR_tryService 21 = .ok (.ireturn, 1) := by decide +kernel
theorem k_LR_tryService : Cond.code y_LR_tryService b_LR_tryService 2 (some .int) ∈ WS := ws_t 534 (by decide +kernel) (by decide +kernel)
theorem hd_LR_tryService : y_LR_tryService.cls = R_LR ∧ y_LR_tryService.cls ≠ "java/lang/invoke/MethodHandle" ∧ y_LR_tryService.cls ≠ "java/lang/invoke/VarHandle" ∧ (parseMethodDescriptor y_LR_tryService.desc).map (fun d => d.parameters.length) = some 1 := by decide +kernel
abbrev b_LR_passUnlabelled : ByteArray := prog_1_method_34_code
abbrev y_LR_passUnlabelled : MethodName := ⟨"LabelRoads", "passUnlabelled", "(I)I"⟩
theorem d_LR_passUnlabelled_0 : decode b_LR_passUnlabelled 0 = .ok (.aload_n 0, 1) := by decide +kernel
theorem d_LR_passUnlabelled_1 : decode b_LR_passUnlabelled 1 = .ok (.getfield 58, 3) := by decide +kernel
theorem d_LR_passUnlabelled_4 : decode b_LR_passUnlabelled 4 = .ok (.invokevirtual 244, 3) := by decide +kernel
theorem d_LR_passUnlabelled_7 : decode b_LR_passUnlabelled 7 = .ok (.istore_n 2, 1) := by decide +kernel
theorem d_LR_passUnlabelled_8 : decode b_LR_passUnlabelled 8 = .ok (.aload_n 0, 1) := by decide +kernel
theorem d_LR_passUnlabelled_9 : decode b_LR_passUnlabelled 9 = .ok (.getfield 27, 3) := by decide +kernel
theorem d_LR_passUnlabelled_12 : decode b_LR_passUnlabelled 12 = .ok (.iload_n 1, 1) := by decide +kernel
theorem d_LR_passUnlabelled_13 : decode b_LR_passUnlabelled 13 = .ok (.aload_n 0, 1) := by decide +kernel
theorem d_LR_passUnlabelled_14 : decode b_LR_passUnlabelled 14 = .ok (.getfield 58, 3) := by decide +kernel
theorem d_LR_passUnlabelled_17 : decode b_LR_passUnlabelled 17 = .ok (.invokevirtual 251, 3) := by decide +kernel
theorem d_LR_passUnlabelled_20 : decode b_LR_passUnlabelled 20 = .ok (.invokevirtual 193, 3) := by decide +kernel
theorem d_LR_passUnlabelled_23 : decode b_LR_passUnlabelled 23 = .ok (.ifCond .eq (17), 3) := by decide +kernel
theorem d_LR_passUnlabelled_26 : decode b_LR_passUnlabelled 26 = .ok (.iload_n 2, 1) := by decide +kernel
theorem d_LR_passUnlabelled_27 : decode b_LR_passUnlabelled 27 = .ok (.ifCond .eq (11), 3) := by decide +kernel
theorem d_LR_passUnlabelled_30 : decode b_LR_passUnlabelled 30 = .ok (.aload_n 0, 1) := by decide +kernel
theorem d_LR_passUnlabelled_31 : decode b_LR_passUnlabelled 31 = .ok (.iload_n 1, 1) := by decide +kernel
theorem d_LR_passUnlabelled_32 : decode b_LR_passUnlabelled 32 = .ok (.invokevirtual 248, 3) := by decide +kernel
theorem d_LR_passUnlabelled_35 : decode b_LR_passUnlabelled 35 = .ok (.goto (4), 3) := by decide +kernel
theorem d_LR_passUnlabelled_38 : decode b_LR_passUnlabelled 38 = .ok (.iconst 0, 1) := by decide +kernel
theorem d_LR_passUnlabelled_39 : decode b_LR_passUnlabelled 39 = .ok (.ireturn, 1) := by decide +kernel
theorem d_LR_passUnlabelled_40 : decode b_LR_passUnlabelled 40 = .ok (.aload_n 0, 1) := by decide +kernel
theorem d_LR_passUnlabelled_41 : decode b_LR_passUnlabelled 41 = .ok (.iload_n 1, 1) := by decide +kernel
theorem d_LR_passUnlabelled_42 : decode b_LR_passUnlabelled 42 = .ok (.aload_n 0, 1) := by decide +kernel
theorem d_LR_passUnlabelled_43 : decode b_LR_passUnlabelled 43 = .ok (.getfield 58, 3) := by decide +kernel
theorem d_LR_passUnlabelled_46 : decode b_LR_passUnlabelled 46 = .ok (.invokevirtual 251, 3) := by decide +kernel
theorem d_LR_passUnlabelled_49 : decode b_LR_passUnlabelled 49 = .ok (.iload_n 2, 1) := by decide +kernel
theorem d_LR_passUnlabelled_50 : decode b_LR_passUnlabelled 50 = .ok (.invokevirtual 237, 3) := by decide +kernel
theorem d_LR_passUnlabelled_53 : decode b_LR_passUnlabelled 53 = .ok (.ireturn, 1) := by decide +kernel
theorem k_LR_passUnlabelled : Cond.code y_LR_passUnlabelled b_LR_passUnlabelled 3 (some .int) ∈ WS := ws_t 525 (by decide +kernel) (by decide +kernel)
theorem hd_LR_passUnlabelled : y_LR_passUnlabelled.cls = R_LR ∧ y_LR_passUnlabelled.cls ≠ "java/lang/invoke/MethodHandle" ∧ y_LR_passUnlabelled.cls ≠ "java/lang/invoke/VarHandle" ∧ (parseMethodDescriptor y_LR_passUnlabelled.desc).map (fun d => d.parameters.length) = some 1 := by decide +kernel
abbrev b_LR_passRouter : ByteArray := prog_1_method_33_code
abbrev y_LR_passRouter : MethodName := ⟨"LabelRoads", "passRouter", "()I"⟩
theorem d_LR_passRouter_0 : decode b_LR_passRouter 0 = .ok (.aload_n 0, 1) := by decide +kernel
theorem d_LR_passRouter_1 : decode b_LR_passRouter 1 = .ok (.getfield 58, 3) := by decide +kernel
theorem d_LR_passRouter_4 : decode b_LR_passRouter 4 = .ok (.invokevirtual 227, 3) := by decide +kernel
theorem d_LR_passRouter_7 : decode b_LR_passRouter 7 = .ok (.istore_n 1, 1) := by decide +kernel
theorem d_LR_passRouter_8 : decode b_LR_passRouter 8 = .ok (.aload_n 0, 1) := by decide +kernel
theorem d_LR_passRouter_9 : decode b_LR_passRouter 9 = .ok (.getfield 58, 3) := by decide +kernel
theorem d_LR_passRouter_12 : decode b_LR_passRouter 12 = .ok (.invokevirtual 230, 3) := by decide +kernel
theorem d_LR_passRouter_15 : decode b_LR_passRouter 15 = .ok (.ifCond .ne (9), 3) := by decide +kernel
theorem d_LR_passRouter_18 : decode b_LR_passRouter 18 = .ok (.aload_n 0, 1) := by decide +kernel
theorem d_LR_passRouter_19 : decode b_LR_passRouter 19 = .ok (.iload_n 1, 1) := by decide +kernel
theorem d_LR_passRouter_20 : decode b_LR_passRouter 20 = .ok (.invokevirtual 233, 3) := by decide +kernel
theorem d_LR_passRouter_23 : decode b_LR_passRouter 23 = .ok (.ireturn, 1) := by decide +kernel
theorem d_LR_passRouter_24 : decode b_LR_passRouter 24 = .ok (.aload_n 0, 1) := by decide +kernel
theorem d_LR_passRouter_25 : decode b_LR_passRouter 25 = .ok (.getfield 40, 3) := by decide +kernel
theorem d_LR_passRouter_28 : decode b_LR_passRouter 28 = .ok (.iload_n 1, 1) := by decide +kernel
theorem d_LR_passRouter_29 : decode b_LR_passRouter 29 = .ok (.aaload, 1) := by decide +kernel
theorem d_LR_passRouter_30 : decode b_LR_passRouter 30 = .ok (.aload_n 0, 1) := by decide +kernel
theorem d_LR_passRouter_31 : decode b_LR_passRouter 31 = .ok (.getfield 58, 3) := by decide +kernel
theorem d_LR_passRouter_34 : decode b_LR_passRouter 34 = .ok (.invokevirtual 230, 3) := by decide +kernel
theorem d_LR_passRouter_37 : decode b_LR_passRouter 37 = .ok (.invokevirtual 236, 3) := by decide +kernel
theorem d_LR_passRouter_40 : decode b_LR_passRouter 40 = .ok (.istore_n 2, 1) := by decide +kernel
theorem d_LR_passRouter_41 : decode b_LR_passRouter 41 = .ok (.iload_n 2, 1) := by decide +kernel
theorem d_LR_passRouter_42 : decode b_LR_passRouter 42 = .ok (.iconst (-1), 1) := by decide +kernel
theorem d_LR_passRouter_43 : decode b_LR_passRouter 43 = .ok (.if_icmp .ne (5), 3) := by decide +kernel
theorem d_LR_passRouter_46 : decode b_LR_passRouter 46 = .ok (.iconst 3, 1) := by decide +kernel
theorem d_LR_passRouter_47 : decode b_LR_passRouter 47 = .ok (.ireturn, 1) := by decide +kernel
theorem d_LR_passRouter_48 : decode b_LR_passRouter 48 = .ok (.aload_n 0, 1) := by decide +kernel
theorem d_LR_passRouter_49 : decode b_LR_passRouter 49 = .ok (.getfield 27, 3) := by decide +kernel
theorem d_LR_passRouter_52 : decode b_LR_passRouter 52 = .ok (.iload_n 1, 1) := by decide +kernel
theorem d_LR_passRouter_53 : decode b_LR_passRouter 53 = .ok (.iload_n 2, 1) := by decide +kernel
theorem d_LR_passRouter_54 : decode b_LR_passRouter 54 = .ok (.invokevirtual 193, 3) := by decide +kernel
theorem d_LR_passRouter_57 : decode b_LR_passRouter 57 = .ok (.ifCond .ne (11), 3) := by decide +kernel
theorem d_LR_passRouter_60 : decode b_LR_passRouter 60 = .ok (.aload_n 0, 1) := by decide +kernel
theorem d_LR_passRouter_61 : decode b_LR_passRouter 61 = .ok (.iload_n 1, 1) := by decide +kernel
theorem d_LR_passRouter_62 : decode b_LR_passRouter 62 = .ok (.iload_n 2, 1) := by decide +kernel
theorem d_LR_passRouter_63 : decode b_LR_passRouter 63 = .ok (.iconst 1, 1) := by decide +kernel
theorem d_LR_passRouter_64 : decode b_LR_passRouter 64 = .ok (.invokevirtual 237, 3) := by decide +kernel
theorem d_LR_passRouter_67 : decode b_LR_passRouter 67 = .ok (.ireturn, 1) := by decide +kernel
theorem d_LR_passRouter_68 : decode b_LR_passRouter 68 = .ok (.aload_n 0, 1) := by decide +kernel
theorem d_LR_passRouter_69 : decode b_LR_passRouter 69 = .ok (.getfield 58, 3) := by decide +kernel
theorem d_LR_passRouter_72 : decode b_LR_passRouter 72 = .ok (.invokevirtual 241, 3) := by decide +kernel
theorem d_LR_passRouter_75 : decode b_LR_passRouter 75 = .ok (.aload_n 0, 1) := by decide +kernel
theorem d_LR_passRouter_76 : decode b_LR_passRouter 76 = .ok (.getfield 58, 3) := by decide +kernel
theorem d_LR_passRouter_79 : decode b_LR_passRouter 79 = .ok (.invokevirtual 244, 3) := by decide +kernel
theorem d_LR_passRouter_82 : decode b_LR_passRouter 82 = .ok (.ifCond .eq (11), 3) := by decide +kernel
theorem d_LR_passRouter_85 : decode b_LR_passRouter 85 = .ok (.aload_n 0, 1) := by decide +kernel
theorem d_LR_passRouter_86 : decode b_LR_passRouter 86 = .ok (.iload_n 1, 1) := by decide +kernel
theorem d_LR_passRouter_87 : decode b_LR_passRouter 87 = .ok (.invokevirtual 248, 3) := by decide +kernel
theorem d_LR_passRouter_90 : decode b_LR_passRouter 90 = .ok (.goto (8), 3) := by decide +kernel
theorem d_LR_passRouter_93 : decode b_LR_passRouter 93 = .ok (.aload_n 0, 1) := by decide +kernel
theorem d_LR_passRouter_94 : decode b_LR_passRouter 94 = .ok (.iload_n 1, 1) := by decide +kernel
theorem d_LR_passRouter_95 : decode b_LR_passRouter 95 = .ok (.invokevirtual 233, 3) := by decide +kernel
theorem d_LR_passRouter_98 : decode b_LR_passRouter 98 = .ok (.ireturn, 1) := by decide +kernel
theorem k_LR_passRouter : Cond.code y_LR_passRouter b_LR_passRouter 3 (some .int) ∈ WS := ws_t 513 (by decide +kernel) (by decide +kernel)
theorem hd_LR_passRouter : y_LR_passRouter.cls = R_LR ∧ y_LR_passRouter.cls ≠ "java/lang/invoke/MethodHandle" ∧ y_LR_passRouter.cls ≠ "java/lang/invoke/VarHandle" ∧ (parseMethodDescriptor y_LR_passRouter.desc).map (fun d => d.parameters.length) = some 0 := by decide +kernel
abbrev b_LR_link : ByteArray := prog_1_method_2_code
abbrev y_LR_link : MethodName := ⟨"LabelRoads", "link", "(III)I"⟩
theorem d_LR_link_0 : decode b_LR_link 0 = .ok (.aload_n 0, 1) := by decide +kernel
theorem d_LR_link_1 : decode b_LR_link 1 = .ok (.iload_n 1, 1) := by decide +kernel
theorem d_LR_link_2 : decode b_LR_link 2 = .ok (.iload_n 2, 1) := by decide +kernel
theorem d_LR_link_3 : decode b_LR_link 3 = .ok (.invokevirtual 62, 3) := by decide +kernel
theorem d_LR_link_6 : decode b_LR_link 6 = .ok (.iload_n 3, 1) := by decide +kernel
theorem d_LR_link_7 : decode b_LR_link 7 = .ok (.iconst 0, 1) := by decide +kernel
theorem d_LR_link_8 : decode b_LR_link 8 = .ok (.bipush 15, 2) := by decide +kernel
theorem d_LR_link_10 : decode b_LR_link 10 = .ok (.invokestatic 66, 3) := by decide +kernel
theorem d_LR_link_13 : decode b_LR_link 13 = .ok (.aload_n 0, 1) := by decide +kernel
theorem d_LR_link_14 : decode b_LR_link 14 = .ok (.getfield 27, 3) := by decide +kernel
theorem d_LR_link_17 : decode b_LR_link 17 = .ok (.iload_n 1, 1) := by decide +kernel
theorem d_LR_link_18 : decode b_LR_link 18 = .ok (.iload_n 2, 1) := by decide +kernel
theorem d_LR_link_19 : decode b_LR_link 19 = .ok (.invokevirtual 70, 3) := by decide +kernel
theorem d_LR_link_22 : decode b_LR_link 22 = .ok (.istore 4, 2) := by decide +kernel
theorem d_LR_link_24 : decode b_LR_link 24 = .ok (.iload_n 3, 1) := by decide +kernel
theorem d_LR_link_25 : decode b_LR_link 25 = .ok (.iload 4, 2) := by decide +kernel
theorem d_LR_link_27 : decode b_LR_link 27 = .ok (.if_icmp .ne (6), 3) := by decide +kernel
theorem d_LR_link_30 : decode b_LR_link 30 = .ok (.iload 4, 2) := by decide +kernel
theorem d_LR_link_32 : decode b_LR_link 32 = .ok (.ireturn, 1) := by decide +kernel
theorem d_LR_link_33 : decode b_LR_link 33 = .ok (.aload_n 0, 1) := by decide +kernel
theorem d_LR_link_34 : decode b_LR_link 34 = .ok (.getfield 27, 3) := by decide +kernel
theorem d_LR_link_37 : decode b_LR_link 37 = .ok (.iload_n 1, 1) := by decide +kernel
theorem d_LR_link_38 : decode b_LR_link 38 = .ok (.iload_n 2, 1) := by decide +kernel
theorem d_LR_link_39 : decode b_LR_link 39 = .ok (.iload_n 3, 1) := by decide +kernel
theorem d_LR_link_40 : decode b_LR_link 40 = .ok (.invokevirtual 73, 3) := by decide +kernel
theorem d_LR_link_43 : decode b_LR_link 43 = .ok (.iload_n 3, 1) := by decide +kernel
theorem d_LR_link_44 : decode b_LR_link 44 = .ok (.ifCond .ne (12), 3) := by decide +kernel
theorem d_LR_link_47 : decode b_LR_link 47 = .ok (.aload_n 0, 1) := by decide +kernel
theorem d_LR_link_48 : decode b_LR_link 48 = .ok (.iload_n 1, 1) := by decide +kernel
theorem d_LR_link_49 : decode b_LR_link 49 = .ok (.iload_n 2, 1) := by decide +kernel
theorem d_LR_link_50 : decode b_LR_link 50 = .ok (.invokevirtual 76, 3) := by decide +kernel
theorem d_LR_link_53 : decode b_LR_link 53 = .ok (.goto (36), 3) := by decide +kernel
theorem d_LR_link_56 : decode b_LR_link 56 = .ok (.iload 4, 2) := by decide +kernel
theorem d_LR_link_58 : decode b_LR_link 58 = .ok (.ifCond .ne (31), 3) := by decide +kernel
theorem d_LR_link_61 : decode b_LR_link 61 = .ok (.aload_n 0, 1) := by decide +kernel
theorem d_LR_link_62 : decode b_LR_link 62 = .ok (.iload_n 1, 1) := by decide +kernel
theorem d_LR_link_63 : decode b_LR_link 63 = .ok (.iload_n 2, 1) := by decide +kernel
theorem d_LR_link_64 : decode b_LR_link 64 = .ok (.invokestatic 9, 3) := by decide +kernel
theorem d_LR_link_67 : decode b_LR_link 67 = .ok (.iload_n 1, 1) := by decide +kernel
theorem d_LR_link_68 : decode b_LR_link 68 = .ok (.iload_n 2, 1) := by decide +kernel
theorem d_LR_link_69 : decode b_LR_link 69 = .ok (.invokestatic 15, 3) := by decide +kernel
theorem d_LR_link_72 : decode b_LR_link 72 = .ok (.invokevirtual 79, 3) := by decide +kernel
theorem d_LR_link_75 : decode b_LR_link 75 = .ok (.aload_n 0, 1) := by decide +kernel
theorem d_LR_link_76 : decode b_LR_link 76 = .ok (.iload_n 1, 1) := by decide +kernel
theorem d_LR_link_77 : decode b_LR_link 77 = .ok (.iload_n 2, 1) := by decide +kernel
theorem d_LR_link_78 : decode b_LR_link 78 = .ok (.invokestatic 15, 3) := by decide +kernel
theorem d_LR_link_81 : decode b_LR_link 81 = .ok (.iload_n 1, 1) := by decide +kernel
theorem d_LR_link_82 : decode b_LR_link 82 = .ok (.iload_n 2, 1) := by decide +kernel
theorem d_LR_link_83 : decode b_LR_link 83 = .ok (.invokestatic 9, 3) := by decide +kernel
theorem d_LR_link_86 : decode b_LR_link 86 = .ok (.invokevirtual 79, 3) := by decide +kernel
theorem d_LR_link_89 : decode b_LR_link 89 = .ok (.aload_n 0, 1) := by decide +kernel
theorem d_LR_link_90 : decode b_LR_link 90 = .ok (.invokevirtual 82, 3) := by decide +kernel
theorem d_LR_link_93 : decode b_LR_link 93 = .ok (.iload 4, 2) := by decide +kernel
theorem d_LR_link_95 : decode b_LR_link 95 = .ok (.ireturn, 1) := by decide +kernel
theorem k_LR_link : Cond.code y_LR_link b_LR_link 5 (some .int) ∈ WS := ws_t 171 (by decide +kernel) (by decide +kernel)
theorem hd_LR_link : y_LR_link.cls = R_LR ∧ y_LR_link.cls ≠ "java/lang/invoke/MethodHandle" ∧ y_LR_link.cls ≠ "java/lang/invoke/VarHandle" ∧ (parseMethodDescriptor y_LR_link.desc).map (fun d => d.parameters.length) = some 3 := by decide +kernel
abbrev b_LR_own : ByteArray := prog_1_method_3_code
abbrev y_LR_own : MethodName := ⟨"LabelRoads", "own", "(II)I"⟩
theorem d_LR_own_0 : decode b_LR_own 0 = .ok (.iload_n 1, 1) := by decide +kernel
theorem d_LR_own_1 : decode b_LR_own 1 = .ok (.invokestatic 85, 3) := by decide +kernel
theorem d_LR_own_4 : decode b_LR_own 4 = .ok (.aload_n 0, 1) := by decide +kernel
theorem d_LR_own_5 : decode b_LR_own 5 = .ok (.iload_n 2, 1) := by decide +kernel
theorem d_LR_own_6 : decode b_LR_own 6 = .ok (.invokevirtual 88, 3) := by decide +kernel
theorem d_LR_own_9 : decode b_LR_own 9 = .ok (.aload_n 0, 1) := by decide +kernel
theorem d_LR_own_10 : decode b_LR_own 10 = .ok (.getfield 27, 3) := by decide +kernel
theorem d_LR_own_13 : decode b_LR_own 13 = .ok (.iload_n 1, 1) := by decide +kernel
theorem d_LR_own_14 : decode b_LR_own 14 = .ok (.invokevirtual 91, 3) := by decide +kernel
theorem d_LR_own_17 : decode b_LR_own 17 = .ok (.istore_n 3, 1) := by decide +kernel
theorem d_LR_own_18 : decode b_LR_own 18 = .ok (.iload_n 2, 1) := by decide +kernel
theorem d_LR_own_19 : decode b_LR_own 19 = .ok (.iload_n 3, 1) := by decide +kernel
theorem d_LR_own_20 : decode b_LR_own 20 = .ok (.if_icmp .eq (16), 3) := by decide +kernel
theorem d_LR_own_23 : decode b_LR_own 23 = .ok (.aload_n 0, 1) := by decide +kernel
theorem d_LR_own_24 : decode b_LR_own 24 = .ok (.getfield 27, 3) := by decide +kernel
theorem d_LR_own_27 : decode b_LR_own 27 = .ok (.iload_n 1, 1) := by decide +kernel
theorem d_LR_own_28 : decode b_LR_own 28 = .ok (.iload_n 2, 1) := by decide +kernel
theorem d_LR_own_29 : decode b_LR_own 29 = .ok (.invokevirtual 95, 3) := by decide +kernel
theorem d_LR_own_32 : decode b_LR_own 32 = .ok (.aload_n 0, 1) := by decide +kernel
theorem d_LR_own_33 : decode b_LR_own 33 = .ok (.invokevirtual 82, 3) := by decide +kernel
theorem d_LR_own_36 : decode b_LR_own 36 = .ok (.iload_n 3, 1) := by decide +kernel
theorem d_LR_own_37 : decode b_LR_own 37 = .ok (.ireturn, 1) := by decide +kernel
theorem k_LR_own : Cond.code y_LR_own b_LR_own 4 (some .int) ∈ WS := ws_t 366 (by decide +kernel) (by decide +kernel)
theorem hd_LR_own : y_LR_own.cls = R_LR ∧ y_LR_own.cls ≠ "java/lang/invoke/MethodHandle" ∧ y_LR_own.cls ≠ "java/lang/invoke/VarHandle" ∧ (parseMethodDescriptor y_LR_own.desc).map (fun d => d.parameters.length) = some 2 := by decide +kernel
abbrev b_LR_serve : ByteArray := prog_1_method_4_code
abbrev y_LR_serve : MethodName := ⟨"LabelRoads", "serve", "(II)I"⟩
theorem d_LR_serve_0 : decode b_LR_serve 0 = .ok (.iload_n 1, 1) := by decide +kernel
theorem d_LR_serve_1 : decode b_LR_serve 1 = .ok (.iconst 0, 1) := by decide +kernel
theorem d_LR_serve_2 : decode b_LR_serve 2 = .ok (.iconst 3, 1) := by decide +kernel
theorem d_LR_serve_3 : decode b_LR_serve 3 = .ok (.invokestatic 66, 3) := by decide +kernel
theorem d_LR_serve_6 : decode b_LR_serve 6 = .ok (.aload_n 0, 1) := by decide +kernel
theorem d_LR_serve_7 : decode b_LR_serve 7 = .ok (.iload_n 2, 1) := by decide +kernel
theorem d_LR_serve_8 : decode b_LR_serve 8 = .ok (.invokevirtual 88, 3) := by decide +kernel
theorem d_LR_serve_11 : decode b_LR_serve 11 = .ok (.aload_n 0, 1) := by decide +kernel
theorem d_LR_serve_12 : decode b_LR_serve 12 = .ok (.getfield 45, 3) := by decide +kernel
theorem d_LR_serve_15 : decode b_LR_serve 15 = .ok (.iload_n 1, 1) := by decide +kernel
theorem d_LR_serve_16 : decode b_LR_serve 16 = .ok (.iaload, 1) := by decide +kernel
theorem d_LR_serve_17 : decode b_LR_serve 17 = .ok (.istore_n 3, 1) := by decide +kernel
theorem d_LR_serve_18 : decode b_LR_serve 18 = .ok (.aload_n 0, 1) := by decide +kernel
theorem d_LR_serve_19 : decode b_LR_serve 19 = .ok (.getfield 45, 3) := by decide +kernel
theorem d_LR_serve_22 : decode b_LR_serve 22 = .ok (.iload_n 1, 1) := by decide +kernel
theorem d_LR_serve_23 : decode b_LR_serve 23 = .ok (.iload_n 2, 1) := by decide +kernel
theorem d_LR_serve_24 : decode b_LR_serve 24 = .ok (.iastore, 1) := by decide +kernel
theorem d_LR_serve_25 : decode b_LR_serve 25 = .ok (.iload_n 3, 1) := by decide +kernel
theorem d_LR_serve_26 : decode b_LR_serve 26 = .ok (.ireturn, 1) := by decide +kernel
theorem k_LR_serve : Cond.code y_LR_serve b_LR_serve 4 (some .int) ∈ WS := ws_t 388 (by decide +kernel) (by decide +kernel)
theorem hd_LR_serve : y_LR_serve.cls = R_LR ∧ y_LR_serve.cls ≠ "java/lang/invoke/MethodHandle" ∧ y_LR_serve.cls ≠ "java/lang/invoke/VarHandle" ∧ (parseMethodDescriptor y_LR_serve.desc).map (fun d => d.parameters.length) = some 2 := by decide +kernel
abbrev b_LR_step : ByteArray := prog_1_method_5_code
abbrev y_LR_step : MethodName := ⟨"LabelRoads", "step", "(II)I"⟩
theorem d_LR_step_0 : decode b_LR_step 0 = .ok (.aload_n 0, 1) := by decide +kernel
theorem d_LR_step_1 : decode b_LR_step 1 = .ok (.iload_n 1, 1) := by decide +kernel
theorem d_LR_step_2 : decode b_LR_step 2 = .ok (.iload_n 2, 1) := by decide +kernel
theorem d_LR_step_3 : decode b_LR_step 3 = .ok (.invokevirtual 62, 3) := by decide +kernel
theorem d_LR_step_6 : decode b_LR_step 6 = .ok (.aload_n 0, 1) := by decide +kernel
theorem d_LR_step_7 : decode b_LR_step 7 = .ok (.getfield 34, 3) := by decide +kernel
theorem d_LR_step_10 : decode b_LR_step 10 = .ok (.iload_n 1, 1) := by decide +kernel
theorem d_LR_step_11 : decode b_LR_step 11 = .ok (.iload_n 2, 1) := by decide +kernel
theorem d_LR_step_12 : decode b_LR_step 12 = .ok (.invokevirtual 98, 3) := by decide +kernel
theorem d_LR_step_15 : decode b_LR_step 15 = .ok (.istore_n 3, 1) := by decide +kernel
theorem d_LR_step_16 : decode b_LR_step 16 = .ok (.iload_n 3, 1) := by decide +kernel
theorem d_LR_step_17 : decode b_LR_step 17 = .ok (.iconst (-1), 1) := by decide +kernel
theorem d_LR_step_18 : decode b_LR_step 18 = .ok (.if_icmp .ne (5), 3) := by decide +kernel
theorem d_LR_step_21 : decode b_LR_step 21 = .ok (.iconst 0, 1) := by decide +kernel
theorem d_LR_step_22 : decode b_LR_step 22 = .ok (.ireturn, 1) := by decide +kernel
theorem d_LR_step_23 : decode b_LR_step 23 = .ok (.aload_n 0, 1) := by decide +kernel
theorem d_LR_step_24 : decode b_LR_step 24 = .ok (.getfield 34, 3) := by decide +kernel
theorem d_LR_step_27 : decode b_LR_step 27 = .ok (.iload_n 3, 1) := by decide +kernel
theorem d_LR_step_28 : decode b_LR_step 28 = .ok (.invokevirtual 101, 3) := by decide +kernel
theorem d_LR_step_31 : decode b_LR_step 31 = .ok (.istore 4, 2) := by decide +kernel
theorem d_LR_step_33 : decode b_LR_step 33 = .ok (.aload_n 0, 1) := by decide +kernel
theorem d_LR_step_34 : decode b_LR_step 34 = .ok (.iload 4, 2) := by decide +kernel
theorem d_LR_step_36 : decode b_LR_step 36 = .ok (.invokevirtual 104, 3) := by decide +kernel
theorem d_LR_step_39 : decode b_LR_step 39 = .ok (.iload 4, 2) := by decide +kernel
theorem d_LR_step_41 : decode b_LR_step 41 = .ok (.invokestatic 107, 3) := by decide +kernel
theorem d_LR_step_44 : decode b_LR_step 44 = .ok (.ireturn, 1) := by decide +kernel
theorem k_LR_step : Cond.code y_LR_step b_LR_step 5 (some .int) ∈ WS := ws_t 395 (by decide +kernel) (by decide +kernel)
theorem hd_LR_step : y_LR_step.cls = R_LR ∧ y_LR_step.cls ≠ "java/lang/invoke/MethodHandle" ∧ y_LR_step.cls ≠ "java/lang/invoke/VarHandle" ∧ (parseMethodDescriptor y_LR_step.desc).map (fun d => d.parameters.length) = some 2 := by decide +kernel
abbrev b_LR_run : ByteArray := prog_1_method_6_code
abbrev y_LR_run : MethodName := ⟨"LabelRoads", "run", "(I)I"⟩
theorem d_LR_run_0 : decode b_LR_run 0 = .ok (.iload_n 1, 1) := by decide +kernel
theorem d_LR_run_1 : decode b_LR_run 1 = .ok (.iconst 0, 1) := by decide +kernel
theorem d_LR_run_2 : decode b_LR_run 2 = .ok (.sipush 400, 3) := by decide +kernel
theorem d_LR_run_5 : decode b_LR_run 5 = .ok (.invokestatic 66, 3) := by decide +kernel
theorem d_LR_run_8 : decode b_LR_run 8 = .ok (.iconst 0, 1) := by decide +kernel
theorem d_LR_run_9 : decode b_LR_run 9 = .ok (.istore_n 2, 1) := by decide +kernel
theorem d_LR_run_10 : decode b_LR_run 10 = .ok (.iload_n 2, 1) := by decide +kernel
theorem d_LR_run_11 : decode b_LR_run 11 = .ok (.iload_n 1, 1) := by decide +kernel
theorem d_LR_run_12 : decode b_LR_run 12 = .ok (.if_icmp .ge (31), 3) := by decide +kernel
theorem d_LR_run_15 : decode b_LR_run 15 = .ok (.aload_n 0, 1) := by decide +kernel
theorem d_LR_run_16 : decode b_LR_run 16 = .ok (.getfield 34, 3) := by decide +kernel
theorem d_LR_run_19 : decode b_LR_run 19 = .ok (.invokevirtual 110, 3) := by decide +kernel
theorem d_LR_run_22 : decode b_LR_run 22 = .ok (.ifCond .le (21), 3) := by decide +kernel
theorem d_LR_run_25 : decode b_LR_run 25 = .ok (.aload_n 0, 1) := by decide +kernel
theorem d_LR_run_26 : decode b_LR_run 26 = .ok (.aload_n 0, 1) := by decide +kernel
theorem d_LR_run_27 : decode b_LR_run 27 = .ok (.getfield 34, 3) := by decide +kernel
theorem d_LR_run_30 : decode b_LR_run 30 = .ok (.iconst 0, 1) := by decide +kernel
theorem d_LR_run_31 : decode b_LR_run 31 = .ok (.invokevirtual 101, 3) := by decide +kernel
theorem d_LR_run_34 : decode b_LR_run 34 = .ok (.invokevirtual 104, 3) := by decide +kernel
theorem d_LR_run_37 : decode b_LR_run 37 = .ok (.iinc 2 (1), 3) := by decide +kernel
theorem d_LR_run_40 : decode b_LR_run 40 = .ok (.goto (-30), 3) := by decide +kernel
theorem d_LR_run_43 : decode b_LR_run 43 = .ok (.iload_n 2, 1) := by decide +kernel
theorem d_LR_run_44 : decode b_LR_run 44 = .ok (.ireturn, 1) := by decide +kernel
theorem k_LR_run : Cond.code y_LR_run b_LR_run 3 (some .int) ∈ WS := ws_t 437 (by decide +kernel) (by decide +kernel)
theorem hd_LR_run : y_LR_run.cls = R_LR ∧ y_LR_run.cls ≠ "java/lang/invoke/MethodHandle" ∧ y_LR_run.cls ≠ "java/lang/invoke/VarHandle" ∧ (parseMethodDescriptor y_LR_run.desc).map (fun d => d.parameters.length) = some 1 := by decide +kernel
abbrev b_LR_waiting : ByteArray := prog_1_method_7_code
abbrev y_LR_waiting : MethodName := ⟨"LabelRoads", "waiting", "()I"⟩
theorem d_LR_waiting_0 : decode b_LR_waiting 0 = .ok (.aload_n 0, 1) := by decide +kernel
theorem d_LR_waiting_1 : decode b_LR_waiting 1 = .ok (.getfield 34, 3) := by decide +kernel
theorem d_LR_waiting_4 : decode b_LR_waiting 4 = .ok (.invokevirtual 110, 3) := by decide +kernel
theorem d_LR_waiting_7 : decode b_LR_waiting 7 = .ok (.ireturn, 1) := by decide +kernel
theorem k_LR_waiting : Cond.code y_LR_waiting b_LR_waiting 1 (some .int) ∈ WS := ws_t 140 (by decide +kernel) (by decide +kernel)
theorem hd_LR_waiting : y_LR_waiting.cls = R_LR ∧ y_LR_waiting.cls ≠ "java/lang/invoke/MethodHandle" ∧ y_LR_waiting.cls ≠ "java/lang/invoke/VarHandle" ∧ (parseMethodDescriptor y_LR_waiting.desc).map (fun d => d.parameters.length) = some 0 := by decide +kernel
abbrev b_LR_lost : ByteArray := prog_1_method_8_code
abbrev y_LR_lost : MethodName := ⟨"LabelRoads", "lost", "()I"⟩
theorem d_LR_lost_0 : decode b_LR_lost 0 = .ok (.aload_n 0, 1) := by decide +kernel
theorem d_LR_lost_1 : decode b_LR_lost 1 = .ok (.getfield 34, 3) := by decide +kernel
theorem d_LR_lost_4 : decode b_LR_lost 4 = .ok (.invokevirtual 113, 3) := by decide +kernel
theorem d_LR_lost_7 : decode b_LR_lost 7 = .ok (.ireturn, 1) := by decide +kernel
theorem k_LR_lost : Cond.code y_LR_lost b_LR_lost 1 (some .int) ∈ WS := ws_t 148 (by decide +kernel) (by decide +kernel)
theorem hd_LR_lost : y_LR_lost.cls = R_LR ∧ y_LR_lost.cls ≠ "java/lang/invoke/MethodHandle" ∧ y_LR_lost.cls ≠ "java/lang/invoke/VarHandle" ∧ (parseMethodDescriptor y_LR_lost.desc).map (fun d => d.parameters.length) = some 0 := by decide +kernel
abbrev b_LR_distance : ByteArray := prog_1_method_9_code
abbrev y_LR_distance : MethodName := ⟨"LabelRoads", "distance", "(II)I"⟩
theorem d_LR_distance_0 : decode b_LR_distance 0 = .ok (.aload_n 0, 1) := by decide +kernel
theorem d_LR_distance_1 : decode b_LR_distance 1 = .ok (.iload_n 1, 1) := by decide +kernel
theorem d_LR_distance_2 : decode b_LR_distance 2 = .ok (.invokevirtual 116, 3) := by decide +kernel
theorem d_LR_distance_5 : decode b_LR_distance 5 = .ok (.iload_n 2, 1) := by decide +kernel
theorem d_LR_distance_6 : decode b_LR_distance 6 = .ok (.invokestatic 85, 3) := by decide +kernel
theorem d_LR_distance_9 : decode b_LR_distance 9 = .ok (.aload_n 0, 1) := by decide +kernel
theorem d_LR_distance_10 : decode b_LR_distance 10 = .ok (.getfield 27, 3) := by decide +kernel
theorem d_LR_distance_13 : decode b_LR_distance 13 = .ok (.iload_n 1, 1) := by decide +kernel
theorem d_LR_distance_14 : decode b_LR_distance 14 = .ok (.iload_n 2, 1) := by decide +kernel
theorem d_LR_distance_15 : decode b_LR_distance 15 = .ok (.invokevirtual 119, 3) := by decide +kernel
theorem d_LR_distance_18 : decode b_LR_distance 18 = .ok (.ireturn, 1) := by decide +kernel
theorem k_LR_distance : Cond.code y_LR_distance b_LR_distance 3 (some .int) ∈ WS := ws_t 444 (by decide +kernel) (by decide +kernel)
theorem hd_LR_distance : y_LR_distance.cls = R_LR ∧ y_LR_distance.cls ≠ "java/lang/invoke/MethodHandle" ∧ y_LR_distance.cls ≠ "java/lang/invoke/VarHandle" ∧ (parseMethodDescriptor y_LR_distance.desc).map (fun d => d.parameters.length) = some 2 := by decide +kernel
abbrev b_LR_next : ByteArray := prog_1_method_10_code
abbrev y_LR_next : MethodName := ⟨"LabelRoads", "next", "(II)I"⟩
theorem d_LR_next_0 : decode b_LR_next 0 = .ok (.aload_n 0, 1) := by decide +kernel
theorem d_LR_next_1 : decode b_LR_next 1 = .ok (.iload_n 1, 1) := by decide +kernel
theorem d_LR_next_2 : decode b_LR_next 2 = .ok (.invokevirtual 116, 3) := by decide +kernel
theorem d_LR_next_5 : decode b_LR_next 5 = .ok (.iload_n 2, 1) := by decide +kernel
theorem d_LR_next_6 : decode b_LR_next 6 = .ok (.invokestatic 85, 3) := by decide +kernel
theorem d_LR_next_9 : decode b_LR_next 9 = .ok (.aload_n 0, 1) := by decide +kernel
theorem d_LR_next_10 : decode b_LR_next 10 = .ok (.getfield 27, 3) := by decide +kernel
theorem d_LR_next_13 : decode b_LR_next 13 = .ok (.iload_n 1, 1) := by decide +kernel
theorem d_LR_next_14 : decode b_LR_next 14 = .ok (.iload_n 2, 1) := by decide +kernel
theorem d_LR_next_15 : decode b_LR_next 15 = .ok (.invokevirtual 122, 3) := by decide +kernel
theorem d_LR_next_18 : decode b_LR_next 18 = .ok (.ireturn, 1) := by decide +kernel
theorem k_LR_next : Cond.code y_LR_next b_LR_next 3 (some .int) ∈ WS := ws_t 455 (by decide +kernel) (by decide +kernel)
theorem hd_LR_next : y_LR_next.cls = R_LR ∧ y_LR_next.cls ≠ "java/lang/invoke/MethodHandle" ∧ y_LR_next.cls ≠ "java/lang/invoke/VarHandle" ∧ (parseMethodDescriptor y_LR_next.desc).map (fun d => d.parameters.length) = some 2 := by decide +kernel
abbrev b_LR_label : ByteArray := prog_1_method_11_code
abbrev y_LR_label : MethodName := ⟨"LabelRoads", "label", "(II)I"⟩
theorem d_LR_label_0 : decode b_LR_label 0 = .ok (.aload_n 0, 1) := by decide +kernel
theorem d_LR_label_1 : decode b_LR_label 1 = .ok (.iload_n 1, 1) := by decide +kernel
theorem d_LR_label_2 : decode b_LR_label 2 = .ok (.invokevirtual 116, 3) := by decide +kernel
theorem d_LR_label_5 : decode b_LR_label 5 = .ok (.iload_n 2, 1) := by decide +kernel
theorem d_LR_label_6 : decode b_LR_label 6 = .ok (.invokestatic 85, 3) := by decide +kernel
theorem d_LR_label_9 : decode b_LR_label 9 = .ok (.aload_n 0, 1) := by decide +kernel
theorem d_LR_label_10 : decode b_LR_label 10 = .ok (.getfield 40, 3) := by decide +kernel
theorem d_LR_label_13 : decode b_LR_label 13 = .ok (.iload_n 1, 1) := by decide +kernel
theorem d_LR_label_14 : decode b_LR_label 14 = .ok (.aaload, 1) := by decide +kernel
theorem d_LR_label_15 : decode b_LR_label 15 = .ok (.iload_n 2, 1) := by decide +kernel
theorem d_LR_label_16 : decode b_LR_label 16 = .ok (.invokevirtual 125, 3) := by decide +kernel
theorem d_LR_label_19 : decode b_LR_label 19 = .ok (.ireturn, 1) := by decide +kernel
theorem k_LR_label : Cond.code y_LR_label b_LR_label 3 (some .int) ∈ WS := ws_t 462 (by decide +kernel) (by decide +kernel)
theorem hd_LR_label : y_LR_label.cls = R_LR ∧ y_LR_label.cls ≠ "java/lang/invoke/MethodHandle" ∧ y_LR_label.cls ≠ "java/lang/invoke/VarHandle" ∧ (parseMethodDescriptor y_LR_label.desc).map (fun d => d.parameters.length) = some 2 := by decide +kernel
abbrev b_LR_told : ByteArray := prog_1_method_12_code
abbrev y_LR_told : MethodName := ⟨"LabelRoads", "told", "(III)I"⟩
theorem d_LR_told_0 : decode b_LR_told 0 = .ok (.aload_n 0, 1) := by decide +kernel
theorem d_LR_told_1 : decode b_LR_told 1 = .ok (.iload_n 1, 1) := by decide +kernel
theorem d_LR_told_2 : decode b_LR_told 2 = .ok (.iload_n 2, 1) := by decide +kernel
theorem d_LR_told_3 : decode b_LR_told 3 = .ok (.invokevirtual 62, 3) := by decide +kernel
theorem d_LR_told_6 : decode b_LR_told 6 = .ok (.iload_n 3, 1) := by decide +kernel
theorem d_LR_told_7 : decode b_LR_told 7 = .ok (.invokestatic 85, 3) := by decide +kernel
theorem d_LR_told_10 : decode b_LR_told 10 = .ok (.aload_n 0, 1) := by decide +kernel
theorem d_LR_told_11 : decode b_LR_told 11 = .ok (.getfield 40, 3) := by decide +kernel
theorem d_LR_told_14 : decode b_LR_told 14 = .ok (.iload_n 1, 1) := by decide +kernel
theorem d_LR_told_15 : decode b_LR_told 15 = .ok (.aaload, 1) := by decide +kernel
theorem d_LR_told_16 : decode b_LR_told 16 = .ok (.iload_n 2, 1) := by decide +kernel
theorem d_LR_told_17 : decode b_LR_told 17 = .ok (.iload_n 3, 1) := by decide +kernel
theorem d_LR_told_18 : decode b_LR_told 18 = .ok (.invokevirtual 128, 3) := by decide +kernel
theorem d_LR_told_21 : decode b_LR_told 21 = .ok (.ireturn, 1) := by decide +kernel
theorem k_LR_told : Cond.code y_LR_told b_LR_told 4 (some .int) ∈ WS := ws_t 469 (by decide +kernel) (by decide +kernel)
theorem hd_LR_told : y_LR_told.cls = R_LR ∧ y_LR_told.cls ≠ "java/lang/invoke/MethodHandle" ∧ y_LR_told.cls ≠ "java/lang/invoke/VarHandle" ∧ (parseMethodDescriptor y_LR_told.desc).map (fun d => d.parameters.length) = some 3 := by decide +kernel
abbrev b_LR_taken : ByteArray := prog_1_method_13_code
abbrev y_LR_taken : MethodName := ⟨"LabelRoads", "taken", "(I)I"⟩
theorem d_LR_taken_0 : decode b_LR_taken 0 = .ok (.aload_n 0, 1) := by decide +kernel
theorem d_LR_taken_1 : decode b_LR_taken 1 = .ok (.iload_n 1, 1) := by decide +kernel
theorem d_LR_taken_2 : decode b_LR_taken 2 = .ok (.invokevirtual 116, 3) := by decide +kernel
theorem d_LR_taken_5 : decode b_LR_taken 5 = .ok (.aload_n 0, 1) := by decide +kernel
theorem d_LR_taken_6 : decode b_LR_taken 6 = .ok (.getfield 40, 3) := by decide +kernel
theorem d_LR_taken_9 : decode b_LR_taken 9 = .ok (.iload_n 1, 1) := by decide +kernel
theorem d_LR_taken_10 : decode b_LR_taken 10 = .ok (.aaload, 1) := by decide +kernel
theorem d_LR_taken_11 : decode b_LR_taken 11 = .ok (.invokevirtual 131, 3) := by decide +kernel
theorem d_LR_taken_14 : decode b_LR_taken 14 = .ok (.ireturn, 1) := by decide +kernel
theorem k_LR_taken : Cond.code y_LR_taken b_LR_taken 2 (some .int) ∈ WS := ws_t 476 (by decide +kernel) (by decide +kernel)
theorem hd_LR_taken : y_LR_taken.cls = R_LR ∧ y_LR_taken.cls ≠ "java/lang/invoke/MethodHandle" ∧ y_LR_taken.cls ≠ "java/lang/invoke/VarHandle" ∧ (parseMethodDescriptor y_LR_taken.desc).map (fun d => d.parameters.length) = some 1 := by decide +kernel
abbrev b_LR_send : ByteArray := prog_1_method_14_code
abbrev y_LR_send : MethodName := ⟨"LabelRoads", "send", "(IIII)I"⟩
theorem d_LR_send_0 : decode b_LR_send 0 = .ok (.aload_n 0, 1) := by decide +kernel
theorem d_LR_send_1 : decode b_LR_send 1 = .ok (.iload_n 1, 1) := by decide +kernel
theorem d_LR_send_2 : decode b_LR_send 2 = .ok (.invokevirtual 116, 3) := by decide +kernel
theorem d_LR_send_5 : decode b_LR_send 5 = .ok (.iload_n 2, 1) := by decide +kernel
theorem d_LR_send_6 : decode b_LR_send 6 = .ok (.invokestatic 85, 3) := by decide +kernel
theorem d_LR_send_9 : decode b_LR_send 9 = .ok (.iload_n 3, 1) := by decide +kernel
theorem d_LR_send_10 : decode b_LR_send 10 = .ok (.iconst (-1), 1) := by decide +kernel
theorem d_LR_send_11 : decode b_LR_send 11 = .ok (.iconst 3, 1) := by decide +kernel
theorem d_LR_send_12 : decode b_LR_send 12 = .ok (.invokestatic 66, 3) := by decide +kernel
theorem d_LR_send_15 : decode b_LR_send 15 = .ok (.iload 4, 2) := by decide +kernel
theorem d_LR_send_17 : decode b_LR_send 17 = .ok (.iconst 1, 1) := by decide +kernel
theorem d_LR_send_18 : decode b_LR_send 18 = .ok (.sipush 255, 3) := by decide +kernel
theorem d_LR_send_21 : decode b_LR_send 21 = .ok (.invokestatic 66, 3) := by decide +kernel
theorem d_LR_send_24 : decode b_LR_send 24 = .ok (.aload_n 0, 1) := by decide +kernel
theorem d_LR_send_25 : decode b_LR_send 25 = .ok (.getfield 58, 3) := by decide +kernel
theorem d_LR_send_28 : decode b_LR_send 28 = .ok (.iload_n 1, 1) := by decide +kernel
theorem d_LR_send_29 : decode b_LR_send 29 = .ok (.iload_n 2, 1) := by decide +kernel
theorem d_LR_send_30 : decode b_LR_send 30 = .ok (.iload_n 3, 1) := by decide +kernel
theorem d_LR_send_31 : decode b_LR_send 31 = .ok (.iload 4, 2) := by decide +kernel
theorem d_LR_send_33 : decode b_LR_send 33 = .ok (.invokevirtual 134, 3) := by decide +kernel
theorem d_LR_send_36 : decode b_LR_send 36 = .ok (.iconst 0, 1) := by decide +kernel
theorem d_LR_send_37 : decode b_LR_send 37 = .ok (.istore 5, 2) := by decide +kernel
theorem d_LR_send_39 : decode b_LR_send 39 = .ok (.iload 5, 2) := by decide +kernel
theorem d_LR_send_41 : decode b_LR_send 41 = .ok (.iload 4, 2) := by decide +kernel
theorem d_LR_send_43 : decode b_LR_send 43 = .ok (.if_icmp .ge (24), 3) := by decide +kernel
theorem d_LR_send_46 : decode b_LR_send 46 = .ok (.aload_n 0, 1) := by decide +kernel
theorem d_LR_send_47 : decode b_LR_send 47 = .ok (.invokevirtual 138, 3) := by decide +kernel
theorem d_LR_send_50 : decode b_LR_send 50 = .ok (.istore 6, 2) := by decide +kernel
theorem d_LR_send_52 : decode b_LR_send 52 = .ok (.iload 6, 2) := by decide +kernel
theorem d_LR_send_54 : decode b_LR_send 54 = .ok (.iconst (-1), 1) := by decide +kernel
theorem d_LR_send_55 : decode b_LR_send 55 = .ok (.if_icmp .eq (6), 3) := by decide +kernel
theorem d_LR_send_58 : decode b_LR_send 58 = .ok (.iload 6, 2) := by decide +kernel
theorem d_LR_send_60 : decode b_LR_send 60 = .ok (.ireturn, 1) := by decide +kernel
theorem d_LR_send_61 : decode b_LR_send 61 = .ok (.iinc 5 (1), 3) := by decide +kernel
theorem d_LR_send_64 : decode b_LR_send 64 = .ok (.goto (-25), 3) := by decide +kernel
theorem d_LR_send_67 : decode b_LR_send 67 = .ok (.iconst 2, 1) := by decide +kernel
theorem d_LR_send_68 : decode b_LR_send 68 = .ok (.ireturn, 1) := by decide +kernel
theorem k_LR_send : Cond.code y_LR_send b_LR_send 7 (some .int) ∈ WS := ws_t 493 (by decide +kernel) (by decide +kernel)
theorem hd_LR_send : y_LR_send.cls = R_LR ∧ y_LR_send.cls ≠ "java/lang/invoke/MethodHandle" ∧ y_LR_send.cls ≠ "java/lang/invoke/VarHandle" ∧ (parseMethodDescriptor y_LR_send.desc).map (fun d => d.parameters.length) = some 4 := by decide +kernel
abbrev b_LR_hops : ByteArray := prog_1_method_15_code
abbrev y_LR_hops : MethodName := ⟨"LabelRoads", "hops", "()I"⟩
theorem d_LR_hops_0 : decode b_LR_hops 0 = .ok (.aload_n 0, 1) := by decide +kernel
theorem d_LR_hops_1 : decode b_LR_hops 1 = .ok (.getfield 58, 3) := by decide +kernel
theorem d_LR_hops_4 : decode b_LR_hops 4 = .ok (.invokevirtual 141, 3) := by decide +kernel
theorem d_LR_hops_7 : decode b_LR_hops 7 = .ok (.ireturn, 1) := by decide +kernel
theorem k_LR_hops : Cond.code y_LR_hops b_LR_hops 1 (some .int) ∈ WS := ws_t 156 (by decide +kernel) (by decide +kernel)
theorem hd_LR_hops : y_LR_hops.cls = R_LR ∧ y_LR_hops.cls ≠ "java/lang/invoke/MethodHandle" ∧ y_LR_hops.cls ≠ "java/lang/invoke/VarHandle" ∧ (parseMethodDescriptor y_LR_hops.desc).map (fun d => d.parameters.length) = some 0 := by decide +kernel
abbrev b_LR_hop : ByteArray := prog_1_method_16_code
abbrev y_LR_hop : MethodName := ⟨"LabelRoads", "hop", "(I)I"⟩
theorem d_LR_hop_0 : decode b_LR_hop 0 = .ok (.aload_n 0, 1) := by decide +kernel
theorem d_LR_hop_1 : decode b_LR_hop 1 = .ok (.iload_n 1, 1) := by decide +kernel
theorem d_LR_hop_2 : decode b_LR_hop 2 = .ok (.invokevirtual 144, 3) := by decide +kernel
theorem d_LR_hop_5 : decode b_LR_hop 5 = .ok (.aload_n 0, 1) := by decide +kernel
theorem d_LR_hop_6 : decode b_LR_hop 6 = .ok (.getfield 58, 3) := by decide +kernel
theorem d_LR_hop_9 : decode b_LR_hop 9 = .ok (.iload_n 1, 1) := by decide +kernel
theorem d_LR_hop_10 : decode b_LR_hop 10 = .ok (.invokevirtual 147, 3) := by decide +kernel
theorem d_LR_hop_13 : decode b_LR_hop 13 = .ok (.ireturn, 1) := by decide +kernel
theorem k_LR_hop : Cond.code y_LR_hop b_LR_hop 2 (some .int) ∈ WS := ws_t 566 (by decide +kernel) (by decide +kernel)
theorem hd_LR_hop : y_LR_hop.cls = R_LR ∧ y_LR_hop.cls ≠ "java/lang/invoke/MethodHandle" ∧ y_LR_hop.cls ≠ "java/lang/invoke/VarHandle" ∧ (parseMethodDescriptor y_LR_hop.desc).map (fun d => d.parameters.length) = some 1 := by decide +kernel
abbrev b_LR_entry : ByteArray := prog_1_method_17_code
abbrev y_LR_entry : MethodName := ⟨"LabelRoads", "entry", "(I)I"⟩
theorem d_LR_entry_0 : decode b_LR_entry 0 = .ok (.aload_n 0, 1) := by decide +kernel
theorem d_LR_entry_1 : decode b_LR_entry 1 = .ok (.iload_n 1, 1) := by decide +kernel
theorem d_LR_entry_2 : decode b_LR_entry 2 = .ok (.invokevirtual 144, 3) := by decide +kernel
theorem d_LR_entry_5 : decode b_LR_entry 5 = .ok (.aload_n 0, 1) := by decide +kernel
theorem d_LR_entry_6 : decode b_LR_entry 6 = .ok (.getfield 58, 3) := by decide +kernel
theorem d_LR_entry_9 : decode b_LR_entry 9 = .ok (.iload_n 1, 1) := by decide +kernel
theorem d_LR_entry_10 : decode b_LR_entry 10 = .ok (.invokevirtual 150, 3) := by decide +kernel
theorem d_LR_entry_13 : decode b_LR_entry 13 = .ok (.ireturn, 1) := by decide +kernel
theorem k_LR_entry : Cond.code y_LR_entry b_LR_entry 2 (some .int) ∈ WS := ws_t 597 (by decide +kernel) (by decide +kernel)
theorem hd_LR_entry : y_LR_entry.cls = R_LR ∧ y_LR_entry.cls ≠ "java/lang/invoke/MethodHandle" ∧ y_LR_entry.cls ≠ "java/lang/invoke/VarHandle" ∧ (parseMethodDescriptor y_LR_entry.desc).map (fun d => d.parameters.length) = some 1 := by decide +kernel
