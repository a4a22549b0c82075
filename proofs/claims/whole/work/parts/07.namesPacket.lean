abbrev b_Packet_isForService : ByteArray := prog_3_method_5_code
abbrev y_Packet_isForService : MethodName := ⟨"LabelRoads$Packet", "isForService", "()Z"⟩
theorem d_Packet_isForService_0 : decode b_Packet_isForService 0 = .ok (.aload_n 0, 1) := by decide +kernel
theorem d_Packet_isForService_1 : decode b_Packet_isForService 1 = .ok (.getfield 22, 3) := by decide +kernel
theorem d_Packet_isForService_4 : decode b_Packet_isForService 4 = .ok (.iconst (-1), 1) := by decide +kernel
theorem d_Packet_isForService_5 : decode b_Packet_isForService 5 = .ok (.if_icmp .eq (7), 3) := by decide +kernel
theorem d_Packet_isForService_8 : decode b_Packet_isForService 8 = .ok (.iconst 1, 1) := by decide +kernel
theorem d_Packet_isForService_9 : decode b_Packet_isForService 9 = .ok (.goto (4), 3) := by decide +kernel
theorem d_Packet_isForService_12 : decode b_Packet_isForService 12 = .ok (.iconst 0, 1) := by decide +kernel
theorem d_Packet_isForService_13 : decode b_Packet_isForService 13 = .ok (.ireturn, 1) := by decide +kernel
theorem k_Packet_isForService : Cond.code y_Packet_isForService b_Packet_isForService 1 (some .boolean) ∈ WS := ws_t 501 (by decide +kernel) (by decide +kernel)
theorem hd_Packet_isForService : y_Packet_isForService.cls = R_Packet ∧ y_Packet_isForService.cls ≠ "java/lang/invoke/MethodHandle" ∧ y_Packet_isForService.cls ≠ "java/lang/invoke/VarHandle" ∧ (parseMethodDescriptor y_Packet_isForService.desc).map (fun d => d.parameters.length) = some 0 := by decide +kernel
abbrev b_Packet_isAtLastHop : ByteArray := prog_3_method_6_code
abbrev y_Packet_isAtLastHop : MethodName := ⟨"LabelRoads$Packet", "isAtLastHop", "()Z"⟩
theorem d_Packet_isAtLastHop_0 : decode b_Packet_isAtLastHop 0 = .ok (.aload_n 0, 1) := by decide +kernel
theorem d_Packet_isAtLastHop_1 : decode b_Packet_isAtLastHop 1 = .ok (.getfield 25, 3) := by decide +kernel
theorem d_Packet_isAtLastHop_4 : decode b_Packet_isAtLastHop 4 = .ok (.iconst 1, 1) := by decide +kernel
theorem d_Packet_isAtLastHop_5 : decode b_Packet_isAtLastHop 5 = .ok (.if_icmp .gt (7), 3) := by decide +kernel
theorem d_Packet_isAtLastHop_8 : decode b_Packet_isAtLastHop 8 = .ok (.iconst 1, 1) := by decide +kernel
theorem d_Packet_isAtLastHop_9 : decode b_Packet_isAtLastHop 9 = .ok (.goto (4), 3) := by decide +kernel
theorem d_Packet_isAtLastHop_12 : decode b_Packet_isAtLastHop 12 = .ok (.iconst 0, 1) := by decide +kernel
theorem d_Packet_isAtLastHop_13 : decode b_Packet_isAtLastHop 13 = .ok (.ireturn, 1) := by decide +kernel
theorem k_Packet_isAtLastHop : Cond.code y_Packet_isAtLastHop b_Packet_isAtLastHop 1 (some .boolean) ∈ WS := ws_t 546 (by decide +kernel) (by decide +kernel)
theorem hd_Packet_isAtLastHop : y_Packet_isAtLastHop.cls = R_Packet ∧ y_Packet_isAtLastHop.cls ≠ "java/lang/invoke/MethodHandle" ∧ y_Packet_isAtLastHop.cls ≠ "java/lang/invoke/VarHandle" ∧ (parseMethodDescriptor y_Packet_isAtLastHop.desc).map (fun d => d.parameters.length) = some 0 := by decide +kernel
abbrev b_Packet_targetPrefix : ByteArray := prog_3_method_7_code
abbrev y_Packet_targetPrefix : MethodName := ⟨"LabelRoads$Packet", "targetPrefix", "()I"⟩
theorem d_Packet_targetPrefix_0 : decode b_Packet_targetPrefix 0 = .ok (.aload_n 0, 1) := by decide +kernel
theorem d_Packet_targetPrefix_1 : decode b_Packet_targetPrefix 1 = .ok (.getfield 18, 3) := by decide +kernel
theorem d_Packet_targetPrefix_4 : decode b_Packet_targetPrefix 4 = .ok (.ireturn, 1) := by decide +kernel
theorem k_Packet_targetPrefix : Cond.code y_Packet_targetPrefix b_Packet_targetPrefix 1 (some .int) ∈ WS := ws_t 530 (by decide +kernel) (by decide +kernel)
theorem hd_Packet_targetPrefix : y_Packet_targetPrefix.cls = R_Packet ∧ y_Packet_targetPrefix.cls ≠ "java/lang/invoke/MethodHandle" ∧ y_Packet_targetPrefix.cls ≠ "java/lang/invoke/VarHandle" ∧ (parseMethodDescriptor y_Packet_targetPrefix.desc).map (fun d => d.parameters.length) = some 0 := by decide +kernel
abbrev b_Packet_targetService : ByteArray := prog_3_method_8_code
abbrev y_Packet_targetService : MethodName := ⟨"LabelRoads$Packet", "targetService", "()I"⟩
theorem d_Packet_targetService_0 : decode b_Packet_targetService 0 = .ok (.aload_n 0, 1) := by decide +kernel
theorem d_Packet_targetService_1 : decode b_Packet_targetService 1 = .ok (.getfield 22, 3) := by decide +kernel
theorem d_Packet_targetService_4 : decode b_Packet_targetService 4 = .ok (.ireturn, 1) := by decide +kernel
theorem k_Packet_targetService : Cond.code y_Packet_targetService b_Packet_targetService 1 (some .int) ∈ WS := ws_t 538 (by decide +kernel) (by decide +kernel)
theorem hd_Packet_targetService : y_Packet_targetService.cls = R_Packet ∧ y_Packet_targetService.cls ≠ "java/lang/invoke/MethodHandle" ∧ y_Packet_targetService.cls ≠ "java/lang/invoke/VarHandle" ∧ (parseMethodDescriptor y_Packet_targetService.desc).map (fun d => d.parameters.length) = some 0 := by decide +kernel
abbrev b_Packet_topLabel : ByteArray := prog_3_method_9_code
abbrev y_Packet_topLabel : MethodName := ⟨"LabelRoads$Packet", "topLabel", "()I"⟩
theorem d_Packet_topLabel_0 : decode b_Packet_topLabel 0 = .ok (.aload_n 0, 1) := by decide +kernel
theorem d_Packet_topLabel_1 : decode b_Packet_topLabel 1 = .ok (.getfield 28, 3) := by decide +kernel
theorem d_Packet_topLabel_4 : decode b_Packet_topLabel 4 = .ok (.ireturn, 1) := by decide +kernel
theorem k_Packet_topLabel : Cond.code y_Packet_topLabel b_Packet_topLabel 1 (some .int) ∈ WS := ws_t 521 (by decide +kernel) (by decide +kernel)
theorem hd_Packet_topLabel : y_Packet_topLabel.cls = R_Packet ∧ y_Packet_topLabel.cls ≠ "java/lang/invoke/MethodHandle" ∧ y_Packet_topLabel.cls ≠ "java/lang/invoke/VarHandle" ∧ (parseMethodDescriptor y_Packet_topLabel.desc).map (fun d => d.parameters.length) = some 0 := by decide +kernel
abbrev b_Packet_place : ByteArray := prog_3_method_10_code
abbrev y_Packet_place : MethodName := ⟨"LabelRoads$Packet", "place", "()I"⟩
theorem d_Packet_place_0 : decode b_Packet_place 0 = .ok (.aload_n 0, 1) := by decide +kernel
theorem d_Packet_place_1 : decode b_Packet_place 1 = .ok (.getfield 9, 3) := by decide +kernel
theorem d_Packet_place_4 : decode b_Packet_place 4 = .ok (.aload_n 0, 1) := by decide +kernel
theorem d_Packet_place_5 : decode b_Packet_place 5 = .ok (.getfield 31, 3) := by decide +kernel
theorem d_Packet_place_8 : decode b_Packet_place 8 = .ok (.iconst 1, 1) := by decide +kernel
theorem d_Packet_place_9 : decode b_Packet_place 9 = .ok (.isub, 1) := by decide +kernel
theorem d_Packet_place_10 : decode b_Packet_place 10 = .ok (.iaload, 1) := by decide +kernel
theorem d_Packet_place_11 : decode b_Packet_place 11 = .ok (.ireturn, 1) := by decide +kernel
theorem k_Packet_place : Cond.code y_Packet_place b_Packet_place 1 (some .int) ∈ WS := ws_t 517 (by decide +kernel) (by decide +kernel)
theorem hd_Packet_place : y_Packet_place.cls = R_Packet ∧ y_Packet_place.cls ≠ "java/lang/invoke/MethodHandle" ∧ y_Packet_place.cls ≠ "java/lang/invoke/VarHandle" ∧ (parseMethodDescriptor y_Packet_place.desc).map (fun d => d.parameters.length) = some 0 := by decide +kernel
abbrev b_Packet_placeCount : ByteArray := prog_3_method_11_code
abbrev y_Packet_placeCount : MethodName := ⟨"LabelRoads$Packet", "placeCount", "()I"⟩
theorem d_Packet_placeCount_0 : decode b_Packet_placeCount 0 = .ok (.aload_n 0, 1) := by decide +kernel
theorem d_Packet_placeCount_1 : decode b_Packet_placeCount 1 = .ok (.getfield 31, 3) := by decide +kernel
theorem d_Packet_placeCount_4 : decode b_Packet_placeCount 4 = .ok (.ireturn, 1) := by decide +kernel
theorem k_Packet_placeCount : Cond.code y_Packet_placeCount b_Packet_placeCount 1 (some .int) ∈ WS := ws_t 160 (by decide +kernel) (by decide +kernel)
theorem hd_Packet_placeCount : y_Packet_placeCount.cls = R_Packet ∧ y_Packet_placeCount.cls ≠ "java/lang/invoke/MethodHandle" ∧ y_Packet_placeCount.cls ≠ "java/lang/invoke/VarHandle" ∧ (parseMethodDescriptor y_Packet_placeCount.desc).map (fun d => d.parameters.length) = some 0 := by decide +kernel
abbrev b_Packet_placeAt : ByteArray := prog_3_method_12_code
abbrev y_Packet_placeAt : MethodName := ⟨"LabelRoads$Packet", "placeAt", "(I)I"⟩
theorem d_Packet_placeAt_0 : decode b_Packet_placeAt 0 = .ok (.aload_n 0, 1) := by decide +kernel
theorem d_Packet_placeAt_1 : decode b_Packet_placeAt 1 = .ok (.getfield 9, 3) := by decide +kernel
theorem d_Packet_placeAt_4 : decode b_Packet_placeAt 4 = .ok (.iload_n 1, 1) := by decide +kernel
theorem d_Packet_placeAt_5 : decode b_Packet_placeAt 5 = .ok (.iaload, 1) := by decide +kernel
theorem d_Packet_placeAt_6 : decode b_Packet_placeAt 6 = .ok (.ireturn, 1) := by decide +kernel
theorem k_Packet_placeAt : Cond.code y_Packet_placeAt b_Packet_placeAt 2 (some .int) ∈ WS := ws_t 590 (by decide +kernel) (by decide +kernel)
theorem hd_Packet_placeAt : y_Packet_placeAt.cls = R_Packet ∧ y_Packet_placeAt.cls ≠ "java/lang/invoke/MethodHandle" ∧ y_Packet_placeAt.cls ≠ "java/lang/invoke/VarHandle" ∧ (parseMethodDescriptor y_Packet_placeAt.desc).map (fun d => d.parameters.length) = some 1 := by decide +kernel
abbrev b_Packet_entryAt : ByteArray := prog_3_method_13_code
abbrev y_Packet_entryAt : MethodName := ⟨"LabelRoads$Packet", "entryAt", "(I)I"⟩
theorem d_Packet_entryAt_0 : decode b_Packet_entryAt 0 = .ok (.aload_n 0, 1) := by decide +kernel
theorem d_Packet_entryAt_1 : decode b_Packet_entryAt 1 = .ok (.getfield 15, 3) := by decide +kernel
theorem d_Packet_entryAt_4 : decode b_Packet_entryAt 4 = .ok (.iload_n 1, 1) := by decide +kernel
theorem d_Packet_entryAt_5 : decode b_Packet_entryAt 5 = .ok (.iaload, 1) := by decide +kernel
theorem d_Packet_entryAt_6 : decode b_Packet_entryAt 6 = .ok (.ireturn, 1) := by decide +kernel
theorem k_Packet_entryAt : Cond.code y_Packet_entryAt b_Packet_entryAt 2 (some .int) ∈ WS := ws_t 601 (by decide +kernel) (by decide +kernel)
theorem hd_Packet_entryAt : y_Packet_entryAt.cls = R_Packet ∧ y_Packet_entryAt.cls ≠ "java/lang/invoke/MethodHandle" ∧ y_Packet_entryAt.cls ≠ "java/lang/invoke/VarHandle" ∧ (parseMethodDescriptor y_Packet_entryAt.desc).map (fun d => d.parameters.length) = some 1 := by decide +kernel
abbrev b_Packet_entryOf : ByteArray := prog_3_method_14_code
abbrev y_Packet_entryOf : MethodName := ⟨"LabelRoads$Packet", "entryOf", "(IZ)I"⟩
theorem d_Packet_entryOf_0 : decode b_Packet_entryOf 0 = .ok (.sipush 4096, 3) := by decide +kernel
theorem d_Packet_entryOf_3 : decode b_Packet_entryOf 3 = .ok (.iload_n 1, 1) := by decide +kernel
theorem d_Packet_entryOf_4 : decode b_Packet_entryOf 4 = .ok (.imul, 1) := by decide +kernel
theorem d_Packet_entryOf_5 : decode b_Packet_entryOf 5 = .ok (.iload_n 2, 1) := by decide +kernel
theorem d_Packet_entryOf_6 : decode b_Packet_entryOf 6 = .ok (.ifCond .eq (9), 3) := by decide +kernel
theorem d_Packet_entryOf_9 : decode b_Packet_entryOf 9 = .ok (.sipush 256, 3) := by decide +kernel
theorem d_Packet_entryOf_12 : decode b_Packet_entryOf 12 = .ok (.goto (4), 3) := by decide +kernel
theorem d_Packet_entryOf_15 : decode b_Packet_entryOf 15 = .ok (.iconst 0, 1) := by decide +kernel
theorem d_Packet_entryOf_16 : decode b_Packet_entryOf 16 = .ok (.iadd, 1) := by decide +kernel
theorem d_Packet_entryOf_17 : decode b_Packet_entryOf 17 = .ok (.aload_n 0, 1) := by decide +kernel
theorem d_Packet_entryOf_18 : decode b_Packet_entryOf 18 = .ok (.getfield 25, 3) := by decide +kernel
theorem d_Packet_entryOf_21 : decode b_Packet_entryOf 21 = .ok (.iadd, 1) := by decide +kernel
theorem d_Packet_entryOf_22 : decode b_Packet_entryOf 22 = .ok (.ireturn, 1) := by decide +kernel
theorem k_Packet_entryOf : Cond.code y_Packet_entryOf b_Packet_entryOf 3 (some .int) ∈ WS := ws_t 505 (by decide +kernel) (by decide +kernel)
theorem hd_Packet_entryOf : y_Packet_entryOf.cls = R_Packet ∧ y_Packet_entryOf.cls ≠ "java/lang/invoke/MethodHandle" ∧ y_Packet_entryOf.cls ≠ "java/lang/invoke/VarHandle" ∧ (parseMethodDescriptor y_Packet_entryOf.desc).map (fun d => d.parameters.length) = some 2 := by decide +kernel
abbrev b_Packet_note : ByteArray := prog_3_method_15_code
abbrev y_Packet_note : MethodName := ⟨"LabelRoads$Packet", "note", "(II)V"⟩
theorem d_Packet_note_0 : decode b_Packet_note 0 = .ok (.aload_n 0, 1) := by decide +kernel
theorem d_Packet_note_1 : decode b_Packet_note 1 = .ok (.getfield 9, 3) := by decide +kernel
theorem d_Packet_note_4 : decode b_Packet_note 4 = .ok (.aload_n 0, 1) := by decide +kernel
theorem d_Packet_note_5 : decode b_Packet_note 5 = .ok (.getfield 31, 3) := by decide +kernel
theorem d_Packet_note_8 : decode b_Packet_note 8 = .ok (.iload_n 1, 1) := by decide +kernel
theorem d_Packet_note_9 : decode b_Packet_note 9 = .ok (.iastore, 1) := by decide +kernel
theorem d_Packet_note_10 : decode b_Packet_note 10 = .ok (.aload_n 0, 1) := by decide +kernel
theorem d_Packet_note_11 : decode b_Packet_note 11 = .ok (.getfield 15, 3) := by decide +kernel
theorem d_Packet_note_14 : decode b_Packet_note 14 = .ok (.aload_n 0, 1) := by decide +kernel
theorem d_Packet_note_15 : decode b_Packet_note 15 = .ok (.getfield 31, 3) := by decide +kernel
theorem d_Packet_note_18 : decode b_Packet_note 18 = .ok (.iload_n 2, 1) := by decide +kernel
theorem d_Packet_note_19 : decode b_Packet_note 19 = .ok (.iastore, 1) := by decide +kernel
theorem d_Packet_note_20 : decode b_Packet_note 20 = .ok (.aload_n 0, 1) := by decide +kernel
theorem d_Packet_note_21 : decode b_Packet_note 21 = .ok (.dup, 1) := by decide +kernel
theorem d_Packet_note_22 : decode b_Packet_note 22 = .ok (.getfield 31, 3) := by decide +kernel
theorem d_Packet_note_25 : decode b_Packet_note 25 = .ok (.iconst 1, 1) := by decide +kernel
theorem d_Packet_note_26 : decode b_Packet_note 26 = .ok (.iadd, 1) := by decide +kernel
theorem d_Packet_note_27 : decode b_Packet_note 27 = .ok (.putfield 31, 3) := by decide +kernel
theorem d_Packet_note_30 : decode b_Packet_note 30 = .ok (.return_, 1) := by decide +kernel
theorem k_Packet_note : Cond.code y_Packet_note b_Packet_note 3 (none) ∈ WS := ws_t 509 (by decide +kernel) (by decide +kernel)
theorem hd_Packet_note : y_Packet_note.cls = R_Packet ∧ y_Packet_note.cls ≠ "java/lang/invoke/MethodHandle" ∧ y_Packet_note.cls ≠ "java/lang/invoke/VarHandle" ∧ (parseMethodDescriptor y_Packet_note.desc).map (fun d => d.parameters.length) = some 2 := by decide +kernel
abbrev b_Packet_begin : ByteArray := prog_3_method_2_code
abbrev y_Packet_begin : MethodName := ⟨"LabelRoads$Packet", "begin", "(IIII)V"⟩
theorem d_Packet_begin_0 : decode b_Packet_begin 0 = .ok (.aload_n 0, 1) := by decide +kernel
theorem d_Packet_begin_1 : decode b_Packet_begin 1 = .ok (.iload_n 2, 1) := by decide +kernel
theorem d_Packet_begin_2 : decode b_Packet_begin 2 = .ok (.putfield 18, 3) := by decide +kernel
theorem d_Packet_begin_5 : decode b_Packet_begin 5 = .ok (.aload_n 0, 1) := by decide +kernel
theorem d_Packet_begin_6 : decode b_Packet_begin 6 = .ok (.iload_n 3, 1) := by decide +kernel
theorem d_Packet_begin_7 : decode b_Packet_begin 7 = .ok (.putfield 22, 3) := by decide +kernel
theorem d_Packet_begin_10 : decode b_Packet_begin 10 = .ok (.aload_n 0, 1) := by decide +kernel
theorem d_Packet_begin_11 : decode b_Packet_begin 11 = .ok (.iload 4, 2) := by decide +kernel
theorem d_Packet_begin_13 : decode b_Packet_begin 13 = .ok (.putfield 25, 3) := by decide +kernel
theorem d_Packet_begin_16 : decode b_Packet_begin 16 = .ok (.aload_n 0, 1) := by decide +kernel
theorem d_Packet_begin_17 : decode b_Packet_begin 17 = .ok (.iconst 0, 1) := by decide +kernel
theorem d_Packet_begin_18 : decode b_Packet_begin 18 = .ok (.putfield 28, 3) := by decide +kernel
theorem d_Packet_begin_21 : decode b_Packet_begin 21 = .ok (.aload_n 0, 1) := by decide +kernel
theorem d_Packet_begin_22 : decode b_Packet_begin 22 = .ok (.iconst 0, 1) := by decide +kernel
theorem d_Packet_begin_23 : decode b_Packet_begin 23 = .ok (.putfield 31, 3) := by decide +kernel
theorem d_Packet_begin_26 : decode b_Packet_begin 26 = .ok (.aload_n 0, 1) := by decide +kernel
theorem d_Packet_begin_27 : decode b_Packet_begin 27 = .ok (.iload_n 1, 1) := by decide +kernel
theorem d_Packet_begin_28 : decode b_Packet_begin 28 = .ok (.aload_n 0, 1) := by decide +kernel
theorem d_Packet_begin_29 : decode b_Packet_begin 29 = .ok (.invokevirtual 34, 3) := by decide +kernel
theorem d_Packet_begin_32 : decode b_Packet_begin 32 = .ok (.ifCond .eq (18), 3) := by decide +kernel
theorem d_Packet_begin_35 : decode b_Packet_begin 35 = .ok (.aload_n 0, 1) := by decide +kernel
theorem d_Packet_begin_36 : decode b_Packet_begin 36 = .ok (.bipush 32, 2) := by decide +kernel
theorem d_Packet_begin_38 : decode b_Packet_begin 38 = .ok (.aload_n 0, 1) := by decide +kernel
theorem d_Packet_begin_39 : decode b_Packet_begin 39 = .ok (.getfield 22, 3) := by decide +kernel
theorem d_Packet_begin_42 : decode b_Packet_begin 42 = .ok (.iadd, 1) := by decide +kernel
theorem d_Packet_begin_43 : decode b_Packet_begin 43 = .ok (.iconst 1, 1) := by decide +kernel
theorem d_Packet_begin_44 : decode b_Packet_begin 44 = .ok (.invokevirtual 38, 3) := by decide +kernel
theorem d_Packet_begin_47 : decode b_Packet_begin 47 = .ok (.goto (4), 3) := by decide +kernel
theorem d_Packet_begin_50 : decode b_Packet_begin 50 = .ok (.iconst 0, 1) := by decide +kernel
theorem d_Packet_begin_51 : decode b_Packet_begin 51 = .ok (.invokevirtual 42, 3) := by decide +kernel
theorem d_Packet_begin_54 : decode b_Packet_begin 54 = .ok (.return_, 1) := by decide +kernel
theorem k_Packet_begin : Cond.code y_Packet_begin b_Packet_begin 5 (none) ∈ WS := ws_t 497 (by decide +kernel) (by decide +kernel)
theorem hd_Packet_begin : y_Packet_begin.cls = R_Packet ∧ y_Packet_begin.cls ≠ "java/lang/invoke/MethodHandle" ∧ y_Packet_begin.cls ≠ "java/lang/invoke/VarHandle" ∧ (parseMethodDescriptor y_Packet_begin.desc).map (fun d => d.parameters.length) = some 4 := by decide +kernel
abbrev b_Packet_moveTo : ByteArray := prog_3_method_3_code
abbrev y_Packet_moveTo : MethodName := ⟨"LabelRoads$Packet", "moveTo", "(II)V"⟩
theorem d_Packet_moveTo_0 : decode b_Packet_moveTo 0 = .ok (.aload_n 0, 1) := by decide +kernel
theorem d_Packet_moveTo_1 : decode b_Packet_moveTo 1 = .ok (.dup, 1) := by decide +kernel
theorem d_Packet_moveTo_2 : decode b_Packet_moveTo 2 = .ok (.getfield 25, 3) := by decide +kernel
theorem d_Packet_moveTo_5 : decode b_Packet_moveTo 5 = .ok (.iconst 1, 1) := by decide +kernel
theorem d_Packet_moveTo_6 : decode b_Packet_moveTo 6 = .ok (.isub, 1) := by decide +kernel
theorem d_Packet_moveTo_7 : decode b_Packet_moveTo 7 = .ok (.putfield 25, 3) := by decide +kernel
theorem d_Packet_moveTo_10 : decode b_Packet_moveTo 10 = .ok (.aload_n 0, 1) := by decide +kernel
theorem d_Packet_moveTo_11 : decode b_Packet_moveTo 11 = .ok (.iload_n 2, 1) := by decide +kernel
theorem d_Packet_moveTo_12 : decode b_Packet_moveTo 12 = .ok (.putfield 28, 3) := by decide +kernel
theorem d_Packet_moveTo_15 : decode b_Packet_moveTo 15 = .ok (.aload_n 0, 1) := by decide +kernel
theorem d_Packet_moveTo_16 : decode b_Packet_moveTo 16 = .ok (.iload_n 1, 1) := by decide +kernel
theorem d_Packet_moveTo_17 : decode b_Packet_moveTo 17 = .ok (.iload_n 2, 1) := by decide +kernel
theorem d_Packet_moveTo_18 : decode b_Packet_moveTo 18 = .ok (.ifCond .ne (7), 3) := by decide +kernel
theorem d_Packet_moveTo_21 : decode b_Packet_moveTo 21 = .ok (.iconst 0, 1) := by decide +kernel
theorem d_Packet_moveTo_22 : decode b_Packet_moveTo 22 = .ok (.goto (20), 3) := by decide +kernel
theorem d_Packet_moveTo_25 : decode b_Packet_moveTo 25 = .ok (.aload_n 0, 1) := by decide +kernel
theorem d_Packet_moveTo_26 : decode b_Packet_moveTo 26 = .ok (.iload_n 2, 1) := by decide +kernel
theorem d_Packet_moveTo_27 : decode b_Packet_moveTo 27 = .ok (.aload_n 0, 1) := by decide +kernel
theorem d_Packet_moveTo_28 : decode b_Packet_moveTo 28 = .ok (.invokevirtual 34, 3) := by decide +kernel
theorem d_Packet_moveTo_31 : decode b_Packet_moveTo 31 = .ok (.ifCond .ne (7), 3) := by decide +kernel
theorem d_Packet_moveTo_34 : decode b_Packet_moveTo 34 = .ok (.iconst 1, 1) := by decide +kernel
theorem d_Packet_moveTo_35 : decode b_Packet_moveTo 35 = .ok (.goto (4), 3) := by decide +kernel
theorem d_Packet_moveTo_38 : decode b_Packet_moveTo 38 = .ok (.iconst 0, 1) := by decide +kernel
theorem d_Packet_moveTo_39 : decode b_Packet_moveTo 39 = .ok (.invokevirtual 38, 3) := by decide +kernel
theorem d_Packet_moveTo_42 : decode b_Packet_moveTo 42 = .ok (.invokevirtual 42, 3) := by decide +kernel
theorem d_Packet_moveTo_45 : decode b_Packet_moveTo 45 = .ok (.return_, 1) := by decide +kernel
theorem k_Packet_moveTo : Cond.code y_Packet_moveTo b_Packet_moveTo 3 (none) ∈ WS := ws_t 550 (by decide +kernel) (by decide +kernel)
theorem hd_Packet_moveTo : y_Packet_moveTo.cls = R_Packet ∧ y_Packet_moveTo.cls ≠ "java/lang/invoke/MethodHandle" ∧ y_Packet_moveTo.cls ≠ "java/lang/invoke/VarHandle" ∧ (parseMethodDescriptor y_Packet_moveTo.desc).map (fun d => d.parameters.length) = some 2 := by decide +kernel
abbrev b_Packet_pop : ByteArray := prog_3_method_4_code
abbrev y_Packet_pop : MethodName := ⟨"LabelRoads$Packet", "pop", "()V"⟩
theorem d_Packet_pop_0 : decode b_Packet_pop 0 = .ok (.aload_n 0, 1) := by decide +kernel
theorem d_Packet_pop_1 : decode b_Packet_pop 1 = .ok (.iconst 0, 1) := by decide +kernel
theorem d_Packet_pop_2 : decode b_Packet_pop 2 = .ok (.putfield 28, 3) := by decide +kernel
theorem d_Packet_pop_5 : decode b_Packet_pop 5 = .ok (.return_, 1) := by decide +kernel
theorem k_Packet_pop : Cond.code y_Packet_pop b_Packet_pop 1 (none) ∈ WS := ws_t 558 (by decide +kernel) (by decide +kernel)
theorem hd_Packet_pop : y_Packet_pop.cls = R_Packet ∧ y_Packet_pop.cls ≠ "java/lang/invoke/MethodHandle" ∧ y_Packet_pop.cls ≠ "java/lang/invoke/VarHandle" ∧ (parseMethodDescriptor y_Packet_pop.desc).map (fun d => d.parameters.length) = some 0 := by decide +kernel
