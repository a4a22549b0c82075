abbrev b_Mail_kindOf : ByteArray := prog_2_method_2_code
abbrev y_Mail_kindOf : MethodName := ⟨"LabelRoads$Mail", "kindOf", "(I)I"⟩
theorem d_Mail_kindOf_0 : decode b_Mail_kindOf 0 = .ok (.iload_n 0, 1) := by decide +kernel
theorem d_Mail_kindOf_1 : decode b_Mail_kindOf 1 = .ok (.bipush 16, 2) := by decide +kernel
theorem d_Mail_kindOf_3 : decode b_Mail_kindOf 3 = .ok (.ishr, 1) := by decide +kernel
theorem d_Mail_kindOf_4 : decode b_Mail_kindOf 4 = .ok (.ireturn, 1) := by decide +kernel
theorem k_Mail_kindOf : Cond.code y_Mail_kindOf b_Mail_kindOf 1 (some .int) ∈ WS := ws_t 421 (by decide +kernel) (by decide +kernel)
theorem hd_Mail_kindOf : y_Mail_kindOf.cls ≠ "java/lang/invoke/MethodHandle" ∧ y_Mail_kindOf.cls ≠ "java/lang/invoke/VarHandle" ∧ (parseMethodDescriptor y_Mail_kindOf.desc).map (fun d => d.parameters.length) = some 1 := by decide +kernel
abbrev b_Mail_fromOf : ByteArray := prog_2_method_3_code
abbrev y_Mail_fromOf : MethodName := ⟨"LabelRoads$Mail", "fromOf", "(I)I"⟩
theorem d_Mail_fromOf_0 : decode b_Mail_fromOf 0 = .ok (.iload_n 0, 1) := by decide +kernel
theorem d_Mail_fromOf_1 : decode b_Mail_fromOf 1 = .ok (.bipush 12, 2) := by decide +kernel
theorem d_Mail_fromOf_3 : decode b_Mail_fromOf 3 = .ok (.ishr, 1) := by decide +kernel
theorem d_Mail_fromOf_4 : decode b_Mail_fromOf 4 = .ok (.bipush 15, 2) := by decide +kernel
theorem d_Mail_fromOf_6 : decode b_Mail_fromOf 6 = .ok (.iand, 1) := by decide +kernel
theorem d_Mail_fromOf_7 : decode b_Mail_fromOf 7 = .ok (.ireturn, 1) := by decide +kernel
theorem k_Mail_fromOf : Cond.code y_Mail_fromOf b_Mail_fromOf 1 (some .int) ∈ WS := ws_t 282 (by decide +kernel) (by decide +kernel)
theorem hd_Mail_fromOf : y_Mail_fromOf.cls ≠ "java/lang/invoke/MethodHandle" ∧ y_Mail_fromOf.cls ≠ "java/lang/invoke/VarHandle" ∧ (parseMethodDescriptor y_Mail_fromOf.desc).map (fun d => d.parameters.length) = some 1 := by decide +kernel
abbrev b_Mail_toOf : ByteArray := prog_2_method_4_code
abbrev y_Mail_toOf : MethodName := ⟨"LabelRoads$Mail", "toOf", "(I)I"⟩
theorem d_Mail_toOf_0 : decode b_Mail_toOf 0 = .ok (.iload_n 0, 1) := by decide +kernel
theorem d_Mail_toOf_1 : decode b_Mail_toOf 1 = .ok (.bipush 8, 2) := by decide +kernel
theorem d_Mail_toOf_3 : decode b_Mail_toOf 3 = .ok (.ishr, 1) := by decide +kernel
theorem d_Mail_toOf_4 : decode b_Mail_toOf 4 = .ok (.bipush 15, 2) := by decide +kernel
theorem d_Mail_toOf_6 : decode b_Mail_toOf 6 = .ok (.iand, 1) := by decide +kernel
theorem d_Mail_toOf_7 : decode b_Mail_toOf 7 = .ok (.ireturn, 1) := by decide +kernel
theorem k_Mail_toOf : Cond.code y_Mail_toOf b_Mail_toOf 1 (some .int) ∈ WS := ws_t 285 (by decide +kernel) (by decide +kernel)
theorem hd_Mail_toOf : y_Mail_toOf.cls ≠ "java/lang/invoke/MethodHandle" ∧ y_Mail_toOf.cls ≠ "java/lang/invoke/VarHandle" ∧ (parseMethodDescriptor y_Mail_toOf.desc).map (fun d => d.parameters.length) = some 1 := by decide +kernel
abbrev b_Mail_prefixOf : ByteArray := prog_2_method_5_code
abbrev y_Mail_prefixOf : MethodName := ⟨"LabelRoads$Mail", "prefixOf", "(I)I"⟩
theorem d_Mail_prefixOf_0 : decode b_Mail_prefixOf 0 = .ok (.iload_n 0, 1) := by decide +kernel
theorem d_Mail_prefixOf_1 : decode b_Mail_prefixOf 1 = .ok (.iconst 5, 1) := by decide +kernel
theorem d_Mail_prefixOf_2 : decode b_Mail_prefixOf 2 = .ok (.ishr, 1) := by decide +kernel
theorem d_Mail_prefixOf_3 : decode b_Mail_prefixOf 3 = .ok (.bipush 7, 2) := by decide +kernel
theorem d_Mail_prefixOf_5 : decode b_Mail_prefixOf 5 = .ok (.iand, 1) := by decide +kernel
theorem d_Mail_prefixOf_6 : decode b_Mail_prefixOf 6 = .ok (.ireturn, 1) := by decide +kernel
theorem k_Mail_prefixOf : Cond.code y_Mail_prefixOf b_Mail_prefixOf 1 (some .int) ∈ WS := ws_t 415 (by decide +kernel) (by decide +kernel)
theorem hd_Mail_prefixOf : y_Mail_prefixOf.cls ≠ "java/lang/invoke/MethodHandle" ∧ y_Mail_prefixOf.cls ≠ "java/lang/invoke/VarHandle" ∧ (parseMethodDescriptor y_Mail_prefixOf.desc).map (fun d => d.parameters.length) = some 1 := by decide +kernel
abbrev b_Mail_labelOf : ByteArray := prog_2_method_6_code
abbrev y_Mail_labelOf : MethodName := ⟨"LabelRoads$Mail", "labelOf", "(I)I"⟩
theorem d_Mail_labelOf_0 : decode b_Mail_labelOf 0 = .ok (.iload_n 0, 1) := by decide +kernel
theorem d_Mail_labelOf_1 : decode b_Mail_labelOf 1 = .ok (.bipush 31, 2) := by decide +kernel
theorem d_Mail_labelOf_3 : decode b_Mail_labelOf 3 = .ok (.iand, 1) := by decide +kernel
theorem d_Mail_labelOf_4 : decode b_Mail_labelOf 4 = .ok (.ireturn, 1) := by decide +kernel
theorem k_Mail_labelOf : Cond.code y_Mail_labelOf b_Mail_labelOf 1 (some .int) ∈ WS := ws_t 418 (by decide +kernel) (by decide +kernel)
theorem hd_Mail_labelOf : y_Mail_labelOf.cls ≠ "java/lang/invoke/MethodHandle" ∧ y_Mail_labelOf.cls ≠ "java/lang/invoke/VarHandle" ∧ (parseMethodDescriptor y_Mail_labelOf.desc).map (fun d => d.parameters.length) = some 1 := by decide +kernel
abbrev b_Mail_size : ByteArray := prog_2_method_7_code
abbrev y_Mail_size : MethodName := ⟨"LabelRoads$Mail", "size", "()I"⟩
theorem d_Mail_size_0 : decode b_Mail_size 0 = .ok (.aload_n 0, 1) := by decide +kernel
theorem d_Mail_size_1 : decode b_Mail_size 1 = .ok (.getfield 15, 3) := by decide +kernel
theorem d_Mail_size_4 : decode b_Mail_size 4 = .ok (.ireturn, 1) := by decide +kernel
theorem k_Mail_size : Cond.code y_Mail_size b_Mail_size 1 (some .int) ∈ WS := ws_t 144 (by decide +kernel) (by decide +kernel)
theorem hd_Mail_size : y_Mail_size.cls = R_Mail ∧ y_Mail_size.cls ≠ "java/lang/invoke/MethodHandle" ∧ y_Mail_size.cls ≠ "java/lang/invoke/VarHandle" ∧ (parseMethodDescriptor y_Mail_size.desc).map (fun d => d.parameters.length) = some 0 := by decide +kernel
abbrev b_Mail_lostCount : ByteArray := prog_2_method_8_code
abbrev y_Mail_lostCount : MethodName := ⟨"LabelRoads$Mail", "lostCount", "()I"⟩
theorem d_Mail_lostCount_0 : decode b_Mail_lostCount 0 = .ok (.aload_n 0, 1) := by decide +kernel
theorem d_Mail_lostCount_1 : decode b_Mail_lostCount 1 = .ok (.getfield 19, 3) := by decide +kernel
theorem d_Mail_lostCount_4 : decode b_Mail_lostCount 4 = .ok (.ireturn, 1) := by decide +kernel
theorem k_Mail_lostCount : Cond.code y_Mail_lostCount b_Mail_lostCount 1 (some .int) ∈ WS := ws_t 152 (by decide +kernel) (by decide +kernel)
theorem hd_Mail_lostCount : y_Mail_lostCount.cls = R_Mail ∧ y_Mail_lostCount.cls ≠ "java/lang/invoke/MethodHandle" ∧ y_Mail_lostCount.cls ≠ "java/lang/invoke/VarHandle" ∧ (parseMethodDescriptor y_Mail_lostCount.desc).map (fun d => d.parameters.length) = some 0 := by decide +kernel
abbrev b_Mail_post : ByteArray := prog_2_method_9_code
abbrev y_Mail_post : MethodName := ⟨"LabelRoads$Mail", "post", "(IIIII)V"⟩
theorem d_Mail_post_0 : decode b_Mail_post 0 = .ok (.aload_n 0, 1) := by decide +kernel
theorem d_Mail_post_1 : decode b_Mail_post 1 = .ok (.getfield 15, 3) := by decide +kernel
theorem d_Mail_post_4 : decode b_Mail_post 4 = .ok (.sipush 240, 3) := by decide +kernel
theorem d_Mail_post_7 : decode b_Mail_post 7 = .ok (.if_icmp .ne (14), 3) := by decide +kernel
theorem d_Mail_post_10 : decode b_Mail_post 10 = .ok (.aload_n 0, 1) := by decide +kernel
theorem d_Mail_post_11 : decode b_Mail_post 11 = .ok (.dup, 1) := by decide +kernel
theorem d_Mail_post_12 : decode b_Mail_post 12 = .ok (.getfield 19, 3) := by decide +kernel
theorem d_Mail_post_15 : decode b_Mail_post 15 = .ok (.iconst 1, 1) := by decide +kernel
theorem d_Mail_post_16 : decode b_Mail_post 16 = .ok (.iadd, 1) := by decide +kernel
theorem d_Mail_post_17 : decode b_Mail_post 17 = .ok (.putfield 19, 3) := by decide +kernel
theorem d_Mail_post_20 : decode b_Mail_post 20 = .ok (.return_, 1) := by decide +kernel
theorem d_Mail_post_21 : decode b_Mail_post 21 = .ok (.aload_n 0, 1) := by decide +kernel
theorem d_Mail_post_22 : decode b_Mail_post 22 = .ok (.getfield 9, 3) := by decide +kernel
theorem d_Mail_post_25 : decode b_Mail_post 25 = .ok (.aload_n 0, 1) := by decide +kernel
theorem d_Mail_post_26 : decode b_Mail_post 26 = .ok (.getfield 15, 3) := by decide +kernel
theorem d_Mail_post_29 : decode b_Mail_post 29 = .ok (.iload_n 1, 1) := by decide +kernel
theorem d_Mail_post_30 : decode b_Mail_post 30 = .ok (.bipush 16, 2) := by decide +kernel
theorem d_Mail_post_32 : decode b_Mail_post 32 = .ok (.ishl, 1) := by decide +kernel
theorem d_Mail_post_33 : decode b_Mail_post 33 = .ok (.iload_n 2, 1) := by decide +kernel
theorem d_Mail_post_34 : decode b_Mail_post 34 = .ok (.bipush 12, 2) := by decide +kernel
theorem d_Mail_post_36 : decode b_Mail_post 36 = .ok (.ishl, 1) := by decide +kernel
theorem d_Mail_post_37 : decode b_Mail_post 37 = .ok (.ior, 1) := by decide +kernel
theorem d_Mail_post_38 : decode b_Mail_post 38 = .ok (.iload_n 3, 1) := by decide +kernel
theorem d_Mail_post_39 : decode b_Mail_post 39 = .ok (.bipush 8, 2) := by decide +kernel
theorem d_Mail_post_41 : decode b_Mail_post 41 = .ok (.ishl, 1) := by decide +kernel
theorem d_Mail_post_42 : decode b_Mail_post 42 = .ok (.ior, 1) := by decide +kernel
theorem d_Mail_post_43 : decode b_Mail_post 43 = .ok (.iload 4, 2) := by decide +kernel
theorem d_Mail_post_45 : decode b_Mail_post 45 = .ok (.iconst 5, 1) := by decide +kernel
theorem d_Mail_post_46 : decode b_Mail_post 46 = .ok (.ishl, 1) := by decide +kernel
theorem d_Mail_post_47 : decode b_Mail_post 47 = .ok (.ior, 1) := by decide +kernel
theorem d_Mail_post_48 : decode b_Mail_post 48 = .ok (.iload 5, 2) := by decide +kernel
theorem d_Mail_post_50 : decode b_Mail_post 50 = .ok (.ior, 1) := by decide +kernel
theorem d_Mail_post_51 : decode b_Mail_post 51 = .ok (.iastore, 1) := by decide +kernel
theorem d_Mail_post_52 : decode b_Mail_post 52 = .ok (.aload_n 0, 1) := by decide +kernel
theorem d_Mail_post_53 : decode b_Mail_post 53 = .ok (.dup, 1) := by decide +kernel
theorem d_Mail_post_54 : decode b_Mail_post 54 = .ok (.getfield 15, 3) := by decide +kernel
theorem d_Mail_post_57 : decode b_Mail_post 57 = .ok (.iconst 1, 1) := by decide +kernel
theorem d_Mail_post_58 : decode b_Mail_post 58 = .ok (.iadd, 1) := by decide +kernel
theorem d_Mail_post_59 : decode b_Mail_post 59 = .ok (.putfield 15, 3) := by decide +kernel
theorem d_Mail_post_62 : decode b_Mail_post 62 = .ok (.return_, 1) := by decide +kernel
theorem k_Mail_post : Cond.code y_Mail_post b_Mail_post 6 (none) ∈ WS := ws_t 306 (by decide +kernel) (by decide +kernel)
theorem hd_Mail_post : y_Mail_post.cls = R_Mail ∧ y_Mail_post.cls ≠ "java/lang/invoke/MethodHandle" ∧ y_Mail_post.cls ≠ "java/lang/invoke/VarHandle" ∧ (parseMethodDescriptor y_Mail_post.desc).map (fun d => d.parameters.length) = some 5 := by decide +kernel
abbrev b_Mail_firstBetween : ByteArray := prog_2_method_10_code
abbrev y_Mail_firstBetween : MethodName := ⟨"LabelRoads$Mail", "firstBetween", "(II)I"⟩
theorem d_Mail_firstBetween_0 : decode b_Mail_firstBetween 0 = .ok (.iconst 0, 1) := by decide +kernel
theorem d_Mail_firstBetween_1 : decode b_Mail_firstBetween 1 = .ok (.istore_n 3, 1) := by decide +kernel
theorem d_Mail_firstBetween_2 : decode b_Mail_firstBetween 2 = .ok (.iload_n 3, 1) := by decide +kernel
theorem d_Mail_firstBetween_3 : decode b_Mail_firstBetween 3 = .ok (.aload_n 0, 1) := by decide +kernel
theorem d_Mail_firstBetween_4 : decode b_Mail_firstBetween 4 = .ok (.getfield 15, 3) := by decide +kernel
theorem d_Mail_firstBetween_7 : decode b_Mail_firstBetween 7 = .ok (.if_icmp .ge (37), 3) := by decide +kernel
theorem d_Mail_firstBetween_10 : decode b_Mail_firstBetween 10 = .ok (.aload_n 0, 1) := by decide +kernel
theorem d_Mail_firstBetween_11 : decode b_Mail_firstBetween 11 = .ok (.getfield 9, 3) := by decide +kernel
theorem d_Mail_firstBetween_14 : decode b_Mail_firstBetween 14 = .ok (.iload_n 3, 1) := by decide +kernel
theorem d_Mail_firstBetween_15 : decode b_Mail_firstBetween 15 = .ok (.iaload, 1) := by decide +kernel
theorem d_Mail_firstBetween_16 : decode b_Mail_firstBetween 16 = .ok (.invokestatic 22, 3) := by decide +kernel
theorem d_Mail_firstBetween_19 : decode b_Mail_firstBetween 19 = .ok (.iload_n 1, 1) := by decide +kernel
theorem d_Mail_firstBetween_20 : decode b_Mail_firstBetween 20 = .ok (.if_icmp .ne (18), 3) := by decide +kernel
theorem d_Mail_firstBetween_23 : decode b_Mail_firstBetween 23 = .ok (.aload_n 0, 1) := by decide +kernel
theorem d_Mail_firstBetween_24 : decode b_Mail_firstBetween 24 = .ok (.getfield 9, 3) := by decide +kernel
theorem d_Mail_firstBetween_27 : decode b_Mail_firstBetween 27 = .ok (.iload_n 3, 1) := by decide +kernel
theorem d_Mail_firstBetween_28 : decode b_Mail_firstBetween 28 = .ok (.iaload, 1) := by decide +kernel
theorem d_Mail_firstBetween_29 : decode b_Mail_firstBetween 29 = .ok (.invokestatic 26, 3) := by decide +kernel
theorem d_Mail_firstBetween_32 : decode b_Mail_firstBetween 32 = .ok (.iload_n 2, 1) := by decide +kernel
theorem d_Mail_firstBetween_33 : decode b_Mail_firstBetween 33 = .ok (.if_icmp .ne (5), 3) := by decide +kernel
theorem d_Mail_firstBetween_36 : decode b_Mail_firstBetween 36 = .ok (.iload_n 3, 1) := by decide +kernel
theorem d_Mail_firstBetween_37 : decode b_Mail_firstBetween 37 = .ok (.ireturn, 1) := by decide +kernel
theorem d_Mail_firstBetween_38 : decode b_Mail_firstBetween 38 = .ok (.iinc 3 (1), 3) := by decide +kernel
theorem d_Mail_firstBetween_41 : decode b_Mail_firstBetween 41 = .ok (.goto (-39), 3) := by decide +kernel
theorem d_Mail_firstBetween_44 : decode b_Mail_firstBetween 44 = .ok (.iconst (-1), 1) := by decide +kernel
theorem d_Mail_firstBetween_45 : decode b_Mail_firstBetween 45 = .ok (.ireturn, 1) := by decide +kernel
theorem k_Mail_firstBetween : Cond.code y_Mail_firstBetween b_Mail_firstBetween 4 (some .int) ∈ WS := ws_t 399 (by decide +kernel) (by decide +kernel)
theorem hd_Mail_firstBetween : y_Mail_firstBetween.cls = R_Mail ∧ y_Mail_firstBetween.cls ≠ "java/lang/invoke/MethodHandle" ∧ y_Mail_firstBetween.cls ≠ "java/lang/invoke/VarHandle" ∧ (parseMethodDescriptor y_Mail_firstBetween.desc).map (fun d => d.parameters.length) = some 2 := by decide +kernel
abbrev b_Mail_take : ByteArray := prog_2_method_11_code
abbrev y_Mail_take : MethodName := ⟨"LabelRoads$Mail", "take", "(I)I"⟩
theorem d_Mail_take_0 : decode b_Mail_take 0 = .ok (.aload_n 0, 1) := by decide +kernel
theorem d_Mail_take_1 : decode b_Mail_take 1 = .ok (.getfield 9, 3) := by decide +kernel
theorem d_Mail_take_4 : decode b_Mail_take 4 = .ok (.iload_n 1, 1) := by decide +kernel
theorem d_Mail_take_5 : decode b_Mail_take 5 = .ok (.iaload, 1) := by decide +kernel
theorem d_Mail_take_6 : decode b_Mail_take 6 = .ok (.istore_n 2, 1) := by decide +kernel
theorem d_Mail_take_7 : decode b_Mail_take 7 = .ok (.aload_n 0, 1) := by decide +kernel
theorem d_Mail_take_8 : decode b_Mail_take 8 = .ok (.dup, 1) := by decide +kernel
theorem d_Mail_take_9 : decode b_Mail_take 9 = .ok (.getfield 15, 3) := by decide +kernel
theorem d_Mail_take_12 : decode b_Mail_take 12 = .ok (.iconst 1, 1) := by decide +kernel
theorem d_Mail_take_13 : decode b_Mail_take 13 = .ok (.isub, 1) := by decide +kernel
theorem d_Mail_take_14 : decode b_Mail_take 14 = .ok (.putfield 15, 3) := by decide +kernel
theorem d_Mail_take_17 : decode b_Mail_take 17 = .ok (.aload_n 0, 1) := by decide +kernel
theorem d_Mail_take_18 : decode b_Mail_take 18 = .ok (.getfield 9, 3) := by decide +kernel
theorem d_Mail_take_21 : decode b_Mail_take 21 = .ok (.iload_n 1, 1) := by decide +kernel
theorem d_Mail_take_22 : decode b_Mail_take 22 = .ok (.iconst 1, 1) := by decide +kernel
theorem d_Mail_take_23 : decode b_Mail_take 23 = .ok (.iadd, 1) := by decide +kernel
theorem d_Mail_take_24 : decode b_Mail_take 24 = .ok (.aload_n 0, 1) := by decide +kernel
theorem d_Mail_take_25 : decode b_Mail_take 25 = .ok (.getfield 9, 3) := by decide +kernel
theorem d_Mail_take_28 : decode b_Mail_take 28 = .ok (.iload_n 1, 1) := by decide +kernel
theorem d_Mail_take_29 : decode b_Mail_take 29 = .ok (.aload_n 0, 1) := by decide +kernel
theorem d_Mail_take_30 : decode b_Mail_take 30 = .ok (.getfield 15, 3) := by decide +kernel
theorem d_Mail_take_33 : decode b_Mail_take 33 = .ok (.iload_n 1, 1) := by decide +kernel
theorem d_Mail_take_34 : decode b_Mail_take 34 = .ok (.isub, 1) := by decide +kernel
theorem d_Mail_take_35 : decode b_Mail_take 35 = .ok (.invokestatic 29, 3) := by decide +kernel
theorem d_Mail_take_38 : decode b_Mail_take 38 = .ok (.iload_n 2, 1) := by decide +kernel
theorem d_Mail_take_39 : decode b_Mail_take 39 = .ok (.ireturn, 1) := by decide +kernel
theorem k_Mail_take : Cond.code y_Mail_take b_Mail_take 3 (some .int) ∈ WS := ws_t 403 (by decide +kernel) (by decide +kernel)
theorem hd_Mail_take : y_Mail_take.cls = R_Mail ∧ y_Mail_take.cls ≠ "java/lang/invoke/MethodHandle" ∧ y_Mail_take.cls ≠ "java/lang/invoke/VarHandle" ∧ (parseMethodDescriptor y_Mail_take.desc).map (fun d => d.parameters.length) = some 1 := by decide +kernel
abbrev b_Mail_dropBetween : ByteArray := prog_2_method_12_code
abbrev y_Mail_dropBetween : MethodName := ⟨"LabelRoads$Mail", "dropBetween", "(II)V"⟩
theorem d_Mail_dropBetween_0 : decode b_Mail_dropBetween 0 = .ok (.iconst 0, 1) := by decide +kernel
theorem d_Mail_dropBetween_1 : decode b_Mail_dropBetween 1 = .ok (.istore_n 3, 1) := by decide +kernel
theorem d_Mail_dropBetween_2 : decode b_Mail_dropBetween 2 = .ok (.iconst 0, 1) := by decide +kernel
theorem d_Mail_dropBetween_3 : decode b_Mail_dropBetween 3 = .ok (.istore 4, 2) := by decide +kernel
theorem d_Mail_dropBetween_5 : decode b_Mail_dropBetween 5 = .ok (.iload 4, 2) := by decide +kernel
theorem d_Mail_dropBetween_7 : decode b_Mail_dropBetween 7 = .ok (.aload_n 0, 1) := by decide +kernel
theorem d_Mail_dropBetween_8 : decode b_Mail_dropBetween 8 = .ok (.getfield 15, 3) := by decide +kernel
theorem d_Mail_dropBetween_11 : decode b_Mail_dropBetween 11 = .ok (.if_icmp .ge (85), 3) := by decide +kernel
theorem d_Mail_dropBetween_14 : decode b_Mail_dropBetween 14 = .ok (.aload_n 0, 1) := by decide +kernel
theorem d_Mail_dropBetween_15 : decode b_Mail_dropBetween 15 = .ok (.getfield 9, 3) := by decide +kernel
theorem d_Mail_dropBetween_18 : decode b_Mail_dropBetween 18 = .ok (.iload 4, 2) := by decide +kernel
theorem d_Mail_dropBetween_20 : decode b_Mail_dropBetween 20 = .ok (.iaload, 1) := by decide +kernel
theorem d_Mail_dropBetween_21 : decode b_Mail_dropBetween 21 = .ok (.invokestatic 22, 3) := by decide +kernel
theorem d_Mail_dropBetween_24 : decode b_Mail_dropBetween 24 = .ok (.istore 5, 2) := by decide +kernel
theorem d_Mail_dropBetween_26 : decode b_Mail_dropBetween 26 = .ok (.aload_n 0, 1) := by decide +kernel
theorem d_Mail_dropBetween_27 : decode b_Mail_dropBetween 27 = .ok (.getfield 9, 3) := by decide +kernel
theorem d_Mail_dropBetween_30 : decode b_Mail_dropBetween 30 = .ok (.iload 4, 2) := by decide +kernel
theorem d_Mail_dropBetween_32 : decode b_Mail_dropBetween 32 = .ok (.iaload, 1) := by decide +kernel
theorem d_Mail_dropBetween_33 : decode b_Mail_dropBetween 33 = .ok (.invokestatic 26, 3) := by decide +kernel
theorem d_Mail_dropBetween_36 : decode b_Mail_dropBetween 36 = .ok (.istore 6, 2) := by decide +kernel
theorem d_Mail_dropBetween_38 : decode b_Mail_dropBetween 38 = .ok (.iload 5, 2) := by decide +kernel
theorem d_Mail_dropBetween_40 : decode b_Mail_dropBetween 40 = .ok (.iload_n 1, 1) := by decide +kernel
theorem d_Mail_dropBetween_41 : decode b_Mail_dropBetween 41 = .ok (.if_icmp .ne (9), 3) := by decide +kernel
theorem d_Mail_dropBetween_44 : decode b_Mail_dropBetween 44 = .ok (.iload 6, 2) := by decide +kernel
theorem d_Mail_dropBetween_46 : decode b_Mail_dropBetween 46 = .ok (.iload_n 2, 1) := by decide +kernel
theorem d_Mail_dropBetween_47 : decode b_Mail_dropBetween 47 = .ok (.if_icmp .eq (15), 3) := by decide +kernel
theorem d_Mail_dropBetween_50 : decode b_Mail_dropBetween 50 = .ok (.iload 5, 2) := by decide +kernel
theorem d_Mail_dropBetween_52 : decode b_Mail_dropBetween 52 = .ok (.iload_n 2, 1) := by decide +kernel
theorem d_Mail_dropBetween_53 : decode b_Mail_dropBetween 53 = .ok (.if_icmp .ne (13), 3) := by decide +kernel
theorem d_Mail_dropBetween_56 : decode b_Mail_dropBetween 56 = .ok (.iload 6, 2) := by decide +kernel
theorem d_Mail_dropBetween_58 : decode b_Mail_dropBetween 58 = .ok (.iload_n 1, 1) := by decide +kernel
theorem d_Mail_dropBetween_59 : decode b_Mail_dropBetween 59 = .ok (.if_icmp .ne (7), 3) := by decide +kernel
theorem d_Mail_dropBetween_62 : decode b_Mail_dropBetween 62 = .ok (.iconst 1, 1) := by decide +kernel
theorem d_Mail_dropBetween_63 : decode b_Mail_dropBetween 63 = .ok (.goto (4), 3) := by decide +kernel
theorem d_Mail_dropBetween_66 : decode b_Mail_dropBetween 66 = .ok (.iconst 0, 1) := by decide +kernel
theorem d_Mail_dropBetween_67 : decode b_Mail_dropBetween 67 = .ok (.istore 7, 2) := by decide +kernel
theorem d_Mail_dropBetween_69 : decode b_Mail_dropBetween 69 = .ok (.iload 7, 2) := by decide +kernel
theorem d_Mail_dropBetween_71 : decode b_Mail_dropBetween 71 = .ok (.ifCond .ne (19), 3) := by decide +kernel
theorem d_Mail_dropBetween_74 : decode b_Mail_dropBetween 74 = .ok (.aload_n 0, 1) := by decide +kernel
theorem d_Mail_dropBetween_75 : decode b_Mail_dropBetween 75 = .ok (.getfield 9, 3) := by decide +kernel
theorem d_Mail_dropBetween_78 : decode b_Mail_dropBetween 78 = .ok (.iload_n 3, 1) := by decide +kernel
theorem d_Mail_dropBetween_79 : decode b_Mail_dropBetween 79 = .ok (.aload_n 0, 1) := by decide +kernel
theorem d_Mail_dropBetween_80 : decode b_Mail_dropBetween 80 = .ok (.getfield 9, 3) := by decide +kernel
theorem d_Mail_dropBetween_83 : decode b_Mail_dropBetween 83 = .ok (.iload 4, 2) := by decide +kernel
theorem d_Mail_dropBetween_85 : decode b_Mail_dropBetween 85 = .ok (.iaload, 1) := by decide +kernel
theorem d_Mail_dropBetween_86 : decode b_Mail_dropBetween 86 = .ok (.iastore, 1) := by decide +kernel
theorem d_Mail_dropBetween_87 : decode b_Mail_dropBetween 87 = .ok (.iinc 3 (1), 3) := by decide +kernel
theorem d_Mail_dropBetween_90 : decode b_Mail_dropBetween 90 = .ok (.iinc 4 (1), 3) := by decide +kernel
theorem d_Mail_dropBetween_93 : decode b_Mail_dropBetween 93 = .ok (.goto (-88), 3) := by decide +kernel
theorem d_Mail_dropBetween_96 : decode b_Mail_dropBetween 96 = .ok (.aload_n 0, 1) := by decide +kernel
theorem d_Mail_dropBetween_97 : decode b_Mail_dropBetween 97 = .ok (.iload_n 3, 1) := by decide +kernel
theorem d_Mail_dropBetween_98 : decode b_Mail_dropBetween 98 = .ok (.putfield 15, 3) := by decide +kernel
theorem d_Mail_dropBetween_101 : decode b_Mail_dropBetween 101 = .ok (.return_, 1) := by decide +kernel
theorem k_Mail_dropBetween : Cond.code y_Mail_dropBetween b_Mail_dropBetween 8 (none) ∈ WS := ws_t 279 (by decide +kernel) (by decide +kernel)
theorem hd_Mail_dropBetween : y_Mail_dropBetween.cls = R_Mail ∧ y_Mail_dropBetween.cls ≠ "java/lang/invoke/MethodHandle" ∧ y_Mail_dropBetween.cls ≠ "java/lang/invoke/VarHandle" ∧ (parseMethodDescriptor y_Mail_dropBetween.desc).map (fun d => d.parameters.length) = some 2 := by decide +kernel
