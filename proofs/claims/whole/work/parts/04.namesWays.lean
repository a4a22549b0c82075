abbrev b_Ways_costOf : ByteArray := prog_5_method_2_code
abbrev y_Ways_costOf : MethodName := ⟨"LabelRoads$Ways", "costOf", "(II)I"⟩
theorem d_Ways_costOf_0 : decode b_Ways_costOf 0 = .ok (.aload_n 0, 1) := by decide +kernel
theorem d_Ways_costOf_1 : decode b_Ways_costOf 1 = .ok (.getfield 17, 3) := by decide +kernel
theorem d_Ways_costOf_4 : decode b_Ways_costOf 4 = .ok (.iload_n 1, 1) := by decide +kernel
theorem d_Ways_costOf_5 : decode b_Ways_costOf 5 = .ok (.aaload, 1) := by decide +kernel
theorem d_Ways_costOf_6 : decode b_Ways_costOf 6 = .ok (.iload_n 2, 1) := by decide +kernel
theorem d_Ways_costOf_7 : decode b_Ways_costOf 7 = .ok (.iaload, 1) := by decide +kernel
theorem d_Ways_costOf_8 : decode b_Ways_costOf 8 = .ok (.ireturn, 1) := by decide +kernel
theorem k_Ways_costOf : Cond.code y_Ways_costOf b_Ways_costOf 3 (some .int) ∈ WS := ws_t 254 (by decide +kernel) (by decide +kernel)
theorem hd_Ways_costOf : y_Ways_costOf.cls = R_Ways ∧ y_Ways_costOf.cls ≠ "java/lang/invoke/MethodHandle" ∧ y_Ways_costOf.cls ≠ "java/lang/invoke/VarHandle" ∧ (parseMethodDescriptor y_Ways_costOf.desc).map (fun d => d.parameters.length) = some 2 := by decide +kernel
abbrev b_Ways_areLinked : ByteArray := prog_5_method_3_code
abbrev y_Ways_areLinked : MethodName := ⟨"LabelRoads$Ways", "areLinked", "(II)Z"⟩
theorem d_Ways_areLinked_0 : decode b_Ways_areLinked 0 = .ok (.aload_n 0, 1) := by decide +kernel
theorem d_Ways_areLinked_1 : decode b_Ways_areLinked 1 = .ok (.getfield 17, 3) := by decide +kernel
theorem d_Ways_areLinked_4 : decode b_Ways_areLinked 4 = .ok (.iload_n 1, 1) := by decide +kernel
theorem d_Ways_areLinked_5 : decode b_Ways_areLinked 5 = .ok (.aaload, 1) := by decide +kernel
theorem d_Ways_areLinked_6 : decode b_Ways_areLinked 6 = .ok (.iload_n 2, 1) := by decide +kernel
theorem d_Ways_areLinked_7 : decode b_Ways_areLinked 7 = .ok (.iaload, 1) := by decide +kernel
theorem d_Ways_areLinked_8 : decode b_Ways_areLinked 8 = .ok (.ifCond .eq (7), 3) := by decide +kernel
theorem d_Ways_areLinked_11 : decode b_Ways_areLinked 11 = .ok (.iconst 1, 1) := by decide +kernel
theorem d_Ways_areLinked_12 : decode b_Ways_areLinked 12 = .ok (.goto (4), 3) := by decide +kernel
theorem d_Ways_areLinked_15 : decode b_Ways_areLinked 15 = .ok (.iconst 0, 1) := by decide +kernel
theorem d_Ways_areLinked_16 : decode b_Ways_areLinked 16 = .ok (.ireturn, 1) := by decide +kernel
theorem k_Ways_areLinked : Cond.code y_Ways_areLinked b_Ways_areLinked 3 (some .boolean) ∈ WS := ws_t 270 (by decide +kernel) (by decide +kernel)
theorem hd_Ways_areLinked : y_Ways_areLinked.cls = R_Ways ∧ y_Ways_areLinked.cls ≠ "java/lang/invoke/MethodHandle" ∧ y_Ways_areLinked.cls ≠ "java/lang/invoke/VarHandle" ∧ (parseMethodDescriptor y_Ways_areLinked.desc).map (fun d => d.parameters.length) = some 2 := by decide +kernel
abbrev b_Ways_ownerOf : ByteArray := prog_5_method_4_code
abbrev y_Ways_ownerOf : MethodName := ⟨"LabelRoads$Ways", "ownerOf", "(I)I"⟩
theorem d_Ways_ownerOf_0 : decode b_Ways_ownerOf 0 = .ok (.aload_n 0, 1) := by decide +kernel
theorem d_Ways_ownerOf_1 : decode b_Ways_ownerOf 1 = .ok (.getfield 20, 3) := by decide +kernel
theorem d_Ways_ownerOf_4 : decode b_Ways_ownerOf 4 = .ok (.iload_n 1, 1) := by decide +kernel
theorem d_Ways_ownerOf_5 : decode b_Ways_ownerOf 5 = .ok (.iaload, 1) := by decide +kernel
theorem d_Ways_ownerOf_6 : decode b_Ways_ownerOf 6 = .ok (.ireturn, 1) := by decide +kernel
theorem k_Ways_ownerOf : Cond.code y_Ways_ownerOf b_Ways_ownerOf 2 (some .int) ∈ WS := ws_t 377 (by decide +kernel) (by decide +kernel)
theorem hd_Ways_ownerOf : y_Ways_ownerOf.cls = R_Ways ∧ y_Ways_ownerOf.cls ≠ "java/lang/invoke/MethodHandle" ∧ y_Ways_ownerOf.cls ≠ "java/lang/invoke/VarHandle" ∧ (parseMethodDescriptor y_Ways_ownerOf.desc).map (fun d => d.parameters.length) = some 1 := by decide +kernel
abbrev b_Ways_owns : ByteArray := prog_5_method_5_code
abbrev y_Ways_owns : MethodName := ⟨"LabelRoads$Ways", "owns", "(II)Z"⟩
theorem d_Ways_owns_0 : decode b_Ways_owns 0 = .ok (.aload_n 0, 1) := by decide +kernel
theorem d_Ways_owns_1 : decode b_Ways_owns 1 = .ok (.getfield 20, 3) := by decide +kernel
theorem d_Ways_owns_4 : decode b_Ways_owns 4 = .ok (.iload_n 2, 1) := by decide +kernel
theorem d_Ways_owns_5 : decode b_Ways_owns 5 = .ok (.iaload, 1) := by decide +kernel
theorem d_Ways_owns_6 : decode b_Ways_owns 6 = .ok (.iload_n 1, 1) := by decide +kernel
theorem d_Ways_owns_7 : decode b_Ways_owns 7 = .ok (.if_icmp .ne (7), 3) := by decide +kernel
theorem d_Ways_owns_10 : decode b_Ways_owns 10 = .ok (.iconst 1, 1) := by decide +kernel
theorem d_Ways_owns_11 : decode b_Ways_owns 11 = .ok (.goto (4), 3) := by decide +kernel
theorem d_Ways_owns_14 : decode b_Ways_owns 14 = .ok (.iconst 0, 1) := by decide +kernel
theorem d_Ways_owns_15 : decode b_Ways_owns 15 = .ok (.ireturn, 1) := by decide +kernel
theorem k_Ways_owns : Cond.code y_Ways_owns b_Ways_owns 3 (some .boolean) ∈ WS := ws_t 326 (by decide +kernel) (by decide +kernel)
theorem hd_Ways_owns : y_Ways_owns.cls = R_Ways ∧ y_Ways_owns.cls ≠ "java/lang/invoke/MethodHandle" ∧ y_Ways_owns.cls ≠ "java/lang/invoke/VarHandle" ∧ (parseMethodDescriptor y_Ways_owns.desc).map (fun d => d.parameters.length) = some 2 := by decide +kernel
abbrev b_Ways_distanceOf : ByteArray := prog_5_method_8_code
abbrev y_Ways_distanceOf : MethodName := ⟨"LabelRoads$Ways", "distanceOf", "(II)I"⟩
theorem d_Ways_distanceOf_0 : decode b_Ways_distanceOf 0 = .ok (.aload_n 0, 1) := by decide +kernel
theorem d_Ways_distanceOf_1 : decode b_Ways_distanceOf 1 = .ok (.getfield 30, 3) := by decide +kernel
theorem d_Ways_distanceOf_4 : decode b_Ways_distanceOf 4 = .ok (.iload_n 2, 1) := by decide +kernel
theorem d_Ways_distanceOf_5 : decode b_Ways_distanceOf 5 = .ok (.aaload, 1) := by decide +kernel
theorem d_Ways_distanceOf_6 : decode b_Ways_distanceOf 6 = .ok (.iload_n 1, 1) := by decide +kernel
theorem d_Ways_distanceOf_7 : decode b_Ways_distanceOf 7 = .ok (.iaload, 1) := by decide +kernel
theorem d_Ways_distanceOf_8 : decode b_Ways_distanceOf 8 = .ok (.istore_n 3, 1) := by decide +kernel
theorem d_Ways_distanceOf_9 : decode b_Ways_distanceOf 9 = .ok (.iload_n 3, 1) := by decide +kernel
theorem d_Ways_distanceOf_10 : decode b_Ways_distanceOf 10 = .ok (.sipush 1000, 3) := by decide +kernel
theorem d_Ways_distanceOf_13 : decode b_Ways_distanceOf 13 = .ok (.if_icmp .ne (7), 3) := by decide +kernel
theorem d_Ways_distanceOf_16 : decode b_Ways_distanceOf 16 = .ok (.iconst (-1), 1) := by decide +kernel
theorem d_Ways_distanceOf_17 : decode b_Ways_distanceOf 17 = .ok (.goto (4), 3) := by decide +kernel
theorem d_Ways_distanceOf_20 : decode b_Ways_distanceOf 20 = .ok (.iload_n 3, 1) := by decide +kernel
theorem d_Ways_distanceOf_21 : decode b_Ways_distanceOf 21 = .ok (.ireturn, 1) := by decide +kernel
theorem k_Ways_distanceOf : Cond.code y_Ways_distanceOf b_Ways_distanceOf 4 (some .int) ∈ WS := ws_t 448 (by decide +kernel) (by decide +kernel)
theorem hd_Ways_distanceOf : y_Ways_distanceOf.cls = R_Ways ∧ y_Ways_distanceOf.cls ≠ "java/lang/invoke/MethodHandle" ∧ y_Ways_distanceOf.cls ≠ "java/lang/invoke/VarHandle" ∧ (parseMethodDescriptor y_Ways_distanceOf.desc).map (fun d => d.parameters.length) = some 2 := by decide +kernel
abbrev b_Ways_nextOf : ByteArray := prog_5_method_9_code
abbrev y_Ways_nextOf : MethodName := ⟨"LabelRoads$Ways", "nextOf", "(II)I"⟩
theorem d_Ways_nextOf_0 : decode b_Ways_nextOf 0 = .ok (.aload_n 0, 1) := by decide +kernel
theorem d_Ways_nextOf_1 : decode b_Ways_nextOf 1 = .ok (.getfield 30, 3) := by decide +kernel
theorem d_Ways_nextOf_4 : decode b_Ways_nextOf 4 = .ok (.iload_n 2, 1) := by decide +kernel
theorem d_Ways_nextOf_5 : decode b_Ways_nextOf 5 = .ok (.aaload, 1) := by decide +kernel
theorem d_Ways_nextOf_6 : decode b_Ways_nextOf 6 = .ok (.astore_n 3, 1) := by decide +kernel
theorem d_Ways_nextOf_7 : decode b_Ways_nextOf 7 = .ok (.iconst 0, 1) := by decide +kernel
theorem d_Ways_nextOf_8 : decode b_Ways_nextOf 8 = .ok (.istore 4, 2) := by decide +kernel
theorem d_Ways_nextOf_10 : decode b_Ways_nextOf 10 = .ok (.iload 4, 2) := by decide +kernel
theorem d_Ways_nextOf_12 : decode b_Ways_nextOf 12 = .ok (.aload_n 0, 1) := by decide +kernel
theorem d_Ways_nextOf_13 : decode b_Ways_nextOf 13 = .ok (.getfield 9, 3) := by decide +kernel
theorem d_Ways_nextOf_16 : decode b_Ways_nextOf 16 = .ok (.if_icmp .ge (42), 3) := by decide +kernel
theorem d_Ways_nextOf_19 : decode b_Ways_nextOf 19 = .ok (.aload_n 0, 1) := by decide +kernel
theorem d_Ways_nextOf_20 : decode b_Ways_nextOf 20 = .ok (.iload_n 1, 1) := by decide +kernel
theorem d_Ways_nextOf_21 : decode b_Ways_nextOf 21 = .ok (.iload 4, 2) := by decide +kernel
theorem d_Ways_nextOf_23 : decode b_Ways_nextOf 23 = .ok (.invokevirtual 37, 3) := by decide +kernel
theorem d_Ways_nextOf_26 : decode b_Ways_nextOf 26 = .ok (.ifCond .eq (26), 3) := by decide +kernel
theorem d_Ways_nextOf_29 : decode b_Ways_nextOf 29 = .ok (.aload_n 0, 1) := by decide +kernel
theorem d_Ways_nextOf_30 : decode b_Ways_nextOf 30 = .ok (.getfield 17, 3) := by decide +kernel
theorem d_Ways_nextOf_33 : decode b_Ways_nextOf 33 = .ok (.iload_n 1, 1) := by decide +kernel
theorem d_Ways_nextOf_34 : decode b_Ways_nextOf 34 = .ok (.aaload, 1) := by decide +kernel
theorem d_Ways_nextOf_35 : decode b_Ways_nextOf 35 = .ok (.iload 4, 2) := by decide +kernel
theorem d_Ways_nextOf_37 : decode b_Ways_nextOf 37 = .ok (.iaload, 1) := by decide +kernel
theorem d_Ways_nextOf_38 : decode b_Ways_nextOf 38 = .ok (.aload_n 3, 1) := by decide +kernel
theorem d_Ways_nextOf_39 : decode b_Ways_nextOf 39 = .ok (.iload 4, 2) := by decide +kernel
theorem d_Ways_nextOf_41 : decode b_Ways_nextOf 41 = .ok (.iaload, 1) := by decide +kernel
theorem d_Ways_nextOf_42 : decode b_Ways_nextOf 42 = .ok (.iadd, 1) := by decide +kernel
theorem d_Ways_nextOf_43 : decode b_Ways_nextOf 43 = .ok (.aload_n 3, 1) := by decide +kernel
theorem d_Ways_nextOf_44 : decode b_Ways_nextOf 44 = .ok (.iload_n 1, 1) := by decide +kernel
theorem d_Ways_nextOf_45 : decode b_Ways_nextOf 45 = .ok (.iaload, 1) := by decide +kernel
theorem d_Ways_nextOf_46 : decode b_Ways_nextOf 46 = .ok (.if_icmp .ne (6), 3) := by decide +kernel
theorem d_Ways_nextOf_49 : decode b_Ways_nextOf 49 = .ok (.iload 4, 2) := by decide +kernel
theorem d_Ways_nextOf_51 : decode b_Ways_nextOf 51 = .ok (.ireturn, 1) := by decide +kernel
theorem d_Ways_nextOf_52 : decode b_Ways_nextOf 52 = .ok (.iinc 4 (1), 3) := by decide +kernel
theorem d_Ways_nextOf_55 : decode b_Ways_nextOf 55 = .ok (.goto (-45), 3) := by decide +kernel
theorem d_Ways_nextOf_58 : decode b_Ways_nextOf 58 = .ok (.iconst (-1), 1) := by decide +kernel
theorem d_Ways_nextOf_59 : decode b_Ways_nextOf 59 = .ok (.ireturn, 1) := by decide +kernel
theorem k_Ways_nextOf : Cond.code y_Ways_nextOf b_Ways_nextOf 5 (some .int) ∈ WS := ws_t 330 (by decide +kernel) (by decide +kernel)
theorem hd_Ways_nextOf : y_Ways_nextOf.cls = R_Ways ∧ y_Ways_nextOf.cls ≠ "java/lang/invoke/MethodHandle" ∧ y_Ways_nextOf.cls ≠ "java/lang/invoke/VarHandle" ∧ (parseMethodDescriptor y_Ways_nextOf.desc).map (fun d => d.parameters.length) = some 2 := by decide +kernel
abbrev b_Arr_fill : ByteArray := prog_16_method_103_code
abbrev y_Arr_fill : MethodName := ⟨"java/util/Arrays", "fill", "([II)V"⟩
theorem d_Arr_fill_0 : decode b_Arr_fill 0 = .ok (.iconst 0, 1) := by decide +kernel
theorem d_Arr_fill_1 : decode b_Arr_fill 1 = .ok (.istore_n 2, 1) := by decide +kernel
theorem d_Arr_fill_2 : decode b_Arr_fill 2 = .ok (.aload_n 0, 1) := by decide +kernel
theorem d_Arr_fill_3 : decode b_Arr_fill 3 = .ok (.arraylength, 1) := by decide +kernel
theorem d_Arr_fill_4 : decode b_Arr_fill 4 = .ok (.istore_n 3, 1) := by decide +kernel
theorem d_Arr_fill_5 : decode b_Arr_fill 5 = .ok (.iload_n 2, 1) := by decide +kernel
theorem d_Arr_fill_6 : decode b_Arr_fill 6 = .ok (.iload_n 3, 1) := by decide +kernel
theorem d_Arr_fill_7 : decode b_Arr_fill 7 = .ok (.if_icmp .ge (13), 3) := by decide +kernel
theorem d_Arr_fill_10 : decode b_Arr_fill 10 = .ok (.aload_n 0, 1) := by decide +kernel
theorem d_Arr_fill_11 : decode b_Arr_fill 11 = .ok (.iload_n 2, 1) := by decide +kernel
theorem d_Arr_fill_12 : decode b_Arr_fill 12 = .ok (.iload_n 1, 1) := by decide +kernel
theorem d_Arr_fill_13 : decode b_Arr_fill 13 = .ok (.iastore, 1) := by decide +kernel
theorem d_Arr_fill_14 : decode b_Arr_fill 14 = .ok (.iinc 2 (1), 3) := by decide +kernel
theorem d_Arr_fill_17 : decode b_Arr_fill 17 = .ok (.goto (-12), 3) := by decide +kernel
theorem d_Arr_fill_20 : decode b_Arr_fill 20 = .ok (.return_, 1) := by decide +kernel
theorem k_Arr_fill : Cond.code y_Arr_fill b_Arr_fill 4 (none) ∈ WS := ws_t 40 (by decide +kernel) (by decide +kernel)
theorem hd_Arr_fill : y_Arr_fill.cls ≠ "java/lang/invoke/MethodHandle" ∧ y_Arr_fill.cls ≠ "java/lang/invoke/VarHandle" ∧ (parseMethodDescriptor y_Arr_fill.desc).map (fun d => d.parameters.length) = some 2 := by decide +kernel
abbrev b_Ways_lengthenWays : ByteArray := prog_5_method_11_code
abbrev y_Ways_lengthenWays : MethodName := ⟨"LabelRoads$Ways", "lengthenWays", "([I)V"⟩
theorem d_Ways_lengthenWays_0 : decode b_Ways_lengthenWays 0 = .ok (.iconst 0, 1) := by decide +kernel
theorem d_Ways_lengthenWays_1 : decode b_Ways_lengthenWays 1 = .ok (.istore_n 2, 1) := by decide +kernel
theorem d_Ways_lengthenWays_2 : decode b_Ways_lengthenWays 2 = .ok (.iload_n 2, 1) := by decide +kernel
theorem d_Ways_lengthenWays_3 : decode b_Ways_lengthenWays 3 = .ok (.aload_n 0, 1) := by decide +kernel
theorem d_Ways_lengthenWays_4 : decode b_Ways_lengthenWays 4 = .ok (.getfield 9, 3) := by decide +kernel
theorem d_Ways_lengthenWays_7 : decode b_Ways_lengthenWays 7 = .ok (.if_icmp .ge (55), 3) := by decide +kernel
theorem d_Ways_lengthenWays_10 : decode b_Ways_lengthenWays 10 = .ok (.iconst 0, 1) := by decide +kernel
theorem d_Ways_lengthenWays_11 : decode b_Ways_lengthenWays 11 = .ok (.istore_n 3, 1) := by decide +kernel
theorem d_Ways_lengthenWays_12 : decode b_Ways_lengthenWays 12 = .ok (.iload_n 3, 1) := by decide +kernel
theorem d_Ways_lengthenWays_13 : decode b_Ways_lengthenWays 13 = .ok (.aload_n 0, 1) := by decide +kernel
theorem d_Ways_lengthenWays_14 : decode b_Ways_lengthenWays 14 = .ok (.getfield 9, 3) := by decide +kernel
theorem d_Ways_lengthenWays_17 : decode b_Ways_lengthenWays 17 = .ok (.if_icmp .ge (39), 3) := by decide +kernel
theorem d_Ways_lengthenWays_20 : decode b_Ways_lengthenWays 20 = .ok (.aload_n 0, 1) := by decide +kernel
theorem d_Ways_lengthenWays_21 : decode b_Ways_lengthenWays 21 = .ok (.iload_n 2, 1) := by decide +kernel
theorem d_Ways_lengthenWays_22 : decode b_Ways_lengthenWays 22 = .ok (.iload_n 3, 1) := by decide +kernel
theorem d_Ways_lengthenWays_23 : decode b_Ways_lengthenWays 23 = .ok (.invokevirtual 37, 3) := by decide +kernel
theorem d_Ways_lengthenWays_26 : decode b_Ways_lengthenWays 26 = .ok (.ifCond .eq (24), 3) := by decide +kernel
theorem d_Ways_lengthenWays_29 : decode b_Ways_lengthenWays 29 = .ok (.aload_n 1, 1) := by decide +kernel
theorem d_Ways_lengthenWays_30 : decode b_Ways_lengthenWays 30 = .ok (.iload_n 2, 1) := by decide +kernel
theorem d_Ways_lengthenWays_31 : decode b_Ways_lengthenWays 31 = .ok (.aload_n 1, 1) := by decide +kernel
theorem d_Ways_lengthenWays_32 : decode b_Ways_lengthenWays 32 = .ok (.iload_n 2, 1) := by decide +kernel
theorem d_Ways_lengthenWays_33 : decode b_Ways_lengthenWays 33 = .ok (.iaload, 1) := by decide +kernel
theorem d_Ways_lengthenWays_34 : decode b_Ways_lengthenWays 34 = .ok (.aload_n 1, 1) := by decide +kernel
theorem d_Ways_lengthenWays_35 : decode b_Ways_lengthenWays 35 = .ok (.iload_n 3, 1) := by decide +kernel
theorem d_Ways_lengthenWays_36 : decode b_Ways_lengthenWays 36 = .ok (.iaload, 1) := by decide +kernel
theorem d_Ways_lengthenWays_37 : decode b_Ways_lengthenWays 37 = .ok (.aload_n 0, 1) := by decide +kernel
theorem d_Ways_lengthenWays_38 : decode b_Ways_lengthenWays 38 = .ok (.getfield 17, 3) := by decide +kernel
theorem d_Ways_lengthenWays_41 : decode b_Ways_lengthenWays 41 = .ok (.iload_n 2, 1) := by decide +kernel
theorem d_Ways_lengthenWays_42 : decode b_Ways_lengthenWays 42 = .ok (.aaload, 1) := by decide +kernel
theorem d_Ways_lengthenWays_43 : decode b_Ways_lengthenWays 43 = .ok (.iload_n 3, 1) := by decide +kernel
theorem d_Ways_lengthenWays_44 : decode b_Ways_lengthenWays 44 = .ok (.iaload, 1) := by decide +kernel
theorem d_Ways_lengthenWays_45 : decode b_Ways_lengthenWays 45 = .ok (.iadd, 1) := by decide +kernel
theorem d_Ways_lengthenWays_46 : decode b_Ways_lengthenWays 46 = .ok (.invokestatic 45, 3) := by decide +kernel
theorem d_Ways_lengthenWays_49 : decode b_Ways_lengthenWays 49 = .ok (.iastore, 1) := by decide +kernel
theorem d_Ways_lengthenWays_50 : decode b_Ways_lengthenWays 50 = .ok (.iinc 3 (1), 3) := by decide +kernel
theorem d_Ways_lengthenWays_53 : decode b_Ways_lengthenWays 53 = .ok (.goto (-41), 3) := by decide +kernel
theorem d_Ways_lengthenWays_56 : decode b_Ways_lengthenWays 56 = .ok (.iinc 2 (1), 3) := by decide +kernel
theorem d_Ways_lengthenWays_59 : decode b_Ways_lengthenWays 59 = .ok (.goto (-57), 3) := by decide +kernel
theorem d_Ways_lengthenWays_62 : decode b_Ways_lengthenWays 62 = .ok (.return_, 1) := by decide +kernel
theorem k_Ways_lengthenWays : Cond.code y_Ways_lengthenWays b_Ways_lengthenWays 4 (none) ∈ WS := ws_t 266 (by decide +kernel) (by decide +kernel)
theorem hd_Ways_lengthenWays : y_Ways_lengthenWays.cls = R_Ways ∧ y_Ways_lengthenWays.cls ≠ "java/lang/invoke/MethodHandle" ∧ y_Ways_lengthenWays.cls ≠ "java/lang/invoke/VarHandle" ∧ (parseMethodDescriptor y_Ways_lengthenWays.desc).map (fun d => d.parameters.length) = some 1 := by decide +kernel
abbrev b_Ways_measure : ByteArray := prog_5_method_10_code
abbrev y_Ways_measure : MethodName := ⟨"LabelRoads$Ways", "measure", "(I)V"⟩
theorem d_Ways_measure_0 : decode b_Ways_measure 0 = .ok (.aload_n 0, 1) := by decide +kernel
theorem d_Ways_measure_1 : decode b_Ways_measure 1 = .ok (.getfield 30, 3) := by decide +kernel
theorem d_Ways_measure_4 : decode b_Ways_measure 4 = .ok (.iload_n 1, 1) := by decide +kernel
theorem d_Ways_measure_5 : decode b_Ways_measure 5 = .ok (.aaload, 1) := by decide +kernel
theorem d_Ways_measure_6 : decode b_Ways_measure 6 = .ok (.astore_n 2, 1) := by decide +kernel
theorem d_Ways_measure_7 : decode b_Ways_measure 7 = .ok (.aload_n 2, 1) := by decide +kernel
theorem d_Ways_measure_8 : decode b_Ways_measure 8 = .ok (.sipush 1000, 3) := by decide +kernel
theorem d_Ways_measure_11 : decode b_Ways_measure 11 = .ok (.invokestatic 24, 3) := by decide +kernel
theorem d_Ways_measure_14 : decode b_Ways_measure 14 = .ok (.aload_n 0, 1) := by decide +kernel
theorem d_Ways_measure_15 : decode b_Ways_measure 15 = .ok (.getfield 20, 3) := by decide +kernel
theorem d_Ways_measure_18 : decode b_Ways_measure 18 = .ok (.iload_n 1, 1) := by decide +kernel
theorem d_Ways_measure_19 : decode b_Ways_measure 19 = .ok (.iaload, 1) := by decide +kernel
theorem d_Ways_measure_20 : decode b_Ways_measure 20 = .ok (.iconst (-1), 1) := by decide +kernel
theorem d_Ways_measure_21 : decode b_Ways_measure 21 = .ok (.if_icmp .ne (4), 3) := by decide +kernel
theorem d_Ways_measure_24 : decode b_Ways_measure 24 = .ok (.return_, 1) := by decide +kernel
theorem d_Ways_measure_25 : decode b_Ways_measure 25 = .ok (.aload_n 2, 1) := by decide +kernel
theorem d_Ways_measure_26 : decode b_Ways_measure 26 = .ok (.aload_n 0, 1) := by decide +kernel
theorem d_Ways_measure_27 : decode b_Ways_measure 27 = .ok (.getfield 20, 3) := by decide +kernel
theorem d_Ways_measure_30 : decode b_Ways_measure 30 = .ok (.iload_n 1, 1) := by decide +kernel
theorem d_Ways_measure_31 : decode b_Ways_measure 31 = .ok (.iaload, 1) := by decide +kernel
theorem d_Ways_measure_32 : decode b_Ways_measure 32 = .ok (.iconst 0, 1) := by decide +kernel
theorem d_Ways_measure_33 : decode b_Ways_measure 33 = .ok (.iastore, 1) := by decide +kernel
theorem d_Ways_measure_34 : decode b_Ways_measure 34 = .ok (.iconst 1, 1) := by decide +kernel
theorem d_Ways_measure_35 : decode b_Ways_measure 35 = .ok (.istore_n 3, 1) := by decide +kernel
theorem d_Ways_measure_36 : decode b_Ways_measure 36 = .ok (.iload_n 3, 1) := by decide +kernel
theorem d_Ways_measure_37 : decode b_Ways_measure 37 = .ok (.aload_n 0, 1) := by decide +kernel
theorem d_Ways_measure_38 : decode b_Ways_measure 38 = .ok (.getfield 9, 3) := by decide +kernel
theorem d_Ways_measure_41 : decode b_Ways_measure 41 = .ok (.if_icmp .ge (14), 3) := by decide +kernel
theorem d_Ways_measure_44 : decode b_Ways_measure 44 = .ok (.aload_n 0, 1) := by decide +kernel
theorem d_Ways_measure_45 : decode b_Ways_measure 45 = .ok (.aload_n 2, 1) := by decide +kernel
theorem d_Ways_measure_46 : decode b_Ways_measure 46 = .ok (.invokevirtual 41, 3) := by decide +kernel
theorem d_Ways_measure_49 : decode b_Ways_measure 49 = .ok (.iinc 3 (1), 3) := by decide +kernel
theorem d_Ways_measure_52 : decode b_Ways_measure 52 = .ok (.goto (-16), 3) := by decide +kernel
theorem d_Ways_measure_55 : decode b_Ways_measure 55 = .ok (.return_, 1) := by decide +kernel
theorem k_Ways_measure : Cond.code y_Ways_measure b_Ways_measure 4 (none) ∈ WS := ws_t 262 (by decide +kernel) (by decide +kernel)
theorem hd_Ways_measure : y_Ways_measure.cls = R_Ways ∧ y_Ways_measure.cls ≠ "java/lang/invoke/MethodHandle" ∧ y_Ways_measure.cls ≠ "java/lang/invoke/VarHandle" ∧ (parseMethodDescriptor y_Ways_measure.desc).map (fun d => d.parameters.length) = some 1 := by decide +kernel
abbrev b_Ways_setCost : ByteArray := prog_5_method_6_code
abbrev y_Ways_setCost : MethodName := ⟨"LabelRoads$Ways", "setCost", "(III)V"⟩
theorem d_Ways_setCost_0 : decode b_Ways_setCost 0 = .ok (.aload_n 0, 1) := by decide +kernel
theorem d_Ways_setCost_1 : decode b_Ways_setCost 1 = .ok (.getfield 17, 3) := by decide +kernel
theorem d_Ways_setCost_4 : decode b_Ways_setCost 4 = .ok (.iload_n 1, 1) := by decide +kernel
theorem d_Ways_setCost_5 : decode b_Ways_setCost 5 = .ok (.aaload, 1) := by decide +kernel
theorem d_Ways_setCost_6 : decode b_Ways_setCost 6 = .ok (.iload_n 2, 1) := by decide +kernel
theorem d_Ways_setCost_7 : decode b_Ways_setCost 7 = .ok (.iload_n 3, 1) := by decide +kernel
theorem d_Ways_setCost_8 : decode b_Ways_setCost 8 = .ok (.iastore, 1) := by decide +kernel
theorem d_Ways_setCost_9 : decode b_Ways_setCost 9 = .ok (.aload_n 0, 1) := by decide +kernel
theorem d_Ways_setCost_10 : decode b_Ways_setCost 10 = .ok (.getfield 17, 3) := by decide +kernel
theorem d_Ways_setCost_13 : decode b_Ways_setCost 13 = .ok (.iload_n 2, 1) := by decide +kernel
theorem d_Ways_setCost_14 : decode b_Ways_setCost 14 = .ok (.aaload, 1) := by decide +kernel
theorem d_Ways_setCost_15 : decode b_Ways_setCost 15 = .ok (.iload_n 1, 1) := by decide +kernel
theorem d_Ways_setCost_16 : decode b_Ways_setCost 16 = .ok (.iload_n 3, 1) := by decide +kernel
theorem d_Ways_setCost_17 : decode b_Ways_setCost 17 = .ok (.iastore, 1) := by decide +kernel
theorem d_Ways_setCost_18 : decode b_Ways_setCost 18 = .ok (.iconst 0, 1) := by decide +kernel
theorem d_Ways_setCost_19 : decode b_Ways_setCost 19 = .ok (.istore 4, 2) := by decide +kernel
theorem d_Ways_setCost_21 : decode b_Ways_setCost 21 = .ok (.iload 4, 2) := by decide +kernel
theorem d_Ways_setCost_23 : decode b_Ways_setCost 23 = .ok (.iconst 4, 1) := by decide +kernel
theorem d_Ways_setCost_24 : decode b_Ways_setCost 24 = .ok (.if_icmp .ge (15), 3) := by decide +kernel
theorem d_Ways_setCost_27 : decode b_Ways_setCost 27 = .ok (.aload_n 0, 1) := by decide +kernel
theorem d_Ways_setCost_28 : decode b_Ways_setCost 28 = .ok (.iload 4, 2) := by decide +kernel
theorem d_Ways_setCost_30 : decode b_Ways_setCost 30 = .ok (.invokevirtual 33, 3) := by decide +kernel
theorem d_Ways_setCost_33 : decode b_Ways_setCost 33 = .ok (.iinc 4 (1), 3) := by decide +kernel
theorem d_Ways_setCost_36 : decode b_Ways_setCost 36 = .ok (.goto (-15), 3) := by decide +kernel
theorem d_Ways_setCost_39 : decode b_Ways_setCost 39 = .ok (.return_, 1) := by decide +kernel
theorem k_Ways_setCost : Cond.code y_Ways_setCost b_Ways_setCost 5 (none) ∈ WS := ws_t 258 (by decide +kernel) (by decide +kernel)
theorem hd_Ways_setCost : y_Ways_setCost.cls = R_Ways ∧ y_Ways_setCost.cls ≠ "java/lang/invoke/MethodHandle" ∧ y_Ways_setCost.cls ≠ "java/lang/invoke/VarHandle" ∧ (parseMethodDescriptor y_Ways_setCost.desc).map (fun d => d.parameters.length) = some 3 := by decide +kernel
abbrev b_Ways_setOwner : ByteArray := prog_5_method_7_code
abbrev y_Ways_setOwner : MethodName := ⟨"LabelRoads$Ways", "setOwner", "(II)V"⟩
theorem d_Ways_setOwner_0 : decode b_Ways_setOwner 0 = .ok (.aload_n 0, 1) := by decide +kernel
theorem d_Ways_setOwner_1 : decode b_Ways_setOwner 1 = .ok (.getfield 20, 3) := by decide +kernel
theorem d_Ways_setOwner_4 : decode b_Ways_setOwner 4 = .ok (.iload_n 1, 1) := by decide +kernel
theorem d_Ways_setOwner_5 : decode b_Ways_setOwner 5 = .ok (.iload_n 2, 1) := by decide +kernel
theorem d_Ways_setOwner_6 : decode b_Ways_setOwner 6 = .ok (.iastore, 1) := by decide +kernel
theorem d_Ways_setOwner_7 : decode b_Ways_setOwner 7 = .ok (.aload_n 0, 1) := by decide +kernel
theorem d_Ways_setOwner_8 : decode b_Ways_setOwner 8 = .ok (.iload_n 1, 1) := by decide +kernel
theorem d_Ways_setOwner_9 : decode b_Ways_setOwner 9 = .ok (.invokevirtual 33, 3) := by decide +kernel
theorem d_Ways_setOwner_12 : decode b_Ways_setOwner 12 = .ok (.return_, 1) := by decide +kernel
theorem k_Ways_setOwner : Cond.code y_Ways_setOwner b_Ways_setOwner 3 (none) ∈ WS := ws_t 381 (by decide +kernel) (by decide +kernel)
theorem hd_Ways_setOwner : y_Ways_setOwner.cls = R_Ways ∧ y_Ways_setOwner.cls ≠ "java/lang/invoke/MethodHandle" ∧ y_Ways_setOwner.cls ≠ "java/lang/invoke/VarHandle" ∧ (parseMethodDescriptor y_Ways_setOwner.desc).map (fun d => d.parameters.length) = some 2 := by decide +kernel
