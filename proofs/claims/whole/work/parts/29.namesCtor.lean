theorem oi_m : Cond.instanceMethod objectInit ∈ WS := ws_t 22 (by decide +kernel) (by decide +kernel)
theorem oi_c : Cond.code objectInit ⟨#[0xb1]⟩ 1 none ∈ WS := ws_t 23 (by decide +kernel) (by decide +kernel)
theorem ac_int : Cond.arrayClass .int ∈ WS := ws_t 54 (by decide +kernel) (by decide +kernel)
theorem ac_byte : Cond.arrayClass .byte ∈ WS := ws_t 249 (by decide +kernel) (by decide +kernel)
theorem ac_boolean : Cond.arrayClass .boolean ∈ WS := ws_t 681 (by decide +kernel) (by decide +kernel)
theorem ac_long : Cond.arrayClass .long ∈ WS := ws_t 837 (by decide +kernel) (by decide +kernel)
abbrev b_Mail_init : ByteArray := prog_2_method_1_code
abbrev y_Mail_init : MethodName := ⟨"LabelRoads$Mail", "<init>", "()V"⟩
theorem d_Mail_init_0 : decode b_Mail_init 0 = .ok (.aload_n 0, 1) := by decide +kernel
theorem d_Mail_init_1 : decode b_Mail_init 1 = .ok (.invokespecial 3, 3) := by decide +kernel
theorem d_Mail_init_4 : decode b_Mail_init 4 = .ok (.aload_n 0, 1) := by decide +kernel
theorem d_Mail_init_5 : decode b_Mail_init 5 = .ok (.sipush 240, 3) := by decide +kernel
theorem d_Mail_init_8 : decode b_Mail_init 8 = .ok (.newarray .int, 2) := by decide +kernel
theorem d_Mail_init_10 : decode b_Mail_init 10 = .ok (.putfield 9, 3) := by decide +kernel
theorem d_Mail_init_13 : decode b_Mail_init 13 = .ok (.return_, 1) := by decide +kernel
theorem k_Mail_init : Cond.code y_Mail_init b_Mail_init 1 none ∈ WS := ws_t 59 (by decide +kernel) (by decide +kernel)
theorem im_Mail_init : Cond.instanceMethod y_Mail_init ∈ WS := ws_t 58 (by decide +kernel) (by decide +kernel)
theorem hd_Mail_init : y_Mail_init.cls ≠ "java/lang/invoke/MethodHandle" ∧ y_Mail_init.cls ≠ "java/lang/invoke/VarHandle" ∧ (parseMethodDescriptor y_Mail_init.desc).map (fun d => d.parameters.length) = some 0 := by decide +kernel
theorem ci_Mail : Cond.initialized "LabelRoads$Mail" ∈ WS := ws_t 5 (by decide +kernel) (by decide +kernel)
theorem cn_Mail : Cond.instantiable "LabelRoads$Mail" 3 ∈ WS := ws_t 56 (by decide +kernel) (by decide +kernel)
theorem oi_Mail : Cond.methodLink "LabelRoads$Mail" 3 objectInit ∈ WS := ws_t 60 (by decide +kernel) (by decide +kernel)
theorem fi_Mail_9 : Cond.fieldLink "LabelRoads$Mail" 9 "LabelRoads$Mail" "messages" "[I" ∈ WS := ws_t 61 (by decide +kernel) (by decide +kernel)
abbrev b_Packet_init : ByteArray := prog_3_method_1_code
abbrev y_Packet_init : MethodName := ⟨"LabelRoads$Packet", "<init>", "()V"⟩
theorem d_Packet_init_0 : decode b_Packet_init 0 = .ok (.aload_n 0, 1) := by decide +kernel
theorem d_Packet_init_1 : decode b_Packet_init 1 = .ok (.invokespecial 3, 3) := by decide +kernel
theorem d_Packet_init_4 : decode b_Packet_init 4 = .ok (.aload_n 0, 1) := by decide +kernel
theorem d_Packet_init_5 : decode b_Packet_init 5 = .ok (.sipush 255, 3) := by decide +kernel
theorem d_Packet_init_8 : decode b_Packet_init 8 = .ok (.newarray .int, 2) := by decide +kernel
theorem d_Packet_init_10 : decode b_Packet_init 10 = .ok (.putfield 9, 3) := by decide +kernel
theorem d_Packet_init_13 : decode b_Packet_init 13 = .ok (.aload_n 0, 1) := by decide +kernel
theorem d_Packet_init_14 : decode b_Packet_init 14 = .ok (.sipush 255, 3) := by decide +kernel
theorem d_Packet_init_17 : decode b_Packet_init 17 = .ok (.newarray .int, 2) := by decide +kernel
theorem d_Packet_init_19 : decode b_Packet_init 19 = .ok (.putfield 15, 3) := by decide +kernel
theorem d_Packet_init_22 : decode b_Packet_init 22 = .ok (.return_, 1) := by decide +kernel
theorem k_Packet_init : Cond.code y_Packet_init b_Packet_init 1 none ∈ WS := ws_t 94 (by decide +kernel) (by decide +kernel)
theorem im_Packet_init : Cond.instanceMethod y_Packet_init ∈ WS := ws_t 93 (by decide +kernel) (by decide +kernel)
theorem hd_Packet_init : y_Packet_init.cls ≠ "java/lang/invoke/MethodHandle" ∧ y_Packet_init.cls ≠ "java/lang/invoke/VarHandle" ∧ (parseMethodDescriptor y_Packet_init.desc).map (fun d => d.parameters.length) = some 0 := by decide +kernel
theorem ci_Packet : Cond.initialized "LabelRoads$Packet" ∈ WS := ws_t 7 (by decide +kernel) (by decide +kernel)
theorem cn_Packet : Cond.instantiable "LabelRoads$Packet" 7 ∈ WS := ws_t 91 (by decide +kernel) (by decide +kernel)
theorem oi_Packet : Cond.methodLink "LabelRoads$Packet" 3 objectInit ∈ WS := ws_t 95 (by decide +kernel) (by decide +kernel)
theorem fi_Packet_9 : Cond.fieldLink "LabelRoads$Packet" 9 "LabelRoads$Packet" "trail" "[I" ∈ WS := ws_t 96 (by decide +kernel) (by decide +kernel)
theorem fi_Packet_15 : Cond.fieldLink "LabelRoads$Packet" 15 "LabelRoads$Packet" "entries" "[I" ∈ WS := ws_t 97 (by decide +kernel) (by decide +kernel)
abbrev b_Router_init : ByteArray := prog_4_method_1_code
abbrev y_Router_init : MethodName := ⟨"LabelRoads$Router", "<init>", "()V"⟩
theorem d_Router_init_0 : decode b_Router_init 0 = .ok (.aload_n 0, 1) := by decide +kernel
theorem d_Router_init_1 : decode b_Router_init 1 = .ok (.invokespecial 3, 3) := by decide +kernel
theorem d_Router_init_4 : decode b_Router_init 4 = .ok (.aload_n 0, 1) := by decide +kernel
theorem d_Router_init_5 : decode b_Router_init 5 = .ok (.iconst 4, 1) := by decide +kernel
theorem d_Router_init_6 : decode b_Router_init 6 = .ok (.newarray .int, 2) := by decide +kernel
theorem d_Router_init_8 : decode b_Router_init 8 = .ok (.putfield 9, 3) := by decide +kernel
theorem d_Router_init_11 : decode b_Router_init 11 = .ok (.aload_n 0, 1) := by decide +kernel
theorem d_Router_init_12 : decode b_Router_init 12 = .ok (.bipush 6, 2) := by decide +kernel
theorem d_Router_init_14 : decode b_Router_init 14 = .ok (.iconst 4, 1) := by decide +kernel
theorem d_Router_init_15 : decode b_Router_init 15 = .ok (.multianewarray 15 2, 4) := by decide +kernel
theorem d_Router_init_19 : decode b_Router_init 19 = .ok (.putfield 17, 3) := by decide +kernel
theorem d_Router_init_22 : decode b_Router_init 22 = .ok (.aload_n 0, 1) := by decide +kernel
theorem d_Router_init_23 : decode b_Router_init 23 = .ok (.bipush 8, 2) := by decide +kernel
theorem d_Router_init_25 : decode b_Router_init 25 = .ok (.newarray .int, 2) := by decide +kernel
theorem d_Router_init_27 : decode b_Router_init 27 = .ok (.putfield 20, 3) := by decide +kernel
theorem d_Router_init_30 : decode b_Router_init 30 = .ok (.return_, 1) := by decide +kernel
theorem k_Router_init : Cond.code y_Router_init b_Router_init 1 none ∈ WS := ws_t 76 (by decide +kernel) (by decide +kernel)
theorem im_Router_init : Cond.instanceMethod y_Router_init ∈ WS := ws_t 75 (by decide +kernel) (by decide +kernel)
theorem hd_Router_init : y_Router_init.cls ≠ "java/lang/invoke/MethodHandle" ∧ y_Router_init.cls ≠ "java/lang/invoke/VarHandle" ∧ (parseMethodDescriptor y_Router_init.desc).map (fun d => d.parameters.length) = some 0 := by decide +kernel
theorem ci_Router : Cond.initialized "LabelRoads$Router" ∈ WS := ws_t 6 (by decide +kernel) (by decide +kernel)
theorem cn_Router : Cond.instantiable "LabelRoads$Router" 3 ∈ WS := ws_t 73 (by decide +kernel) (by decide +kernel)
theorem oi_Router : Cond.methodLink "LabelRoads$Router" 3 objectInit ∈ WS := ws_t 77 (by decide +kernel) (by decide +kernel)
theorem fi_Router_9 : Cond.fieldLink "LabelRoads$Router" 9 "LabelRoads$Router" "labels" "[I" ∈ WS := ws_t 79 (by decide +kernel) (by decide +kernel)
theorem cl_Router_15 : Cond.classLink "LabelRoads$Router" 15 "[[I" ∈ WS := ws_t 78 (by decide +kernel) (by decide +kernel)
theorem fi_Router_17 : Cond.fieldLink "LabelRoads$Router" 17 "LabelRoads$Router" "toldLabels" "[[I" ∈ WS := ws_t 80 (by decide +kernel) (by decide +kernel)
theorem fi_Router_20 : Cond.fieldLink "LabelRoads$Router" 20 "LabelRoads$Router" "awaited" "[I" ∈ WS := ws_t 81 (by decide +kernel) (by decide +kernel)
abbrev b_Ways_init : ByteArray := prog_5_method_1_code
abbrev y_Ways_init : MethodName := ⟨"LabelRoads$Ways", "<init>", "(I)V"⟩
theorem d_Ways_init_0 : decode b_Ways_init 0 = .ok (.aload_n 0, 1) := by decide +kernel
theorem d_Ways_init_1 : decode b_Ways_init 1 = .ok (.invokespecial 3, 3) := by decide +kernel
theorem d_Ways_init_4 : decode b_Ways_init 4 = .ok (.aload_n 0, 1) := by decide +kernel
theorem d_Ways_init_5 : decode b_Ways_init 5 = .ok (.iload_n 1, 1) := by decide +kernel
theorem d_Ways_init_6 : decode b_Ways_init 6 = .ok (.putfield 9, 3) := by decide +kernel
theorem d_Ways_init_9 : decode b_Ways_init 9 = .ok (.aload_n 0, 1) := by decide +kernel
theorem d_Ways_init_10 : decode b_Ways_init 10 = .ok (.iload_n 1, 1) := by decide +kernel
theorem d_Ways_init_11 : decode b_Ways_init 11 = .ok (.iload_n 1, 1) := by decide +kernel
theorem d_Ways_init_12 : decode b_Ways_init 12 = .ok (.multianewarray 15 2, 4) := by decide +kernel
theorem d_Ways_init_16 : decode b_Ways_init 16 = .ok (.putfield 17, 3) := by decide +kernel
theorem d_Ways_init_19 : decode b_Ways_init 19 = .ok (.aload_n 0, 1) := by decide +kernel
theorem d_Ways_init_20 : decode b_Ways_init 20 = .ok (.iconst 4, 1) := by decide +kernel
theorem d_Ways_init_21 : decode b_Ways_init 21 = .ok (.newarray .int, 2) := by decide +kernel
theorem d_Ways_init_23 : decode b_Ways_init 23 = .ok (.putfield 20, 3) := by decide +kernel
theorem d_Ways_init_26 : decode b_Ways_init 26 = .ok (.aload_n 0, 1) := by decide +kernel
theorem d_Ways_init_27 : decode b_Ways_init 27 = .ok (.getfield 20, 3) := by decide +kernel
theorem d_Ways_init_30 : decode b_Ways_init 30 = .ok (.iconst (-1), 1) := by decide +kernel
theorem d_Ways_init_31 : decode b_Ways_init 31 = .ok (.invokestatic 24, 3) := by decide +kernel
theorem d_Ways_init_34 : decode b_Ways_init 34 = .ok (.aload_n 0, 1) := by decide +kernel
theorem d_Ways_init_35 : decode b_Ways_init 35 = .ok (.iconst 4, 1) := by decide +kernel
theorem d_Ways_init_36 : decode b_Ways_init 36 = .ok (.iload_n 1, 1) := by decide +kernel
theorem d_Ways_init_37 : decode b_Ways_init 37 = .ok (.multianewarray 15 2, 4) := by decide +kernel
theorem d_Ways_init_41 : decode b_Ways_init 41 = .ok (.putfield 30, 3) := by decide +kernel
theorem d_Ways_init_44 : decode b_Ways_init 44 = .ok (.iconst 0, 1) := by decide +kernel
theorem d_Ways_init_45 : decode b_Ways_init 45 = .ok (.istore_n 2, 1) := by decide +kernel
theorem d_Ways_init_46 : decode b_Ways_init 46 = .ok (.iload_n 2, 1) := by decide +kernel
theorem d_Ways_init_47 : decode b_Ways_init 47 = .ok (.iconst 4, 1) := by decide +kernel
theorem d_Ways_init_48 : decode b_Ways_init 48 = .ok (.if_icmp .ge (21), 3) := by decide +kernel
theorem d_Ways_init_51 : decode b_Ways_init 51 = .ok (.aload_n 0, 1) := by decide +kernel
theorem d_Ways_init_52 : decode b_Ways_init 52 = .ok (.getfield 30, 3) := by decide +kernel
theorem d_Ways_init_55 : decode b_Ways_init 55 = .ok (.iload_n 2, 1) := by decide +kernel
theorem d_Ways_init_56 : decode b_Ways_init 56 = .ok (.aaload, 1) := by decide +kernel
theorem d_Ways_init_57 : decode b_Ways_init 57 = .ok (.sipush 1000, 3) := by decide +kernel
theorem d_Ways_init_60 : decode b_Ways_init 60 = .ok (.invokestatic 24, 3) := by decide +kernel
theorem d_Ways_init_63 : decode b_Ways_init 63 = .ok (.iinc 2 (1), 3) := by decide +kernel
theorem d_Ways_init_66 : decode b_Ways_init 66 = .ok (.goto (-20), 3) := by decide +kernel
theorem d_Ways_init_69 : decode b_Ways_init 69 = .ok (.return_, 1) := by decide +kernel
theorem k_Ways_init : Cond.code y_Ways_init b_Ways_init 3 none ∈ WS := ws_t 34 (by decide +kernel) (by decide +kernel)
theorem im_Ways_init : Cond.instanceMethod y_Ways_init ∈ WS := ws_t 33 (by decide +kernel) (by decide +kernel)
theorem hd_Ways_init : y_Ways_init.cls ≠ "java/lang/invoke/MethodHandle" ∧ y_Ways_init.cls ≠ "java/lang/invoke/VarHandle" ∧ (parseMethodDescriptor y_Ways_init.desc).map (fun d => d.parameters.length) = some 1 := by decide +kernel
theorem ci_Ways : Cond.initialized "LabelRoads$Ways" ∈ WS := ws_t 3 (by decide +kernel) (by decide +kernel)
theorem cn_Ways : Cond.instantiable "LabelRoads$Ways" 4 ∈ WS := ws_t 31 (by decide +kernel) (by decide +kernel)
theorem oi_Ways : Cond.methodLink "LabelRoads$Ways" 3 objectInit ∈ WS := ws_t 35 (by decide +kernel) (by decide +kernel)
theorem fi_Ways_9 : Cond.fieldLink "LabelRoads$Ways" 9 "LabelRoads$Ways" "size" "I" ∈ WS := ws_t 41 (by decide +kernel) (by decide +kernel)
theorem cl_Ways_15 : Cond.classLink "LabelRoads$Ways" 15 "[[I" ∈ WS := ws_t 36 (by decide +kernel) (by decide +kernel)
theorem fi_Ways_17 : Cond.fieldLink "LabelRoads$Ways" 17 "LabelRoads$Ways" "costs" "[[I" ∈ WS := ws_t 42 (by decide +kernel) (by decide +kernel)
theorem fi_Ways_20 : Cond.fieldLink "LabelRoads$Ways" 20 "LabelRoads$Ways" "owners" "[I" ∈ WS := ws_t 43 (by decide +kernel) (by decide +kernel)
theorem fi_Ways_30 : Cond.fieldLink "LabelRoads$Ways" 30 "LabelRoads$Ways" "distances" "[[I" ∈ WS := ws_t 44 (by decide +kernel) (by decide +kernel)
abbrev b_LR_init : ByteArray := prog_1_method_1_code
abbrev y_LR_init : MethodName := ⟨"LabelRoads", "<init>", "(I)V"⟩
theorem d_LR_init_0 : decode b_LR_init 0 = .ok (.aload_n 0, 1) := by decide +kernel
theorem d_LR_init_1 : decode b_LR_init 1 = .ok (.invokespecial 1, 3) := by decide +kernel
theorem d_LR_init_4 : decode b_LR_init 4 = .ok (.aload_n 0, 1) := by decide +kernel
theorem d_LR_init_5 : decode b_LR_init 5 = .ok (.iconst 2, 1) := by decide +kernel
theorem d_LR_init_6 : decode b_LR_init 6 = .ok (.bipush 6, 2) := by decide +kernel
theorem d_LR_init_8 : decode b_LR_init 8 = .ok (.iload_n 1, 1) := by decide +kernel
theorem d_LR_init_9 : decode b_LR_init 9 = .ok (.invokestatic 9, 3) := by decide +kernel
theorem d_LR_init_12 : decode b_LR_init 12 = .ok (.invokestatic 15, 3) := by decide +kernel
theorem d_LR_init_15 : decode b_LR_init 15 = .ok (.putfield 18, 3) := by decide +kernel
theorem d_LR_init_18 : decode b_LR_init 18 = .ok (.aload_n 0, 1) := by decide +kernel
theorem d_LR_init_19 : decode b_LR_init 19 = .ok (.new 22, 3) := by decide +kernel
theorem d_LR_init_22 : decode b_LR_init 22 = .ok (.dup, 1) := by decide +kernel
theorem d_LR_init_23 : decode b_LR_init 23 = .ok (.aload_n 0, 1) := by decide +kernel
theorem d_LR_init_24 : decode b_LR_init 24 = .ok (.getfield 18, 3) := by decide +kernel
theorem d_LR_init_27 : decode b_LR_init 27 = .ok (.invokespecial 24, 3) := by decide +kernel
theorem d_LR_init_30 : decode b_LR_init 30 = .ok (.putfield 27, 3) := by decide +kernel
theorem d_LR_init_33 : decode b_LR_init 33 = .ok (.aload_n 0, 1) := by decide +kernel
theorem d_LR_init_34 : decode b_LR_init 34 = .ok (.new 31, 3) := by decide +kernel
theorem d_LR_init_37 : decode b_LR_init 37 = .ok (.dup, 1) := by decide +kernel
theorem d_LR_init_38 : decode b_LR_init 38 = .ok (.invokespecial 33, 3) := by decide +kernel
theorem d_LR_init_41 : decode b_LR_init 41 = .ok (.putfield 34, 3) := by decide +kernel
theorem d_LR_init_44 : decode b_LR_init 44 = .ok (.aload_n 0, 1) := by decide +kernel
theorem d_LR_init_45 : decode b_LR_init 45 = .ok (.aload_n 0, 1) := by decide +kernel
theorem d_LR_init_46 : decode b_LR_init 46 = .ok (.getfield 18, 3) := by decide +kernel
theorem d_LR_init_49 : decode b_LR_init 49 = .ok (.anewarray 38, 3) := by decide +kernel
theorem d_LR_init_52 : decode b_LR_init 52 = .ok (.putfield 40, 3) := by decide +kernel
theorem d_LR_init_55 : decode b_LR_init 55 = .ok (.iconst 0, 1) := by decide +kernel
theorem d_LR_init_56 : decode b_LR_init 56 = .ok (.istore_n 2, 1) := by decide +kernel
theorem d_LR_init_57 : decode b_LR_init 57 = .ok (.iload_n 2, 1) := by decide +kernel
theorem d_LR_init_58 : decode b_LR_init 58 = .ok (.aload_n 0, 1) := by decide +kernel
theorem d_LR_init_59 : decode b_LR_init 59 = .ok (.getfield 18, 3) := by decide +kernel
theorem d_LR_init_62 : decode b_LR_init 62 = .ok (.if_icmp .ge (22), 3) := by decide +kernel
theorem d_LR_init_65 : decode b_LR_init 65 = .ok (.aload_n 0, 1) := by decide +kernel
theorem d_LR_init_66 : decode b_LR_init 66 = .ok (.getfield 40, 3) := by decide +kernel
theorem d_LR_init_69 : decode b_LR_init 69 = .ok (.iload_n 2, 1) := by decide +kernel
theorem d_LR_init_70 : decode b_LR_init 70 = .ok (.new 38, 3) := by decide +kernel
theorem d_LR_init_73 : decode b_LR_init 73 = .ok (.dup, 1) := by decide +kernel
theorem d_LR_init_74 : decode b_LR_init 74 = .ok (.invokespecial 44, 3) := by decide +kernel
theorem d_LR_init_77 : decode b_LR_init 77 = .ok (.aastore, 1) := by decide +kernel
theorem d_LR_init_78 : decode b_LR_init 78 = .ok (.iinc 2 (1), 3) := by decide +kernel
theorem d_LR_init_81 : decode b_LR_init 81 = .ok (.goto (-24), 3) := by decide +kernel
theorem d_LR_init_84 : decode b_LR_init 84 = .ok (.aload_n 0, 1) := by decide +kernel
theorem d_LR_init_85 : decode b_LR_init 85 = .ok (.iconst 4, 1) := by decide +kernel
theorem d_LR_init_86 : decode b_LR_init 86 = .ok (.newarray .int, 2) := by decide +kernel
theorem d_LR_init_88 : decode b_LR_init 88 = .ok (.putfield 45, 3) := by decide +kernel
theorem d_LR_init_91 : decode b_LR_init 91 = .ok (.aload_n 0, 1) := by decide +kernel
theorem d_LR_init_92 : decode b_LR_init 92 = .ok (.getfield 45, 3) := by decide +kernel
theorem d_LR_init_95 : decode b_LR_init 95 = .ok (.iconst (-1), 1) := by decide +kernel
theorem d_LR_init_96 : decode b_LR_init 96 = .ok (.invokestatic 49, 3) := by decide +kernel
theorem d_LR_init_99 : decode b_LR_init 99 = .ok (.aload_n 0, 1) := by decide +kernel
theorem d_LR_init_100 : decode b_LR_init 100 = .ok (.new 55, 3) := by decide +kernel
theorem d_LR_init_103 : decode b_LR_init 103 = .ok (.dup, 1) := by decide +kernel
theorem d_LR_init_104 : decode b_LR_init 104 = .ok (.invokespecial 57, 3) := by decide +kernel
theorem d_LR_init_107 : decode b_LR_init 107 = .ok (.putfield 58, 3) := by decide +kernel
theorem d_LR_init_110 : decode b_LR_init 110 = .ok (.return_, 1) := by decide +kernel
theorem k_LR_init : Cond.code y_LR_init b_LR_init 3 none ∈ WS := ws_t 20 (by decide +kernel) (by decide +kernel)
theorem im_LR_init : Cond.instanceMethod y_LR_init ∈ WS := ws_t 19 (by decide +kernel) (by decide +kernel)
theorem hd_LR_init : y_LR_init.cls ≠ "java/lang/invoke/MethodHandle" ∧ y_LR_init.cls ≠ "java/lang/invoke/VarHandle" ∧ (parseMethodDescriptor y_LR_init.desc).map (fun d => d.parameters.length) = some 1 := by decide +kernel
theorem ci_LR : Cond.initialized "LabelRoads" ∈ WS := ws_t 1 (by decide +kernel) (by decide +kernel)
theorem cn_LR : Cond.instantiable "LabelRoads" 6 ∈ WS := ws_t 17 (by decide +kernel) (by decide +kernel)
theorem oi_LR : Cond.methodLink "LabelRoads" 1 objectInit ∈ WS := ws_t 21 (by decide +kernel) (by decide +kernel)
theorem fi_LR_18 : Cond.fieldLink "LabelRoads" 18 "LabelRoads" "size" "I" ∈ WS := ws_t 118 (by decide +kernel) (by decide +kernel)
theorem cl_LR_22 : Cond.classLink "LabelRoads" 22 "LabelRoads$Ways" ∈ WS := ws_t 30 (by decide +kernel) (by decide +kernel)
theorem fi_LR_27 : Cond.fieldLink "LabelRoads" 27 "LabelRoads" "ways" "LLabelRoads$Ways;" ∈ WS := ws_t 119 (by decide +kernel) (by decide +kernel)
theorem cl_LR_31 : Cond.classLink "LabelRoads" 31 "LabelRoads$Mail" ∈ WS := ws_t 55 (by decide +kernel) (by decide +kernel)
theorem fi_LR_34 : Cond.fieldLink "LabelRoads" 34 "LabelRoads" "mail" "LLabelRoads$Mail;" ∈ WS := ws_t 120 (by decide +kernel) (by decide +kernel)
theorem cl_LR_38 : Cond.classLink "LabelRoads" 38 "LabelRoads$Router" ∈ WS := ws_t 71 (by decide +kernel) (by decide +kernel)
theorem fi_LR_40 : Cond.fieldLink "LabelRoads" 40 "LabelRoads" "routers" "[LLabelRoads$Router;" ∈ WS := ws_t 121 (by decide +kernel) (by decide +kernel)
theorem fi_LR_45 : Cond.fieldLink "LabelRoads" 45 "LabelRoads" "places" "[I" ∈ WS := ws_t 122 (by decide +kernel) (by decide +kernel)
theorem cl_LR_55 : Cond.classLink "LabelRoads" 55 "LabelRoads$Packet" ∈ WS := ws_t 90 (by decide +kernel) (by decide +kernel)
theorem fi_LR_58 : Cond.fieldLink "LabelRoads" 58 "LabelRoads" "packet" "LLabelRoads$Packet;" ∈ WS := ws_t 123 (by decide +kernel) (by decide +kernel)
abbrev b_Model_init : ByteArray := prog_7_method_1_code
abbrev y_Model_init : MethodName := ⟨"LabelRoadsModel", "<init>", "(I)V"⟩
theorem d_Model_init_0 : decode b_Model_init 0 = .ok (.aload_n 0, 1) := by decide +kernel
theorem d_Model_init_1 : decode b_Model_init 1 = .ok (.invokespecial 1, 3) := by decide +kernel
theorem d_Model_init_4 : decode b_Model_init 4 = .ok (.aload_n 0, 1) := by decide +kernel
theorem d_Model_init_5 : decode b_Model_init 5 = .ok (.bipush 36, 2) := by decide +kernel
theorem d_Model_init_7 : decode b_Model_init 7 = .ok (.newarray .int, 2) := by decide +kernel
theorem d_Model_init_9 : decode b_Model_init 9 = .ok (.putfield 7, 3) := by decide +kernel
theorem d_Model_init_12 : decode b_Model_init 12 = .ok (.aload_n 0, 1) := by decide +kernel
theorem d_Model_init_13 : decode b_Model_init 13 = .ok (.iconst 4, 1) := by decide +kernel
theorem d_Model_init_14 : decode b_Model_init 14 = .ok (.newarray .int, 2) := by decide +kernel
theorem d_Model_init_16 : decode b_Model_init 16 = .ok (.putfield 13, 3) := by decide +kernel
theorem d_Model_init_19 : decode b_Model_init 19 = .ok (.aload_n 0, 1) := by decide +kernel
theorem d_Model_init_20 : decode b_Model_init 20 = .ok (.iconst 4, 1) := by decide +kernel
theorem d_Model_init_21 : decode b_Model_init 21 = .ok (.newarray .int, 2) := by decide +kernel
theorem d_Model_init_23 : decode b_Model_init 23 = .ok (.putfield 16, 3) := by decide +kernel
theorem d_Model_init_26 : decode b_Model_init 26 = .ok (.aload_n 0, 1) := by decide +kernel
theorem d_Model_init_27 : decode b_Model_init 27 = .ok (.bipush 24, 2) := by decide +kernel
theorem d_Model_init_29 : decode b_Model_init 29 = .ok (.newarray .int, 2) := by decide +kernel
theorem d_Model_init_31 : decode b_Model_init 31 = .ok (.putfield 19, 3) := by decide +kernel
theorem d_Model_init_34 : decode b_Model_init 34 = .ok (.aload_n 0, 1) := by decide +kernel
theorem d_Model_init_35 : decode b_Model_init 35 = .ok (.sipush 144, 3) := by decide +kernel
theorem d_Model_init_38 : decode b_Model_init 38 = .ok (.newarray .int, 2) := by decide +kernel
theorem d_Model_init_40 : decode b_Model_init 40 = .ok (.putfield 22, 3) := by decide +kernel
theorem d_Model_init_43 : decode b_Model_init 43 = .ok (.aload_n 0, 1) := by decide +kernel
theorem d_Model_init_44 : decode b_Model_init 44 = .ok (.sipush 288, 3) := by decide +kernel
theorem d_Model_init_47 : decode b_Model_init 47 = .ok (.newarray .boolean, 2) := by decide +kernel
theorem d_Model_init_49 : decode b_Model_init 49 = .ok (.putfield 25, 3) := by decide +kernel
theorem d_Model_init_52 : decode b_Model_init 52 = .ok (.aload_n 0, 1) := by decide +kernel
theorem d_Model_init_53 : decode b_Model_init 53 = .ok (.sipush 240, 3) := by decide +kernel
theorem d_Model_init_56 : decode b_Model_init 56 = .ok (.newarray .int, 2) := by decide +kernel
theorem d_Model_init_58 : decode b_Model_init 58 = .ok (.putfield 29, 3) := by decide +kernel
theorem d_Model_init_61 : decode b_Model_init 61 = .ok (.aload_n 0, 1) := by decide +kernel
theorem d_Model_init_62 : decode b_Model_init 62 = .ok (.sipush 240, 3) := by decide +kernel
theorem d_Model_init_65 : decode b_Model_init 65 = .ok (.newarray .int, 2) := by decide +kernel
theorem d_Model_init_67 : decode b_Model_init 67 = .ok (.putfield 32, 3) := by decide +kernel
theorem d_Model_init_70 : decode b_Model_init 70 = .ok (.aload_n 0, 1) := by decide +kernel
theorem d_Model_init_71 : decode b_Model_init 71 = .ok (.sipush 240, 3) := by decide +kernel
theorem d_Model_init_74 : decode b_Model_init 74 = .ok (.newarray .int, 2) := by decide +kernel
theorem d_Model_init_76 : decode b_Model_init 76 = .ok (.putfield 35, 3) := by decide +kernel
theorem d_Model_init_79 : decode b_Model_init 79 = .ok (.aload_n 0, 1) := by decide +kernel
theorem d_Model_init_80 : decode b_Model_init 80 = .ok (.sipush 240, 3) := by decide +kernel
theorem d_Model_init_83 : decode b_Model_init 83 = .ok (.newarray .int, 2) := by decide +kernel
theorem d_Model_init_85 : decode b_Model_init 85 = .ok (.putfield 38, 3) := by decide +kernel
theorem d_Model_init_88 : decode b_Model_init 88 = .ok (.aload_n 0, 1) := by decide +kernel
theorem d_Model_init_89 : decode b_Model_init 89 = .ok (.sipush 240, 3) := by decide +kernel
theorem d_Model_init_92 : decode b_Model_init 92 = .ok (.newarray .int, 2) := by decide +kernel
theorem d_Model_init_94 : decode b_Model_init 94 = .ok (.putfield 41, 3) := by decide +kernel
theorem d_Model_init_97 : decode b_Model_init 97 = .ok (.aload_n 0, 1) := by decide +kernel
theorem d_Model_init_98 : decode b_Model_init 98 = .ok (.bipush 6, 2) := by decide +kernel
theorem d_Model_init_100 : decode b_Model_init 100 = .ok (.newarray .int, 2) := by decide +kernel
theorem d_Model_init_102 : decode b_Model_init 102 = .ok (.putfield 44, 3) := by decide +kernel
theorem d_Model_init_105 : decode b_Model_init 105 = .ok (.aload_n 0, 1) := by decide +kernel
theorem d_Model_init_106 : decode b_Model_init 106 = .ok (.sipush 300, 3) := by decide +kernel
theorem d_Model_init_109 : decode b_Model_init 109 = .ok (.newarray .int, 2) := by decide +kernel
theorem d_Model_init_111 : decode b_Model_init 111 = .ok (.putfield 47, 3) := by decide +kernel
theorem d_Model_init_114 : decode b_Model_init 114 = .ok (.aload_n 0, 1) := by decide +kernel
theorem d_Model_init_115 : decode b_Model_init 115 = .ok (.sipush 300, 3) := by decide +kernel
theorem d_Model_init_118 : decode b_Model_init 118 = .ok (.newarray .int, 2) := by decide +kernel
theorem d_Model_init_120 : decode b_Model_init 120 = .ok (.putfield 50, 3) := by decide +kernel
theorem d_Model_init_123 : decode b_Model_init 123 = .ok (.aload_n 0, 1) := by decide +kernel
theorem d_Model_init_124 : decode b_Model_init 124 = .ok (.iload_n 1, 1) := by decide +kernel
theorem d_Model_init_125 : decode b_Model_init 125 = .ok (.iconst 2, 1) := by decide +kernel
theorem d_Model_init_126 : decode b_Model_init 126 = .ok (.if_icmp .ge (7), 3) := by decide +kernel
theorem d_Model_init_129 : decode b_Model_init 129 = .ok (.iconst 2, 1) := by decide +kernel
theorem d_Model_init_130 : decode b_Model_init 130 = .ok (.goto (15), 3) := by decide +kernel
theorem d_Model_init_133 : decode b_Model_init 133 = .ok (.iload_n 1, 1) := by decide +kernel
theorem d_Model_init_134 : decode b_Model_init 134 = .ok (.bipush 6, 2) := by decide +kernel
theorem d_Model_init_136 : decode b_Model_init 136 = .ok (.if_icmp .le (8), 3) := by decide +kernel
theorem d_Model_init_139 : decode b_Model_init 139 = .ok (.bipush 6, 2) := by decide +kernel
theorem d_Model_init_141 : decode b_Model_init 141 = .ok (.goto (4), 3) := by decide +kernel
theorem d_Model_init_144 : decode b_Model_init 144 = .ok (.iload_n 1, 1) := by decide +kernel
theorem d_Model_init_145 : decode b_Model_init 145 = .ok (.putfield 53, 3) := by decide +kernel
theorem d_Model_init_148 : decode b_Model_init 148 = .ok (.iconst 0, 1) := by decide +kernel
theorem d_Model_init_149 : decode b_Model_init 149 = .ok (.istore_n 2, 1) := by decide +kernel
theorem d_Model_init_150 : decode b_Model_init 150 = .ok (.iload_n 2, 1) := by decide +kernel
theorem d_Model_init_151 : decode b_Model_init 151 = .ok (.iconst 4, 1) := by decide +kernel
theorem d_Model_init_152 : decode b_Model_init 152 = .ok (.if_icmp .ge (23), 3) := by decide +kernel
theorem d_Model_init_155 : decode b_Model_init 155 = .ok (.aload_n 0, 1) := by decide +kernel
theorem d_Model_init_156 : decode b_Model_init 156 = .ok (.getfield 13, 3) := by decide +kernel
theorem d_Model_init_159 : decode b_Model_init 159 = .ok (.iload_n 2, 1) := by decide +kernel
theorem d_Model_init_160 : decode b_Model_init 160 = .ok (.iconst (-1), 1) := by decide +kernel
theorem d_Model_init_161 : decode b_Model_init 161 = .ok (.iastore, 1) := by decide +kernel
theorem d_Model_init_162 : decode b_Model_init 162 = .ok (.aload_n 0, 1) := by decide +kernel
theorem d_Model_init_163 : decode b_Model_init 163 = .ok (.getfield 16, 3) := by decide +kernel
theorem d_Model_init_166 : decode b_Model_init 166 = .ok (.iload_n 2, 1) := by decide +kernel
theorem d_Model_init_167 : decode b_Model_init 167 = .ok (.iconst (-1), 1) := by decide +kernel
theorem d_Model_init_168 : decode b_Model_init 168 = .ok (.iastore, 1) := by decide +kernel
theorem d_Model_init_169 : decode b_Model_init 169 = .ok (.iinc 2 (1), 3) := by decide +kernel
theorem d_Model_init_172 : decode b_Model_init 172 = .ok (.goto (-22), 3) := by decide +kernel
theorem d_Model_init_175 : decode b_Model_init 175 = .ok (.return_, 1) := by decide +kernel
theorem k_Model_init : Cond.code y_Model_init b_Model_init 3 none ∈ WS := ws_t 606 (by decide +kernel) (by decide +kernel)
theorem im_Model_init : Cond.instanceMethod y_Model_init ∈ WS := ws_t 605 (by decide +kernel) (by decide +kernel)
theorem hd_Model_init : y_Model_init.cls ≠ "java/lang/invoke/MethodHandle" ∧ y_Model_init.cls ≠ "java/lang/invoke/VarHandle" ∧ (parseMethodDescriptor y_Model_init.desc).map (fun d => d.parameters.length) = some 1 := by decide +kernel
theorem ci_Model : Cond.initialized "LabelRoadsModel" ∈ WS := ws_t 8 (by decide +kernel) (by decide +kernel)
theorem cn_Model : Cond.instantiable "LabelRoadsModel" 24 ∈ WS := ws_t 603 (by decide +kernel) (by decide +kernel)
theorem oi_Model : Cond.methodLink "LabelRoadsModel" 1 objectInit ∈ WS := ws_t 607 (by decide +kernel) (by decide +kernel)
theorem fi_Model_7 : Cond.fieldLink "LabelRoadsModel" 7 "LabelRoadsModel" "cost" "[I" ∈ WS := ws_t 610 (by decide +kernel) (by decide +kernel)
theorem fi_Model_13 : Cond.fieldLink "LabelRoadsModel" 13 "LabelRoadsModel" "owner" "[I" ∈ WS := ws_t 611 (by decide +kernel) (by decide +kernel)
theorem fi_Model_16 : Cond.fieldLink "LabelRoadsModel" 16 "LabelRoadsModel" "place" "[I" ∈ WS := ws_t 612 (by decide +kernel) (by decide +kernel)
theorem fi_Model_19 : Cond.fieldLink "LabelRoadsModel" 19 "LabelRoadsModel" "label" "[I" ∈ WS := ws_t 613 (by decide +kernel) (by decide +kernel)
theorem fi_Model_22 : Cond.fieldLink "LabelRoadsModel" 22 "LabelRoadsModel" "told" "[I" ∈ WS := ws_t 614 (by decide +kernel) (by decide +kernel)
theorem fi_Model_25 : Cond.fieldLink "LabelRoadsModel" 25 "LabelRoadsModel" "owes" "[Z" ∈ WS := ws_t 615 (by decide +kernel) (by decide +kernel)
theorem fi_Model_29 : Cond.fieldLink "LabelRoadsModel" 29 "LabelRoadsModel" "from" "[I" ∈ WS := ws_t 618 (by decide +kernel) (by decide +kernel)
theorem fi_Model_32 : Cond.fieldLink "LabelRoadsModel" 32 "LabelRoadsModel" "to" "[I" ∈ WS := ws_t 619 (by decide +kernel) (by decide +kernel)
theorem fi_Model_35 : Cond.fieldLink "LabelRoadsModel" 35 "LabelRoadsModel" "kind" "[I" ∈ WS := ws_t 620 (by decide +kernel) (by decide +kernel)
theorem fi_Model_38 : Cond.fieldLink "LabelRoadsModel" 38 "LabelRoadsModel" "about" "[I" ∈ WS := ws_t 621 (by decide +kernel) (by decide +kernel)
theorem fi_Model_41 : Cond.fieldLink "LabelRoadsModel" 41 "LabelRoadsModel" "which" "[I" ∈ WS := ws_t 622 (by decide +kernel) (by decide +kernel)
theorem fi_Model_44 : Cond.fieldLink "LabelRoadsModel" 44 "LabelRoadsModel" "far" "[I" ∈ WS := ws_t 623 (by decide +kernel) (by decide +kernel)
theorem fi_Model_47 : Cond.fieldLink "LabelRoadsModel" 47 "LabelRoadsModel" "where" "[I" ∈ WS := ws_t 630 (by decide +kernel) (by decide +kernel)
theorem fi_Model_50 : Cond.fieldLink "LabelRoadsModel" 50 "LabelRoadsModel" "entries" "[I" ∈ WS := ws_t 631 (by decide +kernel) (by decide +kernel)
theorem fi_Model_53 : Cond.fieldLink "LabelRoadsModel" 53 "LabelRoadsModel" "n" "I" ∈ WS := ws_t 609 (by decide +kernel) (by decide +kernel)
theorem g_LR_49 : GoodIn WS (va_wsS "LabelRoads" 49 y_Arr_fill (wc y_Arr_fill b_Arr_fill 4 none)) := wt_good (ws_t 89 (by decide +kernel) (by decide +kernel)) (ws_t 39 (by decide +kernel) (by decide +kernel)) (ws_t 4 (by decide +kernel) (by decide +kernel)) k_Arr_fill
theorem ml_LR_24 : Cond.methodLink "LabelRoads" 24 y_Ways_init ∈ WS := ws_t 32 (by decide +kernel) (by decide +kernel)
