abbrev b_Law_link : ByteArray := method_3_code
abbrev y_Law_link : MethodName := ⟨"LabelRoadsLaw", "link", "(LLabelRoads;III[J)I"⟩
theorem d_Law_link_0 : decode b_Law_link 0 = .ok (.aload 4, 2) := by decide +kernel
theorem d_Law_link_2 : decode b_Law_link 2 = .ok (.iconst 0, 1) := by decide +kernel
theorem d_Law_link_3 : decode b_Law_link 3 = .ok (.aload_n 0, 1) := by decide +kernel
theorem d_Law_link_4 : decode b_Law_link 4 = .ok (.iload_n 1, 1) := by decide +kernel
theorem d_Law_link_5 : decode b_Law_link 5 = .ok (.iload_n 2, 1) := by decide +kernel
theorem d_Law_link_6 : decode b_Law_link 6 = .ok (.iload_n 3, 1) := by decide +kernel
theorem d_Law_link_7 : decode b_Law_link 7 = .ok (.invokevirtual 7, 3) := by decide +kernel
theorem d_Law_link_10 : decode b_Law_link 10 = .ok (.i2l, 1) := by decide +kernel
theorem d_Law_link_11 : decode b_Law_link 11 = .ok (.lastore, 1) := by decide +kernel
theorem d_Law_link_12 : decode b_Law_link 12 = .ok (.goto (7), 3) := by decide +kernel
theorem d_Law_link_15 : decode b_Law_link 15 = .ok (.astore 5, 2) := by decide +kernel
theorem d_Law_link_17 : decode b_Law_link 17 = .ok (.iconst 1, 1) := by decide +kernel
theorem d_Law_link_18 : decode b_Law_link 18 = .ok (.ireturn, 1) := by decide +kernel
theorem d_Law_link_19 : decode b_Law_link 19 = .ok (.iconst 0, 1) := by decide +kernel
theorem d_Law_link_20 : decode b_Law_link 20 = .ok (.ireturn, 1) := by decide +kernel
theorem k_Law_link : Cond.codeWith y_Law_link b_Law_link 6 (some .int) [(0, 12, 15, 13)] ∈ WS := ws_t 166 (by decide +kernel) (by decide +kernel)
theorem hd_Law_link : y_Law_link.cls ≠ "java/lang/invoke/MethodHandle" ∧ y_Law_link.cls ≠ "java/lang/invoke/VarHandle" ∧ (parseMethodDescriptor y_Law_link.desc).map (fun d => d.parameters.length) = some 5 := by decide +kernel
theorem kl_Law_link : Cond.classLink "LabelRoadsLaw" 13 exI ∈ WS := ws_t 167 (by decide +kernel) (by decide +kernel)
theorem g_Law_7 : GoodIn WS (wsV "LabelRoadsLaw" 7 R_LR y_LR_link (wc y_LR_link b_LR_link 5 (some .int))) := wv_good (ws_t 168 (by decide +kernel) (by decide +kernel)) (ws_t 169 (by decide +kernel) (by decide +kernel)) (ws_t 170 (by decide +kernel) (by decide +kernel)) (ws_t 1 (by decide +kernel) (by decide +kernel)) k_LR_link
abbrev b_Law_own : ByteArray := method_4_code
abbrev y_Law_own : MethodName := ⟨"LabelRoadsLaw", "own", "(LLabelRoads;II[J)I"⟩
theorem d_Law_own_0 : decode b_Law_own 0 = .ok (.aload_n 3, 1) := by decide +kernel
theorem d_Law_own_1 : decode b_Law_own 1 = .ok (.iconst 0, 1) := by decide +kernel
theorem d_Law_own_2 : decode b_Law_own 2 = .ok (.aload_n 0, 1) := by decide +kernel
theorem d_Law_own_3 : decode b_Law_own 3 = .ok (.iload_n 1, 1) := by decide +kernel
theorem d_Law_own_4 : decode b_Law_own 4 = .ok (.iload_n 2, 1) := by decide +kernel
theorem d_Law_own_5 : decode b_Law_own 5 = .ok (.invokevirtual 15, 3) := by decide +kernel
theorem d_Law_own_8 : decode b_Law_own 8 = .ok (.i2l, 1) := by decide +kernel
theorem d_Law_own_9 : decode b_Law_own 9 = .ok (.lastore, 1) := by decide +kernel
theorem d_Law_own_10 : decode b_Law_own 10 = .ok (.goto (7), 3) := by decide +kernel
theorem d_Law_own_13 : decode b_Law_own 13 = .ok (.astore 4, 2) := by decide +kernel
theorem d_Law_own_15 : decode b_Law_own 15 = .ok (.iconst 1, 1) := by decide +kernel
theorem d_Law_own_16 : decode b_Law_own 16 = .ok (.ireturn, 1) := by decide +kernel
theorem d_Law_own_17 : decode b_Law_own 17 = .ok (.iconst 0, 1) := by decide +kernel
theorem d_Law_own_18 : decode b_Law_own 18 = .ok (.ireturn, 1) := by decide +kernel
theorem k_Law_own : Cond.codeWith y_Law_own b_Law_own 5 (some .int) [(0, 10, 13, 13)] ∈ WS := ws_t 362 (by decide +kernel) (by decide +kernel)
theorem hd_Law_own : y_Law_own.cls ≠ "java/lang/invoke/MethodHandle" ∧ y_Law_own.cls ≠ "java/lang/invoke/VarHandle" ∧ (parseMethodDescriptor y_Law_own.desc).map (fun d => d.parameters.length) = some 4 := by decide +kernel
theorem kl_Law_own : Cond.classLink "LabelRoadsLaw" 13 exI ∈ WS := ws_t 167 (by decide +kernel) (by decide +kernel)
theorem g_Law_15 : GoodIn WS (wsV "LabelRoadsLaw" 15 R_LR y_LR_own (wc y_LR_own b_LR_own 4 (some .int))) := wv_good (ws_t 363 (by decide +kernel) (by decide +kernel)) (ws_t 364 (by decide +kernel) (by decide +kernel)) (ws_t 365 (by decide +kernel) (by decide +kernel)) (ws_t 1 (by decide +kernel) (by decide +kernel)) k_LR_own
abbrev b_Law_serve : ByteArray := method_5_code
abbrev y_Law_serve : MethodName := ⟨"LabelRoadsLaw", "serve", "(LLabelRoads;II[J)I"⟩
theorem d_Law_serve_0 : decode b_Law_serve 0 = .ok (.aload_n 3, 1) := by decide +kernel
theorem d_Law_serve_1 : decode b_Law_serve 1 = .ok (.iconst 0, 1) := by decide +kernel
theorem d_Law_serve_2 : decode b_Law_serve 2 = .ok (.aload_n 0, 1) := by decide +kernel
theorem d_Law_serve_3 : decode b_Law_serve 3 = .ok (.iload_n 1, 1) := by decide +kernel
theorem d_Law_serve_4 : decode b_Law_serve 4 = .ok (.iload_n 2, 1) := by decide +kernel
theorem d_Law_serve_5 : decode b_Law_serve 5 = .ok (.invokevirtual 19, 3) := by decide +kernel
theorem d_Law_serve_8 : decode b_Law_serve 8 = .ok (.i2l, 1) := by decide +kernel
theorem d_Law_serve_9 : decode b_Law_serve 9 = .ok (.lastore, 1) := by decide +kernel
theorem d_Law_serve_10 : decode b_Law_serve 10 = .ok (.goto (7), 3) := by decide +kernel
theorem d_Law_serve_13 : decode b_Law_serve 13 = .ok (.astore 4, 2) := by decide +kernel
theorem d_Law_serve_15 : decode b_Law_serve 15 = .ok (.iconst 1, 1) := by decide +kernel
theorem d_Law_serve_16 : decode b_Law_serve 16 = .ok (.ireturn, 1) := by decide +kernel
theorem d_Law_serve_17 : decode b_Law_serve 17 = .ok (.iconst 0, 1) := by decide +kernel
theorem d_Law_serve_18 : decode b_Law_serve 18 = .ok (.ireturn, 1) := by decide +kernel
theorem k_Law_serve : Cond.codeWith y_Law_serve b_Law_serve 5 (some .int) [(0, 10, 13, 13)] ∈ WS := ws_t 384 (by decide +kernel) (by decide +kernel)
theorem hd_Law_serve : y_Law_serve.cls ≠ "java/lang/invoke/MethodHandle" ∧ y_Law_serve.cls ≠ "java/lang/invoke/VarHandle" ∧ (parseMethodDescriptor y_Law_serve.desc).map (fun d => d.parameters.length) = some 4 := by decide +kernel
theorem kl_Law_serve : Cond.classLink "LabelRoadsLaw" 13 exI ∈ WS := ws_t 167 (by decide +kernel) (by decide +kernel)
theorem g_Law_19 : GoodIn WS (wsV "LabelRoadsLaw" 19 R_LR y_LR_serve (wc y_LR_serve b_LR_serve 4 (some .int))) := wv_good (ws_t 385 (by decide +kernel) (by decide +kernel)) (ws_t 386 (by decide +kernel) (by decide +kernel)) (ws_t 387 (by decide +kernel) (by decide +kernel)) (ws_t 1 (by decide +kernel) (by decide +kernel)) k_LR_serve
abbrev b_Law_step : ByteArray := method_6_code
abbrev y_Law_step : MethodName := ⟨"LabelRoadsLaw", "step", "(LLabelRoads;II[J)I"⟩
theorem d_Law_step_0 : decode b_Law_step 0 = .ok (.aload_n 3, 1) := by decide +kernel
theorem d_Law_step_1 : decode b_Law_step 1 = .ok (.iconst 0, 1) := by decide +kernel
theorem d_Law_step_2 : decode b_Law_step 2 = .ok (.aload_n 0, 1) := by decide +kernel
theorem d_Law_step_3 : decode b_Law_step 3 = .ok (.iload_n 1, 1) := by decide +kernel
theorem d_Law_step_4 : decode b_Law_step 4 = .ok (.iload_n 2, 1) := by decide +kernel
theorem d_Law_step_5 : decode b_Law_step 5 = .ok (.invokevirtual 22, 3) := by decide +kernel
theorem d_Law_step_8 : decode b_Law_step 8 = .ok (.i2l, 1) := by decide +kernel
theorem d_Law_step_9 : decode b_Law_step 9 = .ok (.lastore, 1) := by decide +kernel
theorem d_Law_step_10 : decode b_Law_step 10 = .ok (.goto (7), 3) := by decide +kernel
theorem d_Law_step_13 : decode b_Law_step 13 = .ok (.astore 4, 2) := by decide +kernel
theorem d_Law_step_15 : decode b_Law_step 15 = .ok (.iconst 1, 1) := by decide +kernel
theorem d_Law_step_16 : decode b_Law_step 16 = .ok (.ireturn, 1) := by decide +kernel
theorem d_Law_step_17 : decode b_Law_step 17 = .ok (.iconst 0, 1) := by decide +kernel
theorem d_Law_step_18 : decode b_Law_step 18 = .ok (.ireturn, 1) := by decide +kernel
theorem k_Law_step : Cond.codeWith y_Law_step b_Law_step 5 (some .int) [(0, 10, 13, 13)] ∈ WS := ws_t 391 (by decide +kernel) (by decide +kernel)
theorem hd_Law_step : y_Law_step.cls ≠ "java/lang/invoke/MethodHandle" ∧ y_Law_step.cls ≠ "java/lang/invoke/VarHandle" ∧ (parseMethodDescriptor y_Law_step.desc).map (fun d => d.parameters.length) = some 4 := by decide +kernel
theorem kl_Law_step : Cond.classLink "LabelRoadsLaw" 13 exI ∈ WS := ws_t 167 (by decide +kernel) (by decide +kernel)
theorem g_Law_22 : GoodIn WS (wsV "LabelRoadsLaw" 22 R_LR y_LR_step (wc y_LR_step b_LR_step 5 (some .int))) := wv_good (ws_t 392 (by decide +kernel) (by decide +kernel)) (ws_t 393 (by decide +kernel) (by decide +kernel)) (ws_t 394 (by decide +kernel) (by decide +kernel)) (ws_t 1 (by decide +kernel) (by decide +kernel)) k_LR_step
abbrev b_Law_run : ByteArray := method_7_code
abbrev y_Law_run : MethodName := ⟨"LabelRoadsLaw", "run", "(LLabelRoads;I[J)I"⟩
theorem d_Law_run_0 : decode b_Law_run 0 = .ok (.aload_n 2, 1) := by decide +kernel
theorem d_Law_run_1 : decode b_Law_run 1 = .ok (.iconst 0, 1) := by decide +kernel
theorem d_Law_run_2 : decode b_Law_run 2 = .ok (.aload_n 0, 1) := by decide +kernel
theorem d_Law_run_3 : decode b_Law_run 3 = .ok (.iload_n 1, 1) := by decide +kernel
theorem d_Law_run_4 : decode b_Law_run 4 = .ok (.invokevirtual 25, 3) := by decide +kernel
theorem d_Law_run_7 : decode b_Law_run 7 = .ok (.i2l, 1) := by decide +kernel
theorem d_Law_run_8 : decode b_Law_run 8 = .ok (.lastore, 1) := by decide +kernel
theorem d_Law_run_9 : decode b_Law_run 9 = .ok (.goto (6), 3) := by decide +kernel
theorem d_Law_run_12 : decode b_Law_run 12 = .ok (.astore_n 3, 1) := by decide +kernel
theorem d_Law_run_13 : decode b_Law_run 13 = .ok (.iconst 1, 1) := by decide +kernel
theorem d_Law_run_14 : decode b_Law_run 14 = .ok (.ireturn, 1) := by decide +kernel
theorem d_Law_run_15 : decode b_Law_run 15 = .ok (.iconst 0, 1) := by decide +kernel
theorem d_Law_run_16 : decode b_Law_run 16 = .ok (.ireturn, 1) := by decide +kernel
theorem k_Law_run : Cond.codeWith y_Law_run b_Law_run 4 (some .int) [(0, 9, 12, 13)] ∈ WS := ws_t 433 (by decide +kernel) (by decide +kernel)
theorem hd_Law_run : y_Law_run.cls ≠ "java/lang/invoke/MethodHandle" ∧ y_Law_run.cls ≠ "java/lang/invoke/VarHandle" ∧ (parseMethodDescriptor y_Law_run.desc).map (fun d => d.parameters.length) = some 3 := by decide +kernel
theorem kl_Law_run : Cond.classLink "LabelRoadsLaw" 13 exI ∈ WS := ws_t 167 (by decide +kernel) (by decide +kernel)
theorem g_Law_25 : GoodIn WS (wsV "LabelRoadsLaw" 25 R_LR y_LR_run (wc y_LR_run b_LR_run 3 (some .int))) := wv_good (ws_t 434 (by decide +kernel) (by decide +kernel)) (ws_t 435 (by decide +kernel) (by decide +kernel)) (ws_t 436 (by decide +kernel) (by decide +kernel)) (ws_t 1 (by decide +kernel) (by decide +kernel)) k_LR_run
abbrev b_Law_distance : ByteArray := method_8_code
abbrev y_Law_distance : MethodName := ⟨"LabelRoadsLaw", "distance", "(LLabelRoads;II[J)I"⟩
theorem d_Law_distance_0 : decode b_Law_distance 0 = .ok (.aload_n 3, 1) := by decide +kernel
theorem d_Law_distance_1 : decode b_Law_distance 1 = .ok (.iconst 0, 1) := by decide +kernel
theorem d_Law_distance_2 : decode b_Law_distance 2 = .ok (.aload_n 0, 1) := by decide +kernel
theorem d_Law_distance_3 : decode b_Law_distance 3 = .ok (.iload_n 1, 1) := by decide +kernel
theorem d_Law_distance_4 : decode b_Law_distance 4 = .ok (.iload_n 2, 1) := by decide +kernel
theorem d_Law_distance_5 : decode b_Law_distance 5 = .ok (.invokevirtual 29, 3) := by decide +kernel
theorem d_Law_distance_8 : decode b_Law_distance 8 = .ok (.i2l, 1) := by decide +kernel
theorem d_Law_distance_9 : decode b_Law_distance 9 = .ok (.lastore, 1) := by decide +kernel
theorem d_Law_distance_10 : decode b_Law_distance 10 = .ok (.goto (7), 3) := by decide +kernel
theorem d_Law_distance_13 : decode b_Law_distance 13 = .ok (.astore 4, 2) := by decide +kernel
theorem d_Law_distance_15 : decode b_Law_distance 15 = .ok (.iconst 1, 1) := by decide +kernel
theorem d_Law_distance_16 : decode b_Law_distance 16 = .ok (.ireturn, 1) := by decide +kernel
theorem d_Law_distance_17 : decode b_Law_distance 17 = .ok (.iconst 0, 1) := by decide +kernel
theorem d_Law_distance_18 : decode b_Law_distance 18 = .ok (.ireturn, 1) := by decide +kernel
theorem k_Law_distance : Cond.codeWith y_Law_distance b_Law_distance 5 (some .int) [(0, 10, 13, 13)] ∈ WS := ws_t 440 (by decide +kernel) (by decide +kernel)
theorem hd_Law_distance : y_Law_distance.cls ≠ "java/lang/invoke/MethodHandle" ∧ y_Law_distance.cls ≠ "java/lang/invoke/VarHandle" ∧ (parseMethodDescriptor y_Law_distance.desc).map (fun d => d.parameters.length) = some 4 := by decide +kernel
theorem kl_Law_distance : Cond.classLink "LabelRoadsLaw" 13 exI ∈ WS := ws_t 167 (by decide +kernel) (by decide +kernel)
theorem g_Law_29 : GoodIn WS (wsV "LabelRoadsLaw" 29 R_LR y_LR_distance (wc y_LR_distance b_LR_distance 3 (some .int))) := wv_good (ws_t 441 (by decide +kernel) (by decide +kernel)) (ws_t 442 (by decide +kernel) (by decide +kernel)) (ws_t 443 (by decide +kernel) (by decide +kernel)) (ws_t 1 (by decide +kernel) (by decide +kernel)) k_LR_distance
abbrev b_Law_next : ByteArray := method_9_code
abbrev y_Law_next : MethodName := ⟨"LabelRoadsLaw", "next", "(LLabelRoads;II[J)I"⟩
theorem d_Law_next_0 : decode b_Law_next 0 = .ok (.aload_n 3, 1) := by decide +kernel
theorem d_Law_next_1 : decode b_Law_next 1 = .ok (.iconst 0, 1) := by decide +kernel
theorem d_Law_next_2 : decode b_Law_next 2 = .ok (.aload_n 0, 1) := by decide +kernel
theorem d_Law_next_3 : decode b_Law_next 3 = .ok (.iload_n 1, 1) := by decide +kernel
theorem d_Law_next_4 : decode b_Law_next 4 = .ok (.iload_n 2, 1) := by decide +kernel
theorem d_Law_next_5 : decode b_Law_next 5 = .ok (.invokevirtual 32, 3) := by decide +kernel
theorem d_Law_next_8 : decode b_Law_next 8 = .ok (.i2l, 1) := by decide +kernel
theorem d_Law_next_9 : decode b_Law_next 9 = .ok (.lastore, 1) := by decide +kernel
theorem d_Law_next_10 : decode b_Law_next 10 = .ok (.goto (7), 3) := by decide +kernel
theorem d_Law_next_13 : decode b_Law_next 13 = .ok (.astore 4, 2) := by decide +kernel
theorem d_Law_next_15 : decode b_Law_next 15 = .ok (.iconst 1, 1) := by decide +kernel
theorem d_Law_next_16 : decode b_Law_next 16 = .ok (.ireturn, 1) := by decide +kernel
theorem d_Law_next_17 : decode b_Law_next 17 = .ok (.iconst 0, 1) := by decide +kernel
theorem d_Law_next_18 : decode b_Law_next 18 = .ok (.ireturn, 1) := by decide +kernel
theorem k_Law_next : Cond.codeWith y_Law_next b_Law_next 5 (some .int) [(0, 10, 13, 13)] ∈ WS := ws_t 451 (by decide +kernel) (by decide +kernel)
theorem hd_Law_next : y_Law_next.cls ≠ "java/lang/invoke/MethodHandle" ∧ y_Law_next.cls ≠ "java/lang/invoke/VarHandle" ∧ (parseMethodDescriptor y_Law_next.desc).map (fun d => d.parameters.length) = some 4 := by decide +kernel
theorem kl_Law_next : Cond.classLink "LabelRoadsLaw" 13 exI ∈ WS := ws_t 167 (by decide +kernel) (by decide +kernel)
theorem g_Law_32 : GoodIn WS (wsV "LabelRoadsLaw" 32 R_LR y_LR_next (wc y_LR_next b_LR_next 3 (some .int))) := wv_good (ws_t 452 (by decide +kernel) (by decide +kernel)) (ws_t 453 (by decide +kernel) (by decide +kernel)) (ws_t 454 (by decide +kernel) (by decide +kernel)) (ws_t 1 (by decide +kernel) (by decide +kernel)) k_LR_next
abbrev b_Law_label : ByteArray := method_10_code
abbrev y_Law_label : MethodName := ⟨"LabelRoadsLaw", "label", "(LLabelRoads;II[J)I"⟩
theorem d_Law_label_0 : decode b_Law_label 0 = .ok (.aload_n 3, 1) := by decide +kernel
theorem d_Law_label_1 : decode b_Law_label 1 = .ok (.iconst 0, 1) := by decide +kernel
theorem d_Law_label_2 : decode b_Law_label 2 = .ok (.aload_n 0, 1) := by decide +kernel
theorem d_Law_label_3 : decode b_Law_label 3 = .ok (.iload_n 1, 1) := by decide +kernel
theorem d_Law_label_4 : decode b_Law_label 4 = .ok (.iload_n 2, 1) := by decide +kernel
theorem d_Law_label_5 : decode b_Law_label 5 = .ok (.invokevirtual 35, 3) := by decide +kernel
theorem d_Law_label_8 : decode b_Law_label 8 = .ok (.i2l, 1) := by decide +kernel
theorem d_Law_label_9 : decode b_Law_label 9 = .ok (.lastore, 1) := by decide +kernel
theorem d_Law_label_10 : decode b_Law_label 10 = .ok (.goto (7), 3) := by decide +kernel
theorem d_Law_label_13 : decode b_Law_label 13 = .ok (.astore 4, 2) := by decide +kernel
theorem d_Law_label_15 : decode b_Law_label 15 = .ok (.iconst 1, 1) := by decide +kernel
theorem d_Law_label_16 : decode b_Law_label 16 = .ok (.ireturn, 1) := by decide +kernel
theorem d_Law_label_17 : decode b_Law_label 17 = .ok (.iconst 0, 1) := by decide +kernel
theorem d_Law_label_18 : decode b_Law_label 18 = .ok (.ireturn, 1) := by decide +kernel
theorem k_Law_label : Cond.codeWith y_Law_label b_Law_label 5 (some .int) [(0, 10, 13, 13)] ∈ WS := ws_t 458 (by decide +kernel) (by decide +kernel)
theorem hd_Law_label : y_Law_label.cls ≠ "java/lang/invoke/MethodHandle" ∧ y_Law_label.cls ≠ "java/lang/invoke/VarHandle" ∧ (parseMethodDescriptor y_Law_label.desc).map (fun d => d.parameters.length) = some 4 := by decide +kernel
theorem kl_Law_label : Cond.classLink "LabelRoadsLaw" 13 exI ∈ WS := ws_t 167 (by decide +kernel) (by decide +kernel)
theorem g_Law_35 : GoodIn WS (wsV "LabelRoadsLaw" 35 R_LR y_LR_label (wc y_LR_label b_LR_label 3 (some .int))) := wv_good (ws_t 459 (by decide +kernel) (by decide +kernel)) (ws_t 460 (by decide +kernel) (by decide +kernel)) (ws_t 461 (by decide +kernel) (by decide +kernel)) (ws_t 1 (by decide +kernel) (by decide +kernel)) k_LR_label
abbrev b_Law_told : ByteArray := method_11_code
abbrev y_Law_told : MethodName := ⟨"LabelRoadsLaw", "told", "(LLabelRoads;III[J)I"⟩
theorem d_Law_told_0 : decode b_Law_told 0 = .ok (.aload 4, 2) := by decide +kernel
theorem d_Law_told_2 : decode b_Law_told 2 = .ok (.iconst 0, 1) := by decide +kernel
theorem d_Law_told_3 : decode b_Law_told 3 = .ok (.aload_n 0, 1) := by decide +kernel
theorem d_Law_told_4 : decode b_Law_told 4 = .ok (.iload_n 1, 1) := by decide +kernel
theorem d_Law_told_5 : decode b_Law_told 5 = .ok (.iload_n 2, 1) := by decide +kernel
theorem d_Law_told_6 : decode b_Law_told 6 = .ok (.iload_n 3, 1) := by decide +kernel
theorem d_Law_told_7 : decode b_Law_told 7 = .ok (.invokevirtual 38, 3) := by decide +kernel
theorem d_Law_told_10 : decode b_Law_told 10 = .ok (.i2l, 1) := by decide +kernel
theorem d_Law_told_11 : decode b_Law_told 11 = .ok (.lastore, 1) := by decide +kernel
theorem d_Law_told_12 : decode b_Law_told 12 = .ok (.goto (7), 3) := by decide +kernel
theorem d_Law_told_15 : decode b_Law_told 15 = .ok (.astore 5, 2) := by decide +kernel
theorem d_Law_told_17 : decode b_Law_told 17 = .ok (.iconst 1, 1) := by decide +kernel
theorem d_Law_told_18 : decode b_Law_told 18 = .ok (.ireturn, 1) := by decide +kernel
theorem d_Law_told_19 : decode b_Law_told 19 = .ok (.iconst 0, 1) := by decide +kernel
theorem d_Law_told_20 : decode b_Law_told 20 = .ok (.ireturn, 1) := by decide +kernel
theorem k_Law_told : Cond.codeWith y_Law_told b_Law_told 6 (some .int) [(0, 12, 15, 13)] ∈ WS := ws_t 465 (by decide +kernel) (by decide +kernel)
theorem hd_Law_told : y_Law_told.cls ≠ "java/lang/invoke/MethodHandle" ∧ y_Law_told.cls ≠ "java/lang/invoke/VarHandle" ∧ (parseMethodDescriptor y_Law_told.desc).map (fun d => d.parameters.length) = some 5 := by decide +kernel
theorem kl_Law_told : Cond.classLink "LabelRoadsLaw" 13 exI ∈ WS := ws_t 167 (by decide +kernel) (by decide +kernel)
theorem g_Law_38 : GoodIn WS (wsV "LabelRoadsLaw" 38 R_LR y_LR_told (wc y_LR_told b_LR_told 4 (some .int))) := wv_good (ws_t 466 (by decide +kernel) (by decide +kernel)) (ws_t 467 (by decide +kernel) (by decide +kernel)) (ws_t 468 (by decide +kernel) (by decide +kernel)) (ws_t 1 (by decide +kernel) (by decide +kernel)) k_LR_told
abbrev b_Law_taken : ByteArray := method_12_code
abbrev y_Law_taken : MethodName := ⟨"LabelRoadsLaw", "taken", "(LLabelRoads;I[J)I"⟩
theorem d_Law_taken_0 : decode b_Law_taken 0 = .ok (.aload_n 2, 1) := by decide +kernel
theorem d_Law_taken_1 : decode b_Law_taken 1 = .ok (.iconst 0, 1) := by decide +kernel
theorem d_Law_taken_2 : decode b_Law_taken 2 = .ok (.aload_n 0, 1) := by decide +kernel
theorem d_Law_taken_3 : decode b_Law_taken 3 = .ok (.iload_n 1, 1) := by decide +kernel
theorem d_Law_taken_4 : decode b_Law_taken 4 = .ok (.invokevirtual 41, 3) := by decide +kernel
theorem d_Law_taken_7 : decode b_Law_taken 7 = .ok (.i2l, 1) := by decide +kernel
theorem d_Law_taken_8 : decode b_Law_taken 8 = .ok (.lastore, 1) := by decide +kernel
theorem d_Law_taken_9 : decode b_Law_taken 9 = .ok (.goto (6), 3) := by decide +kernel
theorem d_Law_taken_12 : decode b_Law_taken 12 = .ok (.astore_n 3, 1) := by decide +kernel
theorem d_Law_taken_13 : decode b_Law_taken 13 = .ok (.iconst 1, 1) := by decide +kernel
theorem d_Law_taken_14 : decode b_Law_taken 14 = .ok (.ireturn, 1) := by decide +kernel
theorem d_Law_taken_15 : decode b_Law_taken 15 = .ok (.iconst 0, 1) := by decide +kernel
theorem d_Law_taken_16 : decode b_Law_taken 16 = .ok (.ireturn, 1) := by decide +kernel
theorem k_Law_taken : Cond.codeWith y_Law_taken b_Law_taken 4 (some .int) [(0, 9, 12, 13)] ∈ WS := ws_t 472 (by decide +kernel) (by decide +kernel)
theorem hd_Law_taken : y_Law_taken.cls ≠ "java/lang/invoke/MethodHandle" ∧ y_Law_taken.cls ≠ "java/lang/invoke/VarHandle" ∧ (parseMethodDescriptor y_Law_taken.desc).map (fun d => d.parameters.length) = some 3 := by decide +kernel
theorem kl_Law_taken : Cond.classLink "LabelRoadsLaw" 13 exI ∈ WS := ws_t 167 (by decide +kernel) (by decide +kernel)
theorem g_Law_41 : GoodIn WS (wsV "LabelRoadsLaw" 41 R_LR y_LR_taken (wc y_LR_taken b_LR_taken 2 (some .int))) := wv_good (ws_t 473 (by decide +kernel) (by decide +kernel)) (ws_t 474 (by decide +kernel) (by decide +kernel)) (ws_t 475 (by decide +kernel) (by decide +kernel)) (ws_t 1 (by decide +kernel) (by decide +kernel)) k_LR_taken
abbrev b_Law_send : ByteArray := method_13_code
abbrev y_Law_send : MethodName := ⟨"LabelRoadsLaw", "send", "(LLabelRoads;IIII[J)I"⟩
theorem d_Law_send_0 : decode b_Law_send 0 = .ok (.aload 5, 2) := by decide +kernel
theorem d_Law_send_2 : decode b_Law_send 2 = .ok (.iconst 0, 1) := by decide +kernel
theorem d_Law_send_3 : decode b_Law_send 3 = .ok (.aload_n 0, 1) := by decide +kernel
theorem d_Law_send_4 : decode b_Law_send 4 = .ok (.iload_n 1, 1) := by decide +kernel
theorem d_Law_send_5 : decode b_Law_send 5 = .ok (.iload_n 2, 1) := by decide +kernel
theorem d_Law_send_6 : decode b_Law_send 6 = .ok (.iload_n 3, 1) := by decide +kernel
theorem d_Law_send_7 : decode b_Law_send 7 = .ok (.iload 4, 2) := by decide +kernel
theorem d_Law_send_9 : decode b_Law_send 9 = .ok (.invokevirtual 44, 3) := by decide +kernel
theorem d_Law_send_12 : decode b_Law_send 12 = .ok (.i2l, 1) := by decide +kernel
theorem d_Law_send_13 : decode b_Law_send 13 = .ok (.lastore, 1) := by decide +kernel
theorem d_Law_send_14 : decode b_Law_send 14 = .ok (.goto (7), 3) := by decide +kernel
theorem d_Law_send_17 : decode b_Law_send 17 = .ok (.astore 6, 2) := by decide +kernel
theorem d_Law_send_19 : decode b_Law_send 19 = .ok (.iconst 1, 1) := by decide +kernel
theorem d_Law_send_20 : decode b_Law_send 20 = .ok (.ireturn, 1) := by decide +kernel
theorem d_Law_send_21 : decode b_Law_send 21 = .ok (.iconst 0, 1) := by decide +kernel
theorem d_Law_send_22 : decode b_Law_send 22 = .ok (.ireturn, 1) := by decide +kernel
theorem k_Law_send : Cond.codeWith y_Law_send b_Law_send 7 (some .int) [(0, 14, 17, 13)] ∈ WS := ws_t 489 (by decide +kernel) (by decide +kernel)
theorem hd_Law_send : y_Law_send.cls ≠ "java/lang/invoke/MethodHandle" ∧ y_Law_send.cls ≠ "java/lang/invoke/VarHandle" ∧ (parseMethodDescriptor y_Law_send.desc).map (fun d => d.parameters.length) = some 6 := by decide +kernel
theorem kl_Law_send : Cond.classLink "LabelRoadsLaw" 13 exI ∈ WS := ws_t 167 (by decide +kernel) (by decide +kernel)
theorem g_Law_44 : GoodIn WS (wsV "LabelRoadsLaw" 44 R_LR y_LR_send (wc y_LR_send b_LR_send 7 (some .int))) := wv_good (ws_t 490 (by decide +kernel) (by decide +kernel)) (ws_t 491 (by decide +kernel) (by decide +kernel)) (ws_t 492 (by decide +kernel) (by decide +kernel)) (ws_t 1 (by decide +kernel) (by decide +kernel)) k_LR_send
abbrev b_Law_hop : ByteArray := method_14_code
abbrev y_Law_hop : MethodName := ⟨"LabelRoadsLaw", "hop", "(LLabelRoads;I[J)I"⟩
theorem d_Law_hop_0 : decode b_Law_hop 0 = .ok (.aload_n 2, 1) := by decide +kernel
theorem d_Law_hop_1 : decode b_Law_hop 1 = .ok (.iconst 0, 1) := by decide +kernel
theorem d_Law_hop_2 : decode b_Law_hop 2 = .ok (.aload_n 0, 1) := by decide +kernel
theorem d_Law_hop_3 : decode b_Law_hop 3 = .ok (.iload_n 1, 1) := by decide +kernel
theorem d_Law_hop_4 : decode b_Law_hop 4 = .ok (.invokevirtual 48, 3) := by decide +kernel
theorem d_Law_hop_7 : decode b_Law_hop 7 = .ok (.i2l, 1) := by decide +kernel
theorem d_Law_hop_8 : decode b_Law_hop 8 = .ok (.lastore, 1) := by decide +kernel
theorem d_Law_hop_9 : decode b_Law_hop 9 = .ok (.goto (6), 3) := by decide +kernel
theorem d_Law_hop_12 : decode b_Law_hop 12 = .ok (.astore_n 3, 1) := by decide +kernel
theorem d_Law_hop_13 : decode b_Law_hop 13 = .ok (.iconst 1, 1) := by decide +kernel
theorem d_Law_hop_14 : decode b_Law_hop 14 = .ok (.ireturn, 1) := by decide +kernel
theorem d_Law_hop_15 : decode b_Law_hop 15 = .ok (.iconst 0, 1) := by decide +kernel
theorem d_Law_hop_16 : decode b_Law_hop 16 = .ok (.ireturn, 1) := by decide +kernel
theorem k_Law_hop : Cond.codeWith y_Law_hop b_Law_hop 4 (some .int) [(0, 9, 12, 51)] ∈ WS := ws_t 561 (by decide +kernel) (by decide +kernel)
theorem hd_Law_hop : y_Law_hop.cls ≠ "java/lang/invoke/MethodHandle" ∧ y_Law_hop.cls ≠ "java/lang/invoke/VarHandle" ∧ (parseMethodDescriptor y_Law_hop.desc).map (fun d => d.parameters.length) = some 3 := by decide +kernel
theorem kl_Law_hop : Cond.classLink "LabelRoadsLaw" 51 exN ∈ WS := ws_t 562 (by decide +kernel) (by decide +kernel)
theorem g_Law_48 : GoodIn WS (wsV "LabelRoadsLaw" 48 R_LR y_LR_hop (wc y_LR_hop b_LR_hop 2 (some .int))) := wv_good (ws_t 563 (by decide +kernel) (by decide +kernel)) (ws_t 564 (by decide +kernel) (by decide +kernel)) (ws_t 565 (by decide +kernel) (by decide +kernel)) (ws_t 1 (by decide +kernel) (by decide +kernel)) k_LR_hop
abbrev b_Law_entry : ByteArray := method_15_code
abbrev y_Law_entry : MethodName := ⟨"LabelRoadsLaw", "entry", "(LLabelRoads;I[J)I"⟩
theorem d_Law_entry_0 : decode b_Law_entry 0 = .ok (.aload_n 2, 1) := by decide +kernel
theorem d_Law_entry_1 : decode b_Law_entry 1 = .ok (.iconst 0, 1) := by decide +kernel
theorem d_Law_entry_2 : decode b_Law_entry 2 = .ok (.aload_n 0, 1) := by decide +kernel
theorem d_Law_entry_3 : decode b_Law_entry 3 = .ok (.iload_n 1, 1) := by decide +kernel
theorem d_Law_entry_4 : decode b_Law_entry 4 = .ok (.invokevirtual 53, 3) := by decide +kernel
theorem d_Law_entry_7 : decode b_Law_entry 7 = .ok (.i2l, 1) := by decide +kernel
theorem d_Law_entry_8 : decode b_Law_entry 8 = .ok (.lastore, 1) := by decide +kernel
theorem d_Law_entry_9 : decode b_Law_entry 9 = .ok (.goto (6), 3) := by decide +kernel
theorem d_Law_entry_12 : decode b_Law_entry 12 = .ok (.astore_n 3, 1) := by decide +kernel
theorem d_Law_entry_13 : decode b_Law_entry 13 = .ok (.iconst 1, 1) := by decide +kernel
theorem d_Law_entry_14 : decode b_Law_entry 14 = .ok (.ireturn, 1) := by decide +kernel
theorem d_Law_entry_15 : decode b_Law_entry 15 = .ok (.iconst 0, 1) := by decide +kernel
theorem d_Law_entry_16 : decode b_Law_entry 16 = .ok (.ireturn, 1) := by decide +kernel
theorem k_Law_entry : Cond.codeWith y_Law_entry b_Law_entry 4 (some .int) [(0, 9, 12, 51)] ∈ WS := ws_t 593 (by decide +kernel) (by decide +kernel)
theorem hd_Law_entry : y_Law_entry.cls ≠ "java/lang/invoke/MethodHandle" ∧ y_Law_entry.cls ≠ "java/lang/invoke/VarHandle" ∧ (parseMethodDescriptor y_Law_entry.desc).map (fun d => d.parameters.length) = some 3 := by decide +kernel
theorem kl_Law_entry : Cond.classLink "LabelRoadsLaw" 51 exN ∈ WS := ws_t 562 (by decide +kernel) (by decide +kernel)
theorem g_Law_53 : GoodIn WS (wsV "LabelRoadsLaw" 53 R_LR y_LR_entry (wc y_LR_entry b_LR_entry 2 (some .int))) := wv_good (ws_t 594 (by decide +kernel) (by decide +kernel)) (ws_t 595 (by decide +kernel) (by decide +kernel)) (ws_t 596 (by decide +kernel) (by decide +kernel)) (ws_t 1 (by decide +kernel) (by decide +kernel)) k_LR_entry
