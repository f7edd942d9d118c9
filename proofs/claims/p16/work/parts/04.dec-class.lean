def zt_wsX9_init : List (List Cond) := [[.code yX9_init cX9_init 1 none], wsX9_init_r1, wsX9_init_r2, wsX20, wsX90, wsX30]
theorem zt_wsX9_init_in : ∀ c ∈ zt_wsX9_init, ∀ w ∈ c, w ∈ wsX9_init := List.forall_mem_cons.mpr ⟨fun _ h => List.mem_cons.mpr (Or.inl (List.mem_singleton.mp h)), List.forall_mem_cons.mpr ⟨fun _ h => List.mem_cons_of_mem _ (List.mem_append_left _ (List.mem_append_left _ (List.mem_append_left _ (List.mem_append_left _ h)))), List.forall_mem_cons.mpr ⟨fun _ h => List.mem_cons_of_mem _ (List.mem_append_left _ (List.mem_append_left _ (List.mem_append_left _ (List.mem_append_right _ (h))))), List.forall_mem_cons.mpr ⟨fun _ h => List.mem_cons_of_mem _ (List.mem_append_left _ (List.mem_append_left _ (List.mem_append_right _ h))), List.forall_mem_cons.mpr ⟨fun _ h => List.mem_cons_of_mem _ (List.mem_append_left _ (List.mem_append_right _ h)), List.forall_mem_cons.mpr ⟨fun _ h => List.mem_cons_of_mem _ (List.mem_append_right _ h), (fun _ h => absurd h List.not_mem_nil)⟩⟩⟩⟩⟩⟩
set_option maxRecDepth 20000 in
theorem zw_wsX2_init : wsX2_init.all goodWord = true := by decide +kernel
set_option maxRecDepth 20000 in
theorem ggX9_init_X2_init : GoodIn wsX9_init wsX2_init := goodIn_c zt_wsX9_init_in _ [(1, 13), (1, 14), (1, 1), (1, 2), (1, 15), (1, 16), (1, 17), (3, 0), (3, 1), (3, 2)] rfl zw_wsX2_init
set_option maxRecDepth 20000 in
theorem gX9_init_X2_init_n9 : GoodIn wsX9_init (wsX2_init) := ggX9_init_X2_init
set_option maxRecDepth 20000 in
theorem zw_wsX3_init : wsX3_init.all goodWord = true := by decide +kernel
set_option maxRecDepth 20000 in
theorem ggX9_init_X3_init : GoodIn wsX9_init wsX3_init := goodIn_c zt_wsX9_init_in _ [(1, 19), (1, 20), (1, 1), (1, 2), (1, 21), (1, 22), (1, 15), (1, 23), (2, 0), (5, 0), (5, 1), (5, 2), (5, 3), (5, 4), (5, 5)] rfl zw_wsX3_init
set_option maxRecDepth 20000 in
theorem gX9_init_X3_init_n18 : GoodIn wsX9_init (wsX3_init) := ggX9_init_X3_init
theorem zo_dX9_init_0 : ([(0, .aload_n 0, 1), (1, .invokespecial 1, 3), (4, .aload_n 0, 1), (5, .new 7, 3), (8, .dup, 1), (9, .invokespecial 9, 3), (12, .putfield 10, 3), (15, .aload_n 0, 1), (16, .new 16, 3), (19, .dup, 1), (20, .invokespecial 18, 3), (23, .putfield 19, 3), (26, .aload_n 0, 1), (27, .iconst 2, 1), (28, .anewarray 16, 3), (31, .putfield 23, 3)] : List (Nat × Instr × Nat)).all (dOk (decode cX9_init)) = true := by decide +kernel
theorem dX9_init_0 : decode cX9_init 0 = .ok (.aload_n 0, 1) := dcr zo_dX9_init_0 0 rfl
theorem dX9_init_1 : decode cX9_init 1 = .ok (.invokespecial 1, 3) := dcr zo_dX9_init_0 1 rfl
theorem dX9_init_4 : decode cX9_init 4 = .ok (.aload_n 0, 1) := dcr zo_dX9_init_0 2 rfl
theorem dX9_init_5 : decode cX9_init 5 = .ok (.new 7, 3) := dcr zo_dX9_init_0 3 rfl
theorem dX9_init_8 : decode cX9_init 8 = .ok (.dup, 1) := dcr zo_dX9_init_0 4 rfl
theorem dX9_init_9 : decode cX9_init 9 = .ok (.invokespecial 9, 3) := dcr zo_dX9_init_0 5 rfl
theorem dX9_init_12 : decode cX9_init 12 = .ok (.putfield 10, 3) := dcr zo_dX9_init_0 6 rfl
theorem dX9_init_15 : decode cX9_init 15 = .ok (.aload_n 0, 1) := dcr zo_dX9_init_0 7 rfl
theorem dX9_init_16 : decode cX9_init 16 = .ok (.new 16, 3) := dcr zo_dX9_init_0 8 rfl
theorem dX9_init_19 : decode cX9_init 19 = .ok (.dup, 1) := dcr zo_dX9_init_0 9 rfl
theorem dX9_init_20 : decode cX9_init 20 = .ok (.invokespecial 18, 3) := dcr zo_dX9_init_0 10 rfl
theorem dX9_init_23 : decode cX9_init 23 = .ok (.putfield 19, 3) := dcr zo_dX9_init_0 11 rfl
theorem dX9_init_26 : decode cX9_init 26 = .ok (.aload_n 0, 1) := dcr zo_dX9_init_0 12 rfl
theorem dX9_init_27 : decode cX9_init 27 = .ok (.iconst 2, 1) := dcr zo_dX9_init_0 13 rfl
theorem dX9_init_28 : decode cX9_init 28 = .ok (.anewarray 16, 3) := dcr zo_dX9_init_0 14 rfl
theorem dX9_init_31 : decode cX9_init 31 = .ok (.putfield 23, 3) := dcr zo_dX9_init_0 15 rfl
theorem zo_dX9_init_34 : ([(34, .return_, 1)] : List (Nat × Instr × Nat)).all (dOk (decode cX9_init)) = true := by decide +kernel
theorem dX9_init_34 : decode cX9_init 34 = .ok (.return_, 1) := dcr zo_dX9_init_34 0 rfl
theorem zo_dX9_sites_0 : ([(0, .iload_n 1, 1), (1, .iconst 2, 1), (2, .if_icmp .lt 9, 3), (5, .iload_n 1, 1), (6, .bipush 6, 2), (8, .if_icmp .le 6, 3), (11, .bipush (-2), 2), (13, .ireturn, 1), (14, .aload_n 0, 1), (15, .getfield 19, 3), (18, .getfield 27, 3), (21, .istore_n 2, 1), (22, .aload_n 0, 1), (23, .getfield 19, 3), (26, .iload_n 1, 1), (27, .putfield 27, 3)] : List (Nat × Instr × Nat)).all (dOk (decode cX9_sites)) = true := by decide +kernel
theorem dX9_sites_0 : decode cX9_sites 0 = .ok (.iload_n 1, 1) := dcr zo_dX9_sites_0 0 rfl
theorem dX9_sites_1 : decode cX9_sites 1 = .ok (.iconst 2, 1) := dcr zo_dX9_sites_0 1 rfl
theorem dX9_sites_2 : decode cX9_sites 2 = .ok (.if_icmp .lt 9, 3) := dcr zo_dX9_sites_0 2 rfl
theorem dX9_sites_5 : decode cX9_sites 5 = .ok (.iload_n 1, 1) := dcr zo_dX9_sites_0 3 rfl
theorem dX9_sites_6 : decode cX9_sites 6 = .ok (.bipush 6, 2) := dcr zo_dX9_sites_0 4 rfl
theorem dX9_sites_8 : decode cX9_sites 8 = .ok (.if_icmp .le 6, 3) := dcr zo_dX9_sites_0 5 rfl
theorem dX9_sites_11 : decode cX9_sites 11 = .ok (.bipush (-2), 2) := dcr zo_dX9_sites_0 6 rfl
theorem dX9_sites_13 : decode cX9_sites 13 = .ok (.ireturn, 1) := dcr zo_dX9_sites_0 7 rfl
theorem dX9_sites_14 : decode cX9_sites 14 = .ok (.aload_n 0, 1) := dcr zo_dX9_sites_0 8 rfl
theorem dX9_sites_15 : decode cX9_sites 15 = .ok (.getfield 19, 3) := dcr zo_dX9_sites_0 9 rfl
theorem dX9_sites_18 : decode cX9_sites 18 = .ok (.getfield 27, 3) := dcr zo_dX9_sites_0 10 rfl
theorem dX9_sites_21 : decode cX9_sites 21 = .ok (.istore_n 2, 1) := dcr zo_dX9_sites_0 11 rfl
theorem dX9_sites_22 : decode cX9_sites 22 = .ok (.aload_n 0, 1) := dcr zo_dX9_sites_0 12 rfl
theorem dX9_sites_23 : decode cX9_sites 23 = .ok (.getfield 19, 3) := dcr zo_dX9_sites_0 13 rfl
theorem dX9_sites_26 : decode cX9_sites 26 = .ok (.iload_n 1, 1) := dcr zo_dX9_sites_0 14 rfl
theorem dX9_sites_27 : decode cX9_sites 27 = .ok (.putfield 27, 3) := dcr zo_dX9_sites_0 15 rfl
theorem zo_dX9_sites_30 : ([(30, .aload_n 0, 1), (31, .getfield 19, 3), (34, .iconst 0, 1), (35, .putfield 31, 3), (38, .aload_n 0, 1), (39, .getfield 19, 3), (42, .iconst 0, 1), (43, .putfield 34, 3), (46, .iload_n 2, 1), (47, .ireturn, 1)] : List (Nat × Instr × Nat)).all (dOk (decode cX9_sites)) = true := by decide +kernel
theorem dX9_sites_30 : decode cX9_sites 30 = .ok (.aload_n 0, 1) := dcr zo_dX9_sites_30 0 rfl
theorem dX9_sites_31 : decode cX9_sites 31 = .ok (.getfield 19, 3) := dcr zo_dX9_sites_30 1 rfl
theorem dX9_sites_34 : decode cX9_sites 34 = .ok (.iconst 0, 1) := dcr zo_dX9_sites_30 2 rfl
theorem dX9_sites_35 : decode cX9_sites 35 = .ok (.putfield 31, 3) := dcr zo_dX9_sites_30 3 rfl
theorem dX9_sites_38 : decode cX9_sites 38 = .ok (.aload_n 0, 1) := dcr zo_dX9_sites_30 4 rfl
theorem dX9_sites_39 : decode cX9_sites 39 = .ok (.getfield 19, 3) := dcr zo_dX9_sites_30 5 rfl
theorem dX9_sites_42 : decode cX9_sites 42 = .ok (.iconst 0, 1) := dcr zo_dX9_sites_30 6 rfl
theorem dX9_sites_43 : decode cX9_sites 43 = .ok (.putfield 34, 3) := dcr zo_dX9_sites_30 7 rfl
theorem dX9_sites_46 : decode cX9_sites 46 = .ok (.iload_n 2, 1) := dcr zo_dX9_sites_30 8 rfl
theorem dX9_sites_47 : decode cX9_sites 47 = .ok (.ireturn, 1) := dcr zo_dX9_sites_30 9 rfl
def zt_wsX9_say : List (List Cond) := [[.code yX9_say cX9_say 2 (some .int)], [.fieldLink RX9 10 "LastMap" "pad" "LLastMap$Pad;", .fieldLink RX9 41 "LastMap$Pad" "length" "I", .methodLink RX9 37 yX2_put, .instanceMethod yX2_put, .selects RX2 yX2_put yX2_put, .initialized RX2, .code yX2_put cX2_put 2 (some .boolean), .fieldLink RX2 18 "LastMap$Pad" "length" "I", .fieldLink RX2 9 "LastMap$Pad" "signs" "[I"], wsX90, wsX20]
theorem zt_wsX9_say_in : ∀ c ∈ zt_wsX9_say, ∀ w ∈ c, w ∈ wsX9_say := List.forall_mem_cons.mpr ⟨fun _ h => List.mem_cons.mpr (Or.inl (List.mem_singleton.mp h)), List.forall_mem_cons.mpr ⟨fun _ h => List.mem_cons_of_mem _ (List.mem_append_left _ (List.mem_append_left _ (h))), List.forall_mem_cons.mpr ⟨fun _ h => List.mem_cons_of_mem _ (List.mem_append_left _ (List.mem_append_right _ h)), List.forall_mem_cons.mpr ⟨fun _ h => List.mem_cons_of_mem _ (List.mem_append_right _ h), (fun _ h => absurd h List.not_mem_nil)⟩⟩⟩⟩
set_option maxRecDepth 20000 in
theorem zw_wsX2_put : wsX2_put.all goodWord = true := by decide +kernel
set_option maxRecDepth 20000 in
theorem ggX9_say_X2_put : GoodIn wsX9_say wsX2_put := goodIn_c zt_wsX9_say_in _ [(1, 6), (1, 7), (1, 8), (3, 0), (3, 1), (3, 2)] rfl zw_wsX2_put
set_option maxRecDepth 20000 in
theorem gX9_say_X2_put : GoodIn wsX9_say (wsV RX9 37 RX2 yX2_put wsX2_put) := goodIn_app (goodIn_of _ (by decide +kernel)) ggX9_say_X2_put
theorem zo_dX9_say_0 : ([(0, .iload_n 1, 1), (1, .bipush 33, 2), (3, .if_icmp .lt 9, 3), (6, .iload_n 1, 1), (7, .bipush 126, 2), (9, .if_icmp .le 6, 3), (12, .bipush (-2), 2), (14, .ireturn, 1), (15, .aload_n 0, 1), (16, .getfield 10, 3), (19, .iload_n 1, 1), (20, .invokevirtual 37, 3), (23, .ifCond .eq 13, 3), (26, .aload_n 0, 1), (27, .getfield 10, 3), (30, .getfield 41, 3)] : List (Nat × Instr × Nat)).all (dOk (decode cX9_say)) = true := by decide +kernel
theorem dX9_say_0 : decode cX9_say 0 = .ok (.iload_n 1, 1) := dcr zo_dX9_say_0 0 rfl
theorem dX9_say_1 : decode cX9_say 1 = .ok (.bipush 33, 2) := dcr zo_dX9_say_0 1 rfl
theorem dX9_say_3 : decode cX9_say 3 = .ok (.if_icmp .lt 9, 3) := dcr zo_dX9_say_0 2 rfl
theorem dX9_say_6 : decode cX9_say 6 = .ok (.iload_n 1, 1) := dcr zo_dX9_say_0 3 rfl
theorem dX9_say_7 : decode cX9_say 7 = .ok (.bipush 126, 2) := dcr zo_dX9_say_0 4 rfl
theorem dX9_say_9 : decode cX9_say 9 = .ok (.if_icmp .le 6, 3) := dcr zo_dX9_say_0 5 rfl
theorem dX9_say_12 : decode cX9_say 12 = .ok (.bipush (-2), 2) := dcr zo_dX9_say_0 6 rfl
theorem dX9_say_14 : decode cX9_say 14 = .ok (.ireturn, 1) := dcr zo_dX9_say_0 7 rfl
theorem dX9_say_15 : decode cX9_say 15 = .ok (.aload_n 0, 1) := dcr zo_dX9_say_0 8 rfl
theorem dX9_say_16 : decode cX9_say 16 = .ok (.getfield 10, 3) := dcr zo_dX9_say_0 9 rfl
theorem dX9_say_19 : decode cX9_say 19 = .ok (.iload_n 1, 1) := dcr zo_dX9_say_0 10 rfl
theorem dX9_say_20 : decode cX9_say 20 = .ok (.invokevirtual 37, 3) := dcr zo_dX9_say_0 11 rfl
theorem dX9_say_23 : decode cX9_say 23 = .ok (.ifCond .eq 13, 3) := dcr zo_dX9_say_0 12 rfl
theorem dX9_say_26 : decode cX9_say 26 = .ok (.aload_n 0, 1) := dcr zo_dX9_say_0 13 rfl
theorem dX9_say_27 : decode cX9_say 27 = .ok (.getfield 10, 3) := dcr zo_dX9_say_0 14 rfl
theorem dX9_say_30 : decode cX9_say 30 = .ok (.getfield 41, 3) := dcr zo_dX9_say_0 15 rfl
theorem zo_dX9_say_33 : ([(33, .goto 5, 3), (36, .bipush (-4), 2), (38, .ireturn, 1)] : List (Nat × Instr × Nat)).all (dOk (decode cX9_say)) = true := by decide +kernel
theorem dX9_say_33 : decode cX9_say 33 = .ok (.goto 5, 3) := dcr zo_dX9_say_33 0 rfl
theorem dX9_say_36 : decode cX9_say 36 = .ok (.bipush (-4), 2) := dcr zo_dX9_say_33 1 rfl
theorem dX9_say_38 : decode cX9_say 38 = .ok (.ireturn, 1) := dcr zo_dX9_say_33 2 rfl
theorem zo_dX9_wipe_0 : ([(0, .aload_n 0, 1), (1, .getfield 10, 3), (4, .getfield 41, 3), (7, .istore_n 1, 1), (8, .aload_n 0, 1), (9, .getfield 10, 3), (12, .iconst 0, 1), (13, .putfield 41, 3), (16, .iload_n 1, 1), (17, .ireturn, 1)] : List (Nat × Instr × Nat)).all (dOk (decode cX9_wipe)) = true := by decide +kernel
theorem dX9_wipe_0 : decode cX9_wipe 0 = .ok (.aload_n 0, 1) := dcr zo_dX9_wipe_0 0 rfl
theorem dX9_wipe_1 : decode cX9_wipe 1 = .ok (.getfield 10, 3) := dcr zo_dX9_wipe_0 1 rfl
theorem dX9_wipe_4 : decode cX9_wipe 4 = .ok (.getfield 41, 3) := dcr zo_dX9_wipe_0 2 rfl
theorem dX9_wipe_7 : decode cX9_wipe 7 = .ok (.istore_n 1, 1) := dcr zo_dX9_wipe_0 3 rfl
theorem dX9_wipe_8 : decode cX9_wipe 8 = .ok (.aload_n 0, 1) := dcr zo_dX9_wipe_0 4 rfl
theorem dX9_wipe_9 : decode cX9_wipe 9 = .ok (.getfield 10, 3) := dcr zo_dX9_wipe_0 5 rfl
theorem dX9_wipe_12 : decode cX9_wipe 12 = .ok (.iconst 0, 1) := dcr zo_dX9_wipe_0 6 rfl
theorem dX9_wipe_13 : decode cX9_wipe 13 = .ok (.putfield 41, 3) := dcr zo_dX9_wipe_0 7 rfl
theorem dX9_wipe_16 : decode cX9_wipe 16 = .ok (.iload_n 1, 1) := dcr zo_dX9_wipe_0 8 rfl
theorem dX9_wipe_17 : decode cX9_wipe 17 = .ok (.ireturn, 1) := dcr zo_dX9_wipe_0 9 rfl
def zt_wsX9_fault : List (List Cond) := [[.code yX9_fault cX9_fault 2 (some .int)], wsX9_fault_r1, wsX9_fault_r2, wsX90, wsX30, wsX20]
theorem zt_wsX9_fault_in : ∀ c ∈ zt_wsX9_fault, ∀ w ∈ c, w ∈ wsX9_fault := List.forall_mem_cons.mpr ⟨fun _ h => List.mem_cons.mpr (Or.inl (List.mem_singleton.mp h)), List.forall_mem_cons.mpr ⟨fun _ h => List.mem_cons_of_mem _ (List.mem_append_left _ (List.mem_append_left _ (List.mem_append_left _ (List.mem_append_left _ h)))), List.forall_mem_cons.mpr ⟨fun _ h => List.mem_cons_of_mem _ (List.mem_append_left _ (List.mem_append_left _ (List.mem_append_left _ (List.mem_append_right _ (h))))), List.forall_mem_cons.mpr ⟨fun _ h => List.mem_cons_of_mem _ (List.mem_append_left _ (List.mem_append_left _ (List.mem_append_right _ h))), List.forall_mem_cons.mpr ⟨fun _ h => List.mem_cons_of_mem _ (List.mem_append_left _ (List.mem_append_right _ h)), List.forall_mem_cons.mpr ⟨fun _ h => List.mem_cons_of_mem _ (List.mem_append_right _ h), (fun _ h => absurd h List.not_mem_nil)⟩⟩⟩⟩⟩⟩
set_option maxRecDepth 20000 in
theorem zw_wsX2_firstWrong : wsX2_firstWrong.all goodWord = true := by decide +kernel
set_option maxRecDepth 20000 in
theorem ggX9_fault_X2_firstWrong : GoodIn wsX9_fault wsX2_firstWrong := goodIn_c zt_wsX9_fault_in _ [(1, 7), (1, 8), (1, 9), (1, 10), (1, 11), (1, 6), (1, 12), (1, 13), (1, 14), (1, 15), (1, 16), (1, 17), (1, 18), (1, 19), (1, 20), (1, 21), (1, 22), (1, 23), (2, 0), (2, 1), (2, 2), (2, 3), (2, 4), (2, 5), (2, 6), (2, 7), (2, 8), (2, 9), (2, 10), (2, 11), (2, 12), (2, 13), (2, 14), (2, 15), (2, 16), (2, 17), (2, 18), (5, 0), (5, 1), (5, 2)] rfl zw_wsX2_firstWrong
set_option maxRecDepth 20000 in
theorem gX9_fault_X2_firstWrong : GoodIn wsX9_fault (wsV RX9 44 RX2 yX2_firstWrong wsX2_firstWrong) := goodIn_app (goodIn_of _ (by decide +kernel)) ggX9_fault_X2_firstWrong
theorem zo_dX9_fault_0 : ([(0, .iload_n 1, 1), (1, .ifCond .lt 8, 3), (4, .iload_n 1, 1), (5, .iconst 2, 1), (6, .if_icmp .le 8, 3), (9, .bipush (-2), 2), (11, .goto 18, 3), (14, .aload_n 0, 1), (15, .getfield 10, 3), (18, .iload_n 1, 1), (19, .aload_n 0, 1), (20, .getfield 19, 3), (23, .getfield 27, 3), (26, .invokevirtual 44, 3), (29, .ireturn, 1)] : List (Nat × Instr × Nat)).all (dOk (decode cX9_fault)) = true := by decide +kernel
theorem dX9_fault_0 : decode cX9_fault 0 = .ok (.iload_n 1, 1) := dcr zo_dX9_fault_0 0 rfl
theorem dX9_fault_1 : decode cX9_fault 1 = .ok (.ifCond .lt 8, 3) := dcr zo_dX9_fault_0 1 rfl
theorem dX9_fault_4 : decode cX9_fault 4 = .ok (.iload_n 1, 1) := dcr zo_dX9_fault_0 2 rfl
theorem dX9_fault_5 : decode cX9_fault 5 = .ok (.iconst 2, 1) := dcr zo_dX9_fault_0 3 rfl
theorem dX9_fault_6 : decode cX9_fault 6 = .ok (.if_icmp .le 8, 3) := dcr zo_dX9_fault_0 4 rfl
theorem dX9_fault_9 : decode cX9_fault 9 = .ok (.bipush (-2), 2) := dcr zo_dX9_fault_0 5 rfl
theorem dX9_fault_11 : decode cX9_fault 11 = .ok (.goto 18, 3) := dcr zo_dX9_fault_0 6 rfl
theorem dX9_fault_14 : decode cX9_fault 14 = .ok (.aload_n 0, 1) := dcr zo_dX9_fault_0 7 rfl
theorem dX9_fault_15 : decode cX9_fault 15 = .ok (.getfield 10, 3) := dcr zo_dX9_fault_0 8 rfl
theorem dX9_fault_18 : decode cX9_fault 18 = .ok (.iload_n 1, 1) := dcr zo_dX9_fault_0 9 rfl
theorem dX9_fault_19 : decode cX9_fault 19 = .ok (.aload_n 0, 1) := dcr zo_dX9_fault_0 10 rfl
theorem dX9_fault_20 : decode cX9_fault 20 = .ok (.getfield 19, 3) := dcr zo_dX9_fault_0 11 rfl
theorem dX9_fault_23 : decode cX9_fault 23 = .ok (.getfield 27, 3) := dcr zo_dX9_fault_0 12 rfl
theorem dX9_fault_26 : decode cX9_fault 26 = .ok (.invokevirtual 44, 3) := dcr zo_dX9_fault_0 13 rfl
theorem dX9_fault_29 : decode cX9_fault 29 = .ok (.ireturn, 1) := dcr zo_dX9_fault_0 14 rfl
def zt_wsX9_map : List (List Cond) := [[.code yX9_map cX9_map 2 (some .int)], wsX9_map_r1, wsX9_map_r2, wsX9_map_r3, wsX9_map_r4, wsX90, wsX30, wsX20]
theorem zt_wsX9_map_in : ∀ c ∈ zt_wsX9_map, ∀ w ∈ c, w ∈ wsX9_map := List.forall_mem_cons.mpr ⟨fun _ h => List.mem_cons.mpr (Or.inl (List.mem_singleton.mp h)), List.forall_mem_cons.mpr ⟨fun _ h => List.mem_cons_of_mem _ (List.mem_append_left _ (List.mem_append_left _ (List.mem_append_left _ (List.mem_append_left _ h)))), List.forall_mem_cons.mpr ⟨fun _ h => List.mem_cons_of_mem _ (List.mem_append_left _ (List.mem_append_left _ (List.mem_append_left _ (List.mem_append_right _ (List.mem_append_left _ h))))), List.forall_mem_cons.mpr ⟨fun _ h => List.mem_cons_of_mem _ (List.mem_append_left _ (List.mem_append_left _ (List.mem_append_left _ (List.mem_append_right _ (List.mem_append_right _ (List.mem_append_left _ h)))))), List.forall_mem_cons.mpr ⟨fun _ h => List.mem_cons_of_mem _ (List.mem_append_left _ (List.mem_append_left _ (List.mem_append_left _ (List.mem_append_right _ (List.mem_append_right _ (List.mem_append_right _ (h))))))), List.forall_mem_cons.mpr ⟨fun _ h => List.mem_cons_of_mem _ (List.mem_append_left _ (List.mem_append_left _ (List.mem_append_right _ h))), List.forall_mem_cons.mpr ⟨fun _ h => List.mem_cons_of_mem _ (List.mem_append_left _ (List.mem_append_right _ h)), List.forall_mem_cons.mpr ⟨fun _ h => List.mem_cons_of_mem _ (List.mem_append_right _ h), (fun _ h => absurd h List.not_mem_nil)⟩⟩⟩⟩⟩⟩⟩⟩
set_option maxRecDepth 20000 in
theorem ggX9_map_X9_isMap : GoodIn wsX9_map wsX9_isMap := goodIn_c zt_wsX9_map_in _ [(1, 7)] rfl zw_wsX9_isMap
set_option maxRecDepth 20000 in
theorem gX9_map_X9_isMap : GoodIn wsX9_map (va_wsS RX9 48 yX9_isMap wsX9_isMap) := goodIn_app (goodIn_of _ (by decide +kernel)) ggX9_map_X9_isMap
set_option maxRecDepth 20000 in
theorem ggX9_map_X2_firstWrong : GoodIn wsX9_map wsX2_firstWrong := goodIn_c zt_wsX9_map_in _ [(1, 12), (1, 13), (1, 14), (1, 15), (1, 16), (1, 11), (1, 17), (1, 18), (1, 19), (1, 20), (1, 21), (1, 22), (1, 23), (2, 0), (2, 1), (2, 2), (2, 3), (2, 4), (2, 5), (2, 6), (2, 7), (2, 8), (2, 9), (2, 10), (2, 11), (2, 12), (2, 13), (2, 14), (2, 15), (2, 16), (2, 17), (2, 18), (2, 19), (2, 20), (2, 21), (2, 22), (2, 23), (7, 0), (7, 1), (7, 2)] rfl zw_wsX2_firstWrong
set_option maxRecDepth 20000 in
theorem gX9_map_X2_firstWrong : GoodIn wsX9_map (wsV RX9 44 RX2 yX2_firstWrong wsX2_firstWrong) := goodIn_app (goodIn_of _ (by decide +kernel)) ggX9_map_X2_firstWrong
set_option maxRecDepth 20000 in
theorem zw_wsX2_mapCode : wsX2_mapCode.all goodWord = true := by decide +kernel
set_option maxRecDepth 20000 in
theorem ggX9_map_X2_mapCode : GoodIn wsX9_map wsX2_mapCode := goodIn_c zt_wsX9_map_in _ [(3, 3), (1, 13), (2, 11), (2, 12), (2, 13), (1, 11), (2, 14), (2, 2), (2, 3), (2, 4), (2, 5), (2, 6), (2, 15), (2, 16), (2, 17), (2, 18), (2, 19), (3, 4), (3, 5), (3, 6), (3, 7), (3, 8), (3, 9), (3, 10), (3, 11), (3, 12), (3, 13), (3, 14), (3, 15), (3, 16), (3, 17), (7, 0), (7, 1), (7, 2)] rfl zw_wsX2_mapCode
set_option maxRecDepth 20000 in
theorem gX9_map_X2_mapCode : GoodIn wsX9_map (wsV RX9 51 RX2 yX2_mapCode wsX2_mapCode) := goodIn_app (goodIn_of _ (by decide +kernel)) ggX9_map_X2_mapCode
set_option maxRecDepth 20000 in
theorem zw_wsX3_tell : wsX3_tell.all goodWord = true := by decide +kernel
set_option maxRecDepth 20000 in
theorem ggX9_map_X3_tell : GoodIn wsX9_map wsX3_tell := goodIn_c zt_wsX9_map_in _ [(3, 22), (3, 23), (4, 0), (6, 0), (6, 1), (6, 2), (6, 3), (6, 4), (6, 5)] rfl zw_wsX3_tell
set_option maxRecDepth 20000 in
theorem gX9_map_X3_tell : GoodIn wsX9_map (wsV RX9 55 RX3 yX3_tell wsX3_tell) := goodIn_app (goodIn_of _ (by decide +kernel)) ggX9_map_X3_tell
theorem zo_dX9_map_0 : ([(0, .iload_n 1, 1), (1, .invokestatic 48, 3), (4, .ifCond .ne 5, 3), (7, .iconst (-1), 1), (8, .ireturn, 1), (9, .aload_n 0, 1), (10, .getfield 10, 3), (13, .iconst 0, 1), (14, .aload_n 0, 1), (15, .getfield 19, 3), (18, .getfield 27, 3), (21, .invokevirtual 44, 3), (24, .bipush (-6), 2), (26, .if_icmp .eq 6, 3), (29, .bipush (-5), 2), (31, .ireturn, 1)] : List (Nat × Instr × Nat)).all (dOk (decode cX9_map)) = true := by decide +kernel
theorem dX9_map_0 : decode cX9_map 0 = .ok (.iload_n 1, 1) := dcr zo_dX9_map_0 0 rfl
theorem dX9_map_1 : decode cX9_map 1 = .ok (.invokestatic 48, 3) := dcr zo_dX9_map_0 1 rfl
theorem dX9_map_4 : decode cX9_map 4 = .ok (.ifCond .ne 5, 3) := dcr zo_dX9_map_0 2 rfl
theorem dX9_map_7 : decode cX9_map 7 = .ok (.iconst (-1), 1) := dcr zo_dX9_map_0 3 rfl
theorem dX9_map_8 : decode cX9_map 8 = .ok (.ireturn, 1) := dcr zo_dX9_map_0 4 rfl
theorem dX9_map_9 : decode cX9_map 9 = .ok (.aload_n 0, 1) := dcr zo_dX9_map_0 5 rfl
theorem dX9_map_10 : decode cX9_map 10 = .ok (.getfield 10, 3) := dcr zo_dX9_map_0 6 rfl
theorem dX9_map_13 : decode cX9_map 13 = .ok (.iconst 0, 1) := dcr zo_dX9_map_0 7 rfl
theorem dX9_map_14 : decode cX9_map 14 = .ok (.aload_n 0, 1) := dcr zo_dX9_map_0 8 rfl
theorem dX9_map_15 : decode cX9_map 15 = .ok (.getfield 19, 3) := dcr zo_dX9_map_0 9 rfl
theorem dX9_map_18 : decode cX9_map 18 = .ok (.getfield 27, 3) := dcr zo_dX9_map_0 10 rfl
theorem dX9_map_21 : decode cX9_map 21 = .ok (.invokevirtual 44, 3) := dcr zo_dX9_map_0 11 rfl
theorem dX9_map_24 : decode cX9_map 24 = .ok (.bipush (-6), 2) := dcr zo_dX9_map_0 12 rfl
theorem dX9_map_26 : decode cX9_map 26 = .ok (.if_icmp .eq 6, 3) := dcr zo_dX9_map_0 13 rfl
theorem dX9_map_29 : decode cX9_map 29 = .ok (.bipush (-5), 2) := dcr zo_dX9_map_0 14 rfl
theorem dX9_map_31 : decode cX9_map 31 = .ok (.ireturn, 1) := dcr zo_dX9_map_0 15 rfl
theorem zo_dX9_map_32 : ([(32, .aload_n 0, 1), (33, .getfield 19, 3), (36, .iload_n 1, 1), (37, .aload_n 0, 1), (38, .getfield 10, 3), (41, .invokevirtual 51, 3), (44, .invokevirtual 55, 3), (47, .aload_n 0, 1), (48, .getfield 10, 3), (51, .iconst 0, 1), (52, .putfield 41, 3), (55, .iconst 1, 1), (56, .ireturn, 1)] : List (Nat × Instr × Nat)).all (dOk (decode cX9_map)) = true := by decide +kernel
theorem dX9_map_32 : decode cX9_map 32 = .ok (.aload_n 0, 1) := dcr zo_dX9_map_32 0 rfl
theorem dX9_map_33 : decode cX9_map 33 = .ok (.getfield 19, 3) := dcr zo_dX9_map_32 1 rfl
theorem dX9_map_36 : decode cX9_map 36 = .ok (.iload_n 1, 1) := dcr zo_dX9_map_32 2 rfl
theorem dX9_map_37 : decode cX9_map 37 = .ok (.aload_n 0, 1) := dcr zo_dX9_map_32 3 rfl
theorem dX9_map_38 : decode cX9_map 38 = .ok (.getfield 10, 3) := dcr zo_dX9_map_32 4 rfl
theorem dX9_map_41 : decode cX9_map 41 = .ok (.invokevirtual 51, 3) := dcr zo_dX9_map_32 5 rfl
theorem dX9_map_44 : decode cX9_map 44 = .ok (.invokevirtual 55, 3) := dcr zo_dX9_map_32 6 rfl
theorem dX9_map_47 : decode cX9_map 47 = .ok (.aload_n 0, 1) := dcr zo_dX9_map_32 7 rfl
theorem dX9_map_48 : decode cX9_map 48 = .ok (.getfield 10, 3) := dcr zo_dX9_map_32 8 rfl
theorem dX9_map_51 : decode cX9_map 51 = .ok (.iconst 0, 1) := dcr zo_dX9_map_32 9 rfl
theorem dX9_map_52 : decode cX9_map 52 = .ok (.putfield 41, 3) := dcr zo_dX9_map_32 10 rfl
theorem dX9_map_55 : decode cX9_map 55 = .ok (.iconst 1, 1) := dcr zo_dX9_map_32 11 rfl
theorem dX9_map_56 : decode cX9_map 56 = .ok (.ireturn, 1) := dcr zo_dX9_map_32 12 rfl
def zt_wsX9_at : List (List Cond) := [[.code yX9_at cX9_at 3 (some .int)], wsX9_at_r1, wsX9_at_r2, wsX90, wsX30]
theorem zt_wsX9_at_in : ∀ c ∈ zt_wsX9_at, ∀ w ∈ c, w ∈ wsX9_at := List.forall_mem_cons.mpr ⟨fun _ h => List.mem_cons.mpr (Or.inl (List.mem_singleton.mp h)), List.forall_mem_cons.mpr ⟨fun _ h => List.mem_cons_of_mem _ (List.mem_append_left _ (List.mem_append_left _ (List.mem_append_left _ h))), List.forall_mem_cons.mpr ⟨fun _ h => List.mem_cons_of_mem _ (List.mem_append_left _ (List.mem_append_left _ (List.mem_append_right _ (h)))), List.forall_mem_cons.mpr ⟨fun _ h => List.mem_cons_of_mem _ (List.mem_append_left _ (List.mem_append_right _ h)), List.forall_mem_cons.mpr ⟨fun _ h => List.mem_cons_of_mem _ (List.mem_append_right _ h), (fun _ h => absurd h List.not_mem_nil)⟩⟩⟩⟩⟩
set_option maxRecDepth 20000 in
theorem ggX9_at_X9_isMap : GoodIn wsX9_at wsX9_isMap := goodIn_c zt_wsX9_at_in _ [(1, 4)] rfl zw_wsX9_isMap
set_option maxRecDepth 20000 in
theorem gX9_at_X9_isMap : GoodIn wsX9_at (va_wsS RX9 48 yX9_isMap wsX9_isMap) := goodIn_app (goodIn_of _ (by decide +kernel)) ggX9_at_X9_isMap
set_option maxRecDepth 20000 in
theorem zw_wsX9_isSite : wsX9_isSite.all goodWord = true := by decide +kernel
set_option maxRecDepth 20000 in
theorem ggX9_at_X9_isSite : GoodIn wsX9_at wsX9_isSite := goodIn_c zt_wsX9_at_in _ [(1, 8), (1, 0), (1, 9), (3, 0), (3, 1), (3, 2), (3, 3), (3, 4), (4, 0), (4, 1), (4, 2), (4, 3), (4, 4), (4, 5)] rfl zw_wsX9_isSite
set_option maxRecDepth 20000 in
theorem gX9_at_X9_isSite : GoodIn wsX9_at (wsV RX9 59 RX9 yX9_isSite wsX9_isSite) := goodIn_app (goodIn_of _ (by decide +kernel)) ggX9_at_X9_isSite
set_option maxRecDepth 20000 in
theorem zw_wsX9_isTold : wsX9_isTold.all goodWord = true := by decide +kernel
set_option maxRecDepth 20000 in
theorem ggX9_at_X9_isTold : GoodIn wsX9_at wsX9_isTold := goodIn_c zt_wsX9_at_in _ [(1, 13), (1, 0), (1, 14), (1, 15), (1, 16), (1, 3), (1, 17), (1, 1), (1, 2), (1, 4), (3, 0), (3, 1), (3, 2), (3, 3), (3, 4), (4, 0), (4, 1), (4, 2), (4, 3), (4, 4), (4, 5)] rfl zw_wsX9_isTold
set_option maxRecDepth 20000 in
theorem gX9_at_X9_isTold : GoodIn wsX9_at (wsV RX9 62 RX9 yX9_isTold wsX9_isTold) := goodIn_app (goodIn_of _ (by decide +kernel)) ggX9_at_X9_isTold
set_option maxRecDepth 20000 in
theorem ggX9_at_X3_codeOf : GoodIn wsX9_at wsX3_codeOf := goodIn_c zt_wsX9_at_in _ [(1, 22), (1, 23), (4, 0), (4, 1), (4, 2), (4, 3), (4, 4), (4, 5)] rfl zw_wsX3_codeOf
set_option maxRecDepth 20000 in
theorem gX9_at_X3_codeOf : GoodIn wsX9_at (wsV RX9 65 RX3 yX3_codeOf wsX3_codeOf) := goodIn_app (goodIn_of _ (by decide +kernel)) ggX9_at_X3_codeOf
set_option maxRecDepth 20000 in
theorem ggX9_at_X1_signAt : GoodIn wsX9_at wsX1_signAt := goodIn_c zt_wsX9_at_in _ [(2, 3), (2, 4), (2, 5), (2, 2), (2, 6), (2, 7), (2, 8), (2, 9), (2, 10)] rfl zw_wsX1_signAt
set_option maxRecDepth 20000 in
theorem gX9_at_X1_signAt : GoodIn wsX9_at (va_wsS RX9 69 yX1_signAt wsX1_signAt) := goodIn_app (goodIn_of _ (by decide +kernel)) ggX9_at_X1_signAt
set_option maxRecDepth 20000 in
theorem zw_wsX5_written : wsX5_written.all goodWord = true := by decide +kernel
set_option maxRecDepth 20000 in
theorem ggX9_at_X5_written : GoodIn wsX9_at wsX5_written := goodIn_c zt_wsX9_at_in _ [(2, 14), (2, 15)] rfl zw_wsX5_written
set_option maxRecDepth 20000 in
theorem gX9_at_X5_written : GoodIn wsX9_at (va_wsS RX9 74 yX5_written wsX5_written) := goodIn_app (goodIn_of _ (by decide +kernel)) ggX9_at_X5_written
theorem zo_dX9_at_0 : ([(0, .iload_n 1, 1), (1, .invokestatic 48, 3), (4, .ifCond .eq 11, 3), (7, .aload_n 0, 1), (8, .iload_n 2, 1), (9, .invokevirtual 59, 3), (12, .ifCond .ne 5, 3), (15, .iconst (-1), 1), (16, .ireturn, 1), (17, .aload_n 0, 1), (18, .iload_n 1, 1), (19, .invokevirtual 62, 3), (22, .ifCond .ne 6, 3), (25, .bipush (-3), 2), (27, .ireturn, 1), (28, .aload_n 0, 1)] : List (Nat × Instr × Nat)).all (dOk (decode cX9_at)) = true := by decide +kernel
theorem dX9_at_0 : decode cX9_at 0 = .ok (.iload_n 1, 1) := dcr zo_dX9_at_0 0 rfl
theorem dX9_at_1 : decode cX9_at 1 = .ok (.invokestatic 48, 3) := dcr zo_dX9_at_0 1 rfl
theorem dX9_at_4 : decode cX9_at 4 = .ok (.ifCond .eq 11, 3) := dcr zo_dX9_at_0 2 rfl
theorem dX9_at_7 : decode cX9_at 7 = .ok (.aload_n 0, 1) := dcr zo_dX9_at_0 3 rfl
theorem dX9_at_8 : decode cX9_at 8 = .ok (.iload_n 2, 1) := dcr zo_dX9_at_0 4 rfl
theorem dX9_at_9 : decode cX9_at 9 = .ok (.invokevirtual 59, 3) := dcr zo_dX9_at_0 5 rfl
theorem dX9_at_12 : decode cX9_at 12 = .ok (.ifCond .ne 5, 3) := dcr zo_dX9_at_0 6 rfl
theorem dX9_at_15 : decode cX9_at 15 = .ok (.iconst (-1), 1) := dcr zo_dX9_at_0 7 rfl
theorem dX9_at_16 : decode cX9_at 16 = .ok (.ireturn, 1) := dcr zo_dX9_at_0 8 rfl
theorem dX9_at_17 : decode cX9_at 17 = .ok (.aload_n 0, 1) := dcr zo_dX9_at_0 9 rfl
theorem dX9_at_18 : decode cX9_at 18 = .ok (.iload_n 1, 1) := dcr zo_dX9_at_0 10 rfl
theorem dX9_at_19 : decode cX9_at 19 = .ok (.invokevirtual 62, 3) := dcr zo_dX9_at_0 11 rfl
theorem dX9_at_22 : decode cX9_at 22 = .ok (.ifCond .ne 6, 3) := dcr zo_dX9_at_0 12 rfl
theorem dX9_at_25 : decode cX9_at 25 = .ok (.bipush (-3), 2) := dcr zo_dX9_at_0 13 rfl
theorem dX9_at_27 : decode cX9_at 27 = .ok (.ireturn, 1) := dcr zo_dX9_at_0 14 rfl
theorem dX9_at_28 : decode cX9_at 28 = .ok (.aload_n 0, 1) := dcr zo_dX9_at_0 15 rfl
theorem zo_dX9_at_29 : ([(29, .getfield 19, 3), (32, .iload_n 1, 1), (33, .invokevirtual 65, 3), (36, .iload_n 2, 1), (37, .invokestatic 69, 3), (40, .invokestatic 74, 3), (43, .ireturn, 1)] : List (Nat × Instr × Nat)).all (dOk (decode cX9_at)) = true := by decide +kernel
theorem dX9_at_29 : decode cX9_at 29 = .ok (.getfield 19, 3) := dcr zo_dX9_at_29 0 rfl
theorem dX9_at_32 : decode cX9_at 32 = .ok (.iload_n 1, 1) := dcr zo_dX9_at_29 1 rfl
theorem dX9_at_33 : decode cX9_at 33 = .ok (.invokevirtual 65, 3) := dcr zo_dX9_at_29 2 rfl
theorem dX9_at_36 : decode cX9_at 36 = .ok (.iload_n 2, 1) := dcr zo_dX9_at_29 3 rfl
theorem dX9_at_37 : decode cX9_at 37 = .ok (.invokestatic 69, 3) := dcr zo_dX9_at_29 4 rfl
theorem dX9_at_40 : decode cX9_at 40 = .ok (.invokestatic 74, 3) := dcr zo_dX9_at_29 5 rfl
theorem dX9_at_43 : decode cX9_at 43 = .ok (.ireturn, 1) := dcr zo_dX9_at_29 6 rfl
def zt_wsX9_hand : List (List Cond) := [[.code yX9_hand cX9_hand 4 (some .int)], [.fieldLink RX9 19 "LastMap" "papers" "LLastMap$Papers;", .methodLink RX9 79 yX9_isHand, .static yX9_isHand, .initialized RX9, .code yX9_isHand cX9_isHand 1 (some .boolean), .methodLink RX9 82 yX3_kindsOf, .instanceMethod yX3_kindsOf, .selects RX3 yX3_kindsOf yX3_kindsOf, .initialized RX3, .code yX3_kindsOf cX3_kindsOf 2 (some .int), .fieldLink RX3 22 "LastMap$Papers" "kinds" "[I", .methodLink RX9 85 yX3_teach, .instanceMethod yX3_teach, .selects RX3 yX3_teach yX3_teach, .code yX3_teach cX3_teach 3 none], wsX90, wsX30]
theorem zt_wsX9_hand_in : ∀ c ∈ zt_wsX9_hand, ∀ w ∈ c, w ∈ wsX9_hand := List.forall_mem_cons.mpr ⟨fun _ h => List.mem_cons.mpr (Or.inl (List.mem_singleton.mp h)), List.forall_mem_cons.mpr ⟨fun _ h => List.mem_cons_of_mem _ (List.mem_append_left _ (List.mem_append_left _ (h))), List.forall_mem_cons.mpr ⟨fun _ h => List.mem_cons_of_mem _ (List.mem_append_left _ (List.mem_append_right _ h)), List.forall_mem_cons.mpr ⟨fun _ h => List.mem_cons_of_mem _ (List.mem_append_right _ h), (fun _ h => absurd h List.not_mem_nil)⟩⟩⟩⟩
set_option maxRecDepth 20000 in
theorem zw_wsX9_isHand : wsX9_isHand.all goodWord = true := by decide +kernel
set_option maxRecDepth 20000 in
theorem ggX9_hand_X9_isHand : GoodIn wsX9_hand wsX9_isHand := goodIn_c zt_wsX9_hand_in _ [(1, 4)] rfl zw_wsX9_isHand
set_option maxRecDepth 20000 in
theorem gX9_hand_X9_isHand : GoodIn wsX9_hand (va_wsS RX9 79 yX9_isHand wsX9_isHand) := goodIn_app (goodIn_of _ (by decide +kernel)) ggX9_hand_X9_isHand
set_option maxRecDepth 20000 in
theorem ggX9_hand_X3_kindsOf : GoodIn wsX9_hand wsX3_kindsOf := goodIn_c zt_wsX9_hand_in _ [(1, 9), (1, 10), (3, 0), (3, 1), (3, 2), (3, 3), (3, 4), (3, 5)] rfl zw_wsX3_kindsOf
set_option maxRecDepth 20000 in
theorem gX9_hand_X3_kindsOf : GoodIn wsX9_hand (wsV RX9 82 RX3 yX3_kindsOf wsX3_kindsOf) := goodIn_app (goodIn_of _ (by decide +kernel)) ggX9_hand_X3_kindsOf
set_option maxRecDepth 20000 in
theorem zw_wsX3_teach : wsX3_teach.all goodWord = true := by decide +kernel
set_option maxRecDepth 20000 in
theorem ggX9_hand_X3_teach : GoodIn wsX9_hand wsX3_teach := goodIn_c zt_wsX9_hand_in _ [(1, 14), (1, 10), (3, 0), (3, 1), (3, 2), (3, 3), (3, 4), (3, 5)] rfl zw_wsX3_teach
set_option maxRecDepth 20000 in
theorem gX9_hand_X3_teach : GoodIn wsX9_hand (wsV RX9 85 RX3 yX3_teach wsX3_teach) := goodIn_app (goodIn_of _ (by decide +kernel)) ggX9_hand_X3_teach
theorem zo_dX9_hand_0 : ([(0, .iload_n 1, 1), (1, .invokestatic 79, 3), (4, .ifCond .ne 5, 3), (7, .iconst (-1), 1), (8, .ireturn, 1), (9, .iload_n 2, 1), (10, .ifCond .lt 9, 3), (13, .iload_n 2, 1), (14, .bipush 15, 2), (16, .if_icmp .le 6, 3), (19, .bipush (-2), 2), (21, .ireturn, 1), (22, .aload_n 0, 1), (23, .getfield 19, 3), (26, .iload_n 1, 1), (27, .invokevirtual 82, 3)] : List (Nat × Instr × Nat)).all (dOk (decode cX9_hand)) = true := by decide +kernel
theorem dX9_hand_0 : decode cX9_hand 0 = .ok (.iload_n 1, 1) := dcr zo_dX9_hand_0 0 rfl
theorem dX9_hand_1 : decode cX9_hand 1 = .ok (.invokestatic 79, 3) := dcr zo_dX9_hand_0 1 rfl
theorem dX9_hand_4 : decode cX9_hand 4 = .ok (.ifCond .ne 5, 3) := dcr zo_dX9_hand_0 2 rfl
theorem dX9_hand_7 : decode cX9_hand 7 = .ok (.iconst (-1), 1) := dcr zo_dX9_hand_0 3 rfl
theorem dX9_hand_8 : decode cX9_hand 8 = .ok (.ireturn, 1) := dcr zo_dX9_hand_0 4 rfl
theorem dX9_hand_9 : decode cX9_hand 9 = .ok (.iload_n 2, 1) := dcr zo_dX9_hand_0 5 rfl
theorem dX9_hand_10 : decode cX9_hand 10 = .ok (.ifCond .lt 9, 3) := dcr zo_dX9_hand_0 6 rfl
theorem dX9_hand_13 : decode cX9_hand 13 = .ok (.iload_n 2, 1) := dcr zo_dX9_hand_0 7 rfl
theorem dX9_hand_14 : decode cX9_hand 14 = .ok (.bipush 15, 2) := dcr zo_dX9_hand_0 8 rfl
theorem dX9_hand_16 : decode cX9_hand 16 = .ok (.if_icmp .le 6, 3) := dcr zo_dX9_hand_0 9 rfl
theorem dX9_hand_19 : decode cX9_hand 19 = .ok (.bipush (-2), 2) := dcr zo_dX9_hand_0 10 rfl
theorem dX9_hand_21 : decode cX9_hand 21 = .ok (.ireturn, 1) := dcr zo_dX9_hand_0 11 rfl
theorem dX9_hand_22 : decode cX9_hand 22 = .ok (.aload_n 0, 1) := dcr zo_dX9_hand_0 12 rfl
theorem dX9_hand_23 : decode cX9_hand 23 = .ok (.getfield 19, 3) := dcr zo_dX9_hand_0 13 rfl
theorem dX9_hand_26 : decode cX9_hand 26 = .ok (.iload_n 1, 1) := dcr zo_dX9_hand_0 14 rfl
theorem dX9_hand_27 : decode cX9_hand 27 = .ok (.invokevirtual 82, 3) := dcr zo_dX9_hand_0 15 rfl
theorem zo_dX9_hand_30 : ([(30, .istore_n 3, 1), (31, .aload_n 0, 1), (32, .getfield 19, 3), (35, .iload_n 1, 1), (36, .iload_n 2, 1), (37, .invokevirtual 85, 3), (40, .iload_n 3, 1), (41, .ireturn, 1)] : List (Nat × Instr × Nat)).all (dOk (decode cX9_hand)) = true := by decide +kernel
theorem dX9_hand_30 : decode cX9_hand 30 = .ok (.istore_n 3, 1) := dcr zo_dX9_hand_30 0 rfl
theorem dX9_hand_31 : decode cX9_hand 31 = .ok (.aload_n 0, 1) := dcr zo_dX9_hand_30 1 rfl
theorem dX9_hand_32 : decode cX9_hand 32 = .ok (.getfield 19, 3) := dcr zo_dX9_hand_30 2 rfl
theorem dX9_hand_35 : decode cX9_hand 35 = .ok (.iload_n 1, 1) := dcr zo_dX9_hand_30 3 rfl
theorem dX9_hand_36 : decode cX9_hand 36 = .ok (.iload_n 2, 1) := dcr zo_dX9_hand_30 4 rfl
theorem dX9_hand_37 : decode cX9_hand 37 = .ok (.invokevirtual 85, 3) := dcr zo_dX9_hand_30 5 rfl
theorem dX9_hand_40 : decode cX9_hand 40 = .ok (.iload_n 3, 1) := dcr zo_dX9_hand_30 6 rfl
theorem dX9_hand_41 : decode cX9_hand 41 = .ok (.ireturn, 1) := dcr zo_dX9_hand_30 7 rfl
def zt_wsX9_judge : List (List Cond) := [[.code yX9_judge cX9_judge 2 (some .int)], wsX9_judge_r1, wsX9_judge_r2, wsX9_judge_r3, wsX9_judge_r4, wsX90, wsX30, wsX20]
theorem zt_wsX9_judge_in : ∀ c ∈ zt_wsX9_judge, ∀ w ∈ c, w ∈ wsX9_judge := List.forall_mem_cons.mpr ⟨fun _ h => List.mem_cons.mpr (Or.inl (List.mem_singleton.mp h)), List.forall_mem_cons.mpr ⟨fun _ h => List.mem_cons_of_mem _ (List.mem_append_left _ (List.mem_append_left _ (List.mem_append_left _ (List.mem_append_left _ h)))), List.forall_mem_cons.mpr ⟨fun _ h => List.mem_cons_of_mem _ (List.mem_append_left _ (List.mem_append_left _ (List.mem_append_left _ (List.mem_append_right _ (List.mem_append_left _ h))))), List.forall_mem_cons.mpr ⟨fun _ h => List.mem_cons_of_mem _ (List.mem_append_left _ (List.mem_append_left _ (List.mem_append_left _ (List.mem_append_right _ (List.mem_append_right _ (List.mem_append_left _ h)))))), List.forall_mem_cons.mpr ⟨fun _ h => List.mem_cons_of_mem _ (List.mem_append_left _ (List.mem_append_left _ (List.mem_append_left _ (List.mem_append_right _ (List.mem_append_right _ (List.mem_append_right _ (h))))))), List.forall_mem_cons.mpr ⟨fun _ h => List.mem_cons_of_mem _ (List.mem_append_left _ (List.mem_append_left _ (List.mem_append_right _ h))), List.forall_mem_cons.mpr ⟨fun _ h => List.mem_cons_of_mem _ (List.mem_append_left _ (List.mem_append_right _ h)), List.forall_mem_cons.mpr ⟨fun _ h => List.mem_cons_of_mem _ (List.mem_append_right _ h), (fun _ h => absurd h List.not_mem_nil)⟩⟩⟩⟩⟩⟩⟩⟩
set_option maxRecDepth 20000 in
theorem ggX9_judge_X9_isMap : GoodIn wsX9_judge wsX9_isMap := goodIn_c zt_wsX9_judge_in _ [(1, 6)] rfl zw_wsX9_isMap
set_option maxRecDepth 20000 in
theorem gX9_judge_X9_isMap : GoodIn wsX9_judge (va_wsS RX9 48 yX9_isMap wsX9_isMap) := goodIn_app (goodIn_of _ (by decide +kernel)) ggX9_judge_X9_isMap
set_option maxRecDepth 20000 in
theorem ggX9_judge_X9_isTold : GoodIn wsX9_judge wsX9_isTold := goodIn_c zt_wsX9_judge_in _ [(1, 10), (1, 1), (1, 11), (1, 12), (1, 13), (1, 5), (1, 14), (1, 3), (1, 4), (1, 6), (5, 0), (5, 1), (5, 2), (5, 3), (5, 4), (6, 0), (6, 1), (6, 2), (6, 3), (6, 4), (6, 5)] rfl zw_wsX9_isTold
set_option maxRecDepth 20000 in
theorem gX9_judge_X9_isTold : GoodIn wsX9_judge (wsV RX9 62 RX9 yX9_isTold wsX9_isTold) := goodIn_app (goodIn_of _ (by decide +kernel)) ggX9_judge_X9_isTold
set_option maxRecDepth 20000 in
theorem ggX9_judge_X2_firstWrong : GoodIn wsX9_judge wsX2_firstWrong := goodIn_c zt_wsX9_judge_in _ [(1, 19), (1, 20), (1, 21), (1, 22), (1, 23), (1, 18), (2, 0), (2, 1), (2, 2), (2, 3), (2, 4), (2, 5), (2, 6), (2, 7), (2, 8), (2, 9), (2, 10), (2, 11), (2, 12), (2, 13), (2, 14), (2, 15), (2, 16), (2, 17), (2, 18), (2, 19), (2, 20), (2, 21), (2, 22), (2, 23), (3, 0), (3, 1), (3, 2), (3, 3), (3, 4), (3, 5), (3, 6), (7, 0), (7, 1), (7, 2)] rfl zw_wsX2_firstWrong
set_option maxRecDepth 20000 in
theorem gX9_judge_X2_firstWrong : GoodIn wsX9_judge (wsV RX9 44 RX2 yX2_firstWrong wsX2_firstWrong) := goodIn_app (goodIn_of _ (by decide +kernel)) ggX9_judge_X2_firstWrong
set_option maxRecDepth 20000 in
theorem ggX9_judge_X3_codeOf : GoodIn wsX9_judge wsX3_codeOf := goodIn_c zt_wsX9_judge_in _ [(3, 11), (3, 12), (6, 0), (6, 1), (6, 2), (6, 3), (6, 4), (6, 5)] rfl zw_wsX3_codeOf
set_option maxRecDepth 20000 in
theorem gX9_judge_X3_codeOf : GoodIn wsX9_judge (wsV RX9 65 RX3 yX3_codeOf wsX3_codeOf) := goodIn_app (goodIn_of _ (by decide +kernel)) ggX9_judge_X3_codeOf
set_option maxRecDepth 20000 in
theorem zw_wsX9_firstIdle : wsX9_firstIdle.all goodWord = true := by decide +kernel
set_option maxRecDepth 20000 in
theorem ggX9_judge_X9_firstIdle : GoodIn wsX9_judge wsX9_firstIdle := goodIn_c zt_wsX9_judge_in _ [(3, 16), (1, 0), (3, 17), (3, 18), (3, 19), (1, 18), (3, 20), (3, 21), (1, 20), (2, 5), (2, 6), (2, 7), (2, 8), (2, 9), (2, 10), (2, 11), (2, 12), (2, 13), (2, 18), (2, 19), (2, 20), (2, 21), (2, 22), (2, 23), (3, 0), (3, 1), (3, 2), (3, 22), (3, 23), (2, 16), (4, 0), (3, 3), (3, 4), (3, 5), (3, 6), (4, 1), (4, 2), (4, 3), (4, 4), (4, 5), (4, 6), (4, 7), (4, 8), (4, 9), (4, 10), (4, 11), (4, 12), (4, 13), (4, 14), (4, 15), (4, 16), (4, 17), (4, 18), (4, 19), (4, 20), (4, 21), (4, 22), (5, 0), (5, 1), (5, 2), (5, 3), (5, 4), (7, 0), (7, 1), (7, 2)] rfl zw_wsX9_firstIdle
set_option maxRecDepth 20000 in
theorem gX9_judge_X9_firstIdle : GoodIn wsX9_judge (wsV RX9 88 RX9 yX9_firstIdle wsX9_firstIdle) := goodIn_app (goodIn_of _ (by decide +kernel)) ggX9_judge_X9_firstIdle
theorem zo_dX9_judge_0 : ([(0, .iload_n 1, 1), (1, .invokestatic 48, 3), (4, .ifCond .ne 5, 3), (7, .iconst (-1), 1), (8, .ireturn, 1), (9, .aload_n 0, 1), (10, .iload_n 1, 1), (11, .invokevirtual 62, 3), (14, .ifCond .ne 6, 3), (17, .bipush (-3), 2), (19, .ireturn, 1), (20, .aload_n 0, 1), (21, .getfield 10, 3), (24, .iconst 1, 1), (25, .aload_n 0, 1), (26, .getfield 19, 3)] : List (Nat × Instr × Nat)).all (dOk (decode cX9_judge)) = true := by decide +kernel
theorem dX9_judge_0 : decode cX9_judge 0 = .ok (.iload_n 1, 1) := dcr zo_dX9_judge_0 0 rfl
theorem dX9_judge_1 : decode cX9_judge 1 = .ok (.invokestatic 48, 3) := dcr zo_dX9_judge_0 1 rfl
theorem dX9_judge_4 : decode cX9_judge 4 = .ok (.ifCond .ne 5, 3) := dcr zo_dX9_judge_0 2 rfl
theorem dX9_judge_7 : decode cX9_judge 7 = .ok (.iconst (-1), 1) := dcr zo_dX9_judge_0 3 rfl
theorem dX9_judge_8 : decode cX9_judge 8 = .ok (.ireturn, 1) := dcr zo_dX9_judge_0 4 rfl
theorem dX9_judge_9 : decode cX9_judge 9 = .ok (.aload_n 0, 1) := dcr zo_dX9_judge_0 5 rfl
theorem dX9_judge_10 : decode cX9_judge 10 = .ok (.iload_n 1, 1) := dcr zo_dX9_judge_0 6 rfl
theorem dX9_judge_11 : decode cX9_judge 11 = .ok (.invokevirtual 62, 3) := dcr zo_dX9_judge_0 7 rfl
theorem dX9_judge_14 : decode cX9_judge 14 = .ok (.ifCond .ne 6, 3) := dcr zo_dX9_judge_0 8 rfl
theorem dX9_judge_17 : decode cX9_judge 17 = .ok (.bipush (-3), 2) := dcr zo_dX9_judge_0 9 rfl
theorem dX9_judge_19 : decode cX9_judge 19 = .ok (.ireturn, 1) := dcr zo_dX9_judge_0 10 rfl
theorem dX9_judge_20 : decode cX9_judge 20 = .ok (.aload_n 0, 1) := dcr zo_dX9_judge_0 11 rfl
theorem dX9_judge_21 : decode cX9_judge 21 = .ok (.getfield 10, 3) := dcr zo_dX9_judge_0 12 rfl
theorem dX9_judge_24 : decode cX9_judge 24 = .ok (.iconst 1, 1) := dcr zo_dX9_judge_0 13 rfl
theorem dX9_judge_25 : decode cX9_judge 25 = .ok (.aload_n 0, 1) := dcr zo_dX9_judge_0 14 rfl
theorem dX9_judge_26 : decode cX9_judge 26 = .ok (.getfield 19, 3) := dcr zo_dX9_judge_0 15 rfl
theorem zo_dX9_judge_29 : ([(29, .getfield 27, 3), (32, .invokevirtual 44, 3), (35, .bipush (-6), 2), (37, .if_icmp .eq 6, 3), (40, .bipush (-5), 2), (42, .ireturn, 1), (43, .aload_n 0, 1), (44, .aload_n 0, 1), (45, .getfield 19, 3), (48, .iload_n 1, 1), (49, .invokevirtual 65, 3), (52, .invokevirtual 88, 3), (55, .ireturn, 1)] : List (Nat × Instr × Nat)).all (dOk (decode cX9_judge)) = true := by decide +kernel
theorem dX9_judge_29 : decode cX9_judge 29 = .ok (.getfield 27, 3) := dcr zo_dX9_judge_29 0 rfl
theorem dX9_judge_32 : decode cX9_judge 32 = .ok (.invokevirtual 44, 3) := dcr zo_dX9_judge_29 1 rfl
theorem dX9_judge_35 : decode cX9_judge 35 = .ok (.bipush (-6), 2) := dcr zo_dX9_judge_29 2 rfl
theorem dX9_judge_37 : decode cX9_judge 37 = .ok (.if_icmp .eq 6, 3) := dcr zo_dX9_judge_29 3 rfl
theorem dX9_judge_40 : decode cX9_judge 40 = .ok (.bipush (-5), 2) := dcr zo_dX9_judge_29 4 rfl
theorem dX9_judge_42 : decode cX9_judge 42 = .ok (.ireturn, 1) := dcr zo_dX9_judge_29 5 rfl
theorem dX9_judge_43 : decode cX9_judge 43 = .ok (.aload_n 0, 1) := dcr zo_dX9_judge_29 6 rfl
theorem dX9_judge_44 : decode cX9_judge 44 = .ok (.aload_n 0, 1) := dcr zo_dX9_judge_29 7 rfl
theorem dX9_judge_45 : decode cX9_judge 45 = .ok (.getfield 19, 3) := dcr zo_dX9_judge_29 8 rfl
theorem dX9_judge_48 : decode cX9_judge 48 = .ok (.iload_n 1, 1) := dcr zo_dX9_judge_29 9 rfl
theorem dX9_judge_49 : decode cX9_judge 49 = .ok (.invokevirtual 65, 3) := dcr zo_dX9_judge_29 10 rfl
theorem dX9_judge_52 : decode cX9_judge 52 = .ok (.invokevirtual 88, 3) := dcr zo_dX9_judge_29 11 rfl
theorem dX9_judge_55 : decode cX9_judge 55 = .ok (.ireturn, 1) := dcr zo_dX9_judge_29 12 rfl
def zt_wsX9_copy : List (List Cond) := [[.code yX9_copy cX9_copy 6 (some .int)], wsX9_copy_r1, wsX9_copy_r2, wsX9_copy_r3, wsX9_copy_r4, wsX9_copy_r5, wsX90, wsX30, wsX20]
theorem zt_wsX9_copy_in : ∀ c ∈ zt_wsX9_copy, ∀ w ∈ c, w ∈ wsX9_copy := List.forall_mem_cons.mpr ⟨fun _ h => List.mem_cons.mpr (Or.inl (List.mem_singleton.mp h)), List.forall_mem_cons.mpr ⟨fun _ h => List.mem_cons_of_mem _ (List.mem_append_left _ (List.mem_append_left _ (List.mem_append_left _ (List.mem_append_left _ h)))), List.forall_mem_cons.mpr ⟨fun _ h => List.mem_cons_of_mem _ (List.mem_append_left _ (List.mem_append_left _ (List.mem_append_left _ (List.mem_append_right _ (List.mem_append_left _ h))))), List.forall_mem_cons.mpr ⟨fun _ h => List.mem_cons_of_mem _ (List.mem_append_left _ (List.mem_append_left _ (List.mem_append_left _ (List.mem_append_right _ (List.mem_append_right _ (List.mem_append_left _ h)))))), List.forall_mem_cons.mpr ⟨fun _ h => List.mem_cons_of_mem _ (List.mem_append_left _ (List.mem_append_left _ (List.mem_append_left _ (List.mem_append_right _ (List.mem_append_right _ (List.mem_append_right _ (List.mem_append_left _ h))))))), List.forall_mem_cons.mpr ⟨fun _ h => List.mem_cons_of_mem _ (List.mem_append_left _ (List.mem_append_left _ (List.mem_append_left _ (List.mem_append_right _ (List.mem_append_right _ (List.mem_append_right _ (List.mem_append_right _ (h)))))))), List.forall_mem_cons.mpr ⟨fun _ h => List.mem_cons_of_mem _ (List.mem_append_left _ (List.mem_append_left _ (List.mem_append_right _ h))), List.forall_mem_cons.mpr ⟨fun _ h => List.mem_cons_of_mem _ (List.mem_append_left _ (List.mem_append_right _ h)), List.forall_mem_cons.mpr ⟨fun _ h => List.mem_cons_of_mem _ (List.mem_append_right _ h), (fun _ h => absurd h List.not_mem_nil)⟩⟩⟩⟩⟩⟩⟩⟩⟩
set_option maxRecDepth 20000 in
theorem ggX9_copy_X9_isMap : GoodIn wsX9_copy wsX9_isMap := goodIn_c zt_wsX9_copy_in _ [(1, 7)] rfl zw_wsX9_isMap
set_option maxRecDepth 20000 in
theorem gX9_copy_X9_isMap : GoodIn wsX9_copy (va_wsS RX9 48 yX9_isMap wsX9_isMap) := goodIn_app (goodIn_of _ (by decide +kernel)) ggX9_copy_X9_isMap
set_option maxRecDepth 20000 in
theorem ggX9_copy_X9_isTold : GoodIn wsX9_copy wsX9_isTold := goodIn_c zt_wsX9_copy_in _ [(1, 11), (1, 1), (1, 12), (1, 13), (1, 14), (1, 6), (1, 15), (1, 4), (1, 5), (1, 7), (6, 0), (6, 1), (6, 2), (6, 3), (6, 4), (7, 0), (7, 1), (7, 2), (7, 3), (7, 4), (7, 5)] rfl zw_wsX9_isTold
set_option maxRecDepth 20000 in
theorem gX9_copy_X9_isTold : GoodIn wsX9_copy (wsV RX9 62 RX9 yX9_isTold wsX9_isTold) := goodIn_app (goodIn_of _ (by decide +kernel)) ggX9_copy_X9_isTold
set_option maxRecDepth 20000 in
theorem ggX9_copy_X2_firstWrong : GoodIn wsX9_copy wsX2_firstWrong := goodIn_c zt_wsX9_copy_in _ [(1, 20), (1, 21), (1, 22), (1, 23), (2, 0), (1, 19), (2, 1), (2, 2), (2, 3), (2, 4), (2, 5), (2, 6), (2, 7), (2, 8), (2, 9), (2, 10), (2, 11), (2, 12), (2, 13), (2, 14), (2, 15), (2, 16), (2, 17), (2, 18), (2, 19), (2, 20), (2, 21), (2, 22), (2, 23), (3, 0), (3, 1), (3, 2), (3, 3), (3, 4), (3, 5), (3, 6), (3, 7), (8, 0), (8, 1), (8, 2)] rfl zw_wsX2_firstWrong
set_option maxRecDepth 20000 in
theorem gX9_copy_X2_firstWrong : GoodIn wsX9_copy (wsV RX9 44 RX2 yX2_firstWrong wsX2_firstWrong) := goodIn_app (goodIn_of _ (by decide +kernel)) ggX9_copy_X2_firstWrong
set_option maxRecDepth 20000 in
theorem ggX9_copy_X3_codeOf : GoodIn wsX9_copy wsX3_codeOf := goodIn_c zt_wsX9_copy_in _ [(3, 12), (3, 13), (7, 0), (7, 1), (7, 2), (7, 3), (7, 4), (7, 5)] rfl zw_wsX3_codeOf
set_option maxRecDepth 20000 in
theorem gX9_copy_X3_codeOf : GoodIn wsX9_copy (wsV RX9 65 RX3 yX3_codeOf wsX3_codeOf) := goodIn_app (goodIn_of _ (by decide +kernel)) ggX9_copy_X3_codeOf
set_option maxRecDepth 20000 in
theorem ggX9_copy_X9_firstIdle : GoodIn wsX9_copy wsX9_firstIdle := goodIn_c zt_wsX9_copy_in _ [(3, 17), (1, 0), (3, 18), (3, 19), (3, 20), (1, 19), (3, 21), (3, 22), (1, 21), (2, 6), (2, 7), (2, 8), (2, 9), (2, 10), (2, 11), (2, 12), (2, 13), (2, 14), (2, 19), (2, 20), (2, 21), (2, 22), (2, 23), (3, 0), (3, 1), (3, 2), (3, 3), (3, 23), (4, 0), (2, 17), (4, 1), (3, 4), (3, 5), (3, 6), (3, 7), (4, 2), (4, 3), (4, 4), (4, 5), (4, 6), (4, 7), (4, 8), (4, 9), (4, 10), (4, 11), (4, 12), (4, 13), (4, 14), (4, 15), (4, 16), (4, 17), (4, 18), (4, 19), (4, 20), (4, 21), (4, 22), (4, 23), (6, 0), (6, 1), (6, 2), (6, 3), (6, 4), (8, 0), (8, 1), (8, 2)] rfl zw_wsX9_firstIdle
set_option maxRecDepth 20000 in
theorem gX9_copy_X9_firstIdle : GoodIn wsX9_copy (wsV RX9 88 RX9 yX9_firstIdle wsX9_firstIdle) := goodIn_app (goodIn_of _ (by decide +kernel)) ggX9_copy_X9_firstIdle
set_option maxRecDepth 20000 in
theorem zw_wsX2_readSlips : wsX2_readSlips.all goodWord = true := by decide +kernel
set_option maxRecDepth 20000 in
theorem ggX9_copy_X2_readSlips : GoodIn wsX9_copy wsX2_readSlips := goodIn_c zt_wsX9_copy_in _ [(3, 21), (3, 22), (1, 21), (2, 6), (2, 7), (2, 8), (1, 19), (2, 9), (2, 10), (2, 11), (2, 12), (2, 13), (2, 14), (2, 19), (2, 20), (2, 21), (2, 22), (2, 23), (3, 0), (3, 1), (3, 2), (3, 3), (3, 23), (4, 0), (2, 17), (4, 1), (3, 4), (3, 5), (3, 6), (3, 7), (8, 0), (8, 1), (8, 2)] rfl zw_wsX2_readSlips
set_option maxRecDepth 20000 in
theorem gX9_copy_X2_readSlips : GoodIn wsX9_copy (wsV RX9 91 RX2 yX2_readSlips wsX2_readSlips) := goodIn_app (goodIn_of _ (by decide +kernel)) ggX9_copy_X2_readSlips
set_option maxRecDepth 20000 in
theorem zw_wsX2_slipAt : wsX2_slipAt.all goodWord = true := by decide +kernel
set_option maxRecDepth 20000 in
theorem ggX9_copy_X2_slipAt : GoodIn wsX9_copy wsX2_slipAt := goodIn_c zt_wsX9_copy_in _ [(4, 5), (3, 22), (8, 0), (8, 1), (8, 2)] rfl zw_wsX2_slipAt
set_option maxRecDepth 20000 in
theorem gX9_copy_X2_slipAt : GoodIn wsX9_copy (wsV RX9 94 RX2 yX2_slipAt wsX2_slipAt) := goodIn_app (goodIn_of _ (by decide +kernel)) ggX9_copy_X2_slipAt
set_option maxRecDepth 20000 in
theorem zw_wsX6_after : wsX6_after.all goodWord = true := by decide +kernel
set_option maxRecDepth 20000 in
theorem ggX9_copy_X6_after : GoodIn wsX9_copy wsX6_after := goodIn_c zt_wsX9_copy_in _ [(4, 8), (4, 9), (4, 10), (4, 11), (4, 12), (4, 13), (4, 14), (4, 15), (4, 16), (4, 17), (4, 18), (4, 19), (4, 20), (4, 21), (4, 22), (4, 23)] rfl zw_wsX6_after
set_option maxRecDepth 20000 in
theorem gX9_copy_X6_after : GoodIn wsX9_copy (va_wsS RX9 97 yX6_after wsX6_after) := goodIn_app (goodIn_of _ (by decide +kernel)) ggX9_copy_X6_after
set_option maxRecDepth 20000 in
theorem ggX9_copy_X3_tell : GoodIn wsX9_copy wsX3_tell := goodIn_c zt_wsX9_copy_in _ [(5, 3), (3, 13), (5, 4), (7, 0), (7, 1), (7, 2), (7, 3), (7, 4), (7, 5)] rfl zw_wsX3_tell
set_option maxRecDepth 20000 in
theorem gX9_copy_X3_tell : GoodIn wsX9_copy (wsV RX9 55 RX3 yX3_tell wsX3_tell) := goodIn_app (goodIn_of _ (by decide +kernel)) ggX9_copy_X3_tell
theorem zo_dX9_copy_0 : ([(0, .iload_n 1, 1), (1, .invokestatic 48, 3), (4, .ifCond .eq 10, 3), (7, .iload_n 2, 1), (8, .invokestatic 48, 3), (11, .ifCond .ne 5, 3), (14, .iconst (-1), 1), (15, .ireturn, 1), (16, .aload_n 0, 1), (17, .iload_n 2, 1), (18, .invokevirtual 62, 3), (21, .ifCond .ne 6, 3), (24, .bipush (-3), 2), (26, .ireturn, 1), (27, .aload_n 0, 1), (28, .getfield 10, 3)] : List (Nat × Instr × Nat)).all (dOk (decode cX9_copy)) = true := by decide +kernel
theorem dX9_copy_0 : decode cX9_copy 0 = .ok (.iload_n 1, 1) := dcr zo_dX9_copy_0 0 rfl
theorem dX9_copy_1 : decode cX9_copy 1 = .ok (.invokestatic 48, 3) := dcr zo_dX9_copy_0 1 rfl
theorem dX9_copy_4 : decode cX9_copy 4 = .ok (.ifCond .eq 10, 3) := dcr zo_dX9_copy_0 2 rfl
theorem dX9_copy_7 : decode cX9_copy 7 = .ok (.iload_n 2, 1) := dcr zo_dX9_copy_0 3 rfl
theorem dX9_copy_8 : decode cX9_copy 8 = .ok (.invokestatic 48, 3) := dcr zo_dX9_copy_0 4 rfl
theorem dX9_copy_11 : decode cX9_copy 11 = .ok (.ifCond .ne 5, 3) := dcr zo_dX9_copy_0 5 rfl
theorem dX9_copy_14 : decode cX9_copy 14 = .ok (.iconst (-1), 1) := dcr zo_dX9_copy_0 6 rfl
theorem dX9_copy_15 : decode cX9_copy 15 = .ok (.ireturn, 1) := dcr zo_dX9_copy_0 7 rfl
theorem dX9_copy_16 : decode cX9_copy 16 = .ok (.aload_n 0, 1) := dcr zo_dX9_copy_0 8 rfl
theorem dX9_copy_17 : decode cX9_copy 17 = .ok (.iload_n 2, 1) := dcr zo_dX9_copy_0 9 rfl
theorem dX9_copy_18 : decode cX9_copy 18 = .ok (.invokevirtual 62, 3) := dcr zo_dX9_copy_0 10 rfl
theorem dX9_copy_21 : decode cX9_copy 21 = .ok (.ifCond .ne 6, 3) := dcr zo_dX9_copy_0 11 rfl
theorem dX9_copy_24 : decode cX9_copy 24 = .ok (.bipush (-3), 2) := dcr zo_dX9_copy_0 12 rfl
theorem dX9_copy_26 : decode cX9_copy 26 = .ok (.ireturn, 1) := dcr zo_dX9_copy_0 13 rfl
theorem dX9_copy_27 : decode cX9_copy 27 = .ok (.aload_n 0, 1) := dcr zo_dX9_copy_0 14 rfl
theorem dX9_copy_28 : decode cX9_copy 28 = .ok (.getfield 10, 3) := dcr zo_dX9_copy_0 15 rfl
theorem zo_dX9_copy_31 : ([(31, .iconst 1, 1), (32, .aload_n 0, 1), (33, .getfield 19, 3), (36, .getfield 27, 3), (39, .invokevirtual 44, 3), (42, .bipush (-6), 2), (44, .if_icmp .ne 20, 3), (47, .aload_n 0, 1), (48, .aload_n 0, 1), (49, .getfield 19, 3), (52, .iload_n 2, 1), (53, .invokevirtual 65, 3), (56, .invokevirtual 88, 3), (59, .bipush (-6), 2), (61, .if_icmp .eq 6, 3), (64, .bipush (-5), 2)] : List (Nat × Instr × Nat)).all (dOk (decode cX9_copy)) = true := by decide +kernel
theorem dX9_copy_31 : decode cX9_copy 31 = .ok (.iconst 1, 1) := dcr zo_dX9_copy_31 0 rfl
theorem dX9_copy_32 : decode cX9_copy 32 = .ok (.aload_n 0, 1) := dcr zo_dX9_copy_31 1 rfl
theorem dX9_copy_33 : decode cX9_copy 33 = .ok (.getfield 19, 3) := dcr zo_dX9_copy_31 2 rfl
theorem dX9_copy_36 : decode cX9_copy 36 = .ok (.getfield 27, 3) := dcr zo_dX9_copy_31 3 rfl
theorem dX9_copy_39 : decode cX9_copy 39 = .ok (.invokevirtual 44, 3) := dcr zo_dX9_copy_31 4 rfl
theorem dX9_copy_42 : decode cX9_copy 42 = .ok (.bipush (-6), 2) := dcr zo_dX9_copy_31 5 rfl
theorem dX9_copy_44 : decode cX9_copy 44 = .ok (.if_icmp .ne 20, 3) := dcr zo_dX9_copy_31 6 rfl
theorem dX9_copy_47 : decode cX9_copy 47 = .ok (.aload_n 0, 1) := dcr zo_dX9_copy_31 7 rfl
theorem dX9_copy_48 : decode cX9_copy 48 = .ok (.aload_n 0, 1) := dcr zo_dX9_copy_31 8 rfl
theorem dX9_copy_49 : decode cX9_copy 49 = .ok (.getfield 19, 3) := dcr zo_dX9_copy_31 9 rfl
theorem dX9_copy_52 : decode cX9_copy 52 = .ok (.iload_n 2, 1) := dcr zo_dX9_copy_31 10 rfl
theorem dX9_copy_53 : decode cX9_copy 53 = .ok (.invokevirtual 65, 3) := dcr zo_dX9_copy_31 11 rfl
theorem dX9_copy_56 : decode cX9_copy 56 = .ok (.invokevirtual 88, 3) := dcr zo_dX9_copy_31 12 rfl
theorem dX9_copy_59 : decode cX9_copy 59 = .ok (.bipush (-6), 2) := dcr zo_dX9_copy_31 13 rfl
theorem dX9_copy_61 : decode cX9_copy 61 = .ok (.if_icmp .eq 6, 3) := dcr zo_dX9_copy_31 14 rfl
theorem dX9_copy_64 : decode cX9_copy 64 = .ok (.bipush (-5), 2) := dcr zo_dX9_copy_31 15 rfl
theorem zo_dX9_copy_66 : ([(66, .ireturn, 1), (67, .aload_n 0, 1), (68, .getfield 19, 3), (71, .iload_n 2, 1), (72, .invokevirtual 65, 3), (75, .istore_n 3, 1), (76, .aload_n 0, 1), (77, .getfield 10, 3), (80, .invokevirtual 91, 3), (83, .istore 4, 2), (85, .iconst 0, 1), (86, .istore 5, 2), (88, .iload 5, 2), (90, .iload 4, 2), (92, .if_icmp .ge 23, 3), (95, .iload_n 3, 1)] : List (Nat × Instr × Nat)).all (dOk (decode cX9_copy)) = true := by decide +kernel
theorem dX9_copy_66 : decode cX9_copy 66 = .ok (.ireturn, 1) := dcr zo_dX9_copy_66 0 rfl
theorem dX9_copy_67 : decode cX9_copy 67 = .ok (.aload_n 0, 1) := dcr zo_dX9_copy_66 1 rfl
theorem dX9_copy_68 : decode cX9_copy 68 = .ok (.getfield 19, 3) := dcr zo_dX9_copy_66 2 rfl
theorem dX9_copy_71 : decode cX9_copy 71 = .ok (.iload_n 2, 1) := dcr zo_dX9_copy_66 3 rfl
theorem dX9_copy_72 : decode cX9_copy 72 = .ok (.invokevirtual 65, 3) := dcr zo_dX9_copy_66 4 rfl
theorem dX9_copy_75 : decode cX9_copy 75 = .ok (.istore_n 3, 1) := dcr zo_dX9_copy_66 5 rfl
theorem dX9_copy_76 : decode cX9_copy 76 = .ok (.aload_n 0, 1) := dcr zo_dX9_copy_66 6 rfl
theorem dX9_copy_77 : decode cX9_copy 77 = .ok (.getfield 10, 3) := dcr zo_dX9_copy_66 7 rfl
theorem dX9_copy_80 : decode cX9_copy 80 = .ok (.invokevirtual 91, 3) := dcr zo_dX9_copy_66 8 rfl
theorem dX9_copy_83 : decode cX9_copy 83 = .ok (.istore 4, 2) := dcr zo_dX9_copy_66 9 rfl
theorem dX9_copy_85 : decode cX9_copy 85 = .ok (.iconst 0, 1) := dcr zo_dX9_copy_66 10 rfl
theorem dX9_copy_86 : decode cX9_copy 86 = .ok (.istore 5, 2) := dcr zo_dX9_copy_66 11 rfl
theorem dX9_copy_88 : decode cX9_copy 88 = .ok (.iload 5, 2) := dcr zo_dX9_copy_66 12 rfl
theorem dX9_copy_90 : decode cX9_copy 90 = .ok (.iload 4, 2) := dcr zo_dX9_copy_66 13 rfl
theorem dX9_copy_92 : decode cX9_copy 92 = .ok (.if_icmp .ge 23, 3) := dcr zo_dX9_copy_66 14 rfl
theorem dX9_copy_95 : decode cX9_copy 95 = .ok (.iload_n 3, 1) := dcr zo_dX9_copy_66 15 rfl
theorem zo_dX9_copy_96 : ([(96, .aload_n 0, 1), (97, .getfield 10, 3), (100, .iload 5, 2), (102, .invokevirtual 94, 3), (105, .invokestatic 97, 3), (108, .istore_n 3, 1), (109, .iinc 5 1, 3), (112, .goto (-24), 3), (115, .aload_n 0, 1), (116, .getfield 19, 3), (119, .iload_n 1, 1), (120, .iload_n 3, 1), (121, .invokevirtual 55, 3), (124, .aload_n 0, 1), (125, .getfield 10, 3), (128, .iconst 0, 1)] : List (Nat × Instr × Nat)).all (dOk (decode cX9_copy)) = true := by decide +kernel
theorem dX9_copy_96 : decode cX9_copy 96 = .ok (.aload_n 0, 1) := dcr zo_dX9_copy_96 0 rfl
theorem dX9_copy_97 : decode cX9_copy 97 = .ok (.getfield 10, 3) := dcr zo_dX9_copy_96 1 rfl
theorem dX9_copy_100 : decode cX9_copy 100 = .ok (.iload 5, 2) := dcr zo_dX9_copy_96 2 rfl
theorem dX9_copy_102 : decode cX9_copy 102 = .ok (.invokevirtual 94, 3) := dcr zo_dX9_copy_96 3 rfl
theorem dX9_copy_105 : decode cX9_copy 105 = .ok (.invokestatic 97, 3) := dcr zo_dX9_copy_96 4 rfl
theorem dX9_copy_108 : decode cX9_copy 108 = .ok (.istore_n 3, 1) := dcr zo_dX9_copy_96 5 rfl
theorem dX9_copy_109 : decode cX9_copy 109 = .ok (.iinc 5 1, 3) := dcr zo_dX9_copy_96 6 rfl
theorem dX9_copy_112 : decode cX9_copy 112 = .ok (.goto (-24), 3) := dcr zo_dX9_copy_96 7 rfl
theorem dX9_copy_115 : decode cX9_copy 115 = .ok (.aload_n 0, 1) := dcr zo_dX9_copy_96 8 rfl
theorem dX9_copy_116 : decode cX9_copy 116 = .ok (.getfield 19, 3) := dcr zo_dX9_copy_96 9 rfl
theorem dX9_copy_119 : decode cX9_copy 119 = .ok (.iload_n 1, 1) := dcr zo_dX9_copy_96 10 rfl
theorem dX9_copy_120 : decode cX9_copy 120 = .ok (.iload_n 3, 1) := dcr zo_dX9_copy_96 11 rfl
theorem dX9_copy_121 : decode cX9_copy 121 = .ok (.invokevirtual 55, 3) := dcr zo_dX9_copy_96 12 rfl
theorem dX9_copy_124 : decode cX9_copy 124 = .ok (.aload_n 0, 1) := dcr zo_dX9_copy_96 13 rfl
theorem dX9_copy_125 : decode cX9_copy 125 = .ok (.getfield 10, 3) := dcr zo_dX9_copy_96 14 rfl
theorem dX9_copy_128 : decode cX9_copy 128 = .ok (.iconst 0, 1) := dcr zo_dX9_copy_96 15 rfl
theorem zo_dX9_copy_129 : ([(129, .putfield 41, 3), (132, .iload 4, 2), (134, .ireturn, 1)] : List (Nat × Instr × Nat)).all (dOk (decode cX9_copy)) = true := by decide +kernel
theorem dX9_copy_129 : decode cX9_copy 129 = .ok (.putfield 41, 3) := dcr zo_dX9_copy_129 0 rfl
theorem dX9_copy_132 : decode cX9_copy 132 = .ok (.iload 4, 2) := dcr zo_dX9_copy_129 1 rfl
theorem dX9_copy_134 : decode cX9_copy 134 = .ok (.ireturn, 1) := dcr zo_dX9_copy_129 2 rfl
def zt_wsX9_far : List (List Cond) := [[.code yX9_far cX9_far 5 (some .int)], wsX9_far_r1, wsX9_far_r2, wsX9_far_r3, wsX9_far_r4, wsX9_far_r5, wsX9_far_r6, wsX9_far_r7, wsX90, wsX30, wsX40, wsX70]
theorem zt_wsX9_far_in : ∀ c ∈ zt_wsX9_far, ∀ w ∈ c, w ∈ wsX9_far := List.forall_mem_cons.mpr ⟨fun _ h => List.mem_cons.mpr (Or.inl (List.mem_singleton.mp h)), List.forall_mem_cons.mpr ⟨fun _ h => List.mem_cons_of_mem _ (List.mem_append_left _ (List.mem_append_left _ (List.mem_append_left _ (List.mem_append_left _ (List.mem_append_left _ h))))), List.forall_mem_cons.mpr ⟨fun _ h => List.mem_cons_of_mem _ (List.mem_append_left _ (List.mem_append_left _ (List.mem_append_left _ (List.mem_append_left _ (List.mem_append_right _ (List.mem_append_left _ h)))))), List.forall_mem_cons.mpr ⟨fun _ h => List.mem_cons_of_mem _ (List.mem_append_left _ (List.mem_append_left _ (List.mem_append_left _ (List.mem_append_left _ (List.mem_append_right _ (List.mem_append_right _ (List.mem_append_left _ h))))))), List.forall_mem_cons.mpr ⟨fun _ h => List.mem_cons_of_mem _ (List.mem_append_left _ (List.mem_append_left _ (List.mem_append_left _ (List.mem_append_left _ (List.mem_append_right _ (List.mem_append_right _ (List.mem_append_right _ (List.mem_append_left _ h)))))))), List.forall_mem_cons.mpr ⟨fun _ h => List.mem_cons_of_mem _ (List.mem_append_left _ (List.mem_append_left _ (List.mem_append_left _ (List.mem_append_left _ (List.mem_append_right _ (List.mem_append_right _ (List.mem_append_right _ (List.mem_append_right _ (List.mem_append_left _ h))))))))), List.forall_mem_cons.mpr ⟨fun _ h => List.mem_cons_of_mem _ (List.mem_append_left _ (List.mem_append_left _ (List.mem_append_left _ (List.mem_append_left _ (List.mem_append_right _ (List.mem_append_right _ (List.mem_append_right _ (List.mem_append_right _ (List.mem_append_right _ (List.mem_append_left _ h)))))))))), List.forall_mem_cons.mpr ⟨fun _ h => List.mem_cons_of_mem _ (List.mem_append_left _ (List.mem_append_left _ (List.mem_append_left _ (List.mem_append_left _ (List.mem_append_right _ (List.mem_append_right _ (List.mem_append_right _ (List.mem_append_right _ (List.mem_append_right _ (List.mem_append_right _ (h))))))))))), List.forall_mem_cons.mpr ⟨fun _ h => List.mem_cons_of_mem _ (List.mem_append_left _ (List.mem_append_left _ (List.mem_append_left _ (List.mem_append_right _ h)))), List.forall_mem_cons.mpr ⟨fun _ h => List.mem_cons_of_mem _ (List.mem_append_left _ (List.mem_append_left _ (List.mem_append_right _ h))), List.forall_mem_cons.mpr ⟨fun _ h => List.mem_cons_of_mem _ (List.mem_append_left _ (List.mem_append_right _ h)), List.forall_mem_cons.mpr ⟨fun _ h => List.mem_cons_of_mem _ (List.mem_append_right _ h), (fun _ h => absurd h List.not_mem_nil)⟩⟩⟩⟩⟩⟩⟩⟩⟩⟩⟩⟩
set_option maxRecDepth 20000 in
theorem ggX9_far_X9_isMap : GoodIn wsX9_far wsX9_isMap := goodIn_c zt_wsX9_far_in _ [(1, 4)] rfl zw_wsX9_isMap
set_option maxRecDepth 20000 in
theorem gX9_far_X9_isMap : GoodIn wsX9_far (va_wsS RX9 48 yX9_isMap wsX9_isMap) := goodIn_app (goodIn_of _ (by decide +kernel)) ggX9_far_X9_isMap
set_option maxRecDepth 20000 in
theorem ggX9_far_X9_isHand : GoodIn wsX9_far wsX9_isHand := goodIn_c zt_wsX9_far_in _ [(1, 7)] rfl zw_wsX9_isHand
set_option maxRecDepth 20000 in
theorem gX9_far_X9_isHand : GoodIn wsX9_far (va_wsS RX9 79 yX9_isHand wsX9_isHand) := goodIn_app (goodIn_of _ (by decide +kernel)) ggX9_far_X9_isHand
set_option maxRecDepth 20000 in
theorem ggX9_far_X9_isTold : GoodIn wsX9_far wsX9_isTold := goodIn_c zt_wsX9_far_in _ [(1, 11), (1, 0), (1, 12), (1, 13), (1, 14), (1, 3), (1, 15), (1, 1), (1, 2), (1, 4), (8, 0), (8, 1), (8, 2), (8, 3), (8, 4), (9, 0), (9, 1), (9, 2), (9, 3), (9, 4), (9, 5)] rfl zw_wsX9_isTold
set_option maxRecDepth 20000 in
theorem gX9_far_X9_isTold : GoodIn wsX9_far (wsV RX9 62 RX9 yX9_isTold wsX9_isTold) := goodIn_app (goodIn_of _ (by decide +kernel)) ggX9_far_X9_isTold
set_option maxRecDepth 20000 in
theorem zw_wsX9_tableOf : wsX9_tableOf.all goodWord = true := by decide +kernel
set_option maxRecDepth 20000 in
theorem ggX9_far_X9_tableOf : GoodIn wsX9_far wsX9_tableOf := goodIn_c zt_wsX9_far_in _ [(1, 19), (1, 0), (1, 20), (1, 21), (1, 22), (1, 23), (2, 0), (2, 1), (2, 2), (2, 3), (2, 4), (2, 5), (2, 6), (2, 7), (2, 8), (2, 9), (2, 10), (2, 11), (2, 12), (2, 13), (2, 14), (2, 15), (2, 16), (2, 17), (2, 18), (2, 19), (2, 20), (2, 21), (2, 22), (2, 23), (1, 3), (3, 0), (3, 1), (3, 2), (3, 3), (3, 4), (3, 5), (3, 6), (3, 7), (3, 8), (3, 9), (3, 10), (3, 11), (3, 12), (3, 13), (3, 14), (3, 15), (3, 16), (3, 17), (3, 18), (3, 19), (3, 20), (3, 21), (3, 22), (3, 23), (4, 0), (4, 1), (4, 2), (4, 3), (4, 4), (4, 5), (4, 6), (4, 7), (4, 8), (4, 9), (4, 10), (4, 11), (4, 12), (4, 13), (4, 14), (4, 15), (4, 16), (4, 17), (4, 18), (4, 19), (4, 20), (4, 21), (4, 22), (4, 23), (5, 0), (5, 1), (5, 2), (5, 3), (5, 4), (5, 5), (5, 6), (5, 7), (5, 8), (5, 9), (5, 10), (5, 11), (5, 12), (5, 13), (5, 14), (5, 15), (5, 16), (8, 0), (8, 1), (8, 2), (8, 3), (8, 4), (9, 0), (9, 1), (9, 2), (9, 3), (9, 4), (9, 5), (10, 0), (10, 1), (10, 2), (11, 0), (11, 1), (11, 2), (11, 3), (11, 4), (11, 5), (11, 6)] rfl zw_wsX9_tableOf
set_option maxRecDepth 20000 in
theorem gX9_far_X9_tableOf : GoodIn wsX9_far (wsV RX9 102 RX9 yX9_tableOf wsX9_tableOf) := goodIn_app (goodIn_of _ (by decide +kernel)) ggX9_far_X9_tableOf
set_option maxRecDepth 20000 in
theorem ggX9_far_X3_codeOf : GoodIn wsX9_far wsX3_codeOf := goodIn_c zt_wsX9_far_in _ [(2, 1), (2, 2), (9, 0), (9, 1), (9, 2), (9, 3), (9, 4), (9, 5)] rfl zw_wsX3_codeOf
set_option maxRecDepth 20000 in
theorem gX9_far_X3_codeOf : GoodIn wsX9_far (wsV RX9 65 RX3 yX3_codeOf wsX3_codeOf) := goodIn_app (goodIn_of _ (by decide +kernel)) ggX9_far_X3_codeOf
set_option maxRecDepth 20000 in
theorem zw_wsX9_rowAnswer : wsX9_rowAnswer.all goodWord = true := by decide +kernel
set_option maxRecDepth 20000 in
theorem ggX9_far_X9_rowAnswer : GoodIn wsX9_far wsX9_rowAnswer := goodIn_c zt_wsX9_far_in _ [(5, 20), (1, 0), (5, 21), (5, 22), (5, 23), (4, 2), (6, 0), (6, 1), (6, 2), (6, 3), (6, 4), (4, 6), (4, 23), (5, 0), (4, 18), (6, 5), (6, 6), (2, 9), (6, 7), (2, 11), (2, 12), (2, 13), (2, 14), (6, 8), (6, 9), (6, 10), (6, 11), (4, 17), (6, 12), (6, 13), (6, 14), (6, 15), (4, 5), (5, 16), (6, 16), (2, 16), (2, 17), (6, 17), (6, 18), (6, 19), (6, 20), (5, 9), (5, 10), (5, 11), (5, 12), (3, 14), (3, 15), (3, 16), (2, 0), (3, 17), (3, 18), (6, 21), (6, 22), (6, 23), (1, 3), (7, 0), (1, 20), (7, 1), (7, 2), (7, 3), (7, 4), (7, 5), (7, 6), (7, 7), (7, 8), (7, 9), (7, 10), (7, 11), (7, 12), (7, 13), (7, 14), (7, 15), (7, 16), (2, 8), (2, 10), (2, 15), (7, 17), (7, 18), (7, 19), (7, 20), (8, 0), (8, 1), (8, 2), (8, 3), (8, 4), (11, 0), (11, 1), (11, 2), (11, 3), (11, 4), (11, 5), (11, 6), (9, 0), (9, 1), (9, 2), (9, 3), (9, 4), (9, 5)] rfl zw_wsX9_rowAnswer
set_option maxRecDepth 20000 in
theorem gX9_far_X9_rowAnswer : GoodIn wsX9_far (wsV RX9 106 RX9 yX9_rowAnswer wsX9_rowAnswer) := goodIn_app (goodIn_of _ (by decide +kernel)) ggX9_far_X9_rowAnswer
theorem zo_dX9_far_0 : ([(0, .iload_n 1, 1), (1, .invokestatic 48, 3), (4, .ifCond .eq 17, 3), (7, .iload_n 2, 1), (8, .invokestatic 48, 3), (11, .ifCond .eq 10, 3), (14, .iload_n 3, 1), (15, .invokestatic 79, 3), (18, .ifCond .ne 5, 3), (21, .iconst (-1), 1), (22, .ireturn, 1), (23, .aload_n 0, 1), (24, .iload_n 1, 1), (25, .invokevirtual 62, 3), (28, .ifCond .eq 11, 3), (31, .aload_n 0, 1)] : List (Nat × Instr × Nat)).all (dOk (decode cX9_far)) = true := by decide +kernel
theorem dX9_far_0 : decode cX9_far 0 = .ok (.iload_n 1, 1) := dcr zo_dX9_far_0 0 rfl
theorem dX9_far_1 : decode cX9_far 1 = .ok (.invokestatic 48, 3) := dcr zo_dX9_far_0 1 rfl
theorem dX9_far_4 : decode cX9_far 4 = .ok (.ifCond .eq 17, 3) := dcr zo_dX9_far_0 2 rfl
theorem dX9_far_7 : decode cX9_far 7 = .ok (.iload_n 2, 1) := dcr zo_dX9_far_0 3 rfl
theorem dX9_far_8 : decode cX9_far 8 = .ok (.invokestatic 48, 3) := dcr zo_dX9_far_0 4 rfl
theorem dX9_far_11 : decode cX9_far 11 = .ok (.ifCond .eq 10, 3) := dcr zo_dX9_far_0 5 rfl
theorem dX9_far_14 : decode cX9_far 14 = .ok (.iload_n 3, 1) := dcr zo_dX9_far_0 6 rfl
theorem dX9_far_15 : decode cX9_far 15 = .ok (.invokestatic 79, 3) := dcr zo_dX9_far_0 7 rfl
theorem dX9_far_18 : decode cX9_far 18 = .ok (.ifCond .ne 5, 3) := dcr zo_dX9_far_0 8 rfl
theorem dX9_far_21 : decode cX9_far 21 = .ok (.iconst (-1), 1) := dcr zo_dX9_far_0 9 rfl
theorem dX9_far_22 : decode cX9_far 22 = .ok (.ireturn, 1) := dcr zo_dX9_far_0 10 rfl
theorem dX9_far_23 : decode cX9_far 23 = .ok (.aload_n 0, 1) := dcr zo_dX9_far_0 11 rfl
theorem dX9_far_24 : decode cX9_far 24 = .ok (.iload_n 1, 1) := dcr zo_dX9_far_0 12 rfl
theorem dX9_far_25 : decode cX9_far 25 = .ok (.invokevirtual 62, 3) := dcr zo_dX9_far_0 13 rfl
theorem dX9_far_28 : decode cX9_far 28 = .ok (.ifCond .eq 11, 3) := dcr zo_dX9_far_0 14 rfl
theorem dX9_far_31 : decode cX9_far 31 = .ok (.aload_n 0, 1) := dcr zo_dX9_far_0 15 rfl
theorem zo_dX9_far_32 : ([(32, .iload_n 2, 1), (33, .invokevirtual 62, 3), (36, .ifCond .ne 6, 3), (39, .bipush (-3), 2), (41, .ireturn, 1), (42, .aload_n 0, 1), (43, .aload_n 0, 1), (44, .iload_n 2, 1), (45, .iload_n 3, 1), (46, .invokevirtual 102, 3), (49, .aload_n 0, 1), (50, .getfield 19, 3), (53, .iload_n 1, 1), (54, .invokevirtual 65, 3), (57, .iload_n 3, 1), (58, .iload 4, 2)] : List (Nat × Instr × Nat)).all (dOk (decode cX9_far)) = true := by decide +kernel
theorem dX9_far_32 : decode cX9_far 32 = .ok (.iload_n 2, 1) := dcr zo_dX9_far_32 0 rfl
theorem dX9_far_33 : decode cX9_far 33 = .ok (.invokevirtual 62, 3) := dcr zo_dX9_far_32 1 rfl
theorem dX9_far_36 : decode cX9_far 36 = .ok (.ifCond .ne 6, 3) := dcr zo_dX9_far_32 2 rfl
theorem dX9_far_39 : decode cX9_far 39 = .ok (.bipush (-3), 2) := dcr zo_dX9_far_32 3 rfl
theorem dX9_far_41 : decode cX9_far 41 = .ok (.ireturn, 1) := dcr zo_dX9_far_32 4 rfl
theorem dX9_far_42 : decode cX9_far 42 = .ok (.aload_n 0, 1) := dcr zo_dX9_far_32 5 rfl
theorem dX9_far_43 : decode cX9_far 43 = .ok (.aload_n 0, 1) := dcr zo_dX9_far_32 6 rfl
theorem dX9_far_44 : decode cX9_far 44 = .ok (.iload_n 2, 1) := dcr zo_dX9_far_32 7 rfl
theorem dX9_far_45 : decode cX9_far 45 = .ok (.iload_n 3, 1) := dcr zo_dX9_far_32 8 rfl
theorem dX9_far_46 : decode cX9_far 46 = .ok (.invokevirtual 102, 3) := dcr zo_dX9_far_32 9 rfl
theorem dX9_far_49 : decode cX9_far 49 = .ok (.aload_n 0, 1) := dcr zo_dX9_far_32 10 rfl
theorem dX9_far_50 : decode cX9_far 50 = .ok (.getfield 19, 3) := dcr zo_dX9_far_32 11 rfl
theorem dX9_far_53 : decode cX9_far 53 = .ok (.iload_n 1, 1) := dcr zo_dX9_far_32 12 rfl
theorem dX9_far_54 : decode cX9_far 54 = .ok (.invokevirtual 65, 3) := dcr zo_dX9_far_32 13 rfl
theorem dX9_far_57 : decode cX9_far 57 = .ok (.iload_n 3, 1) := dcr zo_dX9_far_32 14 rfl
theorem dX9_far_58 : decode cX9_far 58 = .ok (.iload 4, 2) := dcr zo_dX9_far_32 15 rfl
theorem zo_dX9_far_60 : ([(60, .invokevirtual 106, 3), (63, .ireturn, 1)] : List (Nat × Instr × Nat)).all (dOk (decode cX9_far)) = true := by decide +kernel
theorem dX9_far_60 : decode cX9_far 60 = .ok (.invokevirtual 106, 3) := dcr zo_dX9_far_60 0 rfl
theorem dX9_far_63 : decode cX9_far 63 = .ok (.ireturn, 1) := dcr zo_dX9_far_60 1 rfl
def zt_wsX9_who : List (List Cond) := [[.code yX9_who cX9_who 7 (some .int)], wsX9_who_r1, wsX9_who_r2, wsX9_who_r3, wsX9_who_r4, wsX9_who_r5, wsX9_who_r6, wsX90, wsX30, wsX40, wsX70]
theorem zt_wsX9_who_in : ∀ c ∈ zt_wsX9_who, ∀ w ∈ c, w ∈ wsX9_who := List.forall_mem_cons.mpr ⟨fun _ h => List.mem_cons.mpr (Or.inl (List.mem_singleton.mp h)), List.forall_mem_cons.mpr ⟨fun _ h => List.mem_cons_of_mem _ (List.mem_append_left _ (List.mem_append_left _ (List.mem_append_left _ (List.mem_append_left _ (List.mem_append_left _ h))))), List.forall_mem_cons.mpr ⟨fun _ h => List.mem_cons_of_mem _ (List.mem_append_left _ (List.mem_append_left _ (List.mem_append_left _ (List.mem_append_left _ (List.mem_append_right _ (List.mem_append_left _ h)))))), List.forall_mem_cons.mpr ⟨fun _ h => List.mem_cons_of_mem _ (List.mem_append_left _ (List.mem_append_left _ (List.mem_append_left _ (List.mem_append_left _ (List.mem_append_right _ (List.mem_append_right _ (List.mem_append_left _ h))))))), List.forall_mem_cons.mpr ⟨fun _ h => List.mem_cons_of_mem _ (List.mem_append_left _ (List.mem_append_left _ (List.mem_append_left _ (List.mem_append_left _ (List.mem_append_right _ (List.mem_append_right _ (List.mem_append_right _ (List.mem_append_left _ h)))))))), List.forall_mem_cons.mpr ⟨fun _ h => List.mem_cons_of_mem _ (List.mem_append_left _ (List.mem_append_left _ (List.mem_append_left _ (List.mem_append_left _ (List.mem_append_right _ (List.mem_append_right _ (List.mem_append_right _ (List.mem_append_right _ (List.mem_append_left _ h))))))))), List.forall_mem_cons.mpr ⟨fun _ h => List.mem_cons_of_mem _ (List.mem_append_left _ (List.mem_append_left _ (List.mem_append_left _ (List.mem_append_left _ (List.mem_append_right _ (List.mem_append_right _ (List.mem_append_right _ (List.mem_append_right _ (List.mem_append_right _ (h)))))))))), List.forall_mem_cons.mpr ⟨fun _ h => List.mem_cons_of_mem _ (List.mem_append_left _ (List.mem_append_left _ (List.mem_append_left _ (List.mem_append_right _ h)))), List.forall_mem_cons.mpr ⟨fun _ h => List.mem_cons_of_mem _ (List.mem_append_left _ (List.mem_append_left _ (List.mem_append_right _ h))), List.forall_mem_cons.mpr ⟨fun _ h => List.mem_cons_of_mem _ (List.mem_append_left _ (List.mem_append_right _ h)), List.forall_mem_cons.mpr ⟨fun _ h => List.mem_cons_of_mem _ (List.mem_append_right _ h), (fun _ h => absurd h List.not_mem_nil)⟩⟩⟩⟩⟩⟩⟩⟩⟩⟩⟩
set_option maxRecDepth 20000 in
theorem ggX9_who_X9_isMap : GoodIn wsX9_who wsX9_isMap := goodIn_c zt_wsX9_who_in _ [(1, 4)] rfl zw_wsX9_isMap
set_option maxRecDepth 20000 in
theorem gX9_who_X9_isMap : GoodIn wsX9_who (va_wsS RX9 48 yX9_isMap wsX9_isMap) := goodIn_app (goodIn_of _ (by decide +kernel)) ggX9_who_X9_isMap
set_option maxRecDepth 20000 in
theorem ggX9_who_X9_isTold : GoodIn wsX9_who wsX9_isTold := goodIn_c zt_wsX9_who_in _ [(1, 8), (1, 0), (1, 9), (1, 10), (1, 11), (1, 3), (1, 12), (1, 1), (1, 2), (1, 4), (7, 0), (7, 1), (7, 2), (7, 3), (7, 4), (8, 0), (8, 1), (8, 2), (8, 3), (8, 4), (8, 5)] rfl zw_wsX9_isTold
set_option maxRecDepth 20000 in
theorem gX9_who_X9_isTold : GoodIn wsX9_who (wsV RX9 62 RX9 yX9_isTold wsX9_isTold) := goodIn_app (goodIn_of _ (by decide +kernel)) ggX9_who_X9_isTold
set_option maxRecDepth 20000 in
theorem ggX9_who_X9_tableOf : GoodIn wsX9_who wsX9_tableOf := goodIn_c zt_wsX9_who_in _ [(1, 16), (1, 0), (1, 17), (1, 18), (1, 19), (1, 20), (1, 21), (1, 22), (1, 23), (2, 0), (2, 1), (2, 2), (2, 3), (2, 4), (2, 5), (2, 6), (2, 7), (2, 8), (2, 9), (2, 10), (2, 11), (2, 12), (2, 13), (2, 14), (2, 15), (2, 16), (2, 17), (2, 18), (2, 19), (2, 20), (1, 3), (2, 21), (2, 22), (2, 23), (3, 0), (3, 1), (3, 2), (3, 3), (3, 4), (3, 5), (3, 6), (3, 7), (3, 8), (3, 9), (3, 10), (3, 11), (3, 12), (3, 13), (3, 14), (3, 15), (3, 16), (3, 17), (3, 18), (3, 19), (3, 20), (3, 21), (3, 22), (3, 23), (4, 0), (4, 1), (4, 2), (4, 3), (4, 4), (4, 5), (4, 6), (4, 7), (4, 8), (4, 9), (4, 10), (4, 11), (4, 12), (4, 13), (4, 14), (4, 15), (4, 16), (4, 17), (4, 18), (4, 19), (4, 20), (4, 21), (4, 22), (4, 23), (5, 0), (5, 1), (5, 2), (5, 3), (5, 4), (5, 5), (5, 6), (5, 7), (5, 8), (5, 9), (5, 10), (5, 11), (5, 12), (5, 13), (7, 0), (7, 1), (7, 2), (7, 3), (7, 4), (8, 0), (8, 1), (8, 2), (8, 3), (8, 4), (8, 5), (9, 0), (9, 1), (9, 2), (10, 0), (10, 1), (10, 2), (10, 3), (10, 4), (10, 5), (10, 6)] rfl zw_wsX9_tableOf
set_option maxRecDepth 20000 in
theorem gX9_who_X9_tableOf : GoodIn wsX9_who (wsV RX9 102 RX9 yX9_tableOf wsX9_tableOf) := goodIn_app (goodIn_of _ (by decide +kernel)) ggX9_who_X9_tableOf
set_option maxRecDepth 20000 in
theorem ggX9_who_X3_codeOf : GoodIn wsX9_who wsX3_codeOf := goodIn_c zt_wsX9_who_in _ [(1, 22), (1, 23), (8, 0), (8, 1), (8, 2), (8, 3), (8, 4), (8, 5)] rfl zw_wsX3_codeOf
set_option maxRecDepth 20000 in
theorem gX9_who_X3_codeOf : GoodIn wsX9_who (wsV RX9 65 RX3 yX3_codeOf wsX3_codeOf) := goodIn_app (goodIn_of _ (by decide +kernel)) ggX9_who_X3_codeOf
set_option maxRecDepth 20000 in
theorem zw_wsX7_slipsFrom : wsX7_slipsFrom.all goodWord = true := by decide +kernel
set_option maxRecDepth 20000 in
theorem ggX9_who_X7_slipsFrom : GoodIn wsX9_who wsX7_slipsFrom := goodIn_c zt_wsX9_who_in _ [(5, 17), (5, 18), (5, 19), (5, 20), (3, 23), (5, 21), (4, 3), (4, 20), (4, 21), (4, 15), (5, 22), (5, 23), (2, 6), (6, 0), (2, 8), (2, 9), (2, 10), (2, 11), (6, 1), (6, 2), (6, 3), (6, 4), (4, 14), (6, 5), (6, 6), (6, 7), (6, 8), (4, 2), (5, 13), (6, 9), (2, 13), (2, 14), (6, 10), (6, 11), (6, 12), (6, 13), (5, 6), (5, 7), (5, 8), (5, 9), (10, 0), (10, 1), (10, 2), (10, 3), (10, 4), (10, 5), (10, 6)] rfl zw_wsX7_slipsFrom
set_option maxRecDepth 20000 in
theorem gX9_who_X7_slipsFrom : GoodIn wsX9_who (wsV RX9 110 RX7 yX7_slipsFrom wsX7_slipsFrom) := goodIn_app (goodIn_of _ (by decide +kernel)) ggX9_who_X7_slipsFrom
theorem zo_dX9_who_0 : ([(0, .iload_n 1, 1), (1, .invokestatic 48, 3), (4, .ifCond .eq 10, 3), (7, .iload_n 2, 1), (8, .invokestatic 48, 3), (11, .ifCond .ne 5, 3), (14, .iconst (-1), 1), (15, .ireturn, 1), (16, .iload_n 3, 1), (17, .ifCond .lt 9, 3), (20, .iload_n 3, 1), (21, .bipush 30, 2), (23, .if_icmp .le 6, 3), (26, .bipush (-2), 2), (28, .ireturn, 1), (29, .aload_n 0, 1)] : List (Nat × Instr × Nat)).all (dOk (decode cX9_who)) = true := by decide +kernel
theorem dX9_who_0 : decode cX9_who 0 = .ok (.iload_n 1, 1) := dcr zo_dX9_who_0 0 rfl
theorem dX9_who_1 : decode cX9_who 1 = .ok (.invokestatic 48, 3) := dcr zo_dX9_who_0 1 rfl
theorem dX9_who_4 : decode cX9_who 4 = .ok (.ifCond .eq 10, 3) := dcr zo_dX9_who_0 2 rfl
theorem dX9_who_7 : decode cX9_who 7 = .ok (.iload_n 2, 1) := dcr zo_dX9_who_0 3 rfl
theorem dX9_who_8 : decode cX9_who 8 = .ok (.invokestatic 48, 3) := dcr zo_dX9_who_0 4 rfl
theorem dX9_who_11 : decode cX9_who 11 = .ok (.ifCond .ne 5, 3) := dcr zo_dX9_who_0 5 rfl
theorem dX9_who_14 : decode cX9_who 14 = .ok (.iconst (-1), 1) := dcr zo_dX9_who_0 6 rfl
theorem dX9_who_15 : decode cX9_who 15 = .ok (.ireturn, 1) := dcr zo_dX9_who_0 7 rfl
theorem dX9_who_16 : decode cX9_who 16 = .ok (.iload_n 3, 1) := dcr zo_dX9_who_0 8 rfl
theorem dX9_who_17 : decode cX9_who 17 = .ok (.ifCond .lt 9, 3) := dcr zo_dX9_who_0 9 rfl
theorem dX9_who_20 : decode cX9_who 20 = .ok (.iload_n 3, 1) := dcr zo_dX9_who_0 10 rfl
theorem dX9_who_21 : decode cX9_who 21 = .ok (.bipush 30, 2) := dcr zo_dX9_who_0 11 rfl
theorem dX9_who_23 : decode cX9_who 23 = .ok (.if_icmp .le 6, 3) := dcr zo_dX9_who_0 12 rfl
theorem dX9_who_26 : decode cX9_who 26 = .ok (.bipush (-2), 2) := dcr zo_dX9_who_0 13 rfl
theorem dX9_who_28 : decode cX9_who 28 = .ok (.ireturn, 1) := dcr zo_dX9_who_0 14 rfl
theorem dX9_who_29 : decode cX9_who 29 = .ok (.aload_n 0, 1) := dcr zo_dX9_who_0 15 rfl
theorem zo_dX9_who_30 : ([(30, .iload_n 1, 1), (31, .invokevirtual 62, 3), (34, .ifCond .eq 11, 3), (37, .aload_n 0, 1), (38, .iload_n 2, 1), (39, .invokevirtual 62, 3), (42, .ifCond .ne 6, 3), (45, .bipush (-3), 2), (47, .ireturn, 1), (48, .iconst 0, 1), (49, .istore 4, 2), (51, .iconst 0, 1), (52, .istore 5, 2), (54, .iload 5, 2), (56, .iconst 4, 1), (57, .if_icmp .ge 49, 3)] : List (Nat × Instr × Nat)).all (dOk (decode cX9_who)) = true := by decide +kernel
theorem dX9_who_30 : decode cX9_who 30 = .ok (.iload_n 1, 1) := dcr zo_dX9_who_30 0 rfl
theorem dX9_who_31 : decode cX9_who 31 = .ok (.invokevirtual 62, 3) := dcr zo_dX9_who_30 1 rfl
theorem dX9_who_34 : decode cX9_who 34 = .ok (.ifCond .eq 11, 3) := dcr zo_dX9_who_30 2 rfl
theorem dX9_who_37 : decode cX9_who 37 = .ok (.aload_n 0, 1) := dcr zo_dX9_who_30 3 rfl
theorem dX9_who_38 : decode cX9_who 38 = .ok (.iload_n 2, 1) := dcr zo_dX9_who_30 4 rfl
theorem dX9_who_39 : decode cX9_who 39 = .ok (.invokevirtual 62, 3) := dcr zo_dX9_who_30 5 rfl
theorem dX9_who_42 : decode cX9_who 42 = .ok (.ifCond .ne 6, 3) := dcr zo_dX9_who_30 6 rfl
theorem dX9_who_45 : decode cX9_who 45 = .ok (.bipush (-3), 2) := dcr zo_dX9_who_30 7 rfl
theorem dX9_who_47 : decode cX9_who 47 = .ok (.ireturn, 1) := dcr zo_dX9_who_30 8 rfl
theorem dX9_who_48 : decode cX9_who 48 = .ok (.iconst 0, 1) := dcr zo_dX9_who_30 9 rfl
theorem dX9_who_49 : decode cX9_who 49 = .ok (.istore 4, 2) := dcr zo_dX9_who_30 10 rfl
theorem dX9_who_51 : decode cX9_who 51 = .ok (.iconst 0, 1) := dcr zo_dX9_who_30 11 rfl
theorem dX9_who_52 : decode cX9_who 52 = .ok (.istore 5, 2) := dcr zo_dX9_who_30 12 rfl
theorem dX9_who_54 : decode cX9_who 54 = .ok (.iload 5, 2) := dcr zo_dX9_who_30 13 rfl
theorem dX9_who_56 : decode cX9_who 56 = .ok (.iconst 4, 1) := dcr zo_dX9_who_30 14 rfl
theorem dX9_who_57 : decode cX9_who 57 = .ok (.if_icmp .ge 49, 3) := dcr zo_dX9_who_30 15 rfl
theorem zo_dX9_who_60 : ([(60, .aload_n 0, 1), (61, .iload_n 2, 1), (62, .iload 5, 2), (64, .invokevirtual 102, 3), (67, .aload_n 0, 1), (68, .getfield 19, 3), (71, .iload_n 1, 1), (72, .invokevirtual 65, 3), (75, .invokevirtual 110, 3), (78, .istore 6, 2), (80, .iload 6, 2), (82, .ifCond .lt 18, 3), (85, .iload 6, 2), (87, .iload_n 3, 1), (88, .if_icmp .gt 12, 3), (91, .iload 4, 2)] : List (Nat × Instr × Nat)).all (dOk (decode cX9_who)) = true := by decide +kernel
theorem dX9_who_60 : decode cX9_who 60 = .ok (.aload_n 0, 1) := dcr zo_dX9_who_60 0 rfl
theorem dX9_who_61 : decode cX9_who 61 = .ok (.iload_n 2, 1) := dcr zo_dX9_who_60 1 rfl
theorem dX9_who_62 : decode cX9_who 62 = .ok (.iload 5, 2) := dcr zo_dX9_who_60 2 rfl
theorem dX9_who_64 : decode cX9_who 64 = .ok (.invokevirtual 102, 3) := dcr zo_dX9_who_60 3 rfl
theorem dX9_who_67 : decode cX9_who 67 = .ok (.aload_n 0, 1) := dcr zo_dX9_who_60 4 rfl
theorem dX9_who_68 : decode cX9_who 68 = .ok (.getfield 19, 3) := dcr zo_dX9_who_60 5 rfl
theorem dX9_who_71 : decode cX9_who 71 = .ok (.iload_n 1, 1) := dcr zo_dX9_who_60 6 rfl
theorem dX9_who_72 : decode cX9_who 72 = .ok (.invokevirtual 65, 3) := dcr zo_dX9_who_60 7 rfl
theorem dX9_who_75 : decode cX9_who 75 = .ok (.invokevirtual 110, 3) := dcr zo_dX9_who_60 8 rfl
theorem dX9_who_78 : decode cX9_who 78 = .ok (.istore 6, 2) := dcr zo_dX9_who_60 9 rfl
theorem dX9_who_80 : decode cX9_who 80 = .ok (.iload 6, 2) := dcr zo_dX9_who_60 10 rfl
theorem dX9_who_82 : decode cX9_who 82 = .ok (.ifCond .lt 18, 3) := dcr zo_dX9_who_60 11 rfl
theorem dX9_who_85 : decode cX9_who 85 = .ok (.iload 6, 2) := dcr zo_dX9_who_60 12 rfl
theorem dX9_who_87 : decode cX9_who 87 = .ok (.iload_n 3, 1) := dcr zo_dX9_who_60 13 rfl
theorem dX9_who_88 : decode cX9_who 88 = .ok (.if_icmp .gt 12, 3) := dcr zo_dX9_who_60 14 rfl
theorem dX9_who_91 : decode cX9_who 91 = .ok (.iload 4, 2) := dcr zo_dX9_who_60 15 rfl
theorem zo_dX9_who_93 : ([(93, .iconst 1, 1), (94, .iload 5, 2), (96, .ishl, 1), (97, .ior, 1), (98, .istore 4, 2), (100, .iinc 5 1, 3), (103, .goto (-49), 3), (106, .iload 4, 2), (108, .ireturn, 1)] : List (Nat × Instr × Nat)).all (dOk (decode cX9_who)) = true := by decide +kernel
theorem dX9_who_93 : decode cX9_who 93 = .ok (.iconst 1, 1) := dcr zo_dX9_who_93 0 rfl
theorem dX9_who_94 : decode cX9_who 94 = .ok (.iload 5, 2) := dcr zo_dX9_who_93 1 rfl
theorem dX9_who_96 : decode cX9_who 96 = .ok (.ishl, 1) := dcr zo_dX9_who_93 2 rfl
theorem dX9_who_97 : decode cX9_who 97 = .ok (.ior, 1) := dcr zo_dX9_who_93 3 rfl
theorem dX9_who_98 : decode cX9_who 98 = .ok (.istore 4, 2) := dcr zo_dX9_who_93 4 rfl
theorem dX9_who_100 : decode cX9_who 100 = .ok (.iinc 5 1, 3) := dcr zo_dX9_who_93 5 rfl
theorem dX9_who_103 : decode cX9_who 103 = .ok (.goto (-49), 3) := dcr zo_dX9_who_93 6 rfl
theorem dX9_who_106 : decode cX9_who 106 = .ok (.iload 4, 2) := dcr zo_dX9_who_93 7 rfl
theorem dX9_who_108 : decode cX9_who 108 = .ok (.ireturn, 1) := dcr zo_dX9_who_93 8 rfl
def zt_wsX9_between : List (List Cond) := [[.code yX9_between cX9_between 6 (some .int)], wsX9_between_r1, wsX9_between_r2, wsX9_between_r3, wsX9_between_r4, wsX9_between_r5, wsX9_between_r6, wsX90, wsX30, wsX40, wsX70]
theorem zt_wsX9_between_in : ∀ c ∈ zt_wsX9_between, ∀ w ∈ c, w ∈ wsX9_between := List.forall_mem_cons.mpr ⟨fun _ h => List.mem_cons.mpr (Or.inl (List.mem_singleton.mp h)), List.forall_mem_cons.mpr ⟨fun _ h => List.mem_cons_of_mem _ (List.mem_append_left _ (List.mem_append_left _ (List.mem_append_left _ (List.mem_append_left _ (List.mem_append_left _ h))))), List.forall_mem_cons.mpr ⟨fun _ h => List.mem_cons_of_mem _ (List.mem_append_left _ (List.mem_append_left _ (List.mem_append_left _ (List.mem_append_left _ (List.mem_append_right _ (List.mem_append_left _ h)))))), List.forall_mem_cons.mpr ⟨fun _ h => List.mem_cons_of_mem _ (List.mem_append_left _ (List.mem_append_left _ (List.mem_append_left _ (List.mem_append_left _ (List.mem_append_right _ (List.mem_append_right _ (List.mem_append_left _ h))))))), List.forall_mem_cons.mpr ⟨fun _ h => List.mem_cons_of_mem _ (List.mem_append_left _ (List.mem_append_left _ (List.mem_append_left _ (List.mem_append_left _ (List.mem_append_right _ (List.mem_append_right _ (List.mem_append_right _ (List.mem_append_left _ h)))))))), List.forall_mem_cons.mpr ⟨fun _ h => List.mem_cons_of_mem _ (List.mem_append_left _ (List.mem_append_left _ (List.mem_append_left _ (List.mem_append_left _ (List.mem_append_right _ (List.mem_append_right _ (List.mem_append_right _ (List.mem_append_right _ (List.mem_append_left _ h))))))))), List.forall_mem_cons.mpr ⟨fun _ h => List.mem_cons_of_mem _ (List.mem_append_left _ (List.mem_append_left _ (List.mem_append_left _ (List.mem_append_left _ (List.mem_append_right _ (List.mem_append_right _ (List.mem_append_right _ (List.mem_append_right _ (List.mem_append_right _ (h)))))))))), List.forall_mem_cons.mpr ⟨fun _ h => List.mem_cons_of_mem _ (List.mem_append_left _ (List.mem_append_left _ (List.mem_append_left _ (List.mem_append_right _ h)))), List.forall_mem_cons.mpr ⟨fun _ h => List.mem_cons_of_mem _ (List.mem_append_left _ (List.mem_append_left _ (List.mem_append_right _ h))), List.forall_mem_cons.mpr ⟨fun _ h => List.mem_cons_of_mem _ (List.mem_append_left _ (List.mem_append_right _ h)), List.forall_mem_cons.mpr ⟨fun _ h => List.mem_cons_of_mem _ (List.mem_append_right _ h), (fun _ h => absurd h List.not_mem_nil)⟩⟩⟩⟩⟩⟩⟩⟩⟩⟩⟩
set_option maxRecDepth 20000 in
theorem ggX9_between_X9_isMap : GoodIn wsX9_between wsX9_isMap := goodIn_c zt_wsX9_between_in _ [(1, 4)] rfl zw_wsX9_isMap
set_option maxRecDepth 20000 in
theorem gX9_between_X9_isMap : GoodIn wsX9_between (va_wsS RX9 48 yX9_isMap wsX9_isMap) := goodIn_app (goodIn_of _ (by decide +kernel)) ggX9_between_X9_isMap
set_option maxRecDepth 20000 in
theorem ggX9_between_X9_isHand : GoodIn wsX9_between wsX9_isHand := goodIn_c zt_wsX9_between_in _ [(1, 7)] rfl zw_wsX9_isHand
set_option maxRecDepth 20000 in
theorem gX9_between_X9_isHand : GoodIn wsX9_between (va_wsS RX9 79 yX9_isHand wsX9_isHand) := goodIn_app (goodIn_of _ (by decide +kernel)) ggX9_between_X9_isHand
set_option maxRecDepth 20000 in
theorem ggX9_between_X9_isTold : GoodIn wsX9_between wsX9_isTold := goodIn_c zt_wsX9_between_in _ [(1, 11), (1, 0), (1, 12), (1, 13), (1, 14), (1, 3), (1, 15), (1, 1), (1, 2), (1, 4), (7, 0), (7, 1), (7, 2), (7, 3), (7, 4), (8, 0), (8, 1), (8, 2), (8, 3), (8, 4), (8, 5)] rfl zw_wsX9_isTold
set_option maxRecDepth 20000 in
theorem gX9_between_X9_isTold : GoodIn wsX9_between (wsV RX9 62 RX9 yX9_isTold wsX9_isTold) := goodIn_app (goodIn_of _ (by decide +kernel)) ggX9_between_X9_isTold
set_option maxRecDepth 20000 in
theorem ggX9_between_X9_tableOf : GoodIn wsX9_between wsX9_tableOf := goodIn_c zt_wsX9_between_in _ [(1, 19), (1, 0), (1, 20), (1, 21), (1, 22), (1, 23), (2, 0), (2, 1), (2, 2), (2, 3), (2, 4), (2, 5), (2, 6), (2, 7), (2, 8), (2, 9), (2, 10), (2, 11), (2, 12), (2, 13), (2, 14), (2, 15), (2, 16), (2, 17), (2, 18), (2, 19), (2, 20), (2, 21), (2, 22), (2, 23), (1, 3), (3, 0), (3, 1), (3, 2), (3, 3), (3, 4), (3, 5), (3, 6), (3, 7), (3, 8), (3, 9), (3, 10), (3, 11), (3, 12), (3, 13), (3, 14), (3, 15), (3, 16), (3, 17), (3, 18), (3, 19), (3, 20), (3, 21), (3, 22), (3, 23), (4, 0), (4, 1), (4, 2), (4, 3), (4, 4), (4, 5), (4, 6), (4, 7), (4, 8), (4, 9), (4, 10), (4, 11), (4, 12), (4, 13), (4, 14), (4, 15), (4, 16), (4, 17), (4, 18), (4, 19), (4, 20), (4, 21), (4, 22), (4, 23), (5, 0), (5, 1), (5, 2), (5, 3), (5, 4), (5, 5), (5, 6), (5, 7), (5, 8), (5, 9), (5, 10), (5, 11), (5, 12), (5, 13), (5, 14), (5, 15), (5, 16), (7, 0), (7, 1), (7, 2), (7, 3), (7, 4), (8, 0), (8, 1), (8, 2), (8, 3), (8, 4), (8, 5), (9, 0), (9, 1), (9, 2), (10, 0), (10, 1), (10, 2), (10, 3), (10, 4), (10, 5), (10, 6)] rfl zw_wsX9_tableOf
set_option maxRecDepth 20000 in
theorem gX9_between_X9_tableOf : GoodIn wsX9_between (wsV RX9 102 RX9 yX9_tableOf wsX9_tableOf) := goodIn_app (goodIn_of _ (by decide +kernel)) ggX9_between_X9_tableOf
set_option maxRecDepth 20000 in
theorem ggX9_between_X3_codeOf : GoodIn wsX9_between wsX3_codeOf := goodIn_c zt_wsX9_between_in _ [(2, 1), (2, 2), (8, 0), (8, 1), (8, 2), (8, 3), (8, 4), (8, 5)] rfl zw_wsX3_codeOf
set_option maxRecDepth 20000 in
theorem gX9_between_X3_codeOf : GoodIn wsX9_between (wsV RX9 65 RX3 yX3_codeOf wsX3_codeOf) := goodIn_app (goodIn_of _ (by decide +kernel)) ggX9_between_X3_codeOf
set_option maxRecDepth 20000 in
theorem ggX9_between_X7_slipsFrom : GoodIn wsX9_between wsX7_slipsFrom := goodIn_c zt_wsX9_between_in _ [(5, 20), (5, 21), (5, 22), (5, 23), (4, 2), (6, 0), (4, 6), (4, 23), (5, 0), (4, 18), (6, 1), (6, 2), (2, 9), (6, 3), (2, 11), (2, 12), (2, 13), (2, 14), (6, 4), (6, 5), (6, 6), (6, 7), (4, 17), (6, 8), (6, 9), (6, 10), (6, 11), (4, 5), (5, 16), (6, 12), (2, 16), (2, 17), (6, 13), (6, 14), (6, 15), (6, 16), (5, 9), (5, 10), (5, 11), (5, 12), (10, 0), (10, 1), (10, 2), (10, 3), (10, 4), (10, 5), (10, 6)] rfl zw_wsX7_slipsFrom
set_option maxRecDepth 20000 in
theorem gX9_between_X7_slipsFrom : GoodIn wsX9_between (wsV RX9 110 RX7 yX7_slipsFrom wsX7_slipsFrom) := goodIn_app (goodIn_of _ (by decide +kernel)) ggX9_between_X7_slipsFrom
theorem zo_dX9_between_0 : ([(0, .iload_n 1, 1), (1, .invokestatic 48, 3), (4, .ifCond .eq 17, 3), (7, .iload_n 2, 1), (8, .invokestatic 48, 3), (11, .ifCond .eq 10, 3), (14, .iload_n 3, 1), (15, .invokestatic 79, 3), (18, .ifCond .ne 5, 3), (21, .iconst (-1), 1), (22, .ireturn, 1), (23, .iload 4, 2), (25, .iconst 1, 1), (26, .if_icmp .lt 10, 3), (29, .iload 4, 2), (31, .bipush 9, 2)] : List (Nat × Instr × Nat)).all (dOk (decode cX9_between)) = true := by decide +kernel
theorem dX9_between_0 : decode cX9_between 0 = .ok (.iload_n 1, 1) := dcr zo_dX9_between_0 0 rfl
theorem dX9_between_1 : decode cX9_between 1 = .ok (.invokestatic 48, 3) := dcr zo_dX9_between_0 1 rfl
theorem dX9_between_4 : decode cX9_between 4 = .ok (.ifCond .eq 17, 3) := dcr zo_dX9_between_0 2 rfl
theorem dX9_between_7 : decode cX9_between 7 = .ok (.iload_n 2, 1) := dcr zo_dX9_between_0 3 rfl
theorem dX9_between_8 : decode cX9_between 8 = .ok (.invokestatic 48, 3) := dcr zo_dX9_between_0 4 rfl
theorem dX9_between_11 : decode cX9_between 11 = .ok (.ifCond .eq 10, 3) := dcr zo_dX9_between_0 5 rfl
theorem dX9_between_14 : decode cX9_between 14 = .ok (.iload_n 3, 1) := dcr zo_dX9_between_0 6 rfl
theorem dX9_between_15 : decode cX9_between 15 = .ok (.invokestatic 79, 3) := dcr zo_dX9_between_0 7 rfl
theorem dX9_between_18 : decode cX9_between 18 = .ok (.ifCond .ne 5, 3) := dcr zo_dX9_between_0 8 rfl
theorem dX9_between_21 : decode cX9_between 21 = .ok (.iconst (-1), 1) := dcr zo_dX9_between_0 9 rfl
theorem dX9_between_22 : decode cX9_between 22 = .ok (.ireturn, 1) := dcr zo_dX9_between_0 10 rfl
theorem dX9_between_23 : decode cX9_between 23 = .ok (.iload 4, 2) := dcr zo_dX9_between_0 11 rfl
theorem dX9_between_25 : decode cX9_between 25 = .ok (.iconst 1, 1) := dcr zo_dX9_between_0 12 rfl
theorem dX9_between_26 : decode cX9_between 26 = .ok (.if_icmp .lt 10, 3) := dcr zo_dX9_between_0 13 rfl
theorem dX9_between_29 : decode cX9_between 29 = .ok (.iload 4, 2) := dcr zo_dX9_between_0 14 rfl
theorem dX9_between_31 : decode cX9_between 31 = .ok (.bipush 9, 2) := dcr zo_dX9_between_0 15 rfl
theorem zo_dX9_between_33 : ([(33, .if_icmp .le 6, 3), (36, .bipush (-2), 2), (38, .ireturn, 1), (39, .aload_n 0, 1), (40, .iload_n 1, 1), (41, .invokevirtual 62, 3), (44, .ifCond .eq 11, 3), (47, .aload_n 0, 1), (48, .iload_n 2, 1), (49, .invokevirtual 62, 3), (52, .ifCond .ne 6, 3), (55, .bipush (-3), 2), (57, .ireturn, 1), (58, .aload_n 0, 1), (59, .iload_n 2, 1), (60, .iload_n 3, 1)] : List (Nat × Instr × Nat)).all (dOk (decode cX9_between)) = true := by decide +kernel
theorem dX9_between_33 : decode cX9_between 33 = .ok (.if_icmp .le 6, 3) := dcr zo_dX9_between_33 0 rfl
theorem dX9_between_36 : decode cX9_between 36 = .ok (.bipush (-2), 2) := dcr zo_dX9_between_33 1 rfl
theorem dX9_between_38 : decode cX9_between 38 = .ok (.ireturn, 1) := dcr zo_dX9_between_33 2 rfl
theorem dX9_between_39 : decode cX9_between 39 = .ok (.aload_n 0, 1) := dcr zo_dX9_between_33 3 rfl
theorem dX9_between_40 : decode cX9_between 40 = .ok (.iload_n 1, 1) := dcr zo_dX9_between_33 4 rfl
theorem dX9_between_41 : decode cX9_between 41 = .ok (.invokevirtual 62, 3) := dcr zo_dX9_between_33 5 rfl
theorem dX9_between_44 : decode cX9_between 44 = .ok (.ifCond .eq 11, 3) := dcr zo_dX9_between_33 6 rfl
theorem dX9_between_47 : decode cX9_between 47 = .ok (.aload_n 0, 1) := dcr zo_dX9_between_33 7 rfl
theorem dX9_between_48 : decode cX9_between 48 = .ok (.iload_n 2, 1) := dcr zo_dX9_between_33 8 rfl
theorem dX9_between_49 : decode cX9_between 49 = .ok (.invokevirtual 62, 3) := dcr zo_dX9_between_33 9 rfl
theorem dX9_between_52 : decode cX9_between 52 = .ok (.ifCond .ne 6, 3) := dcr zo_dX9_between_33 10 rfl
theorem dX9_between_55 : decode cX9_between 55 = .ok (.bipush (-3), 2) := dcr zo_dX9_between_33 11 rfl
theorem dX9_between_57 : decode cX9_between 57 = .ok (.ireturn, 1) := dcr zo_dX9_between_33 12 rfl
theorem dX9_between_58 : decode cX9_between 58 = .ok (.aload_n 0, 1) := dcr zo_dX9_between_33 13 rfl
theorem dX9_between_59 : decode cX9_between 59 = .ok (.iload_n 2, 1) := dcr zo_dX9_between_33 14 rfl
theorem dX9_between_60 : decode cX9_between 60 = .ok (.iload_n 3, 1) := dcr zo_dX9_between_33 15 rfl
theorem zo_dX9_between_61 : ([(61, .invokevirtual 102, 3), (64, .aload_n 0, 1), (65, .getfield 19, 3), (68, .iload_n 1, 1), (69, .invokevirtual 65, 3), (72, .invokevirtual 110, 3), (75, .istore 5, 2), (77, .iload 5, 2), (79, .ifCond .ge 8, 3), (82, .bipush (-6), 2), (84, .goto 13, 3), (87, .iload 5, 2), (89, .iload 4, 2), (91, .iadd, 1), (92, .iconst 1, 1), (93, .isub, 1)] : List (Nat × Instr × Nat)).all (dOk (decode cX9_between)) = true := by decide +kernel
theorem dX9_between_61 : decode cX9_between 61 = .ok (.invokevirtual 102, 3) := dcr zo_dX9_between_61 0 rfl
theorem dX9_between_64 : decode cX9_between 64 = .ok (.aload_n 0, 1) := dcr zo_dX9_between_61 1 rfl
theorem dX9_between_65 : decode cX9_between 65 = .ok (.getfield 19, 3) := dcr zo_dX9_between_61 2 rfl
theorem dX9_between_68 : decode cX9_between 68 = .ok (.iload_n 1, 1) := dcr zo_dX9_between_61 3 rfl
theorem dX9_between_69 : decode cX9_between 69 = .ok (.invokevirtual 65, 3) := dcr zo_dX9_between_61 4 rfl
theorem dX9_between_72 : decode cX9_between 72 = .ok (.invokevirtual 110, 3) := dcr zo_dX9_between_61 5 rfl
theorem dX9_between_75 : decode cX9_between 75 = .ok (.istore 5, 2) := dcr zo_dX9_between_61 6 rfl
theorem dX9_between_77 : decode cX9_between 77 = .ok (.iload 5, 2) := dcr zo_dX9_between_61 7 rfl
theorem dX9_between_79 : decode cX9_between 79 = .ok (.ifCond .ge 8, 3) := dcr zo_dX9_between_61 8 rfl
theorem dX9_between_82 : decode cX9_between 82 = .ok (.bipush (-6), 2) := dcr zo_dX9_between_61 9 rfl
theorem dX9_between_84 : decode cX9_between 84 = .ok (.goto 13, 3) := dcr zo_dX9_between_61 10 rfl
theorem dX9_between_87 : decode cX9_between 87 = .ok (.iload 5, 2) := dcr zo_dX9_between_61 11 rfl
theorem dX9_between_89 : decode cX9_between 89 = .ok (.iload 4, 2) := dcr zo_dX9_between_61 12 rfl
theorem dX9_between_91 : decode cX9_between 91 = .ok (.iadd, 1) := dcr zo_dX9_between_61 13 rfl
theorem dX9_between_92 : decode cX9_between 92 = .ok (.iconst 1, 1) := dcr zo_dX9_between_61 14 rfl
theorem dX9_between_93 : decode cX9_between 93 = .ok (.isub, 1) := dcr zo_dX9_between_61 15 rfl
theorem zo_dX9_between_94 : ([(94, .iload 4, 2), (96, .idiv, 1), (97, .ireturn, 1)] : List (Nat × Instr × Nat)).all (dOk (decode cX9_between)) = true := by decide +kernel
theorem dX9_between_94 : decode cX9_between 94 = .ok (.iload 4, 2) := dcr zo_dX9_between_94 0 rfl
theorem dX9_between_96 : decode cX9_between 96 = .ok (.idiv, 1) := dcr zo_dX9_between_94 1 rfl
theorem dX9_between_97 : decode cX9_between 97 = .ok (.ireturn, 1) := dcr zo_dX9_between_94 2 rfl
def zt_wsX9_tree : List (List Cond) := [[.code yX9_tree cX9_tree 5 (some .int)], wsX9_tree_r1, wsX9_tree_r2, wsX9_tree_r3, wsX9_tree_r4, wsX9_tree_r5, wsX9_tree_r6, wsX9_tree_r7, wsX9_tree_r8, wsX9_tree_r9, wsX90, wsX80, wsX30, wsX40, wsX70]
theorem zt_wsX9_tree_in : ∀ c ∈ zt_wsX9_tree, ∀ w ∈ c, w ∈ wsX9_tree := List.forall_mem_cons.mpr ⟨fun _ h => List.mem_cons.mpr (Or.inl (List.mem_singleton.mp h)), List.forall_mem_cons.mpr ⟨fun _ h => List.mem_cons_of_mem _ (List.mem_append_left _ (List.mem_append_left _ (List.mem_append_left _ (List.mem_append_left _ (List.mem_append_left _ (List.mem_append_left _ h)))))), List.forall_mem_cons.mpr ⟨fun _ h => List.mem_cons_of_mem _ (List.mem_append_left _ (List.mem_append_left _ (List.mem_append_left _ (List.mem_append_left _ (List.mem_append_left _ (List.mem_append_right _ (List.mem_append_left _ h))))))), List.forall_mem_cons.mpr ⟨fun _ h => List.mem_cons_of_mem _ (List.mem_append_left _ (List.mem_append_left _ (List.mem_append_left _ (List.mem_append_left _ (List.mem_append_left _ (List.mem_append_right _ (List.mem_append_right _ (List.mem_append_left _ h)))))))), List.forall_mem_cons.mpr ⟨fun _ h => List.mem_cons_of_mem _ (List.mem_append_left _ (List.mem_append_left _ (List.mem_append_left _ (List.mem_append_left _ (List.mem_append_left _ (List.mem_append_right _ (List.mem_append_right _ (List.mem_append_right _ (List.mem_append_left _ h))))))))), List.forall_mem_cons.mpr ⟨fun _ h => List.mem_cons_of_mem _ (List.mem_append_left _ (List.mem_append_left _ (List.mem_append_left _ (List.mem_append_left _ (List.mem_append_left _ (List.mem_append_right _ (List.mem_append_right _ (List.mem_append_right _ (List.mem_append_right _ (List.mem_append_left _ h)))))))))), List.forall_mem_cons.mpr ⟨fun _ h => List.mem_cons_of_mem _ (List.mem_append_left _ (List.mem_append_left _ (List.mem_append_left _ (List.mem_append_left _ (List.mem_append_left _ (List.mem_append_right _ (List.mem_append_right _ (List.mem_append_right _ (List.mem_append_right _ (List.mem_append_right _ (List.mem_append_left _ h))))))))))), List.forall_mem_cons.mpr ⟨fun _ h => List.mem_cons_of_mem _ (List.mem_append_left _ (List.mem_append_left _ (List.mem_append_left _ (List.mem_append_left _ (List.mem_append_left _ (List.mem_append_right _ (List.mem_append_right _ (List.mem_append_right _ (List.mem_append_right _ (List.mem_append_right _ (List.mem_append_right _ (List.mem_append_left _ h)))))))))))), List.forall_mem_cons.mpr ⟨fun _ h => List.mem_cons_of_mem _ (List.mem_append_left _ (List.mem_append_left _ (List.mem_append_left _ (List.mem_append_left _ (List.mem_append_left _ (List.mem_append_right _ (List.mem_append_right _ (List.mem_append_right _ (List.mem_append_right _ (List.mem_append_right _ (List.mem_append_right _ (List.mem_append_right _ (List.mem_append_left _ h))))))))))))), List.forall_mem_cons.mpr ⟨fun _ h => List.mem_cons_of_mem _ (List.mem_append_left _ (List.mem_append_left _ (List.mem_append_left _ (List.mem_append_left _ (List.mem_append_left _ (List.mem_append_right _ (List.mem_append_right _ (List.mem_append_right _ (List.mem_append_right _ (List.mem_append_right _ (List.mem_append_right _ (List.mem_append_right _ (List.mem_append_right _ (h)))))))))))))), List.forall_mem_cons.mpr ⟨fun _ h => List.mem_cons_of_mem _ (List.mem_append_left _ (List.mem_append_left _ (List.mem_append_left _ (List.mem_append_left _ (List.mem_append_right _ h))))), List.forall_mem_cons.mpr ⟨fun _ h => List.mem_cons_of_mem _ (List.mem_append_left _ (List.mem_append_left _ (List.mem_append_left _ (List.mem_append_right _ h)))), List.forall_mem_cons.mpr ⟨fun _ h => List.mem_cons_of_mem _ (List.mem_append_left _ (List.mem_append_left _ (List.mem_append_right _ h))), List.forall_mem_cons.mpr ⟨fun _ h => List.mem_cons_of_mem _ (List.mem_append_left _ (List.mem_append_right _ h)), List.forall_mem_cons.mpr ⟨fun _ h => List.mem_cons_of_mem _ (List.mem_append_right _ h), (fun _ h => absurd h List.not_mem_nil)⟩⟩⟩⟩⟩⟩⟩⟩⟩⟩⟩⟩⟩⟩⟩
set_option maxRecDepth 20000 in
theorem ggX9_tree_X9_isHand : GoodIn wsX9_tree wsX9_isHand := goodIn_c zt_wsX9_tree_in _ [(1, 7)] rfl zw_wsX9_isHand
set_option maxRecDepth 20000 in
theorem gX9_tree_X9_isHand : GoodIn wsX9_tree (va_wsS RX9 79 yX9_isHand wsX9_isHand) := goodIn_app (goodIn_of _ (by decide +kernel)) ggX9_tree_X9_isHand
set_option maxRecDepth 20000 in
theorem zw_wsX9_isSet : wsX9_isSet.all goodWord = true := by decide +kernel
set_option maxRecDepth 20000 in
theorem ggX9_tree_X9_isSet : GoodIn wsX9_tree wsX9_isSet := goodIn_c zt_wsX9_tree_in _ [(1, 10)] rfl zw_wsX9_isSet
set_option maxRecDepth 20000 in
theorem gX9_tree_X9_isSet : GoodIn wsX9_tree (va_wsS RX9 115 yX9_isSet wsX9_isSet) := goodIn_app (goodIn_of _ (by decide +kernel)) ggX9_tree_X9_isSet
set_option maxRecDepth 20000 in
theorem zw_wsX9_isTreeQuestion : wsX9_isTreeQuestion.all goodWord = true := by decide +kernel
set_option maxRecDepth 20000 in
theorem ggX9_tree_X9_isTreeQuestion : GoodIn wsX9_tree wsX9_isTreeQuestion := goodIn_c zt_wsX9_tree_in _ [(1, 13), (1, 14), (1, 15), (1, 6), (1, 16), (1, 17), (1, 18), (1, 19)] rfl zw_wsX9_isTreeQuestion
set_option maxRecDepth 20000 in
theorem gX9_tree_X9_isTreeQuestion : GoodIn wsX9_tree (va_wsS RX9 118 yX9_isTreeQuestion wsX9_isTreeQuestion) := goodIn_app (goodIn_of _ (by decide +kernel)) ggX9_tree_X9_isTreeQuestion
set_option maxRecDepth 20000 in
theorem zw_wsX9_areTold : wsX9_areTold.all goodWord = true := by decide +kernel
set_option maxRecDepth 20000 in
theorem ggX9_tree_X9_areTold : GoodIn wsX9_tree wsX9_areTold := goodIn_c zt_wsX9_tree_in _ [(1, 23), (2, 0), (2, 1), (10, 0), (10, 1), (10, 2), (10, 3), (10, 4), (12, 0), (12, 1), (12, 2), (12, 3), (12, 4), (12, 5)] rfl zw_wsX9_areTold
set_option maxRecDepth 20000 in
theorem gX9_tree_X9_areTold : GoodIn wsX9_tree (wsV RX9 122 RX9 yX9_areTold wsX9_areTold) := goodIn_app (goodIn_of _ (by decide +kernel)) ggX9_tree_X9_areTold
set_option maxRecDepth 20000 in
theorem zw_wsX8_init : wsX8_init.all goodWord = true := by decide +kernel
set_option maxRecDepth 20000 in
theorem ggX9_tree_X8_init : GoodIn wsX9_tree wsX8_init := goodIn_c zt_wsX9_tree_in _ [(2, 3), (2, 4), (2, 5), (2, 6), (2, 7), (2, 8), (2, 9), (2, 10), (11, 0), (11, 1), (11, 2), (11, 3), (11, 4)] rfl zw_wsX8_init
set_option maxRecDepth 20000 in
theorem gX9_tree_X8_init_n131 : GoodIn wsX9_tree (wsX8_init) := ggX9_tree_X8_init
set_option maxRecDepth 20000 in
theorem ggX9_tree_X9_isOf : GoodIn wsX9_tree wsX9_isOf := goodIn_c zt_wsX9_tree_in _ [(1, 16), (1, 17), (1, 18), (1, 6), (1, 19)] rfl zw_wsX9_isOf
set_option maxRecDepth 20000 in
theorem gX9_tree_X9_isOf : GoodIn wsX9_tree (va_wsS RX9 132 yX9_isOf wsX9_isOf) := goodIn_app (goodIn_of _ (by decide +kernel)) ggX9_tree_X9_isOf
set_option maxRecDepth 20000 in
theorem zw_wsX9_noteAllTo : wsX9_noteAllTo.all goodWord = true := by decide +kernel
set_option maxRecDepth 20000 in
theorem ggX9_tree_X9_noteAllTo : GoodIn wsX9_tree wsX9_noteAllTo := goodIn_c zt_wsX9_tree_in _ [(2, 14), (1, 0), (2, 0), (2, 15), (2, 16), (2, 17), (1, 6), (2, 18), (2, 19), (2, 20), (2, 21), (2, 22), (2, 23), (3, 0), (3, 1), (3, 2), (3, 3), (3, 4), (3, 5), (3, 6), (3, 7), (3, 8), (3, 9), (3, 10), (3, 11), (3, 12), (3, 13), (3, 14), (3, 15), (3, 16), (3, 17), (3, 18), (3, 19), (3, 20), (3, 21), (3, 22), (3, 23), (4, 0), (4, 1), (4, 2), (4, 3), (4, 4), (4, 5), (4, 6), (2, 5), (2, 6), (4, 7), (4, 8), (2, 7), (4, 9), (4, 10), (4, 11), (4, 12), (4, 13), (4, 14), (4, 15), (4, 16), (4, 17), (4, 18), (4, 19), (4, 20), (4, 21), (4, 22), (4, 23), (5, 0), (5, 1), (5, 2), (5, 3), (5, 4), (5, 5), (5, 6), (5, 7), (5, 8), (5, 9), (5, 10), (5, 11), (5, 12), (5, 13), (5, 14), (5, 15), (5, 16), (5, 17), (5, 18), (5, 19), (5, 20), (5, 21), (5, 22), (5, 23), (6, 0), (6, 1), (6, 2), (6, 3), (6, 4), (6, 5), (6, 6), (6, 7), (6, 8), (6, 9), (6, 10), (6, 11), (6, 12), (1, 14), (1, 15), (1, 16), (1, 17), (1, 18), (1, 19), (6, 13), (6, 14), (6, 15), (6, 16), (6, 17), (6, 18), (6, 19), (6, 20), (6, 21), (6, 22), (6, 23), (7, 0), (7, 1), (7, 2), (7, 3), (7, 4), (7, 5), (7, 6), (7, 7), (7, 8), (7, 9), (7, 10), (7, 11), (7, 12), (7, 13), (7, 14), (7, 15), (1, 3), (7, 16), (2, 8), (10, 0), (10, 1), (10, 2), (10, 3), (10, 4), (12, 0), (12, 1), (12, 2), (12, 3), (12, 4), (12, 5), (13, 0), (13, 1), (13, 2), (14, 0), (14, 1), (14, 2), (14, 3), (14, 4), (14, 5), (14, 6), (11, 0), (11, 1), (11, 2), (11, 3), (11, 4)] rfl zw_wsX9_noteAllTo
set_option maxRecDepth 20000 in
theorem gX9_tree_X9_noteAllTo : GoodIn wsX9_tree (wsV RX9 135 RX9 yX9_noteAllTo wsX9_noteAllTo) := goodIn_app (goodIn_of _ (by decide +kernel)) ggX9_tree_X9_noteAllTo
set_option maxRecDepth 20000 in
theorem zw_wsX8_seek : wsX8_seek.all goodWord = true := by decide +kernel
set_option maxRecDepth 20000 in
theorem ggX9_tree_X8_seek : GoodIn wsX9_tree wsX8_seek := goodIn_c zt_wsX9_tree_in _ [(7, 20), (7, 21), (7, 22), (2, 9), (7, 23), (8, 0), (5, 23), (8, 1), (8, 2), (8, 3), (8, 4), (1, 3), (8, 5), (8, 6), (8, 7), (8, 8), (8, 9), (2, 10), (8, 10), (8, 11), (8, 12), (8, 13), (1, 15), (1, 6), (1, 16), (1, 17), (1, 18), (1, 19), (8, 14), (8, 15), (8, 16), (8, 17), (2, 8), (8, 18), (8, 19), (8, 20), (8, 21), (11, 0), (11, 1), (11, 2), (11, 3), (11, 4)] rfl zw_wsX8_seek
set_option maxRecDepth 20000 in
theorem gX9_tree_X8_seek : GoodIn wsX9_tree (wsV RX9 139 RX8 yX8_seek wsX8_seek) := goodIn_app (goodIn_of _ (by decide +kernel)) ggX9_tree_X8_seek
set_option maxRecDepth 20000 in
theorem zw_wsX8_answer : wsX8_answer.all goodWord = true := by decide +kernel
set_option maxRecDepth 20000 in
theorem ggX9_tree_X8_answer : GoodIn wsX9_tree wsX8_answer := goodIn_c zt_wsX9_tree_in _ [(9, 1), (7, 21), (7, 22), (2, 10), (1, 18), (1, 6), (1, 19), (11, 0), (11, 1), (11, 2), (11, 3), (11, 4)] rfl zw_wsX8_answer
set_option maxRecDepth 20000 in
theorem gX9_tree_X8_answer : GoodIn wsX9_tree (wsV RX9 143 RX8 yX8_answer wsX8_answer) := goodIn_app (goodIn_of _ (by decide +kernel)) ggX9_tree_X8_answer
theorem zo_dX9_tree_0 : ([(0, .iload_n 2, 1), (1, .invokestatic 79, 3), (4, .ifCond .ne 5, 3), (7, .iconst (-1), 1), (8, .ireturn, 1), (9, .iload_n 1, 1), (10, .invokestatic 115, 3), (13, .ifCond .eq 11, 3), (16, .iload_n 1, 1), (17, .iload_n 3, 1), (18, .invokestatic 118, 3), (21, .ifCond .ne 6, 3), (24, .bipush (-2), 2), (26, .ireturn, 1), (27, .aload_n 0, 1), (28, .iload_n 1, 1)] : List (Nat × Instr × Nat)).all (dOk (decode cX9_tree)) = true := by decide +kernel
theorem dX9_tree_0 : decode cX9_tree 0 = .ok (.iload_n 2, 1) := dcr zo_dX9_tree_0 0 rfl
theorem dX9_tree_1 : decode cX9_tree 1 = .ok (.invokestatic 79, 3) := dcr zo_dX9_tree_0 1 rfl
theorem dX9_tree_4 : decode cX9_tree 4 = .ok (.ifCond .ne 5, 3) := dcr zo_dX9_tree_0 2 rfl
theorem dX9_tree_7 : decode cX9_tree 7 = .ok (.iconst (-1), 1) := dcr zo_dX9_tree_0 3 rfl
theorem dX9_tree_8 : decode cX9_tree 8 = .ok (.ireturn, 1) := dcr zo_dX9_tree_0 4 rfl
theorem dX9_tree_9 : decode cX9_tree 9 = .ok (.iload_n 1, 1) := dcr zo_dX9_tree_0 5 rfl
theorem dX9_tree_10 : decode cX9_tree 10 = .ok (.invokestatic 115, 3) := dcr zo_dX9_tree_0 6 rfl
theorem dX9_tree_13 : decode cX9_tree 13 = .ok (.ifCond .eq 11, 3) := dcr zo_dX9_tree_0 7 rfl
theorem dX9_tree_16 : decode cX9_tree 16 = .ok (.iload_n 1, 1) := dcr zo_dX9_tree_0 8 rfl
theorem dX9_tree_17 : decode cX9_tree 17 = .ok (.iload_n 3, 1) := dcr zo_dX9_tree_0 9 rfl
theorem dX9_tree_18 : decode cX9_tree 18 = .ok (.invokestatic 118, 3) := dcr zo_dX9_tree_0 10 rfl
theorem dX9_tree_21 : decode cX9_tree 21 = .ok (.ifCond .ne 6, 3) := dcr zo_dX9_tree_0 11 rfl
theorem dX9_tree_24 : decode cX9_tree 24 = .ok (.bipush (-2), 2) := dcr zo_dX9_tree_0 12 rfl
theorem dX9_tree_26 : decode cX9_tree 26 = .ok (.ireturn, 1) := dcr zo_dX9_tree_0 13 rfl
theorem dX9_tree_27 : decode cX9_tree 27 = .ok (.aload_n 0, 1) := dcr zo_dX9_tree_0 14 rfl
theorem dX9_tree_28 : decode cX9_tree 28 = .ok (.iload_n 1, 1) := dcr zo_dX9_tree_0 15 rfl
theorem zo_dX9_tree_29 : ([(29, .invokevirtual 122, 3), (32, .ifCond .ne 6, 3), (35, .bipush (-3), 2), (37, .ireturn, 1), (38, .aload_n 0, 1), (39, .getfield 125, 3), (42, .ifnonnull 14, 3), (45, .aload_n 0, 1), (46, .new 129, 3), (49, .dup, 1), (50, .invokespecial 131, 3), (53, .putfield 125, 3), (56, .iconst 0, 1), (57, .istore 4, 2), (59, .iload 4, 2), (61, .bipush 6, 2)] : List (Nat × Instr × Nat)).all (dOk (decode cX9_tree)) = true := by decide +kernel
theorem dX9_tree_29 : decode cX9_tree 29 = .ok (.invokevirtual 122, 3) := dcr zo_dX9_tree_29 0 rfl
theorem dX9_tree_32 : decode cX9_tree 32 = .ok (.ifCond .ne 6, 3) := dcr zo_dX9_tree_29 1 rfl
theorem dX9_tree_35 : decode cX9_tree 35 = .ok (.bipush (-3), 2) := dcr zo_dX9_tree_29 2 rfl
theorem dX9_tree_37 : decode cX9_tree 37 = .ok (.ireturn, 1) := dcr zo_dX9_tree_29 3 rfl
theorem dX9_tree_38 : decode cX9_tree 38 = .ok (.aload_n 0, 1) := dcr zo_dX9_tree_29 4 rfl
theorem dX9_tree_39 : decode cX9_tree 39 = .ok (.getfield 125, 3) := dcr zo_dX9_tree_29 5 rfl
theorem dX9_tree_42 : decode cX9_tree 42 = .ok (.ifnonnull 14, 3) := dcr zo_dX9_tree_29 6 rfl
theorem dX9_tree_45 : decode cX9_tree 45 = .ok (.aload_n 0, 1) := dcr zo_dX9_tree_29 7 rfl
theorem dX9_tree_46 : decode cX9_tree 46 = .ok (.new 129, 3) := dcr zo_dX9_tree_29 8 rfl
theorem dX9_tree_49 : decode cX9_tree 49 = .ok (.dup, 1) := dcr zo_dX9_tree_29 9 rfl
theorem dX9_tree_50 : decode cX9_tree 50 = .ok (.invokespecial 131, 3) := dcr zo_dX9_tree_29 10 rfl
theorem dX9_tree_53 : decode cX9_tree 53 = .ok (.putfield 125, 3) := dcr zo_dX9_tree_29 11 rfl
theorem dX9_tree_56 : decode cX9_tree 56 = .ok (.iconst 0, 1) := dcr zo_dX9_tree_29 12 rfl
theorem dX9_tree_57 : decode cX9_tree 57 = .ok (.istore 4, 2) := dcr zo_dX9_tree_29 13 rfl
theorem dX9_tree_59 : decode cX9_tree 59 = .ok (.iload 4, 2) := dcr zo_dX9_tree_29 14 rfl
theorem dX9_tree_61 : decode cX9_tree 61 = .ok (.bipush 6, 2) := dcr zo_dX9_tree_29 15 rfl
theorem zo_dX9_tree_63 : ([(63, .if_icmp .ge 26, 3), (66, .iload_n 1, 1), (67, .iload 4, 2), (69, .invokestatic 132, 3), (72, .ifCond .eq 11, 3), (75, .aload_n 0, 1), (76, .iload 4, 2), (78, .iload_n 1, 1), (79, .iload_n 2, 1), (80, .invokevirtual 135, 3), (83, .iinc 4 1, 3), (86, .goto (-27), 3), (89, .aload_n 0, 1), (90, .getfield 125, 3), (93, .iload_n 1, 1), (94, .invokevirtual 139, 3)] : List (Nat × Instr × Nat)).all (dOk (decode cX9_tree)) = true := by decide +kernel
theorem dX9_tree_63 : decode cX9_tree 63 = .ok (.if_icmp .ge 26, 3) := dcr zo_dX9_tree_63 0 rfl
theorem dX9_tree_66 : decode cX9_tree 66 = .ok (.iload_n 1, 1) := dcr zo_dX9_tree_63 1 rfl
theorem dX9_tree_67 : decode cX9_tree 67 = .ok (.iload 4, 2) := dcr zo_dX9_tree_63 2 rfl
theorem dX9_tree_69 : decode cX9_tree 69 = .ok (.invokestatic 132, 3) := dcr zo_dX9_tree_63 3 rfl
theorem dX9_tree_72 : decode cX9_tree 72 = .ok (.ifCond .eq 11, 3) := dcr zo_dX9_tree_63 4 rfl
theorem dX9_tree_75 : decode cX9_tree 75 = .ok (.aload_n 0, 1) := dcr zo_dX9_tree_63 5 rfl
theorem dX9_tree_76 : decode cX9_tree 76 = .ok (.iload 4, 2) := dcr zo_dX9_tree_63 6 rfl
theorem dX9_tree_78 : decode cX9_tree 78 = .ok (.iload_n 1, 1) := dcr zo_dX9_tree_63 7 rfl
theorem dX9_tree_79 : decode cX9_tree 79 = .ok (.iload_n 2, 1) := dcr zo_dX9_tree_63 8 rfl
theorem dX9_tree_80 : decode cX9_tree 80 = .ok (.invokevirtual 135, 3) := dcr zo_dX9_tree_63 9 rfl
theorem dX9_tree_83 : decode cX9_tree 83 = .ok (.iinc 4 1, 3) := dcr zo_dX9_tree_63 10 rfl
theorem dX9_tree_86 : decode cX9_tree 86 = .ok (.goto (-27), 3) := dcr zo_dX9_tree_63 11 rfl
theorem dX9_tree_89 : decode cX9_tree 89 = .ok (.aload_n 0, 1) := dcr zo_dX9_tree_63 12 rfl
theorem dX9_tree_90 : decode cX9_tree 90 = .ok (.getfield 125, 3) := dcr zo_dX9_tree_63 13 rfl
theorem dX9_tree_93 : decode cX9_tree 93 = .ok (.iload_n 1, 1) := dcr zo_dX9_tree_63 14 rfl
theorem dX9_tree_94 : decode cX9_tree 94 = .ok (.invokevirtual 139, 3) := dcr zo_dX9_tree_63 15 rfl
theorem zo_dX9_tree_97 : ([(97, .aload_n 0, 1), (98, .getfield 125, 3), (101, .iload_n 3, 1), (102, .invokevirtual 143, 3), (105, .ireturn, 1)] : List (Nat × Instr × Nat)).all (dOk (decode cX9_tree)) = true := by decide +kernel
theorem dX9_tree_97 : decode cX9_tree 97 = .ok (.aload_n 0, 1) := dcr zo_dX9_tree_97 0 rfl
theorem dX9_tree_98 : decode cX9_tree 98 = .ok (.getfield 125, 3) := dcr zo_dX9_tree_97 1 rfl
theorem dX9_tree_101 : decode cX9_tree 101 = .ok (.iload_n 3, 1) := dcr zo_dX9_tree_97 2 rfl
theorem dX9_tree_102 : decode cX9_tree 102 = .ok (.invokevirtual 143, 3) := dcr zo_dX9_tree_97 3 rfl
theorem dX9_tree_105 : decode cX9_tree 105 = .ok (.ireturn, 1) := dcr zo_dX9_tree_97 4 rfl
def zt_wsX9_lost : List (List Cond) := [[.code yX9_lost cX9_lost 6 (some .int)], wsX9_lost_r1, wsX9_lost_r2, wsX9_lost_r3, wsX9_lost_r4, wsX9_lost_r5, wsX9_lost_r6, wsX9_lost_r7, wsX9_lost_r8, wsX90, wsX30, wsX40, wsX70]
theorem zt_wsX9_lost_in : ∀ c ∈ zt_wsX9_lost, ∀ w ∈ c, w ∈ wsX9_lost := List.forall_mem_cons.mpr ⟨fun _ h => List.mem_cons.mpr (Or.inl (List.mem_singleton.mp h)), List.forall_mem_cons.mpr ⟨fun _ h => List.mem_cons_of_mem _ (List.mem_append_left _ (List.mem_append_left _ (List.mem_append_left _ (List.mem_append_left _ (List.mem_append_left _ h))))), List.forall_mem_cons.mpr ⟨fun _ h => List.mem_cons_of_mem _ (List.mem_append_left _ (List.mem_append_left _ (List.mem_append_left _ (List.mem_append_left _ (List.mem_append_right _ (List.mem_append_left _ h)))))), List.forall_mem_cons.mpr ⟨fun _ h => List.mem_cons_of_mem _ (List.mem_append_left _ (List.mem_append_left _ (List.mem_append_left _ (List.mem_append_left _ (List.mem_append_right _ (List.mem_append_right _ (List.mem_append_left _ h))))))), List.forall_mem_cons.mpr ⟨fun _ h => List.mem_cons_of_mem _ (List.mem_append_left _ (List.mem_append_left _ (List.mem_append_left _ (List.mem_append_left _ (List.mem_append_right _ (List.mem_append_right _ (List.mem_append_right _ (List.mem_append_left _ h)))))))), List.forall_mem_cons.mpr ⟨fun _ h => List.mem_cons_of_mem _ (List.mem_append_left _ (List.mem_append_left _ (List.mem_append_left _ (List.mem_append_left _ (List.mem_append_right _ (List.mem_append_right _ (List.mem_append_right _ (List.mem_append_right _ (List.mem_append_left _ h))))))))), List.forall_mem_cons.mpr ⟨fun _ h => List.mem_cons_of_mem _ (List.mem_append_left _ (List.mem_append_left _ (List.mem_append_left _ (List.mem_append_left _ (List.mem_append_right _ (List.mem_append_right _ (List.mem_append_right _ (List.mem_append_right _ (List.mem_append_right _ (List.mem_append_left _ h)))))))))), List.forall_mem_cons.mpr ⟨fun _ h => List.mem_cons_of_mem _ (List.mem_append_left _ (List.mem_append_left _ (List.mem_append_left _ (List.mem_append_left _ (List.mem_append_right _ (List.mem_append_right _ (List.mem_append_right _ (List.mem_append_right _ (List.mem_append_right _ (List.mem_append_right _ (List.mem_append_left _ h))))))))))), List.forall_mem_cons.mpr ⟨fun _ h => List.mem_cons_of_mem _ (List.mem_append_left _ (List.mem_append_left _ (List.mem_append_left _ (List.mem_append_left _ (List.mem_append_right _ (List.mem_append_right _ (List.mem_append_right _ (List.mem_append_right _ (List.mem_append_right _ (List.mem_append_right _ (List.mem_append_right _ (h)))))))))))), List.forall_mem_cons.mpr ⟨fun _ h => List.mem_cons_of_mem _ (List.mem_append_left _ (List.mem_append_left _ (List.mem_append_left _ (List.mem_append_right _ h)))), List.forall_mem_cons.mpr ⟨fun _ h => List.mem_cons_of_mem _ (List.mem_append_left _ (List.mem_append_left _ (List.mem_append_right _ h))), List.forall_mem_cons.mpr ⟨fun _ h => List.mem_cons_of_mem _ (List.mem_append_left _ (List.mem_append_right _ h)), List.forall_mem_cons.mpr ⟨fun _ h => List.mem_cons_of_mem _ (List.mem_append_right _ h), (fun _ h => absurd h List.not_mem_nil)⟩⟩⟩⟩⟩⟩⟩⟩⟩⟩⟩⟩⟩
set_option maxRecDepth 20000 in
theorem ggX9_lost_X9_isHand : GoodIn wsX9_lost wsX9_isHand := goodIn_c zt_wsX9_lost_in _ [(1, 5)] rfl zw_wsX9_isHand
set_option maxRecDepth 20000 in
theorem gX9_lost_X9_isHand : GoodIn wsX9_lost (va_wsS RX9 79 yX9_isHand wsX9_isHand) := goodIn_app (goodIn_of _ (by decide +kernel)) ggX9_lost_X9_isHand
set_option maxRecDepth 20000 in
theorem ggX9_lost_X9_isSet : GoodIn wsX9_lost wsX9_isSet := goodIn_c zt_wsX9_lost_in _ [(1, 8)] rfl zw_wsX9_isSet
set_option maxRecDepth 20000 in
theorem gX9_lost_X9_isSet : GoodIn wsX9_lost (va_wsS RX9 115 yX9_isSet wsX9_isSet) := goodIn_app (goodIn_of _ (by decide +kernel)) ggX9_lost_X9_isSet
set_option maxRecDepth 20000 in
theorem ggX9_lost_X9_areTold : GoodIn wsX9_lost wsX9_areTold := goodIn_c zt_wsX9_lost_in _ [(1, 12), (1, 0), (1, 13), (9, 0), (9, 1), (9, 2), (9, 3), (9, 4), (10, 0), (10, 1), (10, 2), (10, 3), (10, 4), (10, 5)] rfl zw_wsX9_areTold
set_option maxRecDepth 20000 in
theorem gX9_lost_X9_areTold : GoodIn wsX9_lost (wsV RX9 122 RX9 yX9_areTold wsX9_areTold) := goodIn_app (goodIn_of _ (by decide +kernel)) ggX9_lost_X9_areTold
set_option maxRecDepth 20000 in
theorem zw_wsX9_readySearch : wsX9_readySearch.all goodWord = true := by decide +kernel
set_option maxRecDepth 20000 in
theorem ggX9_lost_X9_readySearch : GoodIn wsX9_lost wsX9_readySearch := goodIn_c zt_wsX9_lost_in _ [(1, 17), (1, 18), (1, 19), (1, 20), (1, 21), (1, 22), (1, 23), (2, 0), (2, 1), (2, 2), (2, 3), (2, 4), (2, 5), (2, 6), (9, 0), (9, 1), (9, 2), (9, 3), (9, 4), (11, 0), (11, 1), (11, 2)] rfl zw_wsX9_readySearch
set_option maxRecDepth 20000 in
theorem gX9_lost_X9_readySearch : GoodIn wsX9_lost (wsV RX9 146 RX9 yX9_readySearch wsX9_readySearch) := goodIn_app (goodIn_of _ (by decide +kernel)) ggX9_lost_X9_readySearch
set_option maxRecDepth 20000 in
theorem zw_wsX4_clearSums : wsX4_clearSums.all goodWord = true := by decide +kernel
set_option maxRecDepth 20000 in
theorem ggX9_lost_X4_clearSums : GoodIn wsX9_lost wsX4_clearSums := goodIn_c zt_wsX9_lost_in _ [(2, 10), (2, 6), (2, 11), (2, 12), (2, 13), (2, 14), (11, 0), (11, 1), (11, 2)] rfl zw_wsX4_clearSums
set_option maxRecDepth 20000 in
theorem gX9_lost_X4_clearSums : GoodIn wsX9_lost (wsV RX9 150 RX4 yX4_clearSums wsX4_clearSums) := goodIn_app (goodIn_of _ (by decide +kernel)) ggX9_lost_X4_clearSums
set_option maxRecDepth 20000 in
theorem ggX9_lost_X9_isOf : GoodIn wsX9_lost wsX9_isOf := goodIn_c zt_wsX9_lost_in _ [(2, 17), (2, 18), (2, 19), (1, 4), (2, 20)] rfl zw_wsX9_isOf
set_option maxRecDepth 20000 in
theorem gX9_lost_X9_isOf : GoodIn wsX9_lost (va_wsS RX9 132 yX9_isOf wsX9_isOf) := goodIn_app (goodIn_of _ (by decide +kernel)) ggX9_lost_X9_isOf
set_option maxRecDepth 20000 in
theorem ggX9_lost_X9_tableOf : GoodIn wsX9_lost wsX9_tableOf := goodIn_c zt_wsX9_lost_in _ [(3, 0), (1, 0), (1, 1), (3, 1), (3, 2), (3, 3), (3, 4), (3, 5), (3, 6), (3, 7), (3, 8), (3, 9), (3, 10), (3, 11), (3, 12), (3, 13), (3, 14), (3, 15), (3, 16), (3, 17), (3, 18), (3, 19), (3, 20), (3, 21), (3, 22), (3, 23), (4, 0), (1, 14), (1, 15), (1, 16), (1, 4), (1, 17), (1, 18), (1, 19), (1, 20), (1, 21), (1, 22), (1, 23), (2, 0), (2, 1), (2, 2), (2, 3), (2, 4), (2, 5), (2, 6), (4, 1), (4, 2), (4, 3), (4, 4), (4, 5), (4, 6), (4, 7), (4, 8), (4, 9), (4, 10), (4, 11), (4, 12), (4, 13), (4, 14), (4, 15), (4, 16), (4, 17), (4, 18), (4, 19), (4, 20), (4, 21), (4, 22), (4, 23), (5, 0), (5, 1), (5, 2), (5, 3), (5, 4), (5, 5), (5, 6), (5, 7), (5, 8), (5, 9), (5, 10), (5, 11), (5, 12), (5, 13), (2, 13), (5, 14), (5, 15), (5, 16), (5, 17), (5, 18), (5, 19), (5, 20), (5, 21), (5, 22), (5, 23), (6, 0), (6, 1), (6, 2), (9, 0), (9, 1), (9, 2), (9, 3), (9, 4), (10, 0), (10, 1), (10, 2), (10, 3), (10, 4), (10, 5), (11, 0), (11, 1), (11, 2), (12, 0), (12, 1), (12, 2), (12, 3), (12, 4), (12, 5), (12, 6)] rfl zw_wsX9_tableOf
set_option maxRecDepth 20000 in
theorem gX9_lost_X9_tableOf : GoodIn wsX9_lost (wsV RX9 102 RX9 yX9_tableOf wsX9_tableOf) := goodIn_app (goodIn_of _ (by decide +kernel)) ggX9_lost_X9_tableOf
set_option maxRecDepth 20000 in
theorem zw_wsX4_addToSums : wsX4_addToSums.all goodWord = true := by decide +kernel
set_option maxRecDepth 20000 in
theorem ggX9_lost_X4_addToSums : GoodIn wsX9_lost wsX4_addToSums := goodIn_c zt_wsX9_lost_in _ [(6, 6), (2, 6), (6, 7), (6, 8), (6, 9), (4, 13), (6, 10), (6, 11), (6, 12), (6, 13), (6, 14), (4, 17), (5, 10), (5, 11), (5, 5), (6, 15), (6, 16), (3, 13), (6, 17), (3, 15), (3, 16), (3, 17), (3, 18), (6, 18), (6, 19), (6, 20), (6, 21), (5, 4), (6, 22), (6, 23), (7, 0), (7, 1), (4, 16), (6, 2), (7, 2), (3, 20), (3, 21), (7, 3), (7, 4), (7, 5), (7, 6), (5, 19), (5, 20), (5, 21), (5, 22), (7, 7), (11, 0), (11, 1), (11, 2), (12, 0), (12, 1), (12, 2), (12, 3), (12, 4), (12, 5), (12, 6)] rfl zw_wsX4_addToSums
set_option maxRecDepth 20000 in
theorem gX9_lost_X4_addToSums : GoodIn wsX9_lost (wsV RX9 155 RX4 yX4_addToSums wsX4_addToSums) := goodIn_app (goodIn_of _ (by decide +kernel)) ggX9_lost_X4_addToSums
set_option maxRecDepth 20000 in
theorem zw_wsX4_firstOfLeastSum : wsX4_firstOfLeastSum.all goodWord = true := by decide +kernel
set_option maxRecDepth 20000 in
theorem ggX9_lost_X4_firstOfLeastSum : GoodIn wsX9_lost wsX4_firstOfLeastSum := goodIn_c zt_wsX9_lost_in _ [(7, 11), (7, 12), (7, 13), (7, 14), (7, 15), (2, 6), (7, 16), (3, 16), (3, 13), (3, 17), (3, 18), (7, 17), (7, 18), (7, 19), (1, 21), (7, 20), (11, 0), (11, 1), (11, 2)] rfl zw_wsX4_firstOfLeastSum
set_option maxRecDepth 20000 in
theorem gX9_lost_X4_firstOfLeastSum : GoodIn wsX9_lost (wsV RX9 159 RX4 yX4_firstOfLeastSum wsX4_firstOfLeastSum) := goodIn_app (goodIn_of _ (by decide +kernel)) ggX9_lost_X4_firstOfLeastSum
set_option maxRecDepth 20000 in
theorem ggX9_lost_X4_sumOf : GoodIn wsX9_lost wsX4_sumOf := goodIn_c zt_wsX9_lost_in _ [(7, 20), (2, 6), (11, 0), (11, 1), (11, 2)] rfl zw_wsX4_sumOf
set_option maxRecDepth 20000 in
theorem gX9_lost_X4_sumOf : GoodIn wsX9_lost (wsV RX9 162 RX4 yX4_sumOf wsX4_sumOf) := goodIn_app (goodIn_of _ (by decide +kernel)) ggX9_lost_X4_sumOf
set_option maxRecDepth 20000 in
theorem ggX9_lost_X9_isSite : GoodIn wsX9_lost wsX9_isSite := goodIn_c zt_wsX9_lost_in _ [(8, 1), (1, 0), (1, 1), (9, 0), (9, 1), (9, 2), (9, 3), (9, 4), (10, 0), (10, 1), (10, 2), (10, 3), (10, 4), (10, 5)] rfl zw_wsX9_isSite
set_option maxRecDepth 20000 in
theorem gX9_lost_X9_isSite : GoodIn wsX9_lost (wsV RX9 59 RX9 yX9_isSite wsX9_isSite) := goodIn_app (goodIn_of _ (by decide +kernel)) ggX9_lost_X9_isSite
set_option maxRecDepth 20000 in
theorem ggX9_lost_X1_signAt : GoodIn wsX9_lost wsX1_signAt := goodIn_c zt_wsX9_lost_in _ [(3, 14), (3, 15), (3, 16), (3, 13), (3, 17), (3, 18), (3, 19), (3, 20), (3, 21)] rfl zw_wsX1_signAt
set_option maxRecDepth 20000 in
theorem gX9_lost_X1_signAt : GoodIn wsX9_lost (va_wsS RX9 69 yX1_signAt wsX1_signAt) := goodIn_app (goodIn_of _ (by decide +kernel)) ggX9_lost_X1_signAt
set_option maxRecDepth 20000 in
theorem ggX9_lost_X5_written : GoodIn wsX9_lost wsX5_written := goodIn_c zt_wsX9_lost_in _ [(8, 6), (8, 7)] rfl zw_wsX5_written
set_option maxRecDepth 20000 in
theorem gX9_lost_X5_written : GoodIn wsX9_lost (va_wsS RX9 74 yX5_written wsX5_written) := goodIn_app (goodIn_of _ (by decide +kernel)) ggX9_lost_X5_written
theorem zo_dX9_lost_0 : ([(0, .iload_n 2, 1), (1, .invokestatic 79, 3), (4, .ifCond .ne 5, 3), (7, .iconst (-1), 1), (8, .ireturn, 1), (9, .iload_n 1, 1), (10, .invokestatic 115, 3), (13, .ifCond .ne 6, 3), (16, .bipush (-2), 2), (18, .ireturn, 1), (19, .aload_n 0, 1), (20, .iload_n 1, 1), (21, .invokevirtual 122, 3), (24, .ifCond .ne 6, 3), (27, .bipush (-3), 2), (29, .ireturn, 1)] : List (Nat × Instr × Nat)).all (dOk (decode cX9_lost)) = true := by decide +kernel
theorem dX9_lost_0 : decode cX9_lost 0 = .ok (.iload_n 2, 1) := dcr zo_dX9_lost_0 0 rfl
theorem dX9_lost_1 : decode cX9_lost 1 = .ok (.invokestatic 79, 3) := dcr zo_dX9_lost_0 1 rfl
theorem dX9_lost_4 : decode cX9_lost 4 = .ok (.ifCond .ne 5, 3) := dcr zo_dX9_lost_0 2 rfl
theorem dX9_lost_7 : decode cX9_lost 7 = .ok (.iconst (-1), 1) := dcr zo_dX9_lost_0 3 rfl
theorem dX9_lost_8 : decode cX9_lost 8 = .ok (.ireturn, 1) := dcr zo_dX9_lost_0 4 rfl
theorem dX9_lost_9 : decode cX9_lost 9 = .ok (.iload_n 1, 1) := dcr zo_dX9_lost_0 5 rfl
theorem dX9_lost_10 : decode cX9_lost 10 = .ok (.invokestatic 115, 3) := dcr zo_dX9_lost_0 6 rfl
theorem dX9_lost_13 : decode cX9_lost 13 = .ok (.ifCond .ne 6, 3) := dcr zo_dX9_lost_0 7 rfl
theorem dX9_lost_16 : decode cX9_lost 16 = .ok (.bipush (-2), 2) := dcr zo_dX9_lost_0 8 rfl
theorem dX9_lost_18 : decode cX9_lost 18 = .ok (.ireturn, 1) := dcr zo_dX9_lost_0 9 rfl
theorem dX9_lost_19 : decode cX9_lost 19 = .ok (.aload_n 0, 1) := dcr zo_dX9_lost_0 10 rfl
theorem dX9_lost_20 : decode cX9_lost 20 = .ok (.iload_n 1, 1) := dcr zo_dX9_lost_0 11 rfl
theorem dX9_lost_21 : decode cX9_lost 21 = .ok (.invokevirtual 122, 3) := dcr zo_dX9_lost_0 12 rfl
theorem dX9_lost_24 : decode cX9_lost 24 = .ok (.ifCond .ne 6, 3) := dcr zo_dX9_lost_0 13 rfl
theorem dX9_lost_27 : decode cX9_lost 27 = .ok (.bipush (-3), 2) := dcr zo_dX9_lost_0 14 rfl
theorem dX9_lost_29 : decode cX9_lost 29 = .ok (.ireturn, 1) := dcr zo_dX9_lost_0 15 rfl
theorem zo_dX9_lost_30 : ([(30, .aload_n 0, 1), (31, .invokevirtual 146, 3), (34, .astore 4, 2), (36, .aload 4, 2), (38, .invokevirtual 150, 3), (41, .iconst 0, 1), (42, .istore 5, 2), (44, .iload 5, 2), (46, .bipush 6, 2), (48, .if_icmp .ge 30, 3), (51, .iload_n 1, 1), (52, .iload 5, 2), (54, .invokestatic 132, 3), (57, .ifCond .eq 15, 3), (60, .aload 4, 2), (62, .aload_n 0, 1)] : List (Nat × Instr × Nat)).all (dOk (decode cX9_lost)) = true := by decide +kernel
theorem dX9_lost_30 : decode cX9_lost 30 = .ok (.aload_n 0, 1) := dcr zo_dX9_lost_30 0 rfl
theorem dX9_lost_31 : decode cX9_lost 31 = .ok (.invokevirtual 146, 3) := dcr zo_dX9_lost_30 1 rfl
theorem dX9_lost_34 : decode cX9_lost 34 = .ok (.astore 4, 2) := dcr zo_dX9_lost_30 2 rfl
theorem dX9_lost_36 : decode cX9_lost 36 = .ok (.aload 4, 2) := dcr zo_dX9_lost_30 3 rfl
theorem dX9_lost_38 : decode cX9_lost 38 = .ok (.invokevirtual 150, 3) := dcr zo_dX9_lost_30 4 rfl
theorem dX9_lost_41 : decode cX9_lost 41 = .ok (.iconst 0, 1) := dcr zo_dX9_lost_30 5 rfl
theorem dX9_lost_42 : decode cX9_lost 42 = .ok (.istore 5, 2) := dcr zo_dX9_lost_30 6 rfl
theorem dX9_lost_44 : decode cX9_lost 44 = .ok (.iload 5, 2) := dcr zo_dX9_lost_30 7 rfl
theorem dX9_lost_46 : decode cX9_lost 46 = .ok (.bipush 6, 2) := dcr zo_dX9_lost_30 8 rfl
theorem dX9_lost_48 : decode cX9_lost 48 = .ok (.if_icmp .ge 30, 3) := dcr zo_dX9_lost_30 9 rfl
theorem dX9_lost_51 : decode cX9_lost 51 = .ok (.iload_n 1, 1) := dcr zo_dX9_lost_30 10 rfl
theorem dX9_lost_52 : decode cX9_lost 52 = .ok (.iload 5, 2) := dcr zo_dX9_lost_30 11 rfl
theorem dX9_lost_54 : decode cX9_lost 54 = .ok (.invokestatic 132, 3) := dcr zo_dX9_lost_30 12 rfl
theorem dX9_lost_57 : decode cX9_lost 57 = .ok (.ifCond .eq 15, 3) := dcr zo_dX9_lost_30 13 rfl
theorem dX9_lost_60 : decode cX9_lost 60 = .ok (.aload 4, 2) := dcr zo_dX9_lost_30 14 rfl
theorem dX9_lost_62 : decode cX9_lost 62 = .ok (.aload_n 0, 1) := dcr zo_dX9_lost_30 15 rfl
theorem zo_dX9_lost_63 : ([(63, .iload 5, 2), (65, .iload_n 2, 1), (66, .invokevirtual 102, 3), (69, .invokevirtual 155, 3), (72, .iinc 5 1, 3), (75, .goto (-31), 3), (78, .aload 4, 2), (80, .aload_n 0, 1), (81, .getfield 19, 3), (84, .getfield 27, 3), (87, .invokevirtual 159, 3), (90, .istore 5, 2), (92, .iload 5, 2), (94, .ifCond .ge 6, 3), (97, .bipush (-6), 2), (99, .ireturn, 1)] : List (Nat × Instr × Nat)).all (dOk (decode cX9_lost)) = true := by decide +kernel
theorem dX9_lost_63 : decode cX9_lost 63 = .ok (.iload 5, 2) := dcr zo_dX9_lost_63 0 rfl
theorem dX9_lost_65 : decode cX9_lost 65 = .ok (.iload_n 2, 1) := dcr zo_dX9_lost_63 1 rfl
theorem dX9_lost_66 : decode cX9_lost 66 = .ok (.invokevirtual 102, 3) := dcr zo_dX9_lost_63 2 rfl
theorem dX9_lost_69 : decode cX9_lost 69 = .ok (.invokevirtual 155, 3) := dcr zo_dX9_lost_63 3 rfl
theorem dX9_lost_72 : decode cX9_lost 72 = .ok (.iinc 5 1, 3) := dcr zo_dX9_lost_63 4 rfl
theorem dX9_lost_75 : decode cX9_lost 75 = .ok (.goto (-31), 3) := dcr zo_dX9_lost_63 5 rfl
theorem dX9_lost_78 : decode cX9_lost 78 = .ok (.aload 4, 2) := dcr zo_dX9_lost_63 6 rfl
theorem dX9_lost_80 : decode cX9_lost 80 = .ok (.aload_n 0, 1) := dcr zo_dX9_lost_63 7 rfl
theorem dX9_lost_81 : decode cX9_lost 81 = .ok (.getfield 19, 3) := dcr zo_dX9_lost_63 8 rfl
theorem dX9_lost_84 : decode cX9_lost 84 = .ok (.getfield 27, 3) := dcr zo_dX9_lost_63 9 rfl
theorem dX9_lost_87 : decode cX9_lost 87 = .ok (.invokevirtual 159, 3) := dcr zo_dX9_lost_63 10 rfl
theorem dX9_lost_90 : decode cX9_lost 90 = .ok (.istore 5, 2) := dcr zo_dX9_lost_63 11 rfl
theorem dX9_lost_92 : decode cX9_lost 92 = .ok (.iload 5, 2) := dcr zo_dX9_lost_63 12 rfl
theorem dX9_lost_94 : decode cX9_lost 94 = .ok (.ifCond .ge 6, 3) := dcr zo_dX9_lost_63 13 rfl
theorem dX9_lost_97 : decode cX9_lost 97 = .ok (.bipush (-6), 2) := dcr zo_dX9_lost_63 14 rfl
theorem dX9_lost_99 : decode cX9_lost 99 = .ok (.ireturn, 1) := dcr zo_dX9_lost_63 15 rfl
theorem zo_dX9_lost_100 : ([(100, .iload_n 3, 1), (101, .iconst (-1), 1), (102, .if_icmp .ne 11, 3), (105, .aload 4, 2), (107, .iload 5, 2), (109, .invokevirtual 162, 3), (112, .ireturn, 1), (113, .aload_n 0, 1), (114, .iload_n 3, 1), (115, .invokevirtual 59, 3), (118, .ifCond .eq 15, 3), (121, .iload 5, 2), (123, .iload_n 3, 1), (124, .invokestatic 69, 3), (127, .invokestatic 74, 3), (130, .goto 5, 3)] : List (Nat × Instr × Nat)).all (dOk (decode cX9_lost)) = true := by decide +kernel
theorem dX9_lost_100 : decode cX9_lost 100 = .ok (.iload_n 3, 1) := dcr zo_dX9_lost_100 0 rfl
theorem dX9_lost_101 : decode cX9_lost 101 = .ok (.iconst (-1), 1) := dcr zo_dX9_lost_100 1 rfl
theorem dX9_lost_102 : decode cX9_lost 102 = .ok (.if_icmp .ne 11, 3) := dcr zo_dX9_lost_100 2 rfl
theorem dX9_lost_105 : decode cX9_lost 105 = .ok (.aload 4, 2) := dcr zo_dX9_lost_100 3 rfl
theorem dX9_lost_107 : decode cX9_lost 107 = .ok (.iload 5, 2) := dcr zo_dX9_lost_100 4 rfl
theorem dX9_lost_109 : decode cX9_lost 109 = .ok (.invokevirtual 162, 3) := dcr zo_dX9_lost_100 5 rfl
theorem dX9_lost_112 : decode cX9_lost 112 = .ok (.ireturn, 1) := dcr zo_dX9_lost_100 6 rfl
theorem dX9_lost_113 : decode cX9_lost 113 = .ok (.aload_n 0, 1) := dcr zo_dX9_lost_100 7 rfl
theorem dX9_lost_114 : decode cX9_lost 114 = .ok (.iload_n 3, 1) := dcr zo_dX9_lost_100 8 rfl
theorem dX9_lost_115 : decode cX9_lost 115 = .ok (.invokevirtual 59, 3) := dcr zo_dX9_lost_100 9 rfl
theorem dX9_lost_118 : decode cX9_lost 118 = .ok (.ifCond .eq 15, 3) := dcr zo_dX9_lost_100 10 rfl
theorem dX9_lost_121 : decode cX9_lost 121 = .ok (.iload 5, 2) := dcr zo_dX9_lost_100 11 rfl
theorem dX9_lost_123 : decode cX9_lost 123 = .ok (.iload_n 3, 1) := dcr zo_dX9_lost_100 12 rfl
theorem dX9_lost_124 : decode cX9_lost 124 = .ok (.invokestatic 69, 3) := dcr zo_dX9_lost_100 13 rfl
theorem dX9_lost_127 : decode cX9_lost 127 = .ok (.invokestatic 74, 3) := dcr zo_dX9_lost_100 14 rfl
theorem dX9_lost_130 : decode cX9_lost 130 = .ok (.goto 5, 3) := dcr zo_dX9_lost_100 15 rfl
theorem zo_dX9_lost_133 : ([(133, .bipush (-6), 2), (135, .ireturn, 1)] : List (Nat × Instr × Nat)).all (dOk (decode cX9_lost)) = true := by decide +kernel
theorem dX9_lost_133 : decode cX9_lost 133 = .ok (.bipush (-6), 2) := dcr zo_dX9_lost_133 0 rfl
theorem dX9_lost_135 : decode cX9_lost 135 = .ok (.ireturn, 1) := dcr zo_dX9_lost_133 1 rfl
def zt_wsX9_wished : List (List Cond) := [[.code yX9_wished cX9_wished 8 (some .int)], wsX9_wished_r1, wsX9_wished_r2, wsX9_wished_r3, wsX9_wished_r4, wsX9_wished_r5, wsX9_wished_r6, wsX9_wished_r7, wsX9_wished_r8, wsX9_wished_r9, wsX90, wsX30, wsX20, wsX40, wsX70]
theorem zt_wsX9_wished_in : ∀ c ∈ zt_wsX9_wished, ∀ w ∈ c, w ∈ wsX9_wished := List.forall_mem_cons.mpr ⟨fun _ h => List.mem_cons.mpr (Or.inl (List.mem_singleton.mp h)), List.forall_mem_cons.mpr ⟨fun _ h => List.mem_cons_of_mem _ (List.mem_append_left _ (List.mem_append_left _ (List.mem_append_left _ (List.mem_append_left _ (List.mem_append_left _ (List.mem_append_left _ h)))))), List.forall_mem_cons.mpr ⟨fun _ h => List.mem_cons_of_mem _ (List.mem_append_left _ (List.mem_append_left _ (List.mem_append_left _ (List.mem_append_left _ (List.mem_append_left _ (List.mem_append_right _ (List.mem_append_left _ h))))))), List.forall_mem_cons.mpr ⟨fun _ h => List.mem_cons_of_mem _ (List.mem_append_left _ (List.mem_append_left _ (List.mem_append_left _ (List.mem_append_left _ (List.mem_append_left _ (List.mem_append_right _ (List.mem_append_right _ (List.mem_append_left _ h)))))))), List.forall_mem_cons.mpr ⟨fun _ h => List.mem_cons_of_mem _ (List.mem_append_left _ (List.mem_append_left _ (List.mem_append_left _ (List.mem_append_left _ (List.mem_append_left _ (List.mem_append_right _ (List.mem_append_right _ (List.mem_append_right _ (List.mem_append_left _ h))))))))), List.forall_mem_cons.mpr ⟨fun _ h => List.mem_cons_of_mem _ (List.mem_append_left _ (List.mem_append_left _ (List.mem_append_left _ (List.mem_append_left _ (List.mem_append_left _ (List.mem_append_right _ (List.mem_append_right _ (List.mem_append_right _ (List.mem_append_right _ (List.mem_append_left _ h)))))))))), List.forall_mem_cons.mpr ⟨fun _ h => List.mem_cons_of_mem _ (List.mem_append_left _ (List.mem_append_left _ (List.mem_append_left _ (List.mem_append_left _ (List.mem_append_left _ (List.mem_append_right _ (List.mem_append_right _ (List.mem_append_right _ (List.mem_append_right _ (List.mem_append_right _ (List.mem_append_left _ h))))))))))), List.forall_mem_cons.mpr ⟨fun _ h => List.mem_cons_of_mem _ (List.mem_append_left _ (List.mem_append_left _ (List.mem_append_left _ (List.mem_append_left _ (List.mem_append_left _ (List.mem_append_right _ (List.mem_append_right _ (List.mem_append_right _ (List.mem_append_right _ (List.mem_append_right _ (List.mem_append_right _ (List.mem_append_left _ h)))))))))))), List.forall_mem_cons.mpr ⟨fun _ h => List.mem_cons_of_mem _ (List.mem_append_left _ (List.mem_append_left _ (List.mem_append_left _ (List.mem_append_left _ (List.mem_append_left _ (List.mem_append_right _ (List.mem_append_right _ (List.mem_append_right _ (List.mem_append_right _ (List.mem_append_right _ (List.mem_append_right _ (List.mem_append_right _ (List.mem_append_left _ h))))))))))))), List.forall_mem_cons.mpr ⟨fun _ h => List.mem_cons_of_mem _ (List.mem_append_left _ (List.mem_append_left _ (List.mem_append_left _ (List.mem_append_left _ (List.mem_append_left _ (List.mem_append_right _ (List.mem_append_right _ (List.mem_append_right _ (List.mem_append_right _ (List.mem_append_right _ (List.mem_append_right _ (List.mem_append_right _ (List.mem_append_right _ (h)))))))))))))), List.forall_mem_cons.mpr ⟨fun _ h => List.mem_cons_of_mem _ (List.mem_append_left _ (List.mem_append_left _ (List.mem_append_left _ (List.mem_append_left _ (List.mem_append_right _ h))))), List.forall_mem_cons.mpr ⟨fun _ h => List.mem_cons_of_mem _ (List.mem_append_left _ (List.mem_append_left _ (List.mem_append_left _ (List.mem_append_right _ h)))), List.forall_mem_cons.mpr ⟨fun _ h => List.mem_cons_of_mem _ (List.mem_append_left _ (List.mem_append_left _ (List.mem_append_right _ h))), List.forall_mem_cons.mpr ⟨fun _ h => List.mem_cons_of_mem _ (List.mem_append_left _ (List.mem_append_right _ h)), List.forall_mem_cons.mpr ⟨fun _ h => List.mem_cons_of_mem _ (List.mem_append_right _ h), (fun _ h => absurd h List.not_mem_nil)⟩⟩⟩⟩⟩⟩⟩⟩⟩⟩⟩⟩⟩⟩⟩
set_option maxRecDepth 20000 in
theorem ggX9_wished_X9_isMap : GoodIn wsX9_wished wsX9_isMap := goodIn_c zt_wsX9_wished_in _ [(1, 6)] rfl zw_wsX9_isMap
set_option maxRecDepth 20000 in
theorem gX9_wished_X9_isMap : GoodIn wsX9_wished (va_wsS RX9 48 yX9_isMap wsX9_isMap) := goodIn_app (goodIn_of _ (by decide +kernel)) ggX9_wished_X9_isMap
set_option maxRecDepth 20000 in
theorem ggX9_wished_X9_isHand : GoodIn wsX9_wished wsX9_isHand := goodIn_c zt_wsX9_wished_in _ [(1, 9)] rfl zw_wsX9_isHand
set_option maxRecDepth 20000 in
theorem gX9_wished_X9_isHand : GoodIn wsX9_wished (va_wsS RX9 79 yX9_isHand wsX9_isHand) := goodIn_app (goodIn_of _ (by decide +kernel)) ggX9_wished_X9_isHand
set_option maxRecDepth 20000 in
theorem ggX9_wished_X9_isTold : GoodIn wsX9_wished wsX9_isTold := goodIn_c zt_wsX9_wished_in _ [(1, 13), (1, 0), (1, 14), (1, 15), (1, 16), (1, 5), (1, 17), (1, 3), (1, 4), (1, 6), (10, 0), (10, 1), (10, 2), (10, 3), (10, 4), (11, 0), (11, 1), (11, 2), (11, 3), (11, 4), (11, 5)] rfl zw_wsX9_isTold
set_option maxRecDepth 20000 in
theorem gX9_wished_X9_isTold : GoodIn wsX9_wished (wsV RX9 62 RX9 yX9_isTold wsX9_isTold) := goodIn_app (goodIn_of _ (by decide +kernel)) ggX9_wished_X9_isTold
set_option maxRecDepth 20000 in
theorem ggX9_wished_X2_firstWrong : GoodIn wsX9_wished wsX2_firstWrong := goodIn_c zt_wsX9_wished_in _ [(1, 22), (1, 23), (2, 0), (2, 1), (2, 2), (1, 21), (2, 3), (2, 4), (2, 5), (2, 6), (2, 7), (2, 8), (2, 9), (2, 10), (2, 11), (2, 12), (2, 13), (2, 14), (2, 15), (2, 16), (2, 17), (2, 18), (2, 19), (2, 20), (2, 21), (2, 22), (2, 23), (3, 0), (3, 1), (3, 2), (3, 3), (3, 4), (3, 5), (3, 6), (3, 7), (3, 8), (3, 9), (12, 0), (12, 1), (12, 2)] rfl zw_wsX2_firstWrong
set_option maxRecDepth 20000 in
theorem gX9_wished_X2_firstWrong : GoodIn wsX9_wished (wsV RX9 44 RX2 yX2_firstWrong wsX2_firstWrong) := goodIn_app (goodIn_of _ (by decide +kernel)) ggX9_wished_X2_firstWrong
set_option maxRecDepth 20000 in
theorem ggX9_wished_X3_codeOf : GoodIn wsX9_wished wsX3_codeOf := goodIn_c zt_wsX9_wished_in _ [(3, 14), (3, 15), (11, 0), (11, 1), (11, 2), (11, 3), (11, 4), (11, 5)] rfl zw_wsX3_codeOf
set_option maxRecDepth 20000 in
theorem gX9_wished_X3_codeOf : GoodIn wsX9_wished (wsV RX9 65 RX3 yX3_codeOf wsX3_codeOf) := goodIn_app (goodIn_of _ (by decide +kernel)) ggX9_wished_X3_codeOf
set_option maxRecDepth 20000 in
theorem zw_wsX9_goalPast : wsX9_goalPast.all goodWord = true := by decide +kernel
set_option maxRecDepth 20000 in
theorem ggX9_wished_X9_goalPast : GoodIn wsX9_wished wsX9_goalPast := goodIn_c zt_wsX9_wished_in _ [(3, 19), (1, 0), (1, 1), (1, 2), (3, 20), (2, 22), (2, 23), (1, 21), (3, 0), (2, 12), (2, 13), (2, 14), (2, 15), (1, 23), (2, 16), (3, 1), (3, 2), (3, 3), (3, 4), (3, 5), (3, 21), (3, 22), (3, 23), (4, 0), (4, 1), (4, 2), (4, 3), (4, 4), (4, 5), (4, 6), (4, 7), (4, 8), (4, 9), (4, 10), (4, 11), (10, 0), (10, 1), (10, 2), (10, 3), (10, 4), (11, 0), (11, 1), (11, 2), (11, 3), (11, 4), (11, 5), (12, 0), (12, 1), (12, 2)] rfl zw_wsX9_goalPast
set_option maxRecDepth 20000 in
theorem gX9_wished_X9_goalPast : GoodIn wsX9_wished (wsV RX9 165 RX9 yX9_goalPast wsX9_goalPast) := goodIn_app (goodIn_of _ (by decide +kernel)) ggX9_wished_X9_goalPast
set_option maxRecDepth 20000 in
theorem ggX9_wished_X9_readySearch : GoodIn wsX9_wished wsX9_readySearch := goodIn_c zt_wsX9_wished_in _ [(4, 15), (4, 16), (4, 17), (4, 18), (4, 19), (4, 20), (4, 21), (4, 22), (4, 23), (5, 0), (5, 1), (5, 2), (5, 3), (5, 4), (10, 0), (10, 1), (10, 2), (10, 3), (10, 4), (13, 0), (13, 1), (13, 2)] rfl zw_wsX9_readySearch
set_option maxRecDepth 20000 in
theorem gX9_wished_X9_readySearch : GoodIn wsX9_wished (wsV RX9 146 RX9 yX9_readySearch wsX9_readySearch) := goodIn_app (goodIn_of _ (by decide +kernel)) ggX9_wished_X9_readySearch
set_option maxRecDepth 20000 in
theorem ggX9_wished_X3_kindsOf : GoodIn wsX9_wished wsX3_kindsOf := goodIn_c zt_wsX9_wished_in _ [(5, 8), (5, 9), (11, 0), (11, 1), (11, 2), (11, 3), (11, 4), (11, 5)] rfl zw_wsX3_kindsOf
set_option maxRecDepth 20000 in
theorem gX9_wished_X3_kindsOf : GoodIn wsX9_wished (wsV RX9 82 RX3 yX3_kindsOf wsX3_kindsOf) := goodIn_app (goodIn_of _ (by decide +kernel)) ggX9_wished_X3_kindsOf
set_option maxRecDepth 20000 in
theorem zw_wsX4_toward : wsX4_toward.all goodWord = true := by decide +kernel
set_option maxRecDepth 20000 in
theorem ggX9_wished_X4_toward : GoodIn wsX9_wished wsX4_toward := goodIn_c zt_wsX9_wished_in _ [(5, 13), (5, 2), (5, 14), (5, 15), (5, 16), (5, 17), (5, 18), (5, 19), (5, 20), (5, 21), (5, 22), (5, 23), (6, 0), (4, 19), (6, 1), (6, 2), (5, 1), (6, 3), (6, 4), (6, 5), (6, 6), (4, 23), (5, 0), (6, 7), (6, 8), (5, 3), (6, 9), (6, 10), (6, 11), (6, 12), (6, 13), (6, 14), (6, 15), (6, 16), (6, 17), (6, 18), (6, 19), (6, 20), (6, 21), (6, 22), (6, 23), (7, 0), (7, 1), (7, 2), (7, 3), (7, 4), (7, 5), (4, 10), (7, 6), (7, 7), (4, 2), (3, 23), (4, 3), (4, 4), (13, 0), (13, 1), (13, 2), (14, 0), (14, 1), (14, 2), (14, 3), (14, 4), (14, 5), (14, 6)] rfl zw_wsX4_toward
set_option maxRecDepth 20000 in
theorem gX9_wished_X4_toward : GoodIn wsX9_wished (wsV RX9 168 RX4 yX4_toward wsX4_toward) := goodIn_app (goodIn_of _ (by decide +kernel)) ggX9_wished_X4_toward
set_option maxRecDepth 20000 in
theorem ggX9_wished_X9_rowAnswer : GoodIn wsX9_wished wsX9_rowAnswer := goodIn_c zt_wsX9_wished_in _ [(7, 11), (1, 0), (7, 12), (7, 13), (7, 14), (5, 17), (7, 15), (7, 16), (7, 17), (7, 18), (7, 19), (5, 21), (6, 14), (6, 15), (6, 9), (7, 20), (7, 21), (3, 23), (7, 22), (4, 1), (4, 2), (4, 3), (4, 4), (7, 23), (8, 0), (8, 1), (8, 2), (6, 8), (8, 3), (8, 4), (8, 5), (8, 6), (5, 20), (7, 7), (8, 7), (4, 6), (4, 7), (8, 8), (8, 9), (8, 10), (8, 11), (7, 0), (7, 1), (7, 2), (7, 3), (5, 5), (5, 6), (5, 7), (3, 13), (5, 8), (5, 9), (8, 12), (8, 13), (8, 14), (1, 5), (8, 15), (1, 1), (8, 16), (8, 17), (8, 18), (2, 19), (8, 19), (8, 20), (8, 21), (8, 22), (8, 23), (9, 0), (2, 18), (2, 20), (9, 1), (9, 2), (9, 3), (9, 4), (3, 22), (4, 0), (4, 5), (9, 5), (9, 6), (9, 7), (9, 8), (10, 0), (10, 1), (10, 2), (10, 3), (10, 4), (14, 0), (14, 1), (14, 2), (14, 3), (14, 4), (14, 5), (14, 6), (11, 0), (11, 1), (11, 2), (11, 3), (11, 4), (11, 5)] rfl zw_wsX9_rowAnswer
set_option maxRecDepth 20000 in
theorem gX9_wished_X9_rowAnswer : GoodIn wsX9_wished (wsV RX9 106 RX9 yX9_rowAnswer wsX9_rowAnswer) := goodIn_app (goodIn_of _ (by decide +kernel)) ggX9_wished_X9_rowAnswer
theorem zo_dX9_wished_0 : ([(0, .iload_n 1, 1), (1, .invokestatic 48, 3), (4, .ifCond .eq 10, 3), (7, .iload_n 2, 1), (8, .invokestatic 79, 3), (11, .ifCond .ne 5, 3), (14, .iconst (-1), 1), (15, .ireturn, 1), (16, .iload_n 3, 1), (17, .ifCond .lt 16, 3), (20, .iload_n 3, 1), (21, .iconst 1, 1), (22, .aload_n 0, 1), (23, .getfield 19, 3), (26, .getfield 27, 3), (29, .ishl, 1)] : List (Nat × Instr × Nat)).all (dOk (decode cX9_wished)) = true := by decide +kernel
theorem dX9_wished_0 : decode cX9_wished 0 = .ok (.iload_n 1, 1) := dcr zo_dX9_wished_0 0 rfl
theorem dX9_wished_1 : decode cX9_wished 1 = .ok (.invokestatic 48, 3) := dcr zo_dX9_wished_0 1 rfl
theorem dX9_wished_4 : decode cX9_wished 4 = .ok (.ifCond .eq 10, 3) := dcr zo_dX9_wished_0 2 rfl
theorem dX9_wished_7 : decode cX9_wished 7 = .ok (.iload_n 2, 1) := dcr zo_dX9_wished_0 3 rfl
theorem dX9_wished_8 : decode cX9_wished 8 = .ok (.invokestatic 79, 3) := dcr zo_dX9_wished_0 4 rfl
theorem dX9_wished_11 : decode cX9_wished 11 = .ok (.ifCond .ne 5, 3) := dcr zo_dX9_wished_0 5 rfl
theorem dX9_wished_14 : decode cX9_wished 14 = .ok (.iconst (-1), 1) := dcr zo_dX9_wished_0 6 rfl
theorem dX9_wished_15 : decode cX9_wished 15 = .ok (.ireturn, 1) := dcr zo_dX9_wished_0 7 rfl
theorem dX9_wished_16 : decode cX9_wished 16 = .ok (.iload_n 3, 1) := dcr zo_dX9_wished_0 8 rfl
theorem dX9_wished_17 : decode cX9_wished 17 = .ok (.ifCond .lt 16, 3) := dcr zo_dX9_wished_0 9 rfl
theorem dX9_wished_20 : decode cX9_wished 20 = .ok (.iload_n 3, 1) := dcr zo_dX9_wished_0 10 rfl
theorem dX9_wished_21 : decode cX9_wished 21 = .ok (.iconst 1, 1) := dcr zo_dX9_wished_0 11 rfl
theorem dX9_wished_22 : decode cX9_wished 22 = .ok (.aload_n 0, 1) := dcr zo_dX9_wished_0 12 rfl
theorem dX9_wished_23 : decode cX9_wished 23 = .ok (.getfield 19, 3) := dcr zo_dX9_wished_0 13 rfl
theorem dX9_wished_26 : decode cX9_wished 26 = .ok (.getfield 27, 3) := dcr zo_dX9_wished_0 14 rfl
theorem dX9_wished_29 : decode cX9_wished 29 = .ok (.ishl, 1) := dcr zo_dX9_wished_0 15 rfl
theorem zo_dX9_wished_30 : ([(30, .if_icmp .lt 6, 3), (33, .bipush (-2), 2), (35, .ireturn, 1), (36, .aload_n 0, 1), (37, .iload_n 1, 1), (38, .invokevirtual 62, 3), (41, .ifCond .ne 6, 3), (44, .bipush (-3), 2), (46, .ireturn, 1), (47, .aload_n 0, 1), (48, .getfield 10, 3), (51, .iconst 2, 1), (52, .aload_n 0, 1), (53, .getfield 19, 3), (56, .getfield 27, 3), (59, .invokevirtual 44, 3)] : List (Nat × Instr × Nat)).all (dOk (decode cX9_wished)) = true := by decide +kernel
theorem dX9_wished_30 : decode cX9_wished 30 = .ok (.if_icmp .lt 6, 3) := dcr zo_dX9_wished_30 0 rfl
theorem dX9_wished_33 : decode cX9_wished 33 = .ok (.bipush (-2), 2) := dcr zo_dX9_wished_30 1 rfl
theorem dX9_wished_35 : decode cX9_wished 35 = .ok (.ireturn, 1) := dcr zo_dX9_wished_30 2 rfl
theorem dX9_wished_36 : decode cX9_wished 36 = .ok (.aload_n 0, 1) := dcr zo_dX9_wished_30 3 rfl
theorem dX9_wished_37 : decode cX9_wished 37 = .ok (.iload_n 1, 1) := dcr zo_dX9_wished_30 4 rfl
theorem dX9_wished_38 : decode cX9_wished 38 = .ok (.invokevirtual 62, 3) := dcr zo_dX9_wished_30 5 rfl
theorem dX9_wished_41 : decode cX9_wished 41 = .ok (.ifCond .ne 6, 3) := dcr zo_dX9_wished_30 6 rfl
theorem dX9_wished_44 : decode cX9_wished 44 = .ok (.bipush (-3), 2) := dcr zo_dX9_wished_30 7 rfl
theorem dX9_wished_46 : decode cX9_wished 46 = .ok (.ireturn, 1) := dcr zo_dX9_wished_30 8 rfl
theorem dX9_wished_47 : decode cX9_wished 47 = .ok (.aload_n 0, 1) := dcr zo_dX9_wished_30 9 rfl
theorem dX9_wished_48 : decode cX9_wished 48 = .ok (.getfield 10, 3) := dcr zo_dX9_wished_30 10 rfl
theorem dX9_wished_51 : decode cX9_wished 51 = .ok (.iconst 2, 1) := dcr zo_dX9_wished_30 11 rfl
theorem dX9_wished_52 : decode cX9_wished 52 = .ok (.aload_n 0, 1) := dcr zo_dX9_wished_30 12 rfl
theorem dX9_wished_53 : decode cX9_wished 53 = .ok (.getfield 19, 3) := dcr zo_dX9_wished_30 13 rfl
theorem dX9_wished_56 : decode cX9_wished 56 = .ok (.getfield 27, 3) := dcr zo_dX9_wished_30 14 rfl
theorem dX9_wished_59 : decode cX9_wished 59 = .ok (.invokevirtual 44, 3) := dcr zo_dX9_wished_30 15 rfl
theorem zo_dX9_wished_62 : ([(62, .bipush (-6), 2), (64, .if_icmp .eq 6, 3), (67, .bipush (-5), 2), (69, .ireturn, 1), (70, .aload_n 0, 1), (71, .getfield 19, 3), (74, .iload_n 1, 1), (75, .invokevirtual 65, 3), (78, .istore 5, 2), (80, .aload_n 0, 1), (81, .iload_n 3, 1), (82, .iload 5, 2), (84, .invokevirtual 165, 3), (87, .istore 6, 2), (89, .iload 6, 2), (91, .bipush (-6), 2)] : List (Nat × Instr × Nat)).all (dOk (decode cX9_wished)) = true := by decide +kernel
theorem dX9_wished_62 : decode cX9_wished 62 = .ok (.bipush (-6), 2) := dcr zo_dX9_wished_62 0 rfl
theorem dX9_wished_64 : decode cX9_wished 64 = .ok (.if_icmp .eq 6, 3) := dcr zo_dX9_wished_62 1 rfl
theorem dX9_wished_67 : decode cX9_wished 67 = .ok (.bipush (-5), 2) := dcr zo_dX9_wished_62 2 rfl
theorem dX9_wished_69 : decode cX9_wished 69 = .ok (.ireturn, 1) := dcr zo_dX9_wished_62 3 rfl
theorem dX9_wished_70 : decode cX9_wished 70 = .ok (.aload_n 0, 1) := dcr zo_dX9_wished_62 4 rfl
theorem dX9_wished_71 : decode cX9_wished 71 = .ok (.getfield 19, 3) := dcr zo_dX9_wished_62 5 rfl
theorem dX9_wished_74 : decode cX9_wished 74 = .ok (.iload_n 1, 1) := dcr zo_dX9_wished_62 6 rfl
theorem dX9_wished_75 : decode cX9_wished 75 = .ok (.invokevirtual 65, 3) := dcr zo_dX9_wished_62 7 rfl
theorem dX9_wished_78 : decode cX9_wished 78 = .ok (.istore 5, 2) := dcr zo_dX9_wished_62 8 rfl
theorem dX9_wished_80 : decode cX9_wished 80 = .ok (.aload_n 0, 1) := dcr zo_dX9_wished_62 9 rfl
theorem dX9_wished_81 : decode cX9_wished 81 = .ok (.iload_n 3, 1) := dcr zo_dX9_wished_62 10 rfl
theorem dX9_wished_82 : decode cX9_wished 82 = .ok (.iload 5, 2) := dcr zo_dX9_wished_62 11 rfl
theorem dX9_wished_84 : decode cX9_wished 84 = .ok (.invokevirtual 165, 3) := dcr zo_dX9_wished_62 12 rfl
theorem dX9_wished_87 : decode cX9_wished 87 = .ok (.istore 6, 2) := dcr zo_dX9_wished_62 13 rfl
theorem dX9_wished_89 : decode cX9_wished 89 = .ok (.iload 6, 2) := dcr zo_dX9_wished_62 14 rfl
theorem dX9_wished_91 : decode cX9_wished 91 = .ok (.bipush (-6), 2) := dcr zo_dX9_wished_62 15 rfl
theorem zo_dX9_wished_93 : ([(93, .if_icmp .ne 6, 3), (96, .bipush (-6), 2), (98, .ireturn, 1), (99, .aload_n 0, 1), (100, .invokevirtual 146, 3), (103, .iload 6, 2), (105, .aload_n 0, 1), (106, .getfield 19, 3), (109, .iload_n 2, 1), (110, .invokevirtual 82, 3), (113, .aload_n 0, 1), (114, .getfield 19, 3), (117, .getfield 27, 3), (120, .invokevirtual 168, 3), (123, .astore 7, 2), (125, .aload_n 0, 1)] : List (Nat × Instr × Nat)).all (dOk (decode cX9_wished)) = true := by decide +kernel
theorem dX9_wished_93 : decode cX9_wished 93 = .ok (.if_icmp .ne 6, 3) := dcr zo_dX9_wished_93 0 rfl
theorem dX9_wished_96 : decode cX9_wished 96 = .ok (.bipush (-6), 2) := dcr zo_dX9_wished_93 1 rfl
theorem dX9_wished_98 : decode cX9_wished 98 = .ok (.ireturn, 1) := dcr zo_dX9_wished_93 2 rfl
theorem dX9_wished_99 : decode cX9_wished 99 = .ok (.aload_n 0, 1) := dcr zo_dX9_wished_93 3 rfl
theorem dX9_wished_100 : decode cX9_wished 100 = .ok (.invokevirtual 146, 3) := dcr zo_dX9_wished_93 4 rfl
theorem dX9_wished_103 : decode cX9_wished 103 = .ok (.iload 6, 2) := dcr zo_dX9_wished_93 5 rfl
theorem dX9_wished_105 : decode cX9_wished 105 = .ok (.aload_n 0, 1) := dcr zo_dX9_wished_93 6 rfl
theorem dX9_wished_106 : decode cX9_wished 106 = .ok (.getfield 19, 3) := dcr zo_dX9_wished_93 7 rfl
theorem dX9_wished_109 : decode cX9_wished 109 = .ok (.iload_n 2, 1) := dcr zo_dX9_wished_93 8 rfl
theorem dX9_wished_110 : decode cX9_wished 110 = .ok (.invokevirtual 82, 3) := dcr zo_dX9_wished_93 9 rfl
theorem dX9_wished_113 : decode cX9_wished 113 = .ok (.aload_n 0, 1) := dcr zo_dX9_wished_93 10 rfl
theorem dX9_wished_114 : decode cX9_wished 114 = .ok (.getfield 19, 3) := dcr zo_dX9_wished_93 11 rfl
theorem dX9_wished_117 : decode cX9_wished 117 = .ok (.getfield 27, 3) := dcr zo_dX9_wished_93 12 rfl
theorem dX9_wished_120 : decode cX9_wished 120 = .ok (.invokevirtual 168, 3) := dcr zo_dX9_wished_93 13 rfl
theorem dX9_wished_123 : decode cX9_wished 123 = .ok (.astore 7, 2) := dcr zo_dX9_wished_93 14 rfl
theorem dX9_wished_125 : decode cX9_wished 125 = .ok (.aload_n 0, 1) := dcr zo_dX9_wished_93 15 rfl
theorem zo_dX9_wished_126 : ([(126, .aload 7, 2), (128, .iload 5, 2), (130, .iload_n 2, 1), (131, .iload 4, 2), (133, .invokevirtual 106, 3), (136, .ireturn, 1)] : List (Nat × Instr × Nat)).all (dOk (decode cX9_wished)) = true := by decide +kernel
theorem dX9_wished_126 : decode cX9_wished 126 = .ok (.aload 7, 2) := dcr zo_dX9_wished_126 0 rfl
theorem dX9_wished_128 : decode cX9_wished 128 = .ok (.iload 5, 2) := dcr zo_dX9_wished_126 1 rfl
theorem dX9_wished_130 : decode cX9_wished 130 = .ok (.iload_n 2, 1) := dcr zo_dX9_wished_126 2 rfl
theorem dX9_wished_131 : decode cX9_wished 131 = .ok (.iload 4, 2) := dcr zo_dX9_wished_126 3 rfl
theorem dX9_wished_133 : decode cX9_wished 133 = .ok (.invokevirtual 106, 3) := dcr zo_dX9_wished_126 4 rfl
theorem dX9_wished_136 : decode cX9_wished 136 = .ok (.ireturn, 1) := dcr zo_dX9_wished_126 5 rfl
def zt_wsX9_holds : List (List Cond) := [[.code yX9_holds cX9_holds 6 (some .int)], wsX9_holds_r1, wsX9_holds_r2, wsX9_holds_r3, wsX90, wsX30]
theorem zt_wsX9_holds_in : ∀ c ∈ zt_wsX9_holds, ∀ w ∈ c, w ∈ wsX9_holds := List.forall_mem_cons.mpr ⟨fun _ h => List.mem_cons.mpr (Or.inl (List.mem_singleton.mp h)), List.forall_mem_cons.mpr ⟨fun _ h => List.mem_cons_of_mem _ (List.mem_append_left _ (List.mem_append_left _ (List.mem_append_left _ h))), List.forall_mem_cons.mpr ⟨fun _ h => List.mem_cons_of_mem _ (List.mem_append_left _ (List.mem_append_left _ (List.mem_append_right _ (List.mem_append_left _ h)))), List.forall_mem_cons.mpr ⟨fun _ h => List.mem_cons_of_mem _ (List.mem_append_left _ (List.mem_append_left _ (List.mem_append_right _ (List.mem_append_right _ (h))))), List.forall_mem_cons.mpr ⟨fun _ h => List.mem_cons_of_mem _ (List.mem_append_left _ (List.mem_append_right _ h)), List.forall_mem_cons.mpr ⟨fun _ h => List.mem_cons_of_mem _ (List.mem_append_right _ h), (fun _ h => absurd h List.not_mem_nil)⟩⟩⟩⟩⟩⟩
set_option maxRecDepth 20000 in
theorem ggX9_holds_X9_isSite : GoodIn wsX9_holds wsX9_isSite := goodIn_c zt_wsX9_holds_in _ [(1, 6), (1, 0), (1, 1), (4, 0), (4, 1), (4, 2), (4, 3), (4, 4), (5, 0), (5, 1), (5, 2), (5, 3), (5, 4), (5, 5)] rfl zw_wsX9_isSite
set_option maxRecDepth 20000 in
theorem gX9_holds_X9_isSite : GoodIn wsX9_holds (wsV RX9 59 RX9 yX9_isSite wsX9_isSite) := goodIn_app (goodIn_of _ (by decide +kernel)) ggX9_holds_X9_isSite
set_option maxRecDepth 20000 in
theorem ggX9_holds_X9_isSet : GoodIn wsX9_holds wsX9_isSet := goodIn_c zt_wsX9_holds_in _ [(1, 9)] rfl zw_wsX9_isSet
set_option maxRecDepth 20000 in
theorem gX9_holds_X9_isSet : GoodIn wsX9_holds (va_wsS RX9 115 yX9_isSet wsX9_isSet) := goodIn_app (goodIn_of _ (by decide +kernel)) ggX9_holds_X9_isSet
set_option maxRecDepth 20000 in
theorem ggX9_holds_X9_areTold : GoodIn wsX9_holds wsX9_areTold := goodIn_c zt_wsX9_holds_in _ [(1, 13), (1, 0), (1, 14), (4, 0), (4, 1), (4, 2), (4, 3), (4, 4), (5, 0), (5, 1), (5, 2), (5, 3), (5, 4), (5, 5)] rfl zw_wsX9_areTold
set_option maxRecDepth 20000 in
theorem gX9_holds_X9_areTold : GoodIn wsX9_holds (wsV RX9 122 RX9 yX9_areTold wsX9_areTold) := goodIn_app (goodIn_of _ (by decide +kernel)) ggX9_holds_X9_areTold
set_option maxRecDepth 20000 in
theorem zw_wsX9_mostAt : wsX9_mostAt.all goodWord = true := by decide +kernel
set_option maxRecDepth 20000 in
theorem ggX9_holds_X9_mostAt : GoodIn wsX9_holds wsX9_mostAt := goodIn_c zt_wsX9_holds_in _ [(1, 18), (1, 19), (1, 20), (1, 21), (1, 5), (1, 22), (1, 0), (1, 23), (2, 0), (2, 1), (2, 2), (2, 3), (2, 4), (2, 5), (2, 6), (2, 7), (2, 8), (2, 9), (2, 10), (2, 11), (2, 12), (2, 13), (2, 14), (2, 15), (2, 16), (2, 17), (2, 18), (2, 19), (2, 20), (2, 21), (4, 0), (4, 1), (4, 2), (4, 3), (4, 4), (5, 0), (5, 1), (5, 2), (5, 3), (5, 4), (5, 5)] rfl zw_wsX9_mostAt
set_option maxRecDepth 20000 in
theorem gX9_holds_X9_mostAt : GoodIn wsX9_holds (wsV RX9 172 RX9 yX9_mostAt wsX9_mostAt) := goodIn_app (goodIn_of _ (by decide +kernel)) ggX9_holds_X9_mostAt
set_option maxRecDepth 20000 in
theorem ggX9_holds_X5_written : GoodIn wsX9_holds wsX5_written := goodIn_c zt_wsX9_holds_in _ [(3, 1), (3, 2)] rfl zw_wsX5_written
set_option maxRecDepth 20000 in
theorem gX9_holds_X5_written : GoodIn wsX9_holds (va_wsS RX9 74 yX5_written wsX5_written) := goodIn_app (goodIn_of _ (by decide +kernel)) ggX9_holds_X5_written
set_option maxRecDepth 20000 in
theorem zw_wsX9_howMany : wsX9_howMany.all goodWord = true := by decide +kernel
set_option maxRecDepth 20000 in
theorem ggX9_holds_X9_howMany : GoodIn wsX9_holds wsX9_howMany := goodIn_c zt_wsX9_holds_in _ [(1, 22), (1, 0), (1, 23), (2, 0), (1, 5), (2, 1), (2, 2), (2, 3), (2, 4), (2, 5), (2, 6), (2, 7), (2, 8), (2, 9), (2, 10), (2, 11), (2, 12), (2, 13), (2, 14), (2, 15), (2, 16), (2, 17), (2, 18), (2, 19), (2, 20), (2, 21), (4, 0), (4, 1), (4, 2), (4, 3), (4, 4), (5, 0), (5, 1), (5, 2), (5, 3), (5, 4), (5, 5)] rfl zw_wsX9_howMany
set_option maxRecDepth 20000 in
theorem gX9_holds_X9_howMany : GoodIn wsX9_holds (wsV RX9 175 RX9 yX9_howMany wsX9_howMany) := goodIn_app (goodIn_of _ (by decide +kernel)) ggX9_holds_X9_howMany
set_option maxRecDepth 20000 in
theorem zw_wsJ6_bitCount_0f7a4 : wsJ6_bitCount_0f7a4.all goodWord = true := by decide +kernel
set_option maxRecDepth 20000 in
theorem ggX9_holds_J6_bitCount_0f7a4 : GoodIn wsX9_holds wsJ6_bitCount_0f7a4 := goodIn_c zt_wsX9_holds_in _ [(3, 6), (3, 7), (3, 8), (3, 9)] rfl zw_wsJ6_bitCount_0f7a4
set_option maxRecDepth 20000 in
theorem gX9_holds_J6_bitCount_0f7a4 : GoodIn wsX9_holds (va_wsS RX9 179 yJ6_bitCount_0f7a4 wsJ6_bitCount_0f7a4) := goodIn_app (goodIn_of _ (by decide +kernel)) ggX9_holds_J6_bitCount_0f7a4
theorem zo_dX9_holds_0 : ([(0, .iload_n 2, 1), (1, .iconst (-1), 1), (2, .if_icmp .eq 13, 3), (5, .aload_n 0, 1), (6, .iload_n 2, 1), (7, .invokevirtual 59, 3), (10, .ifCond .ne 5, 3), (13, .iconst (-1), 1), (14, .ireturn, 1), (15, .iload_n 1, 1), (16, .invokestatic 115, 3), (19, .ifCond .ne 6, 3), (22, .bipush (-2), 2), (24, .ireturn, 1), (25, .aload_n 0, 1), (26, .iload_n 1, 1)] : List (Nat × Instr × Nat)).all (dOk (decode cX9_holds)) = true := by decide +kernel
theorem dX9_holds_0 : decode cX9_holds 0 = .ok (.iload_n 2, 1) := dcr zo_dX9_holds_0 0 rfl
theorem dX9_holds_1 : decode cX9_holds 1 = .ok (.iconst (-1), 1) := dcr zo_dX9_holds_0 1 rfl
theorem dX9_holds_2 : decode cX9_holds 2 = .ok (.if_icmp .eq 13, 3) := dcr zo_dX9_holds_0 2 rfl
theorem dX9_holds_5 : decode cX9_holds 5 = .ok (.aload_n 0, 1) := dcr zo_dX9_holds_0 3 rfl
theorem dX9_holds_6 : decode cX9_holds 6 = .ok (.iload_n 2, 1) := dcr zo_dX9_holds_0 4 rfl
theorem dX9_holds_7 : decode cX9_holds 7 = .ok (.invokevirtual 59, 3) := dcr zo_dX9_holds_0 5 rfl
theorem dX9_holds_10 : decode cX9_holds 10 = .ok (.ifCond .ne 5, 3) := dcr zo_dX9_holds_0 6 rfl
theorem dX9_holds_13 : decode cX9_holds 13 = .ok (.iconst (-1), 1) := dcr zo_dX9_holds_0 7 rfl
theorem dX9_holds_14 : decode cX9_holds 14 = .ok (.ireturn, 1) := dcr zo_dX9_holds_0 8 rfl
theorem dX9_holds_15 : decode cX9_holds 15 = .ok (.iload_n 1, 1) := dcr zo_dX9_holds_0 9 rfl
theorem dX9_holds_16 : decode cX9_holds 16 = .ok (.invokestatic 115, 3) := dcr zo_dX9_holds_0 10 rfl
theorem dX9_holds_19 : decode cX9_holds 19 = .ok (.ifCond .ne 6, 3) := dcr zo_dX9_holds_0 11 rfl
theorem dX9_holds_22 : decode cX9_holds 22 = .ok (.bipush (-2), 2) := dcr zo_dX9_holds_0 12 rfl
theorem dX9_holds_24 : decode cX9_holds 24 = .ok (.ireturn, 1) := dcr zo_dX9_holds_0 13 rfl
theorem dX9_holds_25 : decode cX9_holds 25 = .ok (.aload_n 0, 1) := dcr zo_dX9_holds_0 14 rfl
theorem dX9_holds_26 : decode cX9_holds 26 = .ok (.iload_n 1, 1) := dcr zo_dX9_holds_0 15 rfl
theorem zo_dX9_holds_27 : ([(27, .invokevirtual 122, 3), (30, .ifCond .ne 6, 3), (33, .bipush (-3), 2), (35, .ireturn, 1), (36, .iload_n 2, 1), (37, .iconst (-1), 1), (38, .if_icmp .eq 13, 3), (41, .aload_n 0, 1), (42, .iload_n 1, 1), (43, .iload_n 2, 1), (44, .invokevirtual 172, 3), (47, .invokestatic 74, 3), (50, .ireturn, 1), (51, .iconst 0, 1), (52, .istore_n 3, 1), (53, .iconst 0, 1)] : List (Nat × Instr × Nat)).all (dOk (decode cX9_holds)) = true := by decide +kernel
theorem dX9_holds_27 : decode cX9_holds 27 = .ok (.invokevirtual 122, 3) := dcr zo_dX9_holds_27 0 rfl
theorem dX9_holds_30 : decode cX9_holds 30 = .ok (.ifCond .ne 6, 3) := dcr zo_dX9_holds_27 1 rfl
theorem dX9_holds_33 : decode cX9_holds 33 = .ok (.bipush (-3), 2) := dcr zo_dX9_holds_27 2 rfl
theorem dX9_holds_35 : decode cX9_holds 35 = .ok (.ireturn, 1) := dcr zo_dX9_holds_27 3 rfl
theorem dX9_holds_36 : decode cX9_holds 36 = .ok (.iload_n 2, 1) := dcr zo_dX9_holds_27 4 rfl
theorem dX9_holds_37 : decode cX9_holds 37 = .ok (.iconst (-1), 1) := dcr zo_dX9_holds_27 5 rfl
theorem dX9_holds_38 : decode cX9_holds 38 = .ok (.if_icmp .eq 13, 3) := dcr zo_dX9_holds_27 6 rfl
theorem dX9_holds_41 : decode cX9_holds 41 = .ok (.aload_n 0, 1) := dcr zo_dX9_holds_27 7 rfl
theorem dX9_holds_42 : decode cX9_holds 42 = .ok (.iload_n 1, 1) := dcr zo_dX9_holds_27 8 rfl
theorem dX9_holds_43 : decode cX9_holds 43 = .ok (.iload_n 2, 1) := dcr zo_dX9_holds_27 9 rfl
theorem dX9_holds_44 : decode cX9_holds 44 = .ok (.invokevirtual 172, 3) := dcr zo_dX9_holds_27 10 rfl
theorem dX9_holds_47 : decode cX9_holds 47 = .ok (.invokestatic 74, 3) := dcr zo_dX9_holds_27 11 rfl
theorem dX9_holds_50 : decode cX9_holds 50 = .ok (.ireturn, 1) := dcr zo_dX9_holds_27 12 rfl
theorem dX9_holds_51 : decode cX9_holds 51 = .ok (.iconst 0, 1) := dcr zo_dX9_holds_27 13 rfl
theorem dX9_holds_52 : decode cX9_holds 52 = .ok (.istore_n 3, 1) := dcr zo_dX9_holds_27 14 rfl
theorem dX9_holds_53 : decode cX9_holds 53 = .ok (.iconst 0, 1) := dcr zo_dX9_holds_27 15 rfl
theorem zo_dX9_holds_54 : ([(54, .istore 4, 2), (56, .iload 4, 2), (58, .aload_n 0, 1), (59, .getfield 19, 3), (62, .getfield 27, 3), (65, .if_icmp .ge 41, 3), (68, .aload_n 0, 1), (69, .iload_n 1, 1), (70, .iload 4, 2), (72, .invokevirtual 172, 3), (75, .istore 5, 2), (77, .aload_n 0, 1), (78, .iload_n 1, 1), (79, .iload 4, 2), (81, .iload 5, 2), (83, .invokevirtual 175, 3)] : List (Nat × Instr × Nat)).all (dOk (decode cX9_holds)) = true := by decide +kernel
theorem dX9_holds_54 : decode cX9_holds 54 = .ok (.istore 4, 2) := dcr zo_dX9_holds_54 0 rfl
theorem dX9_holds_56 : decode cX9_holds 56 = .ok (.iload 4, 2) := dcr zo_dX9_holds_54 1 rfl
theorem dX9_holds_58 : decode cX9_holds 58 = .ok (.aload_n 0, 1) := dcr zo_dX9_holds_54 2 rfl
theorem dX9_holds_59 : decode cX9_holds 59 = .ok (.getfield 19, 3) := dcr zo_dX9_holds_54 3 rfl
theorem dX9_holds_62 : decode cX9_holds 62 = .ok (.getfield 27, 3) := dcr zo_dX9_holds_54 4 rfl
theorem dX9_holds_65 : decode cX9_holds 65 = .ok (.if_icmp .ge 41, 3) := dcr zo_dX9_holds_54 5 rfl
theorem dX9_holds_68 : decode cX9_holds 68 = .ok (.aload_n 0, 1) := dcr zo_dX9_holds_54 6 rfl
theorem dX9_holds_69 : decode cX9_holds 69 = .ok (.iload_n 1, 1) := dcr zo_dX9_holds_54 7 rfl
theorem dX9_holds_70 : decode cX9_holds 70 = .ok (.iload 4, 2) := dcr zo_dX9_holds_54 8 rfl
theorem dX9_holds_72 : decode cX9_holds 72 = .ok (.invokevirtual 172, 3) := dcr zo_dX9_holds_54 9 rfl
theorem dX9_holds_75 : decode cX9_holds 75 = .ok (.istore 5, 2) := dcr zo_dX9_holds_54 10 rfl
theorem dX9_holds_77 : decode cX9_holds 77 = .ok (.aload_n 0, 1) := dcr zo_dX9_holds_54 11 rfl
theorem dX9_holds_78 : decode cX9_holds 78 = .ok (.iload_n 1, 1) := dcr zo_dX9_holds_54 12 rfl
theorem dX9_holds_79 : decode cX9_holds 79 = .ok (.iload 4, 2) := dcr zo_dX9_holds_54 13 rfl
theorem dX9_holds_81 : decode cX9_holds 81 = .ok (.iload 5, 2) := dcr zo_dX9_holds_54 14 rfl
theorem dX9_holds_83 : decode cX9_holds 83 = .ok (.invokevirtual 175, 3) := dcr zo_dX9_holds_54 15 rfl
theorem zo_dX9_holds_86 : ([(86, .iload_n 1, 1), (87, .invokestatic 179, 3), (90, .if_icmp .ne 10, 3), (93, .iload_n 3, 1), (94, .iconst 1, 1), (95, .iload 4, 2), (97, .ishl, 1), (98, .ior, 1), (99, .istore_n 3, 1), (100, .iinc 4 1, 3), (103, .goto (-47), 3), (106, .iload_n 3, 1), (107, .ireturn, 1)] : List (Nat × Instr × Nat)).all (dOk (decode cX9_holds)) = true := by decide +kernel
theorem dX9_holds_86 : decode cX9_holds 86 = .ok (.iload_n 1, 1) := dcr zo_dX9_holds_86 0 rfl
theorem dX9_holds_87 : decode cX9_holds 87 = .ok (.invokestatic 179, 3) := dcr zo_dX9_holds_86 1 rfl
theorem dX9_holds_90 : decode cX9_holds 90 = .ok (.if_icmp .ne 10, 3) := dcr zo_dX9_holds_86 2 rfl
theorem dX9_holds_93 : decode cX9_holds 93 = .ok (.iload_n 3, 1) := dcr zo_dX9_holds_86 3 rfl
theorem dX9_holds_94 : decode cX9_holds 94 = .ok (.iconst 1, 1) := dcr zo_dX9_holds_86 4 rfl
theorem dX9_holds_95 : decode cX9_holds 95 = .ok (.iload 4, 2) := dcr zo_dX9_holds_86 5 rfl
theorem dX9_holds_97 : decode cX9_holds 97 = .ok (.ishl, 1) := dcr zo_dX9_holds_86 6 rfl
theorem dX9_holds_98 : decode cX9_holds 98 = .ok (.ior, 1) := dcr zo_dX9_holds_86 7 rfl
theorem dX9_holds_99 : decode cX9_holds 99 = .ok (.istore_n 3, 1) := dcr zo_dX9_holds_86 8 rfl
theorem dX9_holds_100 : decode cX9_holds 100 = .ok (.iinc 4 1, 3) := dcr zo_dX9_holds_86 9 rfl
theorem dX9_holds_103 : decode cX9_holds 103 = .ok (.goto (-47), 3) := dcr zo_dX9_holds_86 10 rfl
theorem dX9_holds_106 : decode cX9_holds 106 = .ok (.iload_n 3, 1) := dcr zo_dX9_holds_86 11 rfl
theorem dX9_holds_107 : decode cX9_holds 107 = .ok (.ireturn, 1) := dcr zo_dX9_holds_86 12 rfl
theorem zo_dX9_spades_0 : ([(0, .iload_n 1, 1), (1, .iconst 1, 1), (2, .if_icmp .lt 9, 3), (5, .iload_n 1, 1), (6, .bipush 6, 2), (8, .if_icmp .le 6, 3), (11, .bipush (-2), 2), (13, .ireturn, 1), (14, .aload_n 0, 1), (15, .getfield 19, 3), (18, .getfield 184, 3), (21, .istore_n 2, 1), (22, .aload_n 0, 1), (23, .getfield 19, 3), (26, .iload_n 1, 1), (27, .putfield 184, 3)] : List (Nat × Instr × Nat)).all (dOk (decode cX9_spades)) = true := by decide +kernel
theorem dX9_spades_0 : decode cX9_spades 0 = .ok (.iload_n 1, 1) := dcr zo_dX9_spades_0 0 rfl
theorem dX9_spades_1 : decode cX9_spades 1 = .ok (.iconst 1, 1) := dcr zo_dX9_spades_0 1 rfl
theorem dX9_spades_2 : decode cX9_spades 2 = .ok (.if_icmp .lt 9, 3) := dcr zo_dX9_spades_0 2 rfl
theorem dX9_spades_5 : decode cX9_spades 5 = .ok (.iload_n 1, 1) := dcr zo_dX9_spades_0 3 rfl
theorem dX9_spades_6 : decode cX9_spades 6 = .ok (.bipush 6, 2) := dcr zo_dX9_spades_0 4 rfl
theorem dX9_spades_8 : decode cX9_spades 8 = .ok (.if_icmp .le 6, 3) := dcr zo_dX9_spades_0 5 rfl
theorem dX9_spades_11 : decode cX9_spades 11 = .ok (.bipush (-2), 2) := dcr zo_dX9_spades_0 6 rfl
theorem dX9_spades_13 : decode cX9_spades 13 = .ok (.ireturn, 1) := dcr zo_dX9_spades_0 7 rfl
theorem dX9_spades_14 : decode cX9_spades 14 = .ok (.aload_n 0, 1) := dcr zo_dX9_spades_0 8 rfl
theorem dX9_spades_15 : decode cX9_spades 15 = .ok (.getfield 19, 3) := dcr zo_dX9_spades_0 9 rfl
theorem dX9_spades_18 : decode cX9_spades 18 = .ok (.getfield 184, 3) := dcr zo_dX9_spades_0 10 rfl
theorem dX9_spades_21 : decode cX9_spades 21 = .ok (.istore_n 2, 1) := dcr zo_dX9_spades_0 11 rfl
theorem dX9_spades_22 : decode cX9_spades 22 = .ok (.aload_n 0, 1) := dcr zo_dX9_spades_0 12 rfl
theorem dX9_spades_23 : decode cX9_spades 23 = .ok (.getfield 19, 3) := dcr zo_dX9_spades_0 13 rfl
theorem dX9_spades_26 : decode cX9_spades 26 = .ok (.iload_n 1, 1) := dcr zo_dX9_spades_0 14 rfl
theorem dX9_spades_27 : decode cX9_spades 27 = .ok (.putfield 184, 3) := dcr zo_dX9_spades_0 15 rfl
theorem zo_dX9_spades_30 : ([(30, .iload_n 2, 1), (31, .ireturn, 1)] : List (Nat × Instr × Nat)).all (dOk (decode cX9_spades)) = true := by decide +kernel
theorem dX9_spades_30 : decode cX9_spades 30 = .ok (.iload_n 2, 1) := dcr zo_dX9_spades_30 0 rfl
theorem dX9_spades_31 : decode cX9_spades 31 = .ok (.ireturn, 1) := dcr zo_dX9_spades_30 1 rfl
def zt_wsX9_land : List (List Cond) := [[.code yX9_land cX9_land 2 (some .int)], [.fieldLink RX9 19 "LastMap" "papers" "LLastMap$Papers;", .fieldLink RX9 34 "LastMap$Papers" "ground" "I", .methodLink RX9 59 yX9_isSite, .instanceMethod yX9_isSite, .selects RX9 yX9_isSite yX9_isSite, .initialized RX9, .code yX9_isSite cX9_isSite 2 (some .boolean), .fieldLink RX9 27 "LastMap$Papers" "siteCount" "I", .methodLink RX9 69 yX1_signAt, .static yX1_signAt, .initialized RX1, .code yX1_signAt cX1_signAt 2 (some .int), .methodLink RX1 15 yX1_weight, .static yX1_weight, .code yX1_weight cX1_weight 1 (some .int), .fieldLink RX1 9 "LastMap$Maps" "WEIGHTS" "[I", .methodLink RX1 19 yX1_signBy, .static yX1_signBy, .code yX1_signBy cX1_signBy 2 (some .int), .methodLink RX9 74 yX5_written, .static yX5_written, .initialized RX5, .code yX5_written cX5_written 1 (some .int), .fieldLink RX5 7 "LastMap$Signs" "WRITTEN" "[I"], wsX90, wsX30]
theorem zt_wsX9_land_in : ∀ c ∈ zt_wsX9_land, ∀ w ∈ c, w ∈ wsX9_land := List.forall_mem_cons.mpr ⟨fun _ h => List.mem_cons.mpr (Or.inl (List.mem_singleton.mp h)), List.forall_mem_cons.mpr ⟨fun _ h => List.mem_cons_of_mem _ (List.mem_append_left _ (List.mem_append_left _ (h))), List.forall_mem_cons.mpr ⟨fun _ h => List.mem_cons_of_mem _ (List.mem_append_left _ (List.mem_append_right _ h)), List.forall_mem_cons.mpr ⟨fun _ h => List.mem_cons_of_mem _ (List.mem_append_right _ h), (fun _ h => absurd h List.not_mem_nil)⟩⟩⟩⟩
set_option maxRecDepth 20000 in
theorem ggX9_land_X9_isSite : GoodIn wsX9_land wsX9_isSite := goodIn_c zt_wsX9_land_in _ [(1, 6), (1, 0), (1, 7), (2, 0), (2, 1), (2, 2), (2, 3), (2, 4), (3, 0), (3, 1), (3, 2), (3, 3), (3, 4), (3, 5)] rfl zw_wsX9_isSite
set_option maxRecDepth 20000 in
theorem gX9_land_X9_isSite : GoodIn wsX9_land (wsV RX9 59 RX9 yX9_isSite wsX9_isSite) := goodIn_app (goodIn_of _ (by decide +kernel)) ggX9_land_X9_isSite
set_option maxRecDepth 20000 in
theorem ggX9_land_X1_signAt : GoodIn wsX9_land wsX1_signAt := goodIn_c zt_wsX9_land_in _ [(1, 11), (1, 12), (1, 13), (1, 10), (1, 14), (1, 15), (1, 16), (1, 17), (1, 18)] rfl zw_wsX1_signAt
set_option maxRecDepth 20000 in
theorem gX9_land_X1_signAt : GoodIn wsX9_land (va_wsS RX9 69 yX1_signAt wsX1_signAt) := goodIn_app (goodIn_of _ (by decide +kernel)) ggX9_land_X1_signAt
set_option maxRecDepth 20000 in
theorem ggX9_land_X5_written : GoodIn wsX9_land wsX5_written := goodIn_c zt_wsX9_land_in _ [(1, 22), (1, 23)] rfl zw_wsX5_written
set_option maxRecDepth 20000 in
theorem gX9_land_X5_written : GoodIn wsX9_land (va_wsS RX9 74 yX5_written wsX5_written) := goodIn_app (goodIn_of _ (by decide +kernel)) ggX9_land_X5_written
theorem zo_dX9_land_0 : ([(0, .aload_n 0, 1), (1, .iload_n 1, 1), (2, .invokevirtual 59, 3), (5, .ifCond .eq 20, 3), (8, .aload_n 0, 1), (9, .getfield 19, 3), (12, .getfield 34, 3), (15, .iload_n 1, 1), (16, .invokestatic 69, 3), (19, .invokestatic 74, 3), (22, .goto 4, 3), (25, .iconst (-1), 1), (26, .ireturn, 1)] : List (Nat × Instr × Nat)).all (dOk (decode cX9_land)) = true := by decide +kernel
theorem dX9_land_0 : decode cX9_land 0 = .ok (.aload_n 0, 1) := dcr zo_dX9_land_0 0 rfl
theorem dX9_land_1 : decode cX9_land 1 = .ok (.iload_n 1, 1) := dcr zo_dX9_land_0 1 rfl
theorem dX9_land_2 : decode cX9_land 2 = .ok (.invokevirtual 59, 3) := dcr zo_dX9_land_0 2 rfl
theorem dX9_land_5 : decode cX9_land 5 = .ok (.ifCond .eq 20, 3) := dcr zo_dX9_land_0 3 rfl
theorem dX9_land_8 : decode cX9_land 8 = .ok (.aload_n 0, 1) := dcr zo_dX9_land_0 4 rfl
theorem dX9_land_9 : decode cX9_land 9 = .ok (.getfield 19, 3) := dcr zo_dX9_land_0 5 rfl
theorem dX9_land_12 : decode cX9_land 12 = .ok (.getfield 34, 3) := dcr zo_dX9_land_0 6 rfl
theorem dX9_land_15 : decode cX9_land 15 = .ok (.iload_n 1, 1) := dcr zo_dX9_land_0 7 rfl
theorem dX9_land_16 : decode cX9_land 16 = .ok (.invokestatic 69, 3) := dcr zo_dX9_land_0 8 rfl
theorem dX9_land_19 : decode cX9_land 19 = .ok (.invokestatic 74, 3) := dcr zo_dX9_land_0 9 rfl
theorem dX9_land_22 : decode cX9_land 22 = .ok (.goto 4, 3) := dcr zo_dX9_land_0 10 rfl
theorem dX9_land_25 : decode cX9_land 25 = .ok (.iconst (-1), 1) := dcr zo_dX9_land_0 11 rfl
theorem dX9_land_26 : decode cX9_land 26 = .ok (.ireturn, 1) := dcr zo_dX9_land_0 12 rfl
def zt_wsX9_years : List (List Cond) := [[.code yX9_years cX9_years 4 (some .int)], wsX9_years_r1, wsX9_years_r2, wsX90, wsX30]
theorem zt_wsX9_years_in : ∀ c ∈ zt_wsX9_years, ∀ w ∈ c, w ∈ wsX9_years := List.forall_mem_cons.mpr ⟨fun _ h => List.mem_cons.mpr (Or.inl (List.mem_singleton.mp h)), List.forall_mem_cons.mpr ⟨fun _ h => List.mem_cons_of_mem _ (List.mem_append_left _ (List.mem_append_left _ (List.mem_append_left _ h))), List.forall_mem_cons.mpr ⟨fun _ h => List.mem_cons_of_mem _ (List.mem_append_left _ (List.mem_append_left _ (List.mem_append_right _ (h)))), List.forall_mem_cons.mpr ⟨fun _ h => List.mem_cons_of_mem _ (List.mem_append_left _ (List.mem_append_right _ h)), List.forall_mem_cons.mpr ⟨fun _ h => List.mem_cons_of_mem _ (List.mem_append_right _ h), (fun _ h => absurd h List.not_mem_nil)⟩⟩⟩⟩⟩
set_option maxRecDepth 20000 in
theorem ggX9_years_X9_isMap : GoodIn wsX9_years wsX9_isMap := goodIn_c zt_wsX9_years_in _ [(1, 10)] rfl zw_wsX9_isMap
set_option maxRecDepth 20000 in
theorem gX9_years_X9_isMap : GoodIn wsX9_years (va_wsS RX9 48 yX9_isMap wsX9_isMap) := goodIn_app (goodIn_of _ (by decide +kernel)) ggX9_years_X9_isMap
set_option maxRecDepth 20000 in
theorem ggX9_years_X9_isTold : GoodIn wsX9_years wsX9_isTold := goodIn_c zt_wsX9_years_in _ [(1, 14), (1, 0), (1, 15), (1, 16), (1, 17), (1, 9), (1, 18), (1, 7), (1, 8), (1, 10), (3, 0), (3, 1), (3, 2), (3, 3), (3, 4), (4, 0), (4, 1), (4, 2), (4, 3), (4, 4), (4, 5)] rfl zw_wsX9_isTold
set_option maxRecDepth 20000 in
theorem gX9_years_X9_isTold : GoodIn wsX9_years (wsV RX9 62 RX9 yX9_isTold wsX9_isTold) := goodIn_app (goodIn_of _ (by decide +kernel)) ggX9_years_X9_isTold
set_option maxRecDepth 20000 in
theorem ggX9_years_X3_codeOf : GoodIn wsX9_years wsX3_codeOf := goodIn_c zt_wsX9_years_in _ [(1, 23), (2, 0), (4, 0), (4, 1), (4, 2), (4, 3), (4, 4), (4, 5)] rfl zw_wsX3_codeOf
set_option maxRecDepth 20000 in
theorem gX9_years_X3_codeOf : GoodIn wsX9_years (wsV RX9 65 RX3 yX3_codeOf wsX3_codeOf) := goodIn_app (goodIn_of _ (by decide +kernel)) ggX9_years_X3_codeOf
set_option maxRecDepth 20000 in
theorem zw_wsX1_unlike : wsX1_unlike.all goodWord = true := by decide +kernel
set_option maxRecDepth 20000 in
theorem ggX9_years_X1_unlike : GoodIn wsX9_years wsX1_unlike := goodIn_c zt_wsX9_years_in _ [(2, 4), (2, 5), (2, 6), (2, 3), (2, 7), (2, 8), (2, 9), (2, 10), (2, 11), (2, 12), (2, 13), (2, 14)] rfl zw_wsX1_unlike
set_option maxRecDepth 20000 in
theorem gX9_years_X1_unlike : GoodIn wsX9_years (va_wsS RX9 187 yX1_unlike wsX1_unlike) := goodIn_app (goodIn_of _ (by decide +kernel)) ggX9_years_X1_unlike
theorem zo_dX9_years_0 : ([(0, .iload_n 1, 1), (1, .invokestatic 48, 3), (4, .ifCond .ne 5, 3), (7, .iconst (-1), 1), (8, .ireturn, 1), (9, .aload_n 0, 1), (10, .iload_n 1, 1), (11, .invokevirtual 62, 3), (14, .ifCond .ne 6, 3), (17, .bipush (-3), 2), (19, .ireturn, 1), (20, .aload_n 0, 1), (21, .getfield 19, 3), (24, .getfield 34, 3), (27, .aload_n 0, 1), (28, .getfield 19, 3)] : List (Nat × Instr × Nat)).all (dOk (decode cX9_years)) = true := by decide +kernel
theorem dX9_years_0 : decode cX9_years 0 = .ok (.iload_n 1, 1) := dcr zo_dX9_years_0 0 rfl
theorem dX9_years_1 : decode cX9_years 1 = .ok (.invokestatic 48, 3) := dcr zo_dX9_years_0 1 rfl
theorem dX9_years_4 : decode cX9_years 4 = .ok (.ifCond .ne 5, 3) := dcr zo_dX9_years_0 2 rfl
theorem dX9_years_7 : decode cX9_years 7 = .ok (.iconst (-1), 1) := dcr zo_dX9_years_0 3 rfl
theorem dX9_years_8 : decode cX9_years 8 = .ok (.ireturn, 1) := dcr zo_dX9_years_0 4 rfl
theorem dX9_years_9 : decode cX9_years 9 = .ok (.aload_n 0, 1) := dcr zo_dX9_years_0 5 rfl
theorem dX9_years_10 : decode cX9_years 10 = .ok (.iload_n 1, 1) := dcr zo_dX9_years_0 6 rfl
theorem dX9_years_11 : decode cX9_years 11 = .ok (.invokevirtual 62, 3) := dcr zo_dX9_years_0 7 rfl
theorem dX9_years_14 : decode cX9_years 14 = .ok (.ifCond .ne 6, 3) := dcr zo_dX9_years_0 8 rfl
theorem dX9_years_17 : decode cX9_years 17 = .ok (.bipush (-3), 2) := dcr zo_dX9_years_0 9 rfl
theorem dX9_years_19 : decode cX9_years 19 = .ok (.ireturn, 1) := dcr zo_dX9_years_0 10 rfl
theorem dX9_years_20 : decode cX9_years 20 = .ok (.aload_n 0, 1) := dcr zo_dX9_years_0 11 rfl
theorem dX9_years_21 : decode cX9_years 21 = .ok (.getfield 19, 3) := dcr zo_dX9_years_0 12 rfl
theorem dX9_years_24 : decode cX9_years 24 = .ok (.getfield 34, 3) := dcr zo_dX9_years_0 13 rfl
theorem dX9_years_27 : decode cX9_years 27 = .ok (.aload_n 0, 1) := dcr zo_dX9_years_0 14 rfl
theorem dX9_years_28 : decode cX9_years 28 = .ok (.getfield 19, 3) := dcr zo_dX9_years_0 15 rfl
theorem zo_dX9_years_31 : ([(31, .iload_n 1, 1), (32, .invokevirtual 65, 3), (35, .invokestatic 187, 3), (38, .istore_n 2, 1), (39, .iconst 1, 1), (40, .aload_n 0, 1), (41, .getfield 19, 3), (44, .getfield 184, 3), (47, .invokestatic 190, 3), (50, .istore_n 3, 1), (51, .iload_n 2, 1), (52, .iload_n 3, 1), (53, .iadd, 1), (54, .iconst 1, 1), (55, .isub, 1), (56, .iload_n 3, 1)] : List (Nat × Instr × Nat)).all (dOk (decode cX9_years)) = true := by decide +kernel
theorem dX9_years_31 : decode cX9_years 31 = .ok (.iload_n 1, 1) := dcr zo_dX9_years_31 0 rfl
theorem dX9_years_32 : decode cX9_years 32 = .ok (.invokevirtual 65, 3) := dcr zo_dX9_years_31 1 rfl
theorem dX9_years_35 : decode cX9_years 35 = .ok (.invokestatic 187, 3) := dcr zo_dX9_years_31 2 rfl
theorem dX9_years_38 : decode cX9_years 38 = .ok (.istore_n 2, 1) := dcr zo_dX9_years_31 3 rfl
theorem dX9_years_39 : decode cX9_years 39 = .ok (.iconst 1, 1) := dcr zo_dX9_years_31 4 rfl
theorem dX9_years_40 : decode cX9_years 40 = .ok (.aload_n 0, 1) := dcr zo_dX9_years_31 5 rfl
theorem dX9_years_41 : decode cX9_years 41 = .ok (.getfield 19, 3) := dcr zo_dX9_years_31 6 rfl
theorem dX9_years_44 : decode cX9_years 44 = .ok (.getfield 184, 3) := dcr zo_dX9_years_31 7 rfl
theorem dX9_years_47 : decode cX9_years 47 = .ok (.invokestatic 190, 3) := dcr zo_dX9_years_31 8 rfl
theorem dX9_years_50 : decode cX9_years 50 = .ok (.istore_n 3, 1) := dcr zo_dX9_years_31 9 rfl
theorem dX9_years_51 : decode cX9_years 51 = .ok (.iload_n 2, 1) := dcr zo_dX9_years_31 10 rfl
theorem dX9_years_52 : decode cX9_years 52 = .ok (.iload_n 3, 1) := dcr zo_dX9_years_31 11 rfl
theorem dX9_years_53 : decode cX9_years 53 = .ok (.iadd, 1) := dcr zo_dX9_years_31 12 rfl
theorem dX9_years_54 : decode cX9_years 54 = .ok (.iconst 1, 1) := dcr zo_dX9_years_31 13 rfl
theorem dX9_years_55 : decode cX9_years 55 = .ok (.isub, 1) := dcr zo_dX9_years_31 14 rfl
theorem dX9_years_56 : decode cX9_years 56 = .ok (.iload_n 3, 1) := dcr zo_dX9_years_31 15 rfl
theorem zo_dX9_years_57 : ([(57, .idiv, 1), (58, .ireturn, 1)] : List (Nat × Instr × Nat)).all (dOk (decode cX9_years)) = true := by decide +kernel
theorem dX9_years_57 : decode cX9_years 57 = .ok (.idiv, 1) := dcr zo_dX9_years_57 0 rfl
theorem dX9_years_58 : decode cX9_years 58 = .ok (.ireturn, 1) := dcr zo_dX9_years_57 1 rfl
def zt_wsX9_follow : List (List Cond) := [[.code yX9_follow cX9_follow 7 (some .int)], wsX9_follow_r1, wsX9_follow_r2, wsX90, wsX30]
theorem zt_wsX9_follow_in : ∀ c ∈ zt_wsX9_follow, ∀ w ∈ c, w ∈ wsX9_follow := List.forall_mem_cons.mpr ⟨fun _ h => List.mem_cons.mpr (Or.inl (List.mem_singleton.mp h)), List.forall_mem_cons.mpr ⟨fun _ h => List.mem_cons_of_mem _ (List.mem_append_left _ (List.mem_append_left _ (List.mem_append_left _ h))), List.forall_mem_cons.mpr ⟨fun _ h => List.mem_cons_of_mem _ (List.mem_append_left _ (List.mem_append_left _ (List.mem_append_right _ (h)))), List.forall_mem_cons.mpr ⟨fun _ h => List.mem_cons_of_mem _ (List.mem_append_left _ (List.mem_append_right _ h)), List.forall_mem_cons.mpr ⟨fun _ h => List.mem_cons_of_mem _ (List.mem_append_right _ h), (fun _ h => absurd h List.not_mem_nil)⟩⟩⟩⟩⟩
set_option maxRecDepth 20000 in
theorem ggX9_follow_X9_isMap : GoodIn wsX9_follow wsX9_isMap := goodIn_c zt_wsX9_follow_in _ [(1, 7)] rfl zw_wsX9_isMap
set_option maxRecDepth 20000 in
theorem gX9_follow_X9_isMap : GoodIn wsX9_follow (va_wsS RX9 48 yX9_isMap wsX9_isMap) := goodIn_app (goodIn_of _ (by decide +kernel)) ggX9_follow_X9_isMap
set_option maxRecDepth 20000 in
theorem ggX9_follow_X9_isTold : GoodIn wsX9_follow wsX9_isTold := goodIn_c zt_wsX9_follow_in _ [(1, 11), (1, 0), (1, 12), (1, 13), (1, 14), (1, 6), (1, 15), (1, 4), (1, 5), (1, 7), (3, 0), (3, 1), (3, 2), (3, 3), (3, 4), (4, 0), (4, 1), (4, 2), (4, 3), (4, 4), (4, 5)] rfl zw_wsX9_isTold
set_option maxRecDepth 20000 in
theorem gX9_follow_X9_isTold : GoodIn wsX9_follow (wsV RX9 62 RX9 yX9_isTold wsX9_isTold) := goodIn_app (goodIn_of _ (by decide +kernel)) ggX9_follow_X9_isTold
set_option maxRecDepth 20000 in
theorem ggX9_follow_X3_codeOf : GoodIn wsX9_follow wsX3_codeOf := goodIn_c zt_wsX9_follow_in _ [(1, 20), (1, 21), (4, 0), (4, 1), (4, 2), (4, 3), (4, 4), (4, 5)] rfl zw_wsX3_codeOf
set_option maxRecDepth 20000 in
theorem gX9_follow_X3_codeOf : GoodIn wsX9_follow (wsV RX9 65 RX3 yX3_codeOf wsX3_codeOf) := goodIn_app (goodIn_of _ (by decide +kernel)) ggX9_follow_X3_codeOf
set_option maxRecDepth 20000 in
theorem ggX9_follow_X1_signAt : GoodIn wsX9_follow wsX1_signAt := goodIn_c zt_wsX9_follow_in _ [(2, 1), (2, 2), (2, 3), (2, 0), (2, 4), (2, 5), (2, 6), (2, 7), (2, 8)] rfl zw_wsX1_signAt
set_option maxRecDepth 20000 in
theorem gX9_follow_X1_signAt : GoodIn wsX9_follow (va_wsS RX9 69 yX1_signAt wsX1_signAt) := goodIn_app (goodIn_of _ (by decide +kernel)) ggX9_follow_X1_signAt
set_option maxRecDepth 20000 in
theorem ggX9_follow_X1_with : GoodIn wsX9_follow wsX1_with := goodIn_c zt_wsX9_follow_in _ [(2, 11), (2, 12), (1, 23), (2, 0), (2, 1), (2, 2), (2, 3), (2, 4), (2, 5), (2, 6), (2, 7), (2, 8)] rfl zw_wsX1_with
set_option maxRecDepth 20000 in
theorem gX9_follow_X1_with : GoodIn wsX9_follow (va_wsS RX9 195 yX1_with wsX1_with) := goodIn_app (goodIn_of _ (by decide +kernel)) ggX9_follow_X1_with
set_option maxRecDepth 20000 in
theorem ggX9_follow_X1_unlike : GoodIn wsX9_follow wsX1_unlike := goodIn_c zt_wsX9_follow_in _ [(2, 15), (2, 12), (1, 23), (2, 0), (2, 1), (2, 2), (2, 3), (2, 4), (2, 5), (2, 6), (2, 7), (2, 8)] rfl zw_wsX1_unlike
set_option maxRecDepth 20000 in
theorem gX9_follow_X1_unlike : GoodIn wsX9_follow (va_wsS RX9 187 yX1_unlike wsX1_unlike) := goodIn_app (goodIn_of _ (by decide +kernel)) ggX9_follow_X1_unlike
theorem zo_dX9_follow_0 : ([(0, .iload_n 1, 1), (1, .invokestatic 48, 3), (4, .ifCond .ne 5, 3), (7, .iconst (-1), 1), (8, .ireturn, 1), (9, .iload_n 2, 1), (10, .ifCond .lt 9, 3), (13, .iload_n 2, 1), (14, .bipush 9, 2), (16, .if_icmp .le 6, 3), (19, .bipush (-2), 2), (21, .ireturn, 1), (22, .aload_n 0, 1), (23, .iload_n 1, 1), (24, .invokevirtual 62, 3), (27, .ifCond .ne 6, 3)] : List (Nat × Instr × Nat)).all (dOk (decode cX9_follow)) = true := by decide +kernel
theorem dX9_follow_0 : decode cX9_follow 0 = .ok (.iload_n 1, 1) := dcr zo_dX9_follow_0 0 rfl
theorem dX9_follow_1 : decode cX9_follow 1 = .ok (.invokestatic 48, 3) := dcr zo_dX9_follow_0 1 rfl
theorem dX9_follow_4 : decode cX9_follow 4 = .ok (.ifCond .ne 5, 3) := dcr zo_dX9_follow_0 2 rfl
theorem dX9_follow_7 : decode cX9_follow 7 = .ok (.iconst (-1), 1) := dcr zo_dX9_follow_0 3 rfl
theorem dX9_follow_8 : decode cX9_follow 8 = .ok (.ireturn, 1) := dcr zo_dX9_follow_0 4 rfl
theorem dX9_follow_9 : decode cX9_follow 9 = .ok (.iload_n 2, 1) := dcr zo_dX9_follow_0 5 rfl
theorem dX9_follow_10 : decode cX9_follow 10 = .ok (.ifCond .lt 9, 3) := dcr zo_dX9_follow_0 6 rfl
theorem dX9_follow_13 : decode cX9_follow 13 = .ok (.iload_n 2, 1) := dcr zo_dX9_follow_0 7 rfl
theorem dX9_follow_14 : decode cX9_follow 14 = .ok (.bipush 9, 2) := dcr zo_dX9_follow_0 8 rfl
theorem dX9_follow_16 : decode cX9_follow 16 = .ok (.if_icmp .le 6, 3) := dcr zo_dX9_follow_0 9 rfl
theorem dX9_follow_19 : decode cX9_follow 19 = .ok (.bipush (-2), 2) := dcr zo_dX9_follow_0 10 rfl
theorem dX9_follow_21 : decode cX9_follow 21 = .ok (.ireturn, 1) := dcr zo_dX9_follow_0 11 rfl
theorem dX9_follow_22 : decode cX9_follow 22 = .ok (.aload_n 0, 1) := dcr zo_dX9_follow_0 12 rfl
theorem dX9_follow_23 : decode cX9_follow 23 = .ok (.iload_n 1, 1) := dcr zo_dX9_follow_0 13 rfl
theorem dX9_follow_24 : decode cX9_follow 24 = .ok (.invokevirtual 62, 3) := dcr zo_dX9_follow_0 14 rfl
theorem dX9_follow_27 : decode cX9_follow 27 = .ok (.ifCond .ne 6, 3) := dcr zo_dX9_follow_0 15 rfl
theorem zo_dX9_follow_30 : ([(30, .bipush (-3), 2), (32, .ireturn, 1), (33, .aload_n 0, 1), (34, .getfield 19, 3), (37, .iload_n 1, 1), (38, .invokevirtual 65, 3), (41, .istore_n 3, 1), (42, .iload_n 2, 1), (43, .aload_n 0, 1), (44, .getfield 19, 3), (47, .getfield 184, 3), (50, .imul, 1), (51, .istore 4, 2), (53, .iconst 0, 1), (54, .istore 5, 2), (56, .iload 5, 2)] : List (Nat × Instr × Nat)).all (dOk (decode cX9_follow)) = true := by decide +kernel
theorem dX9_follow_30 : decode cX9_follow 30 = .ok (.bipush (-3), 2) := dcr zo_dX9_follow_30 0 rfl
theorem dX9_follow_32 : decode cX9_follow 32 = .ok (.ireturn, 1) := dcr zo_dX9_follow_30 1 rfl
theorem dX9_follow_33 : decode cX9_follow 33 = .ok (.aload_n 0, 1) := dcr zo_dX9_follow_30 2 rfl
theorem dX9_follow_34 : decode cX9_follow 34 = .ok (.getfield 19, 3) := dcr zo_dX9_follow_30 3 rfl
theorem dX9_follow_37 : decode cX9_follow 37 = .ok (.iload_n 1, 1) := dcr zo_dX9_follow_30 4 rfl
theorem dX9_follow_38 : decode cX9_follow 38 = .ok (.invokevirtual 65, 3) := dcr zo_dX9_follow_30 5 rfl
theorem dX9_follow_41 : decode cX9_follow 41 = .ok (.istore_n 3, 1) := dcr zo_dX9_follow_30 6 rfl
theorem dX9_follow_42 : decode cX9_follow 42 = .ok (.iload_n 2, 1) := dcr zo_dX9_follow_30 7 rfl
theorem dX9_follow_43 : decode cX9_follow 43 = .ok (.aload_n 0, 1) := dcr zo_dX9_follow_30 8 rfl
theorem dX9_follow_44 : decode cX9_follow 44 = .ok (.getfield 19, 3) := dcr zo_dX9_follow_30 9 rfl
theorem dX9_follow_47 : decode cX9_follow 47 = .ok (.getfield 184, 3) := dcr zo_dX9_follow_30 10 rfl
theorem dX9_follow_50 : decode cX9_follow 50 = .ok (.imul, 1) := dcr zo_dX9_follow_30 11 rfl
theorem dX9_follow_51 : decode cX9_follow 51 = .ok (.istore 4, 2) := dcr zo_dX9_follow_30 12 rfl
theorem dX9_follow_53 : decode cX9_follow 53 = .ok (.iconst 0, 1) := dcr zo_dX9_follow_30 13 rfl
theorem dX9_follow_54 : decode cX9_follow 54 = .ok (.istore 5, 2) := dcr zo_dX9_follow_30 14 rfl
theorem dX9_follow_56 : decode cX9_follow 56 = .ok (.iload 5, 2) := dcr zo_dX9_follow_30 15 rfl
theorem zo_dX9_follow_58 : ([(58, .aload_n 0, 1), (59, .getfield 19, 3), (62, .getfield 27, 3), (65, .if_icmp .ge 63, 3), (68, .iload 4, 2), (70, .ifCond .le 58, 3), (73, .iload_n 3, 1), (74, .iload 5, 2), (76, .invokestatic 69, 3), (79, .istore 6, 2), (81, .aload_n 0, 1), (82, .getfield 19, 3), (85, .getfield 34, 3), (88, .iload 5, 2), (90, .invokestatic 69, 3), (93, .iload 6, 2)] : List (Nat × Instr × Nat)).all (dOk (decode cX9_follow)) = true := by decide +kernel
theorem dX9_follow_58 : decode cX9_follow 58 = .ok (.aload_n 0, 1) := dcr zo_dX9_follow_58 0 rfl
theorem dX9_follow_59 : decode cX9_follow 59 = .ok (.getfield 19, 3) := dcr zo_dX9_follow_58 1 rfl
theorem dX9_follow_62 : decode cX9_follow 62 = .ok (.getfield 27, 3) := dcr zo_dX9_follow_58 2 rfl
theorem dX9_follow_65 : decode cX9_follow 65 = .ok (.if_icmp .ge 63, 3) := dcr zo_dX9_follow_58 3 rfl
theorem dX9_follow_68 : decode cX9_follow 68 = .ok (.iload 4, 2) := dcr zo_dX9_follow_58 4 rfl
theorem dX9_follow_70 : decode cX9_follow 70 = .ok (.ifCond .le 58, 3) := dcr zo_dX9_follow_58 5 rfl
theorem dX9_follow_73 : decode cX9_follow 73 = .ok (.iload_n 3, 1) := dcr zo_dX9_follow_58 6 rfl
theorem dX9_follow_74 : decode cX9_follow 74 = .ok (.iload 5, 2) := dcr zo_dX9_follow_58 7 rfl
theorem dX9_follow_76 : decode cX9_follow 76 = .ok (.invokestatic 69, 3) := dcr zo_dX9_follow_58 8 rfl
theorem dX9_follow_79 : decode cX9_follow 79 = .ok (.istore 6, 2) := dcr zo_dX9_follow_58 9 rfl
theorem dX9_follow_81 : decode cX9_follow 81 = .ok (.aload_n 0, 1) := dcr zo_dX9_follow_58 10 rfl
theorem dX9_follow_82 : decode cX9_follow 82 = .ok (.getfield 19, 3) := dcr zo_dX9_follow_58 11 rfl
theorem dX9_follow_85 : decode cX9_follow 85 = .ok (.getfield 34, 3) := dcr zo_dX9_follow_58 12 rfl
theorem dX9_follow_88 : decode cX9_follow 88 = .ok (.iload 5, 2) := dcr zo_dX9_follow_58 13 rfl
theorem dX9_follow_90 : decode cX9_follow 90 = .ok (.invokestatic 69, 3) := dcr zo_dX9_follow_58 14 rfl
theorem dX9_follow_93 : decode cX9_follow 93 = .ok (.iload 6, 2) := dcr zo_dX9_follow_58 15 rfl
theorem zo_dX9_follow_95 : ([(95, .if_icmp .eq 27, 3), (98, .aload_n 0, 1), (99, .getfield 19, 3), (102, .aload_n 0, 1), (103, .getfield 19, 3), (106, .getfield 34, 3), (109, .iload 5, 2), (111, .iload 6, 2), (113, .invokestatic 195, 3), (116, .putfield 34, 3), (119, .iinc 4 (-1), 3), (122, .iinc 5 1, 3), (125, .goto (-69), 3), (128, .aload_n 0, 1), (129, .getfield 19, 3), (132, .getfield 34, 3)] : List (Nat × Instr × Nat)).all (dOk (decode cX9_follow)) = true := by decide +kernel
theorem dX9_follow_95 : decode cX9_follow 95 = .ok (.if_icmp .eq 27, 3) := dcr zo_dX9_follow_95 0 rfl
theorem dX9_follow_98 : decode cX9_follow 98 = .ok (.aload_n 0, 1) := dcr zo_dX9_follow_95 1 rfl
theorem dX9_follow_99 : decode cX9_follow 99 = .ok (.getfield 19, 3) := dcr zo_dX9_follow_95 2 rfl
theorem dX9_follow_102 : decode cX9_follow 102 = .ok (.aload_n 0, 1) := dcr zo_dX9_follow_95 3 rfl
theorem dX9_follow_103 : decode cX9_follow 103 = .ok (.getfield 19, 3) := dcr zo_dX9_follow_95 4 rfl
theorem dX9_follow_106 : decode cX9_follow 106 = .ok (.getfield 34, 3) := dcr zo_dX9_follow_95 5 rfl
theorem dX9_follow_109 : decode cX9_follow 109 = .ok (.iload 5, 2) := dcr zo_dX9_follow_95 6 rfl
theorem dX9_follow_111 : decode cX9_follow 111 = .ok (.iload 6, 2) := dcr zo_dX9_follow_95 7 rfl
theorem dX9_follow_113 : decode cX9_follow 113 = .ok (.invokestatic 195, 3) := dcr zo_dX9_follow_95 8 rfl
theorem dX9_follow_116 : decode cX9_follow 116 = .ok (.putfield 34, 3) := dcr zo_dX9_follow_95 9 rfl
theorem dX9_follow_119 : decode cX9_follow 119 = .ok (.iinc 4 (-1), 3) := dcr zo_dX9_follow_95 10 rfl
theorem dX9_follow_122 : decode cX9_follow 122 = .ok (.iinc 5 1, 3) := dcr zo_dX9_follow_95 11 rfl
theorem dX9_follow_125 : decode cX9_follow 125 = .ok (.goto (-69), 3) := dcr zo_dX9_follow_95 12 rfl
theorem dX9_follow_128 : decode cX9_follow 128 = .ok (.aload_n 0, 1) := dcr zo_dX9_follow_95 13 rfl
theorem dX9_follow_129 : decode cX9_follow 129 = .ok (.getfield 19, 3) := dcr zo_dX9_follow_95 14 rfl
theorem dX9_follow_132 : decode cX9_follow 132 = .ok (.getfield 34, 3) := dcr zo_dX9_follow_95 15 rfl
theorem zo_dX9_follow_135 : ([(135, .iload_n 3, 1), (136, .invokestatic 187, 3), (139, .ireturn, 1)] : List (Nat × Instr × Nat)).all (dOk (decode cX9_follow)) = true := by decide +kernel
theorem dX9_follow_135 : decode cX9_follow 135 = .ok (.iload_n 3, 1) := dcr zo_dX9_follow_135 0 rfl
theorem dX9_follow_136 : decode cX9_follow 136 = .ok (.invokestatic 187, 3) := dcr zo_dX9_follow_135 1 rfl
theorem dX9_follow_139 : decode cX9_follow 139 = .ok (.ireturn, 1) := dcr zo_dX9_follow_135 2 rfl
def zt_wsX9_drawn : List (List Cond) := [[.code yX9_drawn cX9_drawn 10 (some .int)], wsX9_drawn_r1, wsX9_drawn_r2, wsX9_drawn_r3, wsX9_drawn_r4, wsX90, wsX30]
theorem zt_wsX9_drawn_in : ∀ c ∈ zt_wsX9_drawn, ∀ w ∈ c, w ∈ wsX9_drawn := List.forall_mem_cons.mpr ⟨fun _ h => List.mem_cons.mpr (Or.inl (List.mem_singleton.mp h)), List.forall_mem_cons.mpr ⟨fun _ h => List.mem_cons_of_mem _ (List.mem_append_left _ (List.mem_append_left _ (List.mem_append_left _ h))), List.forall_mem_cons.mpr ⟨fun _ h => List.mem_cons_of_mem _ (List.mem_append_left _ (List.mem_append_left _ (List.mem_append_right _ (List.mem_append_left _ h)))), List.forall_mem_cons.mpr ⟨fun _ h => List.mem_cons_of_mem _ (List.mem_append_left _ (List.mem_append_left _ (List.mem_append_right _ (List.mem_append_right _ (List.mem_append_left _ h))))), List.forall_mem_cons.mpr ⟨fun _ h => List.mem_cons_of_mem _ (List.mem_append_left _ (List.mem_append_left _ (List.mem_append_right _ (List.mem_append_right _ (List.mem_append_right _ (h)))))), List.forall_mem_cons.mpr ⟨fun _ h => List.mem_cons_of_mem _ (List.mem_append_left _ (List.mem_append_right _ h)), List.forall_mem_cons.mpr ⟨fun _ h => List.mem_cons_of_mem _ (List.mem_append_right _ h), (fun _ h => absurd h List.not_mem_nil)⟩⟩⟩⟩⟩⟩⟩
set_option maxRecDepth 20000 in
theorem ggX9_drawn_X9_isMap : GoodIn wsX9_drawn wsX9_isMap := goodIn_c zt_wsX9_drawn_in _ [(1, 5)] rfl zw_wsX9_isMap
set_option maxRecDepth 20000 in
theorem gX9_drawn_X9_isMap : GoodIn wsX9_drawn (va_wsS RX9 48 yX9_isMap wsX9_isMap) := goodIn_app (goodIn_of _ (by decide +kernel)) ggX9_drawn_X9_isMap
set_option maxRecDepth 20000 in
theorem ggX9_drawn_X9_isHand : GoodIn wsX9_drawn wsX9_isHand := goodIn_c zt_wsX9_drawn_in _ [(1, 8)] rfl zw_wsX9_isHand
set_option maxRecDepth 20000 in
theorem gX9_drawn_X9_isHand : GoodIn wsX9_drawn (va_wsS RX9 79 yX9_isHand wsX9_isHand) := goodIn_app (goodIn_of _ (by decide +kernel)) ggX9_drawn_X9_isHand
set_option maxRecDepth 20000 in
theorem ggX9_drawn_X9_isSite : GoodIn wsX9_drawn wsX9_isSite := goodIn_c zt_wsX9_drawn_in _ [(1, 12), (1, 0), (1, 13), (5, 0), (5, 1), (5, 2), (5, 3), (5, 4), (6, 0), (6, 1), (6, 2), (6, 3), (6, 4), (6, 5)] rfl zw_wsX9_isSite
set_option maxRecDepth 20000 in
theorem gX9_drawn_X9_isSite : GoodIn wsX9_drawn (wsV RX9 59 RX9 yX9_isSite wsX9_isSite) := goodIn_app (goodIn_of _ (by decide +kernel)) ggX9_drawn_X9_isSite
set_option maxRecDepth 20000 in
theorem ggX9_drawn_X9_isTold : GoodIn wsX9_drawn wsX9_isTold := goodIn_c zt_wsX9_drawn_in _ [(1, 17), (1, 0), (1, 18), (1, 19), (1, 20), (1, 4), (1, 21), (1, 2), (1, 3), (1, 5), (5, 0), (5, 1), (5, 2), (5, 3), (5, 4), (6, 0), (6, 1), (6, 2), (6, 3), (6, 4), (6, 5)] rfl zw_wsX9_isTold
set_option maxRecDepth 20000 in
theorem gX9_drawn_X9_isTold : GoodIn wsX9_drawn (wsV RX9 62 RX9 yX9_isTold wsX9_isTold) := goodIn_app (goodIn_of _ (by decide +kernel)) ggX9_drawn_X9_isTold
set_option maxRecDepth 20000 in
theorem ggX9_drawn_X3_codeOf : GoodIn wsX9_drawn wsX3_codeOf := goodIn_c zt_wsX9_drawn_in _ [(2, 2), (2, 3), (6, 0), (6, 1), (6, 2), (6, 3), (6, 4), (6, 5)] rfl zw_wsX3_codeOf
set_option maxRecDepth 20000 in
theorem gX9_drawn_X3_codeOf : GoodIn wsX9_drawn (wsV RX9 65 RX3 yX3_codeOf wsX3_codeOf) := goodIn_app (goodIn_of _ (by decide +kernel)) ggX9_drawn_X3_codeOf
set_option maxRecDepth 20000 in
theorem ggX9_drawn_X3_kindsOf : GoodIn wsX9_drawn wsX3_kindsOf := goodIn_c zt_wsX9_drawn_in _ [(2, 7), (2, 8), (6, 0), (6, 1), (6, 2), (6, 3), (6, 4), (6, 5)] rfl zw_wsX3_kindsOf
set_option maxRecDepth 20000 in
theorem gX9_drawn_X3_kindsOf : GoodIn wsX9_drawn (wsV RX9 82 RX3 yX3_kindsOf wsX3_kindsOf) := goodIn_app (goodIn_of _ (by decide +kernel)) ggX9_drawn_X3_kindsOf
set_option maxRecDepth 20000 in
theorem zw_wsX9_afterDraw : wsX9_afterDraw.all goodWord = true := by decide +kernel
set_option maxRecDepth 20000 in
theorem ggX9_drawn_X9_afterDraw : GoodIn wsX9_drawn wsX9_afterDraw := goodIn_c zt_wsX9_drawn_in _ [(2, 12), (2, 13), (2, 14), (2, 15), (2, 16), (2, 17), (2, 18), (2, 19), (2, 20), (1, 4), (2, 21), (1, 0), (1, 13), (2, 22), (2, 23), (3, 0), (3, 1), (3, 2), (3, 3), (3, 4), (3, 5), (3, 6), (3, 7), (3, 8), (3, 9), (3, 10), (3, 11), (3, 12), (3, 13), (3, 14), (3, 15), (3, 16), (3, 17), (3, 18), (3, 19), (3, 20), (3, 21), (5, 0), (5, 1), (5, 2), (5, 3), (5, 4), (6, 0), (6, 1), (6, 2), (6, 3), (6, 4), (6, 5)] rfl zw_wsX9_afterDraw
set_option maxRecDepth 20000 in
theorem gX9_drawn_X9_afterDraw : GoodIn wsX9_drawn (wsV RX9 199 RX9 yX9_afterDraw wsX9_afterDraw) := goodIn_app (goodIn_of _ (by decide +kernel)) ggX9_drawn_X9_afterDraw
set_option maxRecDepth 20000 in
theorem ggX9_drawn_X1_unlike : GoodIn wsX9_drawn wsX1_unlike := goodIn_c zt_wsX9_drawn_in _ [(4, 0), (3, 21), (3, 8), (3, 9), (3, 10), (3, 11), (3, 12), (3, 13), (3, 14), (3, 15), (3, 16), (3, 17)] rfl zw_wsX1_unlike
set_option maxRecDepth 20000 in
theorem gX9_drawn_X1_unlike : GoodIn wsX9_drawn (va_wsS RX9 187 yX1_unlike wsX1_unlike) := goodIn_app (goodIn_of _ (by decide +kernel)) ggX9_drawn_X1_unlike
set_option maxRecDepth 20000 in
theorem ggX9_drawn_X1_signAt : GoodIn wsX9_drawn wsX1_signAt := goodIn_c zt_wsX9_drawn_in _ [(3, 10), (3, 11), (3, 12), (3, 9), (3, 13), (3, 14), (3, 15), (3, 16), (3, 17)] rfl zw_wsX1_signAt
set_option maxRecDepth 20000 in
theorem gX9_drawn_X1_signAt : GoodIn wsX9_drawn (va_wsS RX9 69 yX1_signAt wsX1_signAt) := goodIn_app (goodIn_of _ (by decide +kernel)) ggX9_drawn_X1_signAt
set_option maxRecDepth 20000 in
theorem ggX9_drawn_X5_written : GoodIn wsX9_drawn wsX5_written := goodIn_c zt_wsX9_drawn_in _ [(4, 5), (4, 6)] rfl zw_wsX5_written
set_option maxRecDepth 20000 in
theorem gX9_drawn_X5_written : GoodIn wsX9_drawn (va_wsS RX9 74 yX5_written wsX5_written) := goodIn_app (goodIn_of _ (by decide +kernel)) ggX9_drawn_X5_written
theorem zo_dX9_drawn_0 : ([(0, .iload_n 2, 1), (1, .invokestatic 48, 3), (4, .ifCond .eq 25, 3), (7, .iload_n 3, 1), (8, .invokestatic 79, 3), (11, .ifCond .eq 18, 3), (14, .iload 5, 2), (16, .iconst (-1), 1), (17, .if_icmp .eq 14, 3), (20, .aload_n 0, 1), (21, .iload 5, 2), (23, .invokevirtual 59, 3), (26, .ifCond .ne 5, 3), (29, .iconst (-1), 1), (30, .ireturn, 1), (31, .iload_n 1, 1)] : List (Nat × Instr × Nat)).all (dOk (decode cX9_drawn)) = true := by decide +kernel
theorem dX9_drawn_0 : decode cX9_drawn 0 = .ok (.iload_n 2, 1) := dcr zo_dX9_drawn_0 0 rfl
theorem dX9_drawn_1 : decode cX9_drawn 1 = .ok (.invokestatic 48, 3) := dcr zo_dX9_drawn_0 1 rfl
theorem dX9_drawn_4 : decode cX9_drawn 4 = .ok (.ifCond .eq 25, 3) := dcr zo_dX9_drawn_0 2 rfl
theorem dX9_drawn_7 : decode cX9_drawn 7 = .ok (.iload_n 3, 1) := dcr zo_dX9_drawn_0 3 rfl
theorem dX9_drawn_8 : decode cX9_drawn 8 = .ok (.invokestatic 79, 3) := dcr zo_dX9_drawn_0 4 rfl
theorem dX9_drawn_11 : decode cX9_drawn 11 = .ok (.ifCond .eq 18, 3) := dcr zo_dX9_drawn_0 5 rfl
theorem dX9_drawn_14 : decode cX9_drawn 14 = .ok (.iload 5, 2) := dcr zo_dX9_drawn_0 6 rfl
theorem dX9_drawn_16 : decode cX9_drawn 16 = .ok (.iconst (-1), 1) := dcr zo_dX9_drawn_0 7 rfl
theorem dX9_drawn_17 : decode cX9_drawn 17 = .ok (.if_icmp .eq 14, 3) := dcr zo_dX9_drawn_0 8 rfl
theorem dX9_drawn_20 : decode cX9_drawn 20 = .ok (.aload_n 0, 1) := dcr zo_dX9_drawn_0 9 rfl
theorem dX9_drawn_21 : decode cX9_drawn 21 = .ok (.iload 5, 2) := dcr zo_dX9_drawn_0 10 rfl
theorem dX9_drawn_23 : decode cX9_drawn 23 = .ok (.invokevirtual 59, 3) := dcr zo_dX9_drawn_0 11 rfl
theorem dX9_drawn_26 : decode cX9_drawn 26 = .ok (.ifCond .ne 5, 3) := dcr zo_dX9_drawn_0 12 rfl
theorem dX9_drawn_29 : decode cX9_drawn 29 = .ok (.iconst (-1), 1) := dcr zo_dX9_drawn_0 13 rfl
theorem dX9_drawn_30 : decode cX9_drawn 30 = .ok (.ireturn, 1) := dcr zo_dX9_drawn_0 14 rfl
theorem dX9_drawn_31 : decode cX9_drawn 31 = .ok (.iload_n 1, 1) := dcr zo_dX9_drawn_0 15 rfl
theorem zo_dX9_drawn_32 : ([(32, .ifCond .lt 22, 3), (35, .iload_n 1, 1), (36, .sipush 9999, 3), (39, .if_icmp .gt 15, 3), (42, .iload 4, 2), (44, .ifCond .lt 10, 3), (47, .iload 4, 2), (49, .bipush 60, 2), (51, .if_icmp .le 6, 3), (54, .bipush (-2), 2), (56, .ireturn, 1), (57, .aload_n 0, 1), (58, .iload_n 2, 1), (59, .invokevirtual 62, 3), (62, .ifCond .ne 6, 3), (65, .bipush (-3), 2)] : List (Nat × Instr × Nat)).all (dOk (decode cX9_drawn)) = true := by decide +kernel
theorem dX9_drawn_32 : decode cX9_drawn 32 = .ok (.ifCond .lt 22, 3) := dcr zo_dX9_drawn_32 0 rfl
theorem dX9_drawn_35 : decode cX9_drawn 35 = .ok (.iload_n 1, 1) := dcr zo_dX9_drawn_32 1 rfl
theorem dX9_drawn_36 : decode cX9_drawn 36 = .ok (.sipush 9999, 3) := dcr zo_dX9_drawn_32 2 rfl
theorem dX9_drawn_39 : decode cX9_drawn 39 = .ok (.if_icmp .gt 15, 3) := dcr zo_dX9_drawn_32 3 rfl
theorem dX9_drawn_42 : decode cX9_drawn 42 = .ok (.iload 4, 2) := dcr zo_dX9_drawn_32 4 rfl
theorem dX9_drawn_44 : decode cX9_drawn 44 = .ok (.ifCond .lt 10, 3) := dcr zo_dX9_drawn_32 5 rfl
theorem dX9_drawn_47 : decode cX9_drawn 47 = .ok (.iload 4, 2) := dcr zo_dX9_drawn_32 6 rfl
theorem dX9_drawn_49 : decode cX9_drawn 49 = .ok (.bipush 60, 2) := dcr zo_dX9_drawn_32 7 rfl
theorem dX9_drawn_51 : decode cX9_drawn 51 = .ok (.if_icmp .le 6, 3) := dcr zo_dX9_drawn_32 8 rfl
theorem dX9_drawn_54 : decode cX9_drawn 54 = .ok (.bipush (-2), 2) := dcr zo_dX9_drawn_32 9 rfl
theorem dX9_drawn_56 : decode cX9_drawn 56 = .ok (.ireturn, 1) := dcr zo_dX9_drawn_32 10 rfl
theorem dX9_drawn_57 : decode cX9_drawn 57 = .ok (.aload_n 0, 1) := dcr zo_dX9_drawn_32 11 rfl
theorem dX9_drawn_58 : decode cX9_drawn 58 = .ok (.iload_n 2, 1) := dcr zo_dX9_drawn_32 12 rfl
theorem dX9_drawn_59 : decode cX9_drawn 59 = .ok (.invokevirtual 62, 3) := dcr zo_dX9_drawn_32 13 rfl
theorem dX9_drawn_62 : decode cX9_drawn 62 = .ok (.ifCond .ne 6, 3) := dcr zo_dX9_drawn_32 14 rfl
theorem dX9_drawn_65 : decode cX9_drawn 65 = .ok (.bipush (-3), 2) := dcr zo_dX9_drawn_32 15 rfl
theorem zo_dX9_drawn_67 : ([(67, .ireturn, 1), (68, .aload_n 0, 1), (69, .getfield 19, 3), (72, .iload_n 2, 1), (73, .invokevirtual 65, 3), (76, .istore 6, 2), (78, .iload 6, 2), (80, .istore 7, 2), (82, .iload_n 1, 1), (83, .istore 8, 2), (85, .iconst 0, 1), (86, .istore 9, 2), (88, .iload 9, 2), (90, .iload 4, 2), (92, .if_icmp .ge 40, 3), (95, .bipush 75, 2)] : List (Nat × Instr × Nat)).all (dOk (decode cX9_drawn)) = true := by decide +kernel
theorem dX9_drawn_67 : decode cX9_drawn 67 = .ok (.ireturn, 1) := dcr zo_dX9_drawn_67 0 rfl
theorem dX9_drawn_68 : decode cX9_drawn 68 = .ok (.aload_n 0, 1) := dcr zo_dX9_drawn_67 1 rfl
theorem dX9_drawn_69 : decode cX9_drawn 69 = .ok (.getfield 19, 3) := dcr zo_dX9_drawn_67 2 rfl
theorem dX9_drawn_72 : decode cX9_drawn 72 = .ok (.iload_n 2, 1) := dcr zo_dX9_drawn_67 3 rfl
theorem dX9_drawn_73 : decode cX9_drawn 73 = .ok (.invokevirtual 65, 3) := dcr zo_dX9_drawn_67 4 rfl
theorem dX9_drawn_76 : decode cX9_drawn 76 = .ok (.istore 6, 2) := dcr zo_dX9_drawn_67 5 rfl
theorem dX9_drawn_78 : decode cX9_drawn 78 = .ok (.iload 6, 2) := dcr zo_dX9_drawn_67 6 rfl
theorem dX9_drawn_80 : decode cX9_drawn 80 = .ok (.istore 7, 2) := dcr zo_dX9_drawn_67 7 rfl
theorem dX9_drawn_82 : decode cX9_drawn 82 = .ok (.iload_n 1, 1) := dcr zo_dX9_drawn_67 8 rfl
theorem dX9_drawn_83 : decode cX9_drawn 83 = .ok (.istore 8, 2) := dcr zo_dX9_drawn_67 9 rfl
theorem dX9_drawn_85 : decode cX9_drawn 85 = .ok (.iconst 0, 1) := dcr zo_dX9_drawn_67 10 rfl
theorem dX9_drawn_86 : decode cX9_drawn 86 = .ok (.istore 9, 2) := dcr zo_dX9_drawn_67 11 rfl
theorem dX9_drawn_88 : decode cX9_drawn 88 = .ok (.iload 9, 2) := dcr zo_dX9_drawn_67 12 rfl
theorem dX9_drawn_90 : decode cX9_drawn 90 = .ok (.iload 4, 2) := dcr zo_dX9_drawn_67 13 rfl
theorem dX9_drawn_92 : decode cX9_drawn 92 = .ok (.if_icmp .ge 40, 3) := dcr zo_dX9_drawn_67 14 rfl
theorem dX9_drawn_95 : decode cX9_drawn 95 = .ok (.bipush 75, 2) := dcr zo_dX9_drawn_67 15 rfl
theorem zo_dX9_drawn_97 : ([(97, .iload 8, 2), (99, .imul, 1), (100, .bipush 74, 2), (102, .iadd, 1), (103, .ldc 198, 2), (105, .irem, 1), (106, .istore 8, 2), (108, .aload_n 0, 1), (109, .iload 7, 2), (111, .iload 8, 2), (113, .aload_n 0, 1), (114, .getfield 19, 3), (117, .iload_n 3, 1), (118, .invokevirtual 82, 3), (121, .invokevirtual 199, 3), (124, .istore 7, 2)] : List (Nat × Instr × Nat)).all (dOk (decode cX9_drawn)) = true := by decide +kernel
theorem dX9_drawn_97 : decode cX9_drawn 97 = .ok (.iload 8, 2) := dcr zo_dX9_drawn_97 0 rfl
theorem dX9_drawn_99 : decode cX9_drawn 99 = .ok (.imul, 1) := dcr zo_dX9_drawn_97 1 rfl
theorem dX9_drawn_100 : decode cX9_drawn 100 = .ok (.bipush 74, 2) := dcr zo_dX9_drawn_97 2 rfl
theorem dX9_drawn_102 : decode cX9_drawn 102 = .ok (.iadd, 1) := dcr zo_dX9_drawn_97 3 rfl
theorem dX9_drawn_103 : decode cX9_drawn 103 = .ok (.ldc 198, 2) := dcr zo_dX9_drawn_97 4 rfl
theorem dX9_drawn_105 : decode cX9_drawn 105 = .ok (.irem, 1) := dcr zo_dX9_drawn_97 5 rfl
theorem dX9_drawn_106 : decode cX9_drawn 106 = .ok (.istore 8, 2) := dcr zo_dX9_drawn_97 6 rfl
theorem dX9_drawn_108 : decode cX9_drawn 108 = .ok (.aload_n 0, 1) := dcr zo_dX9_drawn_97 7 rfl
theorem dX9_drawn_109 : decode cX9_drawn 109 = .ok (.iload 7, 2) := dcr zo_dX9_drawn_97 8 rfl
theorem dX9_drawn_111 : decode cX9_drawn 111 = .ok (.iload 8, 2) := dcr zo_dX9_drawn_97 9 rfl
theorem dX9_drawn_113 : decode cX9_drawn 113 = .ok (.aload_n 0, 1) := dcr zo_dX9_drawn_97 10 rfl
theorem dX9_drawn_114 : decode cX9_drawn 114 = .ok (.getfield 19, 3) := dcr zo_dX9_drawn_97 11 rfl
theorem dX9_drawn_117 : decode cX9_drawn 117 = .ok (.iload_n 3, 1) := dcr zo_dX9_drawn_97 12 rfl
theorem dX9_drawn_118 : decode cX9_drawn 118 = .ok (.invokevirtual 82, 3) := dcr zo_dX9_drawn_97 13 rfl
theorem dX9_drawn_121 : decode cX9_drawn 121 = .ok (.invokevirtual 199, 3) := dcr zo_dX9_drawn_97 14 rfl
theorem dX9_drawn_124 : decode cX9_drawn 124 = .ok (.istore 7, 2) := dcr zo_dX9_drawn_97 15 rfl
theorem zo_dX9_drawn_126 : ([(126, .iinc 9 1, 3), (129, .goto (-41), 3), (132, .iload 5, 2), (134, .iconst (-1), 1), (135, .if_icmp .ne 13, 3), (138, .iload 7, 2), (140, .iload 6, 2), (142, .invokestatic 187, 3), (145, .goto 13, 3), (148, .iload 7, 2), (150, .iload 5, 2), (152, .invokestatic 69, 3), (155, .invokestatic 74, 3), (158, .ireturn, 1)] : List (Nat × Instr × Nat)).all (dOk (decode cX9_drawn)) = true := by decide +kernel
theorem dX9_drawn_126 : decode cX9_drawn 126 = .ok (.iinc 9 1, 3) := dcr zo_dX9_drawn_126 0 rfl
theorem dX9_drawn_129 : decode cX9_drawn 129 = .ok (.goto (-41), 3) := dcr zo_dX9_drawn_126 1 rfl
theorem dX9_drawn_132 : decode cX9_drawn 132 = .ok (.iload 5, 2) := dcr zo_dX9_drawn_126 2 rfl
theorem dX9_drawn_134 : decode cX9_drawn 134 = .ok (.iconst (-1), 1) := dcr zo_dX9_drawn_126 3 rfl
theorem dX9_drawn_135 : decode cX9_drawn 135 = .ok (.if_icmp .ne 13, 3) := dcr zo_dX9_drawn_126 4 rfl
theorem dX9_drawn_138 : decode cX9_drawn 138 = .ok (.iload 7, 2) := dcr zo_dX9_drawn_126 5 rfl
theorem dX9_drawn_140 : decode cX9_drawn 140 = .ok (.iload 6, 2) := dcr zo_dX9_drawn_126 6 rfl
theorem dX9_drawn_142 : decode cX9_drawn 142 = .ok (.invokestatic 187, 3) := dcr zo_dX9_drawn_126 7 rfl
theorem dX9_drawn_145 : decode cX9_drawn 145 = .ok (.goto 13, 3) := dcr zo_dX9_drawn_126 8 rfl
theorem dX9_drawn_148 : decode cX9_drawn 148 = .ok (.iload 7, 2) := dcr zo_dX9_drawn_126 9 rfl
theorem dX9_drawn_150 : decode cX9_drawn 150 = .ok (.iload 5, 2) := dcr zo_dX9_drawn_126 10 rfl
theorem dX9_drawn_152 : decode cX9_drawn 152 = .ok (.invokestatic 69, 3) := dcr zo_dX9_drawn_126 11 rfl
theorem dX9_drawn_155 : decode cX9_drawn 155 = .ok (.invokestatic 74, 3) := dcr zo_dX9_drawn_126 12 rfl
theorem dX9_drawn_158 : decode cX9_drawn 158 = .ok (.ireturn, 1) := dcr zo_dX9_drawn_126 13 rfl
def zt_wsX9_image : List (List Cond) := [[.code yX9_image cX9_image 2 (some .int)], wsX9_image_r1, wsX9_image_r2, wsX90, wsX30]
theorem zt_wsX9_image_in : ∀ c ∈ zt_wsX9_image, ∀ w ∈ c, w ∈ wsX9_image := List.forall_mem_cons.mpr ⟨fun _ h => List.mem_cons.mpr (Or.inl (List.mem_singleton.mp h)), List.forall_mem_cons.mpr ⟨fun _ h => List.mem_cons_of_mem _ (List.mem_append_left _ (List.mem_append_left _ (List.mem_append_left _ h))), List.forall_mem_cons.mpr ⟨fun _ h => List.mem_cons_of_mem _ (List.mem_append_left _ (List.mem_append_left _ (List.mem_append_right _ (h)))), List.forall_mem_cons.mpr ⟨fun _ h => List.mem_cons_of_mem _ (List.mem_append_left _ (List.mem_append_right _ h)), List.forall_mem_cons.mpr ⟨fun _ h => List.mem_cons_of_mem _ (List.mem_append_right _ h), (fun _ h => absurd h List.not_mem_nil)⟩⟩⟩⟩⟩
set_option maxRecDepth 20000 in
theorem ggX9_image_X3_init : GoodIn wsX9_image wsX3_init := goodIn_c zt_wsX9_image_in _ [(1, 6), (1, 7), (1, 8), (1, 9), (1, 10), (1, 11), (1, 12), (1, 13), (1, 14), (4, 0), (4, 1), (4, 2), (4, 3), (4, 4), (4, 5)] rfl zw_wsX3_init
set_option maxRecDepth 20000 in
theorem gX9_image_X3_init_n18 : GoodIn wsX9_image (wsX3_init) := ggX9_image_X3_init
set_option maxRecDepth 20000 in
theorem zw_wsX3_take : wsX3_take.all goodWord = true := by decide +kernel
set_option maxRecDepth 20000 in
theorem ggX9_image_X3_take : GoodIn wsX9_image wsX3_take := goodIn_c zt_wsX9_image_in _ [(1, 18), (1, 10), (1, 19), (1, 11), (1, 20), (1, 13), (1, 14), (1, 21), (1, 22), (1, 23), (1, 3), (2, 0), (2, 1), (2, 2), (2, 3), (2, 4), (4, 0), (4, 1), (4, 2), (4, 3), (4, 4), (4, 5)] rfl zw_wsX3_take
set_option maxRecDepth 20000 in
theorem gX9_image_X3_take : GoodIn wsX9_image (wsV RX9 202 RX3 yX3_take wsX3_take) := goodIn_app (goodIn_of _ (by decide +kernel)) ggX9_image_X3_take
theorem zo_dX9_image_0 : ([(0, .iload_n 1, 1), (1, .ifCond .lt 12, 3), (4, .iload_n 1, 1), (5, .aload_n 0, 1), (6, .getfield 23, 3), (9, .arraylength, 1), (10, .if_icmp .lt 6, 3), (13, .bipush (-2), 2), (15, .ireturn, 1), (16, .aload_n 0, 1), (17, .getfield 23, 3), (20, .iload_n 1, 1), (21, .aaload, 1), (22, .ifnonnull 16, 3), (25, .aload_n 0, 1), (26, .getfield 23, 3)] : List (Nat × Instr × Nat)).all (dOk (decode cX9_image)) = true := by decide +kernel
theorem dX9_image_0 : decode cX9_image 0 = .ok (.iload_n 1, 1) := dcr zo_dX9_image_0 0 rfl
theorem dX9_image_1 : decode cX9_image 1 = .ok (.ifCond .lt 12, 3) := dcr zo_dX9_image_0 1 rfl
theorem dX9_image_4 : decode cX9_image 4 = .ok (.iload_n 1, 1) := dcr zo_dX9_image_0 2 rfl
theorem dX9_image_5 : decode cX9_image 5 = .ok (.aload_n 0, 1) := dcr zo_dX9_image_0 3 rfl
theorem dX9_image_6 : decode cX9_image 6 = .ok (.getfield 23, 3) := dcr zo_dX9_image_0 4 rfl
theorem dX9_image_9 : decode cX9_image 9 = .ok (.arraylength, 1) := dcr zo_dX9_image_0 5 rfl
theorem dX9_image_10 : decode cX9_image 10 = .ok (.if_icmp .lt 6, 3) := dcr zo_dX9_image_0 6 rfl
theorem dX9_image_13 : decode cX9_image 13 = .ok (.bipush (-2), 2) := dcr zo_dX9_image_0 7 rfl
theorem dX9_image_15 : decode cX9_image 15 = .ok (.ireturn, 1) := dcr zo_dX9_image_0 8 rfl
theorem dX9_image_16 : decode cX9_image 16 = .ok (.aload_n 0, 1) := dcr zo_dX9_image_0 9 rfl
theorem dX9_image_17 : decode cX9_image 17 = .ok (.getfield 23, 3) := dcr zo_dX9_image_0 10 rfl
theorem dX9_image_20 : decode cX9_image 20 = .ok (.iload_n 1, 1) := dcr zo_dX9_image_0 11 rfl
theorem dX9_image_21 : decode cX9_image 21 = .ok (.aaload, 1) := dcr zo_dX9_image_0 12 rfl
theorem dX9_image_22 : decode cX9_image 22 = .ok (.ifnonnull 16, 3) := dcr zo_dX9_image_0 13 rfl
theorem dX9_image_25 : decode cX9_image 25 = .ok (.aload_n 0, 1) := dcr zo_dX9_image_0 14 rfl
theorem dX9_image_26 : decode cX9_image 26 = .ok (.getfield 23, 3) := dcr zo_dX9_image_0 15 rfl
theorem zo_dX9_image_29 : ([(29, .iload_n 1, 1), (30, .new 16, 3), (33, .dup, 1), (34, .invokespecial 18, 3), (37, .aastore, 1), (38, .aload_n 0, 1), (39, .getfield 23, 3), (42, .iload_n 1, 1), (43, .aaload, 1), (44, .aload_n 0, 1), (45, .getfield 19, 3), (48, .invokevirtual 202, 3), (51, .iconst 1, 1), (52, .ireturn, 1)] : List (Nat × Instr × Nat)).all (dOk (decode cX9_image)) = true := by decide +kernel
theorem dX9_image_29 : decode cX9_image 29 = .ok (.iload_n 1, 1) := dcr zo_dX9_image_29 0 rfl
theorem dX9_image_30 : decode cX9_image 30 = .ok (.new 16, 3) := dcr zo_dX9_image_29 1 rfl
theorem dX9_image_33 : decode cX9_image 33 = .ok (.dup, 1) := dcr zo_dX9_image_29 2 rfl
theorem dX9_image_34 : decode cX9_image 34 = .ok (.invokespecial 18, 3) := dcr zo_dX9_image_29 3 rfl
theorem dX9_image_37 : decode cX9_image 37 = .ok (.aastore, 1) := dcr zo_dX9_image_29 4 rfl
theorem dX9_image_38 : decode cX9_image 38 = .ok (.aload_n 0, 1) := dcr zo_dX9_image_29 5 rfl
theorem dX9_image_39 : decode cX9_image 39 = .ok (.getfield 23, 3) := dcr zo_dX9_image_29 6 rfl
theorem dX9_image_42 : decode cX9_image 42 = .ok (.iload_n 1, 1) := dcr zo_dX9_image_29 7 rfl
theorem dX9_image_43 : decode cX9_image 43 = .ok (.aaload, 1) := dcr zo_dX9_image_29 8 rfl
theorem dX9_image_44 : decode cX9_image 44 = .ok (.aload_n 0, 1) := dcr zo_dX9_image_29 9 rfl
theorem dX9_image_45 : decode cX9_image 45 = .ok (.getfield 19, 3) := dcr zo_dX9_image_29 10 rfl
theorem dX9_image_48 : decode cX9_image 48 = .ok (.invokevirtual 202, 3) := dcr zo_dX9_image_29 11 rfl
theorem dX9_image_51 : decode cX9_image 51 = .ok (.iconst 1, 1) := dcr zo_dX9_image_29 12 rfl
theorem dX9_image_52 : decode cX9_image 52 = .ok (.ireturn, 1) := dcr zo_dX9_image_29 13 rfl
def zt_wsX9_restore : List (List Cond) := [[.code yX9_restore cX9_restore 3 (some .int)], [.fieldLink RX9 23 "LastMap" "images" "[LLastMap$Papers;", .fieldLink RX9 19 "LastMap" "papers" "LLastMap$Papers;", .methodLink RX9 202 yX3_take, .instanceMethod yX3_take, .selects RX3 yX3_take yX3_take, .initialized RX3, .code yX3_take cX3_take 3 none, .fieldLink RX3 9 "LastMap$Papers" "siteCount" "I", .fieldLink RX3 25 "LastMap$Papers" "toldMaps" "I", .fieldLink RX3 15 "LastMap$Papers" "spadeCount" "I", .fieldLink RX3 28 "LastMap$Papers" "ground" "I", .fieldLink RX3 18 "LastMap$Papers" "codes" "[I", .fieldLink RX3 22 "LastMap$Papers" "kinds" "[I", .methodLink RX3 31 yX3_codeOf, .instanceMethod yX3_codeOf, .selects RX3 yX3_codeOf yX3_codeOf, .code yX3_codeOf cX3_codeOf 2 (some .int), .methodLink RX3 35 yX3_kindsOf, .instanceMethod yX3_kindsOf, .selects RX3 yX3_kindsOf yX3_kindsOf, .code yX3_kindsOf cX3_kindsOf 2 (some .int)], wsX90, wsX30]
theorem zt_wsX9_restore_in : ∀ c ∈ zt_wsX9_restore, ∀ w ∈ c, w ∈ wsX9_restore := List.forall_mem_cons.mpr ⟨fun _ h => List.mem_cons.mpr (Or.inl (List.mem_singleton.mp h)), List.forall_mem_cons.mpr ⟨fun _ h => List.mem_cons_of_mem _ (List.mem_append_left _ (List.mem_append_left _ (h))), List.forall_mem_cons.mpr ⟨fun _ h => List.mem_cons_of_mem _ (List.mem_append_left _ (List.mem_append_right _ h)), List.forall_mem_cons.mpr ⟨fun _ h => List.mem_cons_of_mem _ (List.mem_append_right _ h), (fun _ h => absurd h List.not_mem_nil)⟩⟩⟩⟩
set_option maxRecDepth 20000 in
theorem ggX9_restore_X3_take : GoodIn wsX9_restore wsX3_take := goodIn_c zt_wsX9_restore_in _ [(1, 6), (1, 7), (1, 8), (1, 9), (1, 10), (1, 11), (1, 12), (1, 13), (1, 14), (1, 15), (1, 5), (1, 16), (1, 17), (1, 18), (1, 19), (1, 20), (3, 0), (3, 1), (3, 2), (3, 3), (3, 4), (3, 5)] rfl zw_wsX3_take
set_option maxRecDepth 20000 in
theorem gX9_restore_X3_take : GoodIn wsX9_restore (wsV RX9 202 RX3 yX3_take wsX3_take) := goodIn_app (goodIn_of _ (by decide +kernel)) ggX9_restore_X3_take
theorem zo_dX9_restore_0 : ([(0, .iload_n 1, 1), (1, .ifCond .lt 12, 3), (4, .iload_n 1, 1), (5, .aload_n 0, 1), (6, .getfield 23, 3), (9, .arraylength, 1), (10, .if_icmp .lt 6, 3), (13, .bipush (-2), 2), (15, .ireturn, 1), (16, .aload_n 0, 1), (17, .getfield 23, 3), (20, .iload_n 1, 1), (21, .aaload, 1), (22, .astore_n 2, 1), (23, .aload_n 2, 1), (24, .ifnonnull 6, 3)] : List (Nat × Instr × Nat)).all (dOk (decode cX9_restore)) = true := by decide +kernel
theorem dX9_restore_0 : decode cX9_restore 0 = .ok (.iload_n 1, 1) := dcr zo_dX9_restore_0 0 rfl
theorem dX9_restore_1 : decode cX9_restore 1 = .ok (.ifCond .lt 12, 3) := dcr zo_dX9_restore_0 1 rfl
theorem dX9_restore_4 : decode cX9_restore 4 = .ok (.iload_n 1, 1) := dcr zo_dX9_restore_0 2 rfl
theorem dX9_restore_5 : decode cX9_restore 5 = .ok (.aload_n 0, 1) := dcr zo_dX9_restore_0 3 rfl
theorem dX9_restore_6 : decode cX9_restore 6 = .ok (.getfield 23, 3) := dcr zo_dX9_restore_0 4 rfl
theorem dX9_restore_9 : decode cX9_restore 9 = .ok (.arraylength, 1) := dcr zo_dX9_restore_0 5 rfl
theorem dX9_restore_10 : decode cX9_restore 10 = .ok (.if_icmp .lt 6, 3) := dcr zo_dX9_restore_0 6 rfl
theorem dX9_restore_13 : decode cX9_restore 13 = .ok (.bipush (-2), 2) := dcr zo_dX9_restore_0 7 rfl
theorem dX9_restore_15 : decode cX9_restore 15 = .ok (.ireturn, 1) := dcr zo_dX9_restore_0 8 rfl
theorem dX9_restore_16 : decode cX9_restore 16 = .ok (.aload_n 0, 1) := dcr zo_dX9_restore_0 9 rfl
theorem dX9_restore_17 : decode cX9_restore 17 = .ok (.getfield 23, 3) := dcr zo_dX9_restore_0 10 rfl
theorem dX9_restore_20 : decode cX9_restore 20 = .ok (.iload_n 1, 1) := dcr zo_dX9_restore_0 11 rfl
theorem dX9_restore_21 : decode cX9_restore 21 = .ok (.aaload, 1) := dcr zo_dX9_restore_0 12 rfl
theorem dX9_restore_22 : decode cX9_restore 22 = .ok (.astore_n 2, 1) := dcr zo_dX9_restore_0 13 rfl
theorem dX9_restore_23 : decode cX9_restore 23 = .ok (.aload_n 2, 1) := dcr zo_dX9_restore_0 14 rfl
theorem dX9_restore_24 : decode cX9_restore 24 = .ok (.ifnonnull 6, 3) := dcr zo_dX9_restore_0 15 rfl
theorem zo_dX9_restore_27 : ([(27, .bipush (-3), 2), (29, .ireturn, 1), (30, .aload_n 0, 1), (31, .getfield 19, 3), (34, .aload_n 2, 1), (35, .invokevirtual 202, 3), (38, .iconst 1, 1), (39, .ireturn, 1)] : List (Nat × Instr × Nat)).all (dOk (decode cX9_restore)) = true := by decide +kernel
theorem dX9_restore_27 : decode cX9_restore 27 = .ok (.bipush (-3), 2) := dcr zo_dX9_restore_27 0 rfl
theorem dX9_restore_29 : decode cX9_restore 29 = .ok (.ireturn, 1) := dcr zo_dX9_restore_27 1 rfl
theorem dX9_restore_30 : decode cX9_restore 30 = .ok (.aload_n 0, 1) := dcr zo_dX9_restore_27 2 rfl
theorem dX9_restore_31 : decode cX9_restore 31 = .ok (.getfield 19, 3) := dcr zo_dX9_restore_27 3 rfl
theorem dX9_restore_34 : decode cX9_restore 34 = .ok (.aload_n 2, 1) := dcr zo_dX9_restore_27 4 rfl
theorem dX9_restore_35 : decode cX9_restore 35 = .ok (.invokevirtual 202, 3) := dcr zo_dX9_restore_27 5 rfl
theorem dX9_restore_38 : decode cX9_restore 38 = .ok (.iconst 1, 1) := dcr zo_dX9_restore_27 6 rfl
theorem dX9_restore_39 : decode cX9_restore 39 = .ok (.ireturn, 1) := dcr zo_dX9_restore_27 7 rfl
def zt_wsX9_told : List (List Cond) := [[.code yX9_told cX9_told 2 (some .int)], [.fieldLink RX9 19 "LastMap" "papers" "LLastMap$Papers;", .fieldLink RX9 10 "LastMap" "pad" "LLastMap$Pad;", .fieldLink RX9 41 "LastMap$Pad" "length" "I", .fieldLink RX9 27 "LastMap$Papers" "siteCount" "I", .fieldLink RX9 31 "LastMap$Papers" "toldMaps" "I", .fieldLink RX9 184 "LastMap$Papers" "spadeCount" "I", .methodLink RX9 79 yX9_isHand, .static yX9_isHand, .initialized RX9, .code yX9_isHand cX9_isHand 1 (some .boolean), .methodLink RX9 82 yX3_kindsOf, .instanceMethod yX3_kindsOf, .selects RX3 yX3_kindsOf yX3_kindsOf, .initialized RX3, .code yX3_kindsOf cX3_kindsOf 2 (some .int), .fieldLink RX3 22 "LastMap$Papers" "kinds" "[I"], wsX90, wsX20, wsX30]
theorem zt_wsX9_told_in : ∀ c ∈ zt_wsX9_told, ∀ w ∈ c, w ∈ wsX9_told := List.forall_mem_cons.mpr ⟨fun _ h => List.mem_cons.mpr (Or.inl (List.mem_singleton.mp h)), List.forall_mem_cons.mpr ⟨fun _ h => List.mem_cons_of_mem _ (List.mem_append_left _ (List.mem_append_left _ (List.mem_append_left _ (h)))), List.forall_mem_cons.mpr ⟨fun _ h => List.mem_cons_of_mem _ (List.mem_append_left _ (List.mem_append_left _ (List.mem_append_right _ h))), List.forall_mem_cons.mpr ⟨fun _ h => List.mem_cons_of_mem _ (List.mem_append_left _ (List.mem_append_right _ h)), List.forall_mem_cons.mpr ⟨fun _ h => List.mem_cons_of_mem _ (List.mem_append_right _ h), (fun _ h => absurd h List.not_mem_nil)⟩⟩⟩⟩⟩
set_option maxRecDepth 20000 in
theorem ggX9_told_X9_isHand : GoodIn wsX9_told wsX9_isHand := goodIn_c zt_wsX9_told_in _ [(1, 9)] rfl zw_wsX9_isHand
set_option maxRecDepth 20000 in
theorem gX9_told_X9_isHand : GoodIn wsX9_told (va_wsS RX9 79 yX9_isHand wsX9_isHand) := goodIn_app (goodIn_of _ (by decide +kernel)) ggX9_told_X9_isHand
set_option maxRecDepth 20000 in
theorem ggX9_told_X3_kindsOf : GoodIn wsX9_told wsX3_kindsOf := goodIn_c zt_wsX9_told_in _ [(1, 14), (1, 15), (4, 0), (4, 1), (4, 2), (4, 3), (4, 4), (4, 5)] rfl zw_wsX3_kindsOf
set_option maxRecDepth 20000 in
theorem gX9_told_X3_kindsOf : GoodIn wsX9_told (wsV RX9 82 RX3 yX3_kindsOf wsX3_kindsOf) := goodIn_app (goodIn_of _ (by decide +kernel)) ggX9_told_X3_kindsOf
theorem zo_dX9_told_0 : ([(0, .iload_n 1, 1), (1, .bipush 10, 2), (3, .if_icmp .lt 25, 3), (6, .iload_n 1, 1), (7, .bipush 10, 2), (9, .isub, 1), (10, .invokestatic 79, 3), (13, .ifCond .eq 15, 3), (16, .aload_n 0, 1), (17, .getfield 19, 3), (20, .iload_n 1, 1), (21, .bipush 10, 2), (23, .isub, 1), (24, .invokevirtual 82, 3), (27, .ireturn, 1), (28, .iload_n 1, 1)] : List (Nat × Instr × Nat)).all (dOk (decode cX9_told)) = true := by decide +kernel
theorem dX9_told_0 : decode cX9_told 0 = .ok (.iload_n 1, 1) := dcr zo_dX9_told_0 0 rfl
theorem dX9_told_1 : decode cX9_told 1 = .ok (.bipush 10, 2) := dcr zo_dX9_told_0 1 rfl
theorem dX9_told_3 : decode cX9_told 3 = .ok (.if_icmp .lt 25, 3) := dcr zo_dX9_told_0 2 rfl
theorem dX9_told_6 : decode cX9_told 6 = .ok (.iload_n 1, 1) := dcr zo_dX9_told_0 3 rfl
theorem dX9_told_7 : decode cX9_told 7 = .ok (.bipush 10, 2) := dcr zo_dX9_told_0 4 rfl
theorem dX9_told_9 : decode cX9_told 9 = .ok (.isub, 1) := dcr zo_dX9_told_0 5 rfl
theorem dX9_told_10 : decode cX9_told 10 = .ok (.invokestatic 79, 3) := dcr zo_dX9_told_0 6 rfl
theorem dX9_told_13 : decode cX9_told 13 = .ok (.ifCond .eq 15, 3) := dcr zo_dX9_told_0 7 rfl
theorem dX9_told_16 : decode cX9_told 16 = .ok (.aload_n 0, 1) := dcr zo_dX9_told_0 8 rfl
theorem dX9_told_17 : decode cX9_told 17 = .ok (.getfield 19, 3) := dcr zo_dX9_told_0 9 rfl
theorem dX9_told_20 : decode cX9_told 20 = .ok (.iload_n 1, 1) := dcr zo_dX9_told_0 10 rfl
theorem dX9_told_21 : decode cX9_told 21 = .ok (.bipush 10, 2) := dcr zo_dX9_told_0 11 rfl
theorem dX9_told_23 : decode cX9_told 23 = .ok (.isub, 1) := dcr zo_dX9_told_0 12 rfl
theorem dX9_told_24 : decode cX9_told 24 = .ok (.invokevirtual 82, 3) := dcr zo_dX9_told_0 13 rfl
theorem dX9_told_27 : decode cX9_told 27 = .ok (.ireturn, 1) := dcr zo_dX9_told_0 14 rfl
theorem dX9_told_28 : decode cX9_told 28 = .ok (.iload_n 1, 1) := dcr zo_dX9_told_0 15 rfl
theorem zo_dX9_told_29 : ([(29, .tableswitch 63 0 3 #[31, 39, 47, 55], 31), (60, .aload_n 0, 1), (61, .getfield 10, 3), (64, .getfield 41, 3), (67, .ireturn, 1), (68, .aload_n 0, 1), (69, .getfield 19, 3), (72, .getfield 27, 3), (75, .ireturn, 1), (76, .aload_n 0, 1), (77, .getfield 19, 3), (80, .getfield 31, 3), (83, .ireturn, 1), (84, .aload_n 0, 1), (85, .getfield 19, 3), (88, .getfield 184, 3)] : List (Nat × Instr × Nat)).all (dOk (decode cX9_told)) = true := by decide +kernel
theorem dX9_told_29 : decode cX9_told 29 = .ok (.tableswitch 63 0 3 #[31, 39, 47, 55], 31) := dcr zo_dX9_told_29 0 rfl
theorem dX9_told_60 : decode cX9_told 60 = .ok (.aload_n 0, 1) := dcr zo_dX9_told_29 1 rfl
theorem dX9_told_61 : decode cX9_told 61 = .ok (.getfield 10, 3) := dcr zo_dX9_told_29 2 rfl
theorem dX9_told_64 : decode cX9_told 64 = .ok (.getfield 41, 3) := dcr zo_dX9_told_29 3 rfl
theorem dX9_told_67 : decode cX9_told 67 = .ok (.ireturn, 1) := dcr zo_dX9_told_29 4 rfl
theorem dX9_told_68 : decode cX9_told 68 = .ok (.aload_n 0, 1) := dcr zo_dX9_told_29 5 rfl
theorem dX9_told_69 : decode cX9_told 69 = .ok (.getfield 19, 3) := dcr zo_dX9_told_29 6 rfl
theorem dX9_told_72 : decode cX9_told 72 = .ok (.getfield 27, 3) := dcr zo_dX9_told_29 7 rfl
theorem dX9_told_75 : decode cX9_told 75 = .ok (.ireturn, 1) := dcr zo_dX9_told_29 8 rfl
theorem dX9_told_76 : decode cX9_told 76 = .ok (.aload_n 0, 1) := dcr zo_dX9_told_29 9 rfl
theorem dX9_told_77 : decode cX9_told 77 = .ok (.getfield 19, 3) := dcr zo_dX9_told_29 10 rfl
theorem dX9_told_80 : decode cX9_told 80 = .ok (.getfield 31, 3) := dcr zo_dX9_told_29 11 rfl
theorem dX9_told_83 : decode cX9_told 83 = .ok (.ireturn, 1) := dcr zo_dX9_told_29 12 rfl
theorem dX9_told_84 : decode cX9_told 84 = .ok (.aload_n 0, 1) := dcr zo_dX9_told_29 13 rfl
theorem dX9_told_85 : decode cX9_told 85 = .ok (.getfield 19, 3) := dcr zo_dX9_told_29 14 rfl
theorem dX9_told_88 : decode cX9_told 88 = .ok (.getfield 184, 3) := dcr zo_dX9_told_29 15 rfl
theorem zo_dX9_told_91 : ([(91, .ireturn, 1), (92, .bipush (-2), 2), (94, .ireturn, 1)] : List (Nat × Instr × Nat)).all (dOk (decode cX9_told)) = true := by decide +kernel
theorem dX9_told_91 : decode cX9_told 91 = .ok (.ireturn, 1) := dcr zo_dX9_told_91 0 rfl
theorem dX9_told_92 : decode cX9_told 92 = .ok (.bipush (-2), 2) := dcr zo_dX9_told_91 1 rfl
theorem dX9_told_94 : decode cX9_told 94 = .ok (.ireturn, 1) := dcr zo_dX9_told_91 2 rfl
theorem zo_dX9_isMap_0 : ([(0, .iload_n 0, 1), (1, .ifCond .lt 13, 3), (4, .iload_n 0, 1), (5, .bipush 6, 2), (7, .if_icmp .ge 7, 3), (10, .iconst 1, 1), (11, .goto 4, 3), (14, .iconst 0, 1), (15, .ireturn, 1)] : List (Nat × Instr × Nat)).all (dOk (decode cX9_isMap)) = true := by decide +kernel
theorem dX9_isMap_0 : decode cX9_isMap 0 = .ok (.iload_n 0, 1) := dcr zo_dX9_isMap_0 0 rfl
theorem dX9_isMap_1 : decode cX9_isMap 1 = .ok (.ifCond .lt 13, 3) := dcr zo_dX9_isMap_0 1 rfl
theorem dX9_isMap_4 : decode cX9_isMap 4 = .ok (.iload_n 0, 1) := dcr zo_dX9_isMap_0 2 rfl
theorem dX9_isMap_5 : decode cX9_isMap 5 = .ok (.bipush 6, 2) := dcr zo_dX9_isMap_0 3 rfl
theorem dX9_isMap_7 : decode cX9_isMap 7 = .ok (.if_icmp .ge 7, 3) := dcr zo_dX9_isMap_0 4 rfl
theorem dX9_isMap_10 : decode cX9_isMap 10 = .ok (.iconst 1, 1) := dcr zo_dX9_isMap_0 5 rfl
theorem dX9_isMap_11 : decode cX9_isMap 11 = .ok (.goto 4, 3) := dcr zo_dX9_isMap_0 6 rfl
theorem dX9_isMap_14 : decode cX9_isMap 14 = .ok (.iconst 0, 1) := dcr zo_dX9_isMap_0 7 rfl
theorem dX9_isMap_15 : decode cX9_isMap 15 = .ok (.ireturn, 1) := dcr zo_dX9_isMap_0 8 rfl
theorem zo_dX9_isHand_0 : ([(0, .iload_n 0, 1), (1, .ifCond .lt 12, 3), (4, .iload_n 0, 1), (5, .iconst 4, 1), (6, .if_icmp .ge 7, 3), (9, .iconst 1, 1), (10, .goto 4, 3), (13, .iconst 0, 1), (14, .ireturn, 1)] : List (Nat × Instr × Nat)).all (dOk (decode cX9_isHand)) = true := by decide +kernel
theorem dX9_isHand_0 : decode cX9_isHand 0 = .ok (.iload_n 0, 1) := dcr zo_dX9_isHand_0 0 rfl
theorem dX9_isHand_1 : decode cX9_isHand 1 = .ok (.ifCond .lt 12, 3) := dcr zo_dX9_isHand_0 1 rfl
theorem dX9_isHand_4 : decode cX9_isHand 4 = .ok (.iload_n 0, 1) := dcr zo_dX9_isHand_0 2 rfl
theorem dX9_isHand_5 : decode cX9_isHand 5 = .ok (.iconst 4, 1) := dcr zo_dX9_isHand_0 3 rfl
theorem dX9_isHand_6 : decode cX9_isHand 6 = .ok (.if_icmp .ge 7, 3) := dcr zo_dX9_isHand_0 4 rfl
theorem dX9_isHand_9 : decode cX9_isHand 9 = .ok (.iconst 1, 1) := dcr zo_dX9_isHand_0 5 rfl
theorem dX9_isHand_10 : decode cX9_isHand 10 = .ok (.goto 4, 3) := dcr zo_dX9_isHand_0 6 rfl
theorem dX9_isHand_13 : decode cX9_isHand 13 = .ok (.iconst 0, 1) := dcr zo_dX9_isHand_0 7 rfl
theorem dX9_isHand_14 : decode cX9_isHand 14 = .ok (.ireturn, 1) := dcr zo_dX9_isHand_0 8 rfl
theorem zo_dX9_isSite_0 : ([(0, .iload_n 1, 1), (1, .ifCond .lt 18, 3), (4, .iload_n 1, 1), (5, .aload_n 0, 1), (6, .getfield 19, 3), (9, .getfield 27, 3), (12, .if_icmp .ge 7, 3), (15, .iconst 1, 1), (16, .goto 4, 3), (19, .iconst 0, 1), (20, .ireturn, 1)] : List (Nat × Instr × Nat)).all (dOk (decode cX9_isSite)) = true := by decide +kernel
theorem dX9_isSite_0 : decode cX9_isSite 0 = .ok (.iload_n 1, 1) := dcr zo_dX9_isSite_0 0 rfl
theorem dX9_isSite_1 : decode cX9_isSite 1 = .ok (.ifCond .lt 18, 3) := dcr zo_dX9_isSite_0 1 rfl
theorem dX9_isSite_4 : decode cX9_isSite 4 = .ok (.iload_n 1, 1) := dcr zo_dX9_isSite_0 2 rfl
theorem dX9_isSite_5 : decode cX9_isSite 5 = .ok (.aload_n 0, 1) := dcr zo_dX9_isSite_0 3 rfl
theorem dX9_isSite_6 : decode cX9_isSite 6 = .ok (.getfield 19, 3) := dcr zo_dX9_isSite_0 4 rfl
theorem dX9_isSite_9 : decode cX9_isSite 9 = .ok (.getfield 27, 3) := dcr zo_dX9_isSite_0 5 rfl
theorem dX9_isSite_12 : decode cX9_isSite 12 = .ok (.if_icmp .ge 7, 3) := dcr zo_dX9_isSite_0 6 rfl
theorem dX9_isSite_15 : decode cX9_isSite 15 = .ok (.iconst 1, 1) := dcr zo_dX9_isSite_0 7 rfl
theorem dX9_isSite_16 : decode cX9_isSite 16 = .ok (.goto 4, 3) := dcr zo_dX9_isSite_0 8 rfl
theorem dX9_isSite_19 : decode cX9_isSite 19 = .ok (.iconst 0, 1) := dcr zo_dX9_isSite_0 9 rfl
theorem dX9_isSite_20 : decode cX9_isSite 20 = .ok (.ireturn, 1) := dcr zo_dX9_isSite_0 10 rfl
theorem zo_dX9_isSet_0 : ([(0, .iload_n 0, 1), (1, .iconst 1, 1), (2, .if_icmp .lt 13, 3), (5, .iload_n 0, 1), (6, .bipush 63, 2), (8, .if_icmp .gt 7, 3), (11, .iconst 1, 1), (12, .goto 4, 3), (15, .iconst 0, 1), (16, .ireturn, 1)] : List (Nat × Instr × Nat)).all (dOk (decode cX9_isSet)) = true := by decide +kernel
theorem dX9_isSet_0 : decode cX9_isSet 0 = .ok (.iload_n 0, 1) := dcr zo_dX9_isSet_0 0 rfl
theorem dX9_isSet_1 : decode cX9_isSet 1 = .ok (.iconst 1, 1) := dcr zo_dX9_isSet_0 1 rfl
theorem dX9_isSet_2 : decode cX9_isSet 2 = .ok (.if_icmp .lt 13, 3) := dcr zo_dX9_isSet_0 2 rfl
theorem dX9_isSet_5 : decode cX9_isSet 5 = .ok (.iload_n 0, 1) := dcr zo_dX9_isSet_0 3 rfl
theorem dX9_isSet_6 : decode cX9_isSet 6 = .ok (.bipush 63, 2) := dcr zo_dX9_isSet_0 4 rfl
theorem dX9_isSet_8 : decode cX9_isSet 8 = .ok (.if_icmp .gt 7, 3) := dcr zo_dX9_isSet_0 5 rfl
theorem dX9_isSet_11 : decode cX9_isSet 11 = .ok (.iconst 1, 1) := dcr zo_dX9_isSet_0 6 rfl
theorem dX9_isSet_12 : decode cX9_isSet 12 = .ok (.goto 4, 3) := dcr zo_dX9_isSet_0 7 rfl
theorem dX9_isSet_15 : decode cX9_isSet 15 = .ok (.iconst 0, 1) := dcr zo_dX9_isSet_0 8 rfl
theorem dX9_isSet_16 : decode cX9_isSet 16 = .ok (.ireturn, 1) := dcr zo_dX9_isSet_0 9 rfl
def zt_wsX9_isOf : List (List Cond) := [[.code yX9_isOf cX9_isOf 2 (some .boolean)], [.methodLink RX9 48 yX9_isMap, .static yX9_isMap, .initialized RX9, .code yX9_isMap cX9_isMap 1 (some .boolean)]]
theorem zt_wsX9_isOf_in : ∀ c ∈ zt_wsX9_isOf, ∀ w ∈ c, w ∈ wsX9_isOf := List.forall_mem_cons.mpr ⟨fun _ h => List.mem_cons.mpr (Or.inl (List.mem_singleton.mp h)), List.forall_mem_cons.mpr ⟨fun _ h => List.mem_cons_of_mem _ (h), (fun _ h => absurd h List.not_mem_nil)⟩⟩
set_option maxRecDepth 20000 in
theorem ggX9_isOf_X9_isMap : GoodIn wsX9_isOf wsX9_isMap := goodIn_c zt_wsX9_isOf_in _ [(1, 3)] rfl zw_wsX9_isMap
set_option maxRecDepth 20000 in
theorem gX9_isOf_X9_isMap : GoodIn wsX9_isOf (va_wsS RX9 48 yX9_isMap wsX9_isMap) := goodIn_app (goodIn_of _ (by decide +kernel)) ggX9_isOf_X9_isMap
theorem zo_dX9_isOf_0 : ([(0, .iload_n 1, 1), (1, .invokestatic 48, 3), (4, .ifCond .eq 15, 3), (7, .iload_n 0, 1), (8, .iload_n 1, 1), (9, .ishr, 1), (10, .iconst 1, 1), (11, .iand, 1), (12, .ifCond .eq 7, 3), (15, .iconst 1, 1), (16, .goto 4, 3), (19, .iconst 0, 1), (20, .ireturn, 1)] : List (Nat × Instr × Nat)).all (dOk (decode cX9_isOf)) = true := by decide +kernel
theorem dX9_isOf_0 : decode cX9_isOf 0 = .ok (.iload_n 1, 1) := dcr zo_dX9_isOf_0 0 rfl
theorem dX9_isOf_1 : decode cX9_isOf 1 = .ok (.invokestatic 48, 3) := dcr zo_dX9_isOf_0 1 rfl
theorem dX9_isOf_4 : decode cX9_isOf 4 = .ok (.ifCond .eq 15, 3) := dcr zo_dX9_isOf_0 2 rfl
theorem dX9_isOf_7 : decode cX9_isOf 7 = .ok (.iload_n 0, 1) := dcr zo_dX9_isOf_0 3 rfl
theorem dX9_isOf_8 : decode cX9_isOf 8 = .ok (.iload_n 1, 1) := dcr zo_dX9_isOf_0 4 rfl
theorem dX9_isOf_9 : decode cX9_isOf 9 = .ok (.ishr, 1) := dcr zo_dX9_isOf_0 5 rfl
theorem dX9_isOf_10 : decode cX9_isOf 10 = .ok (.iconst 1, 1) := dcr zo_dX9_isOf_0 6 rfl
theorem dX9_isOf_11 : decode cX9_isOf 11 = .ok (.iand, 1) := dcr zo_dX9_isOf_0 7 rfl
theorem dX9_isOf_12 : decode cX9_isOf 12 = .ok (.ifCond .eq 7, 3) := dcr zo_dX9_isOf_0 8 rfl
theorem dX9_isOf_15 : decode cX9_isOf 15 = .ok (.iconst 1, 1) := dcr zo_dX9_isOf_0 9 rfl
theorem dX9_isOf_16 : decode cX9_isOf 16 = .ok (.goto 4, 3) := dcr zo_dX9_isOf_0 10 rfl
theorem dX9_isOf_19 : decode cX9_isOf 19 = .ok (.iconst 0, 1) := dcr zo_dX9_isOf_0 11 rfl
theorem dX9_isOf_20 : decode cX9_isOf 20 = .ok (.ireturn, 1) := dcr zo_dX9_isOf_0 12 rfl
def zt_wsX9_isTold : List (List Cond) := [[.code yX9_isTold cX9_isTold 2 (some .boolean)], [.fieldLink RX9 19 "LastMap" "papers" "LLastMap$Papers;", .fieldLink RX9 31 "LastMap$Papers" "toldMaps" "I", .methodLink RX9 132 yX9_isOf, .static yX9_isOf, .initialized RX9, .code yX9_isOf cX9_isOf 2 (some .boolean), .methodLink RX9 48 yX9_isMap, .static yX9_isMap, .code yX9_isMap cX9_isMap 1 (some .boolean)], wsX90, wsX30]
theorem zt_wsX9_isTold_in : ∀ c ∈ zt_wsX9_isTold, ∀ w ∈ c, w ∈ wsX9_isTold := List.forall_mem_cons.mpr ⟨fun _ h => List.mem_cons.mpr (Or.inl (List.mem_singleton.mp h)), List.forall_mem_cons.mpr ⟨fun _ h => List.mem_cons_of_mem _ (List.mem_append_left _ (List.mem_append_left _ (h))), List.forall_mem_cons.mpr ⟨fun _ h => List.mem_cons_of_mem _ (List.mem_append_left _ (List.mem_append_right _ h)), List.forall_mem_cons.mpr ⟨fun _ h => List.mem_cons_of_mem _ (List.mem_append_right _ h), (fun _ h => absurd h List.not_mem_nil)⟩⟩⟩⟩
set_option maxRecDepth 20000 in
theorem ggX9_isTold_X9_isOf : GoodIn wsX9_isTold wsX9_isOf := goodIn_c zt_wsX9_isTold_in _ [(1, 5), (1, 6), (1, 7), (1, 4), (1, 8)] rfl zw_wsX9_isOf
set_option maxRecDepth 20000 in
theorem gX9_isTold_X9_isOf : GoodIn wsX9_isTold (va_wsS RX9 132 yX9_isOf wsX9_isOf) := goodIn_app (goodIn_of _ (by decide +kernel)) ggX9_isTold_X9_isOf
theorem zo_dX9_isTold_0 : ([(0, .aload_n 0, 1), (1, .getfield 19, 3), (4, .getfield 31, 3), (7, .iload_n 1, 1), (8, .invokestatic 132, 3), (11, .ireturn, 1)] : List (Nat × Instr × Nat)).all (dOk (decode cX9_isTold)) = true := by decide +kernel
theorem dX9_isTold_0 : decode cX9_isTold 0 = .ok (.aload_n 0, 1) := dcr zo_dX9_isTold_0 0 rfl
theorem dX9_isTold_1 : decode cX9_isTold 1 = .ok (.getfield 19, 3) := dcr zo_dX9_isTold_0 1 rfl
theorem dX9_isTold_4 : decode cX9_isTold 4 = .ok (.getfield 31, 3) := dcr zo_dX9_isTold_0 2 rfl
theorem dX9_isTold_7 : decode cX9_isTold 7 = .ok (.iload_n 1, 1) := dcr zo_dX9_isTold_0 3 rfl
theorem dX9_isTold_8 : decode cX9_isTold 8 = .ok (.invokestatic 132, 3) := dcr zo_dX9_isTold_0 4 rfl
theorem dX9_isTold_11 : decode cX9_isTold 11 = .ok (.ireturn, 1) := dcr zo_dX9_isTold_0 5 rfl
theorem zo_dX9_areTold_0 : ([(0, .aload_n 0, 1), (1, .getfield 19, 3), (4, .getfield 31, 3), (7, .iload_n 1, 1), (8, .iand, 1), (9, .iload_n 1, 1), (10, .if_icmp .ne 7, 3), (13, .iconst 1, 1), (14, .goto 4, 3), (17, .iconst 0, 1), (18, .ireturn, 1)] : List (Nat × Instr × Nat)).all (dOk (decode cX9_areTold)) = true := by decide +kernel
theorem dX9_areTold_0 : decode cX9_areTold 0 = .ok (.aload_n 0, 1) := dcr zo_dX9_areTold_0 0 rfl
theorem dX9_areTold_1 : decode cX9_areTold 1 = .ok (.getfield 19, 3) := dcr zo_dX9_areTold_0 1 rfl
theorem dX9_areTold_4 : decode cX9_areTold 4 = .ok (.getfield 31, 3) := dcr zo_dX9_areTold_0 2 rfl
theorem dX9_areTold_7 : decode cX9_areTold 7 = .ok (.iload_n 1, 1) := dcr zo_dX9_areTold_0 3 rfl
theorem dX9_areTold_8 : decode cX9_areTold 8 = .ok (.iand, 1) := dcr zo_dX9_areTold_0 4 rfl
theorem dX9_areTold_9 : decode cX9_areTold 9 = .ok (.iload_n 1, 1) := dcr zo_dX9_areTold_0 5 rfl
theorem dX9_areTold_10 : decode cX9_areTold 10 = .ok (.if_icmp .ne 7, 3) := dcr zo_dX9_areTold_0 6 rfl
theorem dX9_areTold_13 : decode cX9_areTold 13 = .ok (.iconst 1, 1) := dcr zo_dX9_areTold_0 7 rfl
theorem dX9_areTold_14 : decode cX9_areTold 14 = .ok (.goto 4, 3) := dcr zo_dX9_areTold_0 8 rfl
theorem dX9_areTold_17 : decode cX9_areTold 17 = .ok (.iconst 0, 1) := dcr zo_dX9_areTold_0 9 rfl
theorem dX9_areTold_18 : decode cX9_areTold 18 = .ok (.ireturn, 1) := dcr zo_dX9_areTold_0 10 rfl
def zt_wsX9_isTreeQuestion : List (List Cond) := [[.code yX9_isTreeQuestion cX9_isTreeQuestion 2 (some .boolean)], [.methodLink RX9 132 yX9_isOf, .static yX9_isOf, .initialized RX9, .code yX9_isOf cX9_isOf 2 (some .boolean), .methodLink RX9 48 yX9_isMap, .static yX9_isMap, .code yX9_isMap cX9_isMap 1 (some .boolean)]]
theorem zt_wsX9_isTreeQuestion_in : ∀ c ∈ zt_wsX9_isTreeQuestion, ∀ w ∈ c, w ∈ wsX9_isTreeQuestion := List.forall_mem_cons.mpr ⟨fun _ h => List.mem_cons.mpr (Or.inl (List.mem_singleton.mp h)), List.forall_mem_cons.mpr ⟨fun _ h => List.mem_cons_of_mem _ (h), (fun _ h => absurd h List.not_mem_nil)⟩⟩
set_option maxRecDepth 20000 in
theorem ggX9_isTreeQuestion_X9_isOf : GoodIn wsX9_isTreeQuestion wsX9_isOf := goodIn_c zt_wsX9_isTreeQuestion_in _ [(1, 3), (1, 4), (1, 5), (1, 2), (1, 6)] rfl zw_wsX9_isOf
set_option maxRecDepth 20000 in
theorem gX9_isTreeQuestion_X9_isOf : GoodIn wsX9_isTreeQuestion (va_wsS RX9 132 yX9_isOf wsX9_isOf) := goodIn_app (goodIn_of _ (by decide +kernel)) ggX9_isTreeQuestion_X9_isOf
theorem zo_dX9_isTreeQuestion_0 : ([(0, .iload_n 1, 1), (1, .ifCond .eq 25, 3), (4, .iload_n 1, 1), (5, .iconst 1, 1), (6, .if_icmp .eq 20, 3), (9, .iload_n 1, 1), (10, .bipush 10, 2), (12, .if_icmp .lt 18, 3), (15, .iload_n 0, 1), (16, .iload_n 1, 1), (17, .bipush 10, 2), (19, .isub, 1), (20, .invokestatic 132, 3), (23, .ifCond .eq 7, 3), (26, .iconst 1, 1), (27, .goto 4, 3)] : List (Nat × Instr × Nat)).all (dOk (decode cX9_isTreeQuestion)) = true := by decide +kernel
theorem dX9_isTreeQuestion_0 : decode cX9_isTreeQuestion 0 = .ok (.iload_n 1, 1) := dcr zo_dX9_isTreeQuestion_0 0 rfl
theorem dX9_isTreeQuestion_1 : decode cX9_isTreeQuestion 1 = .ok (.ifCond .eq 25, 3) := dcr zo_dX9_isTreeQuestion_0 1 rfl
theorem dX9_isTreeQuestion_4 : decode cX9_isTreeQuestion 4 = .ok (.iload_n 1, 1) := dcr zo_dX9_isTreeQuestion_0 2 rfl
theorem dX9_isTreeQuestion_5 : decode cX9_isTreeQuestion 5 = .ok (.iconst 1, 1) := dcr zo_dX9_isTreeQuestion_0 3 rfl
theorem dX9_isTreeQuestion_6 : decode cX9_isTreeQuestion 6 = .ok (.if_icmp .eq 20, 3) := dcr zo_dX9_isTreeQuestion_0 4 rfl
theorem dX9_isTreeQuestion_9 : decode cX9_isTreeQuestion 9 = .ok (.iload_n 1, 1) := dcr zo_dX9_isTreeQuestion_0 5 rfl
theorem dX9_isTreeQuestion_10 : decode cX9_isTreeQuestion 10 = .ok (.bipush 10, 2) := dcr zo_dX9_isTreeQuestion_0 6 rfl
theorem dX9_isTreeQuestion_12 : decode cX9_isTreeQuestion 12 = .ok (.if_icmp .lt 18, 3) := dcr zo_dX9_isTreeQuestion_0 7 rfl
theorem dX9_isTreeQuestion_15 : decode cX9_isTreeQuestion 15 = .ok (.iload_n 0, 1) := dcr zo_dX9_isTreeQuestion_0 8 rfl
theorem dX9_isTreeQuestion_16 : decode cX9_isTreeQuestion 16 = .ok (.iload_n 1, 1) := dcr zo_dX9_isTreeQuestion_0 9 rfl
theorem dX9_isTreeQuestion_17 : decode cX9_isTreeQuestion 17 = .ok (.bipush 10, 2) := dcr zo_dX9_isTreeQuestion_0 10 rfl
theorem dX9_isTreeQuestion_19 : decode cX9_isTreeQuestion 19 = .ok (.isub, 1) := dcr zo_dX9_isTreeQuestion_0 11 rfl
theorem dX9_isTreeQuestion_20 : decode cX9_isTreeQuestion 20 = .ok (.invokestatic 132, 3) := dcr zo_dX9_isTreeQuestion_0 12 rfl
theorem dX9_isTreeQuestion_23 : decode cX9_isTreeQuestion 23 = .ok (.ifCond .eq 7, 3) := dcr zo_dX9_isTreeQuestion_0 13 rfl
theorem dX9_isTreeQuestion_26 : decode cX9_isTreeQuestion 26 = .ok (.iconst 1, 1) := dcr zo_dX9_isTreeQuestion_0 14 rfl
theorem dX9_isTreeQuestion_27 : decode cX9_isTreeQuestion 27 = .ok (.goto 4, 3) := dcr zo_dX9_isTreeQuestion_0 15 rfl
theorem zo_dX9_isTreeQuestion_30 : ([(30, .iconst 0, 1), (31, .ireturn, 1)] : List (Nat × Instr × Nat)).all (dOk (decode cX9_isTreeQuestion)) = true := by decide +kernel
theorem dX9_isTreeQuestion_30 : decode cX9_isTreeQuestion 30 = .ok (.iconst 0, 1) := dcr zo_dX9_isTreeQuestion_30 0 rfl
theorem dX9_isTreeQuestion_31 : decode cX9_isTreeQuestion 31 = .ok (.ireturn, 1) := dcr zo_dX9_isTreeQuestion_30 1 rfl
def zt_wsX9_firstIdle : List (List Cond) := [[.code yX9_firstIdle cX9_firstIdle 6 (some .int)], wsX9_firstIdle_r1, wsX9_firstIdle_r2, wsX9_firstIdle_r3, wsX90, wsX20]
theorem zt_wsX9_firstIdle_in : ∀ c ∈ zt_wsX9_firstIdle, ∀ w ∈ c, w ∈ wsX9_firstIdle := List.forall_mem_cons.mpr ⟨fun _ h => List.mem_cons.mpr (Or.inl (List.mem_singleton.mp h)), List.forall_mem_cons.mpr ⟨fun _ h => List.mem_cons_of_mem _ (List.mem_append_left _ (List.mem_append_left _ (List.mem_append_left _ h))), List.forall_mem_cons.mpr ⟨fun _ h => List.mem_cons_of_mem _ (List.mem_append_left _ (List.mem_append_left _ (List.mem_append_right _ (List.mem_append_left _ h)))), List.forall_mem_cons.mpr ⟨fun _ h => List.mem_cons_of_mem _ (List.mem_append_left _ (List.mem_append_left _ (List.mem_append_right _ (List.mem_append_right _ (h))))), List.forall_mem_cons.mpr ⟨fun _ h => List.mem_cons_of_mem _ (List.mem_append_left _ (List.mem_append_right _ h)), List.forall_mem_cons.mpr ⟨fun _ h => List.mem_cons_of_mem _ (List.mem_append_right _ h), (fun _ h => absurd h List.not_mem_nil)⟩⟩⟩⟩⟩⟩
set_option maxRecDepth 20000 in
theorem ggX9_firstIdle_X2_readSlips : GoodIn wsX9_firstIdle wsX2_readSlips := goodIn_c zt_wsX9_firstIdle_in _ [(1, 5), (1, 6), (1, 7), (1, 8), (1, 9), (1, 10), (1, 4), (1, 11), (1, 12), (1, 13), (1, 14), (1, 15), (1, 16), (1, 17), (1, 18), (1, 19), (1, 20), (1, 21), (1, 22), (1, 23), (2, 0), (2, 1), (2, 2), (2, 3), (2, 4), (2, 5), (2, 6), (2, 7), (2, 8), (2, 9), (5, 0), (5, 1), (5, 2)] rfl zw_wsX2_readSlips
set_option maxRecDepth 20000 in
theorem gX9_firstIdle_X2_readSlips : GoodIn wsX9_firstIdle (wsV RX9 91 RX2 yX2_readSlips wsX2_readSlips) := goodIn_app (goodIn_of _ (by decide +kernel)) ggX9_firstIdle_X2_readSlips
set_option maxRecDepth 20000 in
theorem ggX9_firstIdle_X2_slipAt : GoodIn wsX9_firstIdle wsX2_slipAt := goodIn_c zt_wsX9_firstIdle_in _ [(2, 13), (1, 6), (5, 0), (5, 1), (5, 2)] rfl zw_wsX2_slipAt
set_option maxRecDepth 20000 in
theorem gX9_firstIdle_X2_slipAt : GoodIn wsX9_firstIdle (wsV RX9 94 RX2 yX2_slipAt wsX2_slipAt) := goodIn_app (goodIn_of _ (by decide +kernel)) ggX9_firstIdle_X2_slipAt
set_option maxRecDepth 20000 in
theorem ggX9_firstIdle_X6_after : GoodIn wsX9_firstIdle wsX6_after := goodIn_c zt_wsX9_firstIdle_in _ [(2, 16), (2, 17), (2, 18), (2, 19), (2, 20), (2, 21), (2, 22), (2, 23), (3, 0), (3, 1), (3, 2), (3, 3), (3, 4), (3, 5), (3, 6), (3, 7)] rfl zw_wsX6_after
set_option maxRecDepth 20000 in
theorem gX9_firstIdle_X6_after : GoodIn wsX9_firstIdle (va_wsS RX9 97 yX6_after wsX6_after) := goodIn_app (goodIn_of _ (by decide +kernel)) ggX9_firstIdle_X6_after
theorem zo_dX9_firstIdle_0 : ([(0, .aload_n 0, 1), (1, .getfield 10, 3), (4, .invokevirtual 91, 3), (7, .istore_n 2, 1), (8, .iload_n 1, 1), (9, .istore_n 3, 1), (10, .iconst 0, 1), (11, .istore 4, 2), (13, .iload 4, 2), (15, .iload_n 2, 1), (16, .if_icmp .ge 36, 3), (19, .iload_n 3, 1), (20, .aload_n 0, 1), (21, .getfield 10, 3), (24, .iload 4, 2), (26, .invokevirtual 94, 3)] : List (Nat × Instr × Nat)).all (dOk (decode cX9_firstIdle)) = true := by decide +kernel
theorem dX9_firstIdle_0 : decode cX9_firstIdle 0 = .ok (.aload_n 0, 1) := dcr zo_dX9_firstIdle_0 0 rfl
theorem dX9_firstIdle_1 : decode cX9_firstIdle 1 = .ok (.getfield 10, 3) := dcr zo_dX9_firstIdle_0 1 rfl
theorem dX9_firstIdle_4 : decode cX9_firstIdle 4 = .ok (.invokevirtual 91, 3) := dcr zo_dX9_firstIdle_0 2 rfl
theorem dX9_firstIdle_7 : decode cX9_firstIdle 7 = .ok (.istore_n 2, 1) := dcr zo_dX9_firstIdle_0 3 rfl
theorem dX9_firstIdle_8 : decode cX9_firstIdle 8 = .ok (.iload_n 1, 1) := dcr zo_dX9_firstIdle_0 4 rfl
theorem dX9_firstIdle_9 : decode cX9_firstIdle 9 = .ok (.istore_n 3, 1) := dcr zo_dX9_firstIdle_0 5 rfl
theorem dX9_firstIdle_10 : decode cX9_firstIdle 10 = .ok (.iconst 0, 1) := dcr zo_dX9_firstIdle_0 6 rfl
theorem dX9_firstIdle_11 : decode cX9_firstIdle 11 = .ok (.istore 4, 2) := dcr zo_dX9_firstIdle_0 7 rfl
theorem dX9_firstIdle_13 : decode cX9_firstIdle 13 = .ok (.iload 4, 2) := dcr zo_dX9_firstIdle_0 8 rfl
theorem dX9_firstIdle_15 : decode cX9_firstIdle 15 = .ok (.iload_n 2, 1) := dcr zo_dX9_firstIdle_0 9 rfl
theorem dX9_firstIdle_16 : decode cX9_firstIdle 16 = .ok (.if_icmp .ge 36, 3) := dcr zo_dX9_firstIdle_0 10 rfl
theorem dX9_firstIdle_19 : decode cX9_firstIdle 19 = .ok (.iload_n 3, 1) := dcr zo_dX9_firstIdle_0 11 rfl
theorem dX9_firstIdle_20 : decode cX9_firstIdle 20 = .ok (.aload_n 0, 1) := dcr zo_dX9_firstIdle_0 12 rfl
theorem dX9_firstIdle_21 : decode cX9_firstIdle 21 = .ok (.getfield 10, 3) := dcr zo_dX9_firstIdle_0 13 rfl
theorem dX9_firstIdle_24 : decode cX9_firstIdle 24 = .ok (.iload 4, 2) := dcr zo_dX9_firstIdle_0 14 rfl
theorem dX9_firstIdle_26 : decode cX9_firstIdle 26 = .ok (.invokevirtual 94, 3) := dcr zo_dX9_firstIdle_0 15 rfl
theorem zo_dX9_firstIdle_29 : ([(29, .invokestatic 97, 3), (32, .istore 5, 2), (34, .iload 5, 2), (36, .iload_n 3, 1), (37, .if_icmp .ne 6, 3), (40, .iload 4, 2), (42, .ireturn, 1), (43, .iload 5, 2), (45, .istore_n 3, 1), (46, .iinc 4 1, 3), (49, .goto (-36), 3), (52, .bipush (-6), 2), (54, .ireturn, 1)] : List (Nat × Instr × Nat)).all (dOk (decode cX9_firstIdle)) = true := by decide +kernel
theorem dX9_firstIdle_29 : decode cX9_firstIdle 29 = .ok (.invokestatic 97, 3) := dcr zo_dX9_firstIdle_29 0 rfl
theorem dX9_firstIdle_32 : decode cX9_firstIdle 32 = .ok (.istore 5, 2) := dcr zo_dX9_firstIdle_29 1 rfl
theorem dX9_firstIdle_34 : decode cX9_firstIdle 34 = .ok (.iload 5, 2) := dcr zo_dX9_firstIdle_29 2 rfl
theorem dX9_firstIdle_36 : decode cX9_firstIdle 36 = .ok (.iload_n 3, 1) := dcr zo_dX9_firstIdle_29 3 rfl
theorem dX9_firstIdle_37 : decode cX9_firstIdle 37 = .ok (.if_icmp .ne 6, 3) := dcr zo_dX9_firstIdle_29 4 rfl
theorem dX9_firstIdle_40 : decode cX9_firstIdle 40 = .ok (.iload 4, 2) := dcr zo_dX9_firstIdle_29 5 rfl
theorem dX9_firstIdle_42 : decode cX9_firstIdle 42 = .ok (.ireturn, 1) := dcr zo_dX9_firstIdle_29 6 rfl
theorem dX9_firstIdle_43 : decode cX9_firstIdle 43 = .ok (.iload 5, 2) := dcr zo_dX9_firstIdle_29 7 rfl
theorem dX9_firstIdle_45 : decode cX9_firstIdle 45 = .ok (.istore_n 3, 1) := dcr zo_dX9_firstIdle_29 8 rfl
theorem dX9_firstIdle_46 : decode cX9_firstIdle 46 = .ok (.iinc 4 1, 3) := dcr zo_dX9_firstIdle_29 9 rfl
theorem dX9_firstIdle_49 : decode cX9_firstIdle 49 = .ok (.goto (-36), 3) := dcr zo_dX9_firstIdle_29 10 rfl
theorem dX9_firstIdle_52 : decode cX9_firstIdle 52 = .ok (.bipush (-6), 2) := dcr zo_dX9_firstIdle_29 11 rfl
theorem dX9_firstIdle_54 : decode cX9_firstIdle 54 = .ok (.ireturn, 1) := dcr zo_dX9_firstIdle_29 12 rfl
def zt_wsX9_afterDraw : List (List Cond) := [[.code yX9_afterDraw cX9_afterDraw 8 (some .int)], wsX9_afterDraw_r1, wsX9_afterDraw_r2, wsX90, wsX30]
theorem zt_wsX9_afterDraw_in : ∀ c ∈ zt_wsX9_afterDraw, ∀ w ∈ c, w ∈ wsX9_afterDraw := List.forall_mem_cons.mpr ⟨fun _ h => List.mem_cons.mpr (Or.inl (List.mem_singleton.mp h)), List.forall_mem_cons.mpr ⟨fun _ h => List.mem_cons_of_mem _ (List.mem_append_left _ (List.mem_append_left _ (List.mem_append_left _ h))), List.forall_mem_cons.mpr ⟨fun _ h => List.mem_cons_of_mem _ (List.mem_append_left _ (List.mem_append_left _ (List.mem_append_right _ (h)))), List.forall_mem_cons.mpr ⟨fun _ h => List.mem_cons_of_mem _ (List.mem_append_left _ (List.mem_append_right _ h)), List.forall_mem_cons.mpr ⟨fun _ h => List.mem_cons_of_mem _ (List.mem_append_right _ h), (fun _ h => absurd h List.not_mem_nil)⟩⟩⟩⟩⟩
set_option maxRecDepth 20000 in
theorem zw_wsX6_inOrder : wsX6_inOrder.all goodWord = true := by decide +kernel
set_option maxRecDepth 20000 in
theorem ggX9_afterDraw_X6_inOrder : GoodIn wsX9_afterDraw wsX6_inOrder := goodIn_c zt_wsX9_afterDraw_in _ [(1, 3), (1, 4)] rfl zw_wsX6_inOrder
set_option maxRecDepth 20000 in
theorem gX9_afterDraw_X6_inOrder : GoodIn wsX9_afterDraw (va_wsS RX9 206 yX6_inOrder wsX6_inOrder) := goodIn_app (goodIn_of _ (by decide +kernel)) ggX9_afterDraw_X6_inOrder
set_option maxRecDepth 20000 in
theorem zw_wsX9_isSome : wsX9_isSome.all goodWord = true := by decide +kernel
set_option maxRecDepth 20000 in
theorem ggX9_afterDraw_X9_isSome : GoodIn wsX9_afterDraw wsX9_isSome := goodIn_c zt_wsX9_afterDraw_in _ [(1, 9), (1, 10), (1, 11), (1, 12), (1, 13), (1, 2), (1, 14), (1, 15), (1, 16), (1, 17), (1, 18), (1, 19), (1, 20), (1, 21), (1, 22), (1, 23), (2, 0), (2, 1), (2, 2), (2, 3), (2, 4), (2, 5), (2, 6), (2, 7), (2, 8), (2, 9), (2, 10), (2, 11), (3, 0), (3, 1), (3, 2), (3, 3), (3, 4), (4, 0), (4, 1), (4, 2), (4, 3), (4, 4), (4, 5)] rfl zw_wsX9_isSome
set_option maxRecDepth 20000 in
theorem gX9_afterDraw_X9_isSome : GoodIn wsX9_afterDraw (wsV RX9 209 RX9 yX9_isSome wsX9_isSome) := goodIn_app (goodIn_of _ (by decide +kernel)) ggX9_afterDraw_X9_isSome
set_option maxRecDepth 20000 in
theorem ggX9_afterDraw_X6_after : GoodIn wsX9_afterDraw wsX6_after := goodIn_c zt_wsX9_afterDraw_in _ [(1, 20), (1, 21), (1, 22), (1, 23), (2, 0), (2, 1), (2, 2), (2, 3), (2, 4), (2, 5), (2, 6), (2, 7), (2, 8), (2, 9), (2, 10), (2, 11)] rfl zw_wsX6_after
set_option maxRecDepth 20000 in
theorem gX9_afterDraw_X6_after : GoodIn wsX9_afterDraw (va_wsS RX9 97 yX6_after wsX6_after) := goodIn_app (goodIn_of _ (by decide +kernel)) ggX9_afterDraw_X6_after
theorem zo_dX9_afterDraw_0 : ([(0, .iconst 0, 1), (1, .istore 4, 2), (3, .iconst 0, 1), (4, .istore 5, 2), (6, .iload 5, 2), (8, .bipush 40, 2), (10, .if_icmp .ge 26, 3), (13, .aload_n 0, 1), (14, .iload_n 1, 1), (15, .iload 5, 2), (17, .invokestatic 206, 3), (20, .iload_n 3, 1), (21, .invokevirtual 209, 3), (24, .ifCond .eq 6, 3), (27, .iinc 4 1, 3), (30, .iinc 5 1, 3)] : List (Nat × Instr × Nat)).all (dOk (decode cX9_afterDraw)) = true := by decide +kernel
theorem dX9_afterDraw_0 : decode cX9_afterDraw 0 = .ok (.iconst 0, 1) := dcr zo_dX9_afterDraw_0 0 rfl
theorem dX9_afterDraw_1 : decode cX9_afterDraw 1 = .ok (.istore 4, 2) := dcr zo_dX9_afterDraw_0 1 rfl
theorem dX9_afterDraw_3 : decode cX9_afterDraw 3 = .ok (.iconst 0, 1) := dcr zo_dX9_afterDraw_0 2 rfl
theorem dX9_afterDraw_4 : decode cX9_afterDraw 4 = .ok (.istore 5, 2) := dcr zo_dX9_afterDraw_0 3 rfl
theorem dX9_afterDraw_6 : decode cX9_afterDraw 6 = .ok (.iload 5, 2) := dcr zo_dX9_afterDraw_0 4 rfl
theorem dX9_afterDraw_8 : decode cX9_afterDraw 8 = .ok (.bipush 40, 2) := dcr zo_dX9_afterDraw_0 5 rfl
theorem dX9_afterDraw_10 : decode cX9_afterDraw 10 = .ok (.if_icmp .ge 26, 3) := dcr zo_dX9_afterDraw_0 6 rfl
theorem dX9_afterDraw_13 : decode cX9_afterDraw 13 = .ok (.aload_n 0, 1) := dcr zo_dX9_afterDraw_0 7 rfl
theorem dX9_afterDraw_14 : decode cX9_afterDraw 14 = .ok (.iload_n 1, 1) := dcr zo_dX9_afterDraw_0 8 rfl
theorem dX9_afterDraw_15 : decode cX9_afterDraw 15 = .ok (.iload 5, 2) := dcr zo_dX9_afterDraw_0 9 rfl
theorem dX9_afterDraw_17 : decode cX9_afterDraw 17 = .ok (.invokestatic 206, 3) := dcr zo_dX9_afterDraw_0 10 rfl
theorem dX9_afterDraw_20 : decode cX9_afterDraw 20 = .ok (.iload_n 3, 1) := dcr zo_dX9_afterDraw_0 11 rfl
theorem dX9_afterDraw_21 : decode cX9_afterDraw 21 = .ok (.invokevirtual 209, 3) := dcr zo_dX9_afterDraw_0 12 rfl
theorem dX9_afterDraw_24 : decode cX9_afterDraw 24 = .ok (.ifCond .eq 6, 3) := dcr zo_dX9_afterDraw_0 13 rfl
theorem dX9_afterDraw_27 : decode cX9_afterDraw 27 = .ok (.iinc 4 1, 3) := dcr zo_dX9_afterDraw_0 14 rfl
theorem dX9_afterDraw_30 : decode cX9_afterDraw 30 = .ok (.iinc 5 1, 3) := dcr zo_dX9_afterDraw_0 15 rfl
theorem zo_dX9_afterDraw_33 : ([(33, .goto (-27), 3), (36, .iload 4, 2), (38, .ifCond .ne 5, 3), (41, .iload_n 1, 1), (42, .ireturn, 1), (43, .iload_n 2, 1), (44, .iload 4, 2), (46, .irem, 1), (47, .istore 5, 2), (49, .iconst 0, 1), (50, .istore 6, 2), (52, .iload 6, 2), (54, .bipush 40, 2), (56, .if_icmp .ge 42, 3), (59, .iload 6, 2), (61, .invokestatic 206, 3)] : List (Nat × Instr × Nat)).all (dOk (decode cX9_afterDraw)) = true := by decide +kernel
theorem dX9_afterDraw_33 : decode cX9_afterDraw 33 = .ok (.goto (-27), 3) := dcr zo_dX9_afterDraw_33 0 rfl
theorem dX9_afterDraw_36 : decode cX9_afterDraw 36 = .ok (.iload 4, 2) := dcr zo_dX9_afterDraw_33 1 rfl
theorem dX9_afterDraw_38 : decode cX9_afterDraw 38 = .ok (.ifCond .ne 5, 3) := dcr zo_dX9_afterDraw_33 2 rfl
theorem dX9_afterDraw_41 : decode cX9_afterDraw 41 = .ok (.iload_n 1, 1) := dcr zo_dX9_afterDraw_33 3 rfl
theorem dX9_afterDraw_42 : decode cX9_afterDraw 42 = .ok (.ireturn, 1) := dcr zo_dX9_afterDraw_33 4 rfl
theorem dX9_afterDraw_43 : decode cX9_afterDraw 43 = .ok (.iload_n 2, 1) := dcr zo_dX9_afterDraw_33 5 rfl
theorem dX9_afterDraw_44 : decode cX9_afterDraw 44 = .ok (.iload 4, 2) := dcr zo_dX9_afterDraw_33 6 rfl
theorem dX9_afterDraw_46 : decode cX9_afterDraw 46 = .ok (.irem, 1) := dcr zo_dX9_afterDraw_33 7 rfl
theorem dX9_afterDraw_47 : decode cX9_afterDraw 47 = .ok (.istore 5, 2) := dcr zo_dX9_afterDraw_33 8 rfl
theorem dX9_afterDraw_49 : decode cX9_afterDraw 49 = .ok (.iconst 0, 1) := dcr zo_dX9_afterDraw_33 9 rfl
theorem dX9_afterDraw_50 : decode cX9_afterDraw 50 = .ok (.istore 6, 2) := dcr zo_dX9_afterDraw_33 10 rfl
theorem dX9_afterDraw_52 : decode cX9_afterDraw 52 = .ok (.iload 6, 2) := dcr zo_dX9_afterDraw_33 11 rfl
theorem dX9_afterDraw_54 : decode cX9_afterDraw 54 = .ok (.bipush 40, 2) := dcr zo_dX9_afterDraw_33 12 rfl
theorem dX9_afterDraw_56 : decode cX9_afterDraw 56 = .ok (.if_icmp .ge 42, 3) := dcr zo_dX9_afterDraw_33 13 rfl
theorem dX9_afterDraw_59 : decode cX9_afterDraw 59 = .ok (.iload 6, 2) := dcr zo_dX9_afterDraw_33 14 rfl
theorem dX9_afterDraw_61 : decode cX9_afterDraw 61 = .ok (.invokestatic 206, 3) := dcr zo_dX9_afterDraw_33 15 rfl
theorem zo_dX9_afterDraw_64 : ([(64, .istore 7, 2), (66, .aload_n 0, 1), (67, .iload_n 1, 1), (68, .iload 7, 2), (70, .iload_n 3, 1), (71, .invokevirtual 209, 3), (74, .ifCond .eq 18, 3), (77, .iload 5, 2), (79, .ifCond .ne 10, 3), (82, .iload_n 1, 1), (83, .iload 7, 2), (85, .invokestatic 97, 3), (88, .ireturn, 1), (89, .iinc 5 (-1), 3), (92, .iinc 6 1, 3), (95, .goto (-43), 3)] : List (Nat × Instr × Nat)).all (dOk (decode cX9_afterDraw)) = true := by decide +kernel
theorem dX9_afterDraw_64 : decode cX9_afterDraw 64 = .ok (.istore 7, 2) := dcr zo_dX9_afterDraw_64 0 rfl
theorem dX9_afterDraw_66 : decode cX9_afterDraw 66 = .ok (.aload_n 0, 1) := dcr zo_dX9_afterDraw_64 1 rfl
theorem dX9_afterDraw_67 : decode cX9_afterDraw 67 = .ok (.iload_n 1, 1) := dcr zo_dX9_afterDraw_64 2 rfl
theorem dX9_afterDraw_68 : decode cX9_afterDraw 68 = .ok (.iload 7, 2) := dcr zo_dX9_afterDraw_64 3 rfl
theorem dX9_afterDraw_70 : decode cX9_afterDraw 70 = .ok (.iload_n 3, 1) := dcr zo_dX9_afterDraw_64 4 rfl
theorem dX9_afterDraw_71 : decode cX9_afterDraw 71 = .ok (.invokevirtual 209, 3) := dcr zo_dX9_afterDraw_64 5 rfl
theorem dX9_afterDraw_74 : decode cX9_afterDraw 74 = .ok (.ifCond .eq 18, 3) := dcr zo_dX9_afterDraw_64 6 rfl
theorem dX9_afterDraw_77 : decode cX9_afterDraw 77 = .ok (.iload 5, 2) := dcr zo_dX9_afterDraw_64 7 rfl
theorem dX9_afterDraw_79 : decode cX9_afterDraw 79 = .ok (.ifCond .ne 10, 3) := dcr zo_dX9_afterDraw_64 8 rfl
theorem dX9_afterDraw_82 : decode cX9_afterDraw 82 = .ok (.iload_n 1, 1) := dcr zo_dX9_afterDraw_64 9 rfl
theorem dX9_afterDraw_83 : decode cX9_afterDraw 83 = .ok (.iload 7, 2) := dcr zo_dX9_afterDraw_64 10 rfl
theorem dX9_afterDraw_85 : decode cX9_afterDraw 85 = .ok (.invokestatic 97, 3) := dcr zo_dX9_afterDraw_64 11 rfl
theorem dX9_afterDraw_88 : decode cX9_afterDraw 88 = .ok (.ireturn, 1) := dcr zo_dX9_afterDraw_64 12 rfl
theorem dX9_afterDraw_89 : decode cX9_afterDraw 89 = .ok (.iinc 5 (-1), 3) := dcr zo_dX9_afterDraw_64 13 rfl
theorem dX9_afterDraw_92 : decode cX9_afterDraw 92 = .ok (.iinc 6 1, 3) := dcr zo_dX9_afterDraw_64 14 rfl
theorem dX9_afterDraw_95 : decode cX9_afterDraw 95 = .ok (.goto (-43), 3) := dcr zo_dX9_afterDraw_64 15 rfl
theorem zo_dX9_afterDraw_98 : ([(98, .iload_n 1, 1), (99, .ireturn, 1)] : List (Nat × Instr × Nat)).all (dOk (decode cX9_afterDraw)) = true := by decide +kernel
theorem dX9_afterDraw_98 : decode cX9_afterDraw 98 = .ok (.iload_n 1, 1) := dcr zo_dX9_afterDraw_98 0 rfl
theorem dX9_afterDraw_99 : decode cX9_afterDraw 99 = .ok (.ireturn, 1) := dcr zo_dX9_afterDraw_98 1 rfl
def zt_wsX9_isSome : List (List Cond) := [[.code yX9_isSome cX9_isSome 4 (some .boolean)], wsX9_isSome_r1, wsX9_isSome_r2, wsX90, wsX30]
theorem zt_wsX9_isSome_in : ∀ c ∈ zt_wsX9_isSome, ∀ w ∈ c, w ∈ wsX9_isSome := List.forall_mem_cons.mpr ⟨fun _ h => List.mem_cons.mpr (Or.inl (List.mem_singleton.mp h)), List.forall_mem_cons.mpr ⟨fun _ h => List.mem_cons_of_mem _ (List.mem_append_left _ (List.mem_append_left _ (List.mem_append_left _ h))), List.forall_mem_cons.mpr ⟨fun _ h => List.mem_cons_of_mem _ (List.mem_append_left _ (List.mem_append_left _ (List.mem_append_right _ (h)))), List.forall_mem_cons.mpr ⟨fun _ h => List.mem_cons_of_mem _ (List.mem_append_left _ (List.mem_append_right _ h)), List.forall_mem_cons.mpr ⟨fun _ h => List.mem_cons_of_mem _ (List.mem_append_right _ h), (fun _ h => absurd h List.not_mem_nil)⟩⟩⟩⟩⟩
set_option maxRecDepth 20000 in
theorem zw_wsX6_isMade : wsX6_isMade.all goodWord = true := by decide +kernel
set_option maxRecDepth 20000 in
theorem ggX9_isSome_X6_isMade : GoodIn wsX9_isSome wsX6_isMade := goodIn_c zt_wsX9_isSome_in _ [(1, 5), (1, 6), (1, 7), (1, 4), (1, 8)] rfl zw_wsX6_isMade
set_option maxRecDepth 20000 in
theorem gX9_isSome_X6_isMade : GoodIn wsX9_isSome (va_wsS RX9 213 yX6_isMade wsX6_isMade) := goodIn_app (goodIn_of _ (by decide +kernel)) ggX9_isSome_X6_isMade
set_option maxRecDepth 20000 in
theorem ggX9_isSome_X6_after : GoodIn wsX9_isSome wsX6_after := goodIn_c zt_wsX9_isSome_in _ [(1, 11), (1, 12), (1, 13), (1, 14), (1, 15), (1, 16), (1, 17), (1, 18), (1, 19), (1, 20), (1, 21), (1, 22), (1, 23), (2, 0), (2, 1), (2, 2)] rfl zw_wsX6_after
set_option maxRecDepth 20000 in
theorem gX9_isSome_X6_after : GoodIn wsX9_isSome (va_wsS RX9 97 yX6_after wsX6_after) := goodIn_app (goodIn_of _ (by decide +kernel)) ggX9_isSome_X6_after
theorem zo_dX9_isSome_0 : ([(0, .iload_n 2, 1), (1, .iload_n 3, 1), (2, .aload_n 0, 1), (3, .getfield 19, 3), (6, .getfield 27, 3), (9, .invokestatic 213, 3), (12, .ifCond .eq 16, 3), (15, .iload_n 1, 1), (16, .iload_n 2, 1), (17, .invokestatic 97, 3), (20, .iload_n 1, 1), (21, .if_icmp .eq 7, 3), (24, .iconst 1, 1), (25, .goto 4, 3), (28, .iconst 0, 1), (29, .ireturn, 1)] : List (Nat × Instr × Nat)).all (dOk (decode cX9_isSome)) = true := by decide +kernel
theorem dX9_isSome_0 : decode cX9_isSome 0 = .ok (.iload_n 2, 1) := dcr zo_dX9_isSome_0 0 rfl
theorem dX9_isSome_1 : decode cX9_isSome 1 = .ok (.iload_n 3, 1) := dcr zo_dX9_isSome_0 1 rfl
theorem dX9_isSome_2 : decode cX9_isSome 2 = .ok (.aload_n 0, 1) := dcr zo_dX9_isSome_0 2 rfl
theorem dX9_isSome_3 : decode cX9_isSome 3 = .ok (.getfield 19, 3) := dcr zo_dX9_isSome_0 3 rfl
theorem dX9_isSome_6 : decode cX9_isSome 6 = .ok (.getfield 27, 3) := dcr zo_dX9_isSome_0 4 rfl
theorem dX9_isSome_9 : decode cX9_isSome 9 = .ok (.invokestatic 213, 3) := dcr zo_dX9_isSome_0 5 rfl
theorem dX9_isSome_12 : decode cX9_isSome 12 = .ok (.ifCond .eq 16, 3) := dcr zo_dX9_isSome_0 6 rfl
theorem dX9_isSome_15 : decode cX9_isSome 15 = .ok (.iload_n 1, 1) := dcr zo_dX9_isSome_0 7 rfl
theorem dX9_isSome_16 : decode cX9_isSome 16 = .ok (.iload_n 2, 1) := dcr zo_dX9_isSome_0 8 rfl
theorem dX9_isSome_17 : decode cX9_isSome 17 = .ok (.invokestatic 97, 3) := dcr zo_dX9_isSome_0 9 rfl
theorem dX9_isSome_20 : decode cX9_isSome 20 = .ok (.iload_n 1, 1) := dcr zo_dX9_isSome_0 10 rfl
theorem dX9_isSome_21 : decode cX9_isSome 21 = .ok (.if_icmp .eq 7, 3) := dcr zo_dX9_isSome_0 11 rfl
theorem dX9_isSome_24 : decode cX9_isSome 24 = .ok (.iconst 1, 1) := dcr zo_dX9_isSome_0 12 rfl
theorem dX9_isSome_25 : decode cX9_isSome 25 = .ok (.goto 4, 3) := dcr zo_dX9_isSome_0 13 rfl
theorem dX9_isSome_28 : decode cX9_isSome 28 = .ok (.iconst 0, 1) := dcr zo_dX9_isSome_0 14 rfl
theorem dX9_isSome_29 : decode cX9_isSome 29 = .ok (.ireturn, 1) := dcr zo_dX9_isSome_0 15 rfl
def zt_wsX9_readySearch : List (List Cond) := [[.code yX9_readySearch cX9_readySearch 1 (some (.object "LastMap$Search"))], [.fieldLink RX9 216 "LastMap" "search" "LLastMap$Search;", .classLink RX9 151 RX4, .instantiable RX4 3, .initialized RX4, .instanceMethod yX4_init, .code yX4_init cX4_init 1 none, .methodLink RX4 3 objectInit, .instanceMethod objectInit, .code objectInit ⟨#[0xb1]⟩ 1 none, .classLink RX4 11 RX7, .fieldLink RX4 13 "LastMap$Search" "tables" "[LLastMap$Table;", .arrayClass .int, .fieldLink RX4 19 "LastMap$Search" "sums" "[I"], wsX90, wsX40]
theorem zt_wsX9_readySearch_in : ∀ c ∈ zt_wsX9_readySearch, ∀ w ∈ c, w ∈ wsX9_readySearch := List.forall_mem_cons.mpr ⟨fun _ h => List.mem_cons.mpr (Or.inl (List.mem_singleton.mp h)), List.forall_mem_cons.mpr ⟨fun _ h => List.mem_cons_of_mem _ (List.mem_append_left _ (List.mem_append_left _ (h))), List.forall_mem_cons.mpr ⟨fun _ h => List.mem_cons_of_mem _ (List.mem_append_left _ (List.mem_append_right _ h)), List.forall_mem_cons.mpr ⟨fun _ h => List.mem_cons_of_mem _ (List.mem_append_right _ h), (fun _ h => absurd h List.not_mem_nil)⟩⟩⟩⟩
set_option maxRecDepth 20000 in
theorem zw_wsX4_init : wsX4_init.all goodWord = true := by decide +kernel
set_option maxRecDepth 20000 in
theorem ggX9_readySearch_X4_init : GoodIn wsX9_readySearch wsX4_init := goodIn_c zt_wsX9_readySearch_in _ [(1, 5), (1, 6), (1, 7), (1, 8), (1, 9), (1, 10), (1, 11), (1, 12), (3, 0), (3, 1), (3, 2)] rfl zw_wsX4_init
set_option maxRecDepth 20000 in
theorem gX9_readySearch_X4_init_n220 : GoodIn wsX9_readySearch (wsX4_init) := ggX9_readySearch_X4_init
theorem zo_dX9_readySearch_0 : ([(0, .aload_n 0, 1), (1, .getfield 216, 3), (4, .ifnonnull 14, 3), (7, .aload_n 0, 1), (8, .new 151, 3), (11, .dup, 1), (12, .invokespecial 220, 3), (15, .putfield 216, 3), (18, .aload_n 0, 1), (19, .getfield 216, 3), (22, .areturn, 1)] : List (Nat × Instr × Nat)).all (dOk (decode cX9_readySearch)) = true := by decide +kernel
theorem dX9_readySearch_0 : decode cX9_readySearch 0 = .ok (.aload_n 0, 1) := dcr zo_dX9_readySearch_0 0 rfl
theorem dX9_readySearch_1 : decode cX9_readySearch 1 = .ok (.getfield 216, 3) := dcr zo_dX9_readySearch_0 1 rfl
theorem dX9_readySearch_4 : decode cX9_readySearch 4 = .ok (.ifnonnull 14, 3) := dcr zo_dX9_readySearch_0 2 rfl
theorem dX9_readySearch_7 : decode cX9_readySearch 7 = .ok (.aload_n 0, 1) := dcr zo_dX9_readySearch_0 3 rfl
theorem dX9_readySearch_8 : decode cX9_readySearch 8 = .ok (.new 151, 3) := dcr zo_dX9_readySearch_0 4 rfl
theorem dX9_readySearch_11 : decode cX9_readySearch 11 = .ok (.dup, 1) := dcr zo_dX9_readySearch_0 5 rfl
theorem dX9_readySearch_12 : decode cX9_readySearch 12 = .ok (.invokespecial 220, 3) := dcr zo_dX9_readySearch_0 6 rfl
theorem dX9_readySearch_15 : decode cX9_readySearch 15 = .ok (.putfield 216, 3) := dcr zo_dX9_readySearch_0 7 rfl
theorem dX9_readySearch_18 : decode cX9_readySearch 18 = .ok (.aload_n 0, 1) := dcr zo_dX9_readySearch_0 8 rfl
theorem dX9_readySearch_19 : decode cX9_readySearch 19 = .ok (.getfield 216, 3) := dcr zo_dX9_readySearch_0 9 rfl
theorem dX9_readySearch_22 : decode cX9_readySearch 22 = .ok (.areturn, 1) := dcr zo_dX9_readySearch_0 10 rfl
def zt_wsX9_tableOf : List (List Cond) := [[.code yX9_tableOf cX9_tableOf 4 (some (.object "LastMap$Table"))], wsX9_tableOf_r1, wsX9_tableOf_r2, wsX9_tableOf_r3, wsX9_tableOf_r4, wsX90, wsX30, wsX40, wsX70]
theorem zt_wsX9_tableOf_in : ∀ c ∈ zt_wsX9_tableOf, ∀ w ∈ c, w ∈ wsX9_tableOf := List.forall_mem_cons.mpr ⟨fun _ h => List.mem_cons.mpr (Or.inl (List.mem_singleton.mp h)), List.forall_mem_cons.mpr ⟨fun _ h => List.mem_cons_of_mem _ (List.mem_append_left _ (List.mem_append_left _ (List.mem_append_left _ (List.mem_append_left _ (List.mem_append_left _ h))))), List.forall_mem_cons.mpr ⟨fun _ h => List.mem_cons_of_mem _ (List.mem_append_left _ (List.mem_append_left _ (List.mem_append_left _ (List.mem_append_left _ (List.mem_append_right _ (List.mem_append_left _ h)))))), List.forall_mem_cons.mpr ⟨fun _ h => List.mem_cons_of_mem _ (List.mem_append_left _ (List.mem_append_left _ (List.mem_append_left _ (List.mem_append_left _ (List.mem_append_right _ (List.mem_append_right _ (List.mem_append_left _ h))))))), List.forall_mem_cons.mpr ⟨fun _ h => List.mem_cons_of_mem _ (List.mem_append_left _ (List.mem_append_left _ (List.mem_append_left _ (List.mem_append_left _ (List.mem_append_right _ (List.mem_append_right _ (List.mem_append_right _ (h)))))))), List.forall_mem_cons.mpr ⟨fun _ h => List.mem_cons_of_mem _ (List.mem_append_left _ (List.mem_append_left _ (List.mem_append_left _ (List.mem_append_right _ h)))), List.forall_mem_cons.mpr ⟨fun _ h => List.mem_cons_of_mem _ (List.mem_append_left _ (List.mem_append_left _ (List.mem_append_right _ h))), List.forall_mem_cons.mpr ⟨fun _ h => List.mem_cons_of_mem _ (List.mem_append_left _ (List.mem_append_right _ h)), List.forall_mem_cons.mpr ⟨fun _ h => List.mem_cons_of_mem _ (List.mem_append_right _ h), (fun _ h => absurd h List.not_mem_nil)⟩⟩⟩⟩⟩⟩⟩⟩⟩
set_option maxRecDepth 20000 in
theorem ggX9_tableOf_X3_codeOf : GoodIn wsX9_tableOf wsX3_codeOf := goodIn_c zt_wsX9_tableOf_in _ [(1, 6), (1, 7), (6, 0), (6, 1), (6, 2), (6, 3), (6, 4), (6, 5)] rfl zw_wsX3_codeOf
set_option maxRecDepth 20000 in
theorem gX9_tableOf_X3_codeOf : GoodIn wsX9_tableOf (wsV RX9 65 RX3 yX3_codeOf wsX3_codeOf) := goodIn_app (goodIn_of _ (by decide +kernel)) ggX9_tableOf_X3_codeOf
set_option maxRecDepth 20000 in
theorem zw_wsX0_onlyMap : wsX0_onlyMap.all goodWord = true := by decide +kernel
set_option maxRecDepth 20000 in
theorem ggX9_tableOf_X0_onlyMap : GoodIn wsX9_tableOf wsX0_onlyMap := goodIn_c zt_wsX9_tableOf_in _ [(1, 11), (1, 12), (1, 13), (1, 14), (1, 15), (1, 16), (1, 17), (1, 18), (1, 19), (1, 20), (1, 21), (1, 22), (1, 23), (2, 0), (1, 10), (2, 1)] rfl zw_wsX0_onlyMap
set_option maxRecDepth 20000 in
theorem gX9_tableOf_X0_onlyMap : GoodIn wsX9_tableOf (va_wsS RX9 221 yX0_onlyMap wsX0_onlyMap) := goodIn_app (goodIn_of _ (by decide +kernel)) ggX9_tableOf_X0_onlyMap
set_option maxRecDepth 20000 in
theorem ggX9_tableOf_X9_readySearch : GoodIn wsX9_tableOf wsX9_readySearch := goodIn_c zt_wsX9_tableOf_in _ [(2, 6), (2, 7), (2, 8), (2, 9), (2, 10), (2, 11), (2, 12), (2, 13), (2, 14), (2, 15), (2, 16), (2, 17), (2, 18), (2, 19), (5, 0), (5, 1), (5, 2), (5, 3), (5, 4), (7, 0), (7, 1), (7, 2)] rfl zw_wsX9_readySearch
set_option maxRecDepth 20000 in
theorem gX9_tableOf_X9_readySearch : GoodIn wsX9_tableOf (wsV RX9 146 RX9 yX9_readySearch wsX9_readySearch) := goodIn_app (goodIn_of _ (by decide +kernel)) ggX9_tableOf_X9_readySearch
set_option maxRecDepth 20000 in
theorem ggX9_tableOf_X3_kindsOf : GoodIn wsX9_tableOf wsX3_kindsOf := goodIn_c zt_wsX9_tableOf_in _ [(2, 23), (3, 0), (6, 0), (6, 1), (6, 2), (6, 3), (6, 4), (6, 5)] rfl zw_wsX3_kindsOf
set_option maxRecDepth 20000 in
theorem gX9_tableOf_X3_kindsOf : GoodIn wsX9_tableOf (wsV RX9 82 RX3 yX3_kindsOf wsX3_kindsOf) := goodIn_app (goodIn_of _ (by decide +kernel)) ggX9_tableOf_X3_kindsOf
set_option maxRecDepth 20000 in
theorem ggX9_tableOf_X4_toward : GoodIn wsX9_tableOf wsX4_toward := goodIn_c zt_wsX9_tableOf_in _ [(3, 4), (2, 17), (3, 5), (3, 6), (3, 7), (3, 8), (3, 9), (3, 10), (3, 11), (3, 12), (3, 13), (3, 14), (3, 15), (2, 10), (3, 16), (3, 17), (2, 16), (3, 18), (3, 19), (3, 20), (3, 21), (2, 14), (2, 15), (3, 22), (3, 23), (2, 18), (4, 0), (4, 1), (4, 2), (4, 3), (4, 4), (4, 5), (4, 6), (4, 7), (4, 8), (4, 9), (4, 10), (4, 11), (4, 12), (4, 13), (4, 14), (4, 15), (4, 16), (4, 17), (4, 18), (4, 19), (4, 20), (1, 10), (4, 21), (4, 22), (1, 17), (1, 14), (1, 18), (1, 19), (7, 0), (7, 1), (7, 2), (8, 0), (8, 1), (8, 2), (8, 3), (8, 4), (8, 5), (8, 6)] rfl zw_wsX4_toward
set_option maxRecDepth 20000 in
theorem gX9_tableOf_X4_toward : GoodIn wsX9_tableOf (wsV RX9 168 RX4 yX4_toward wsX4_toward) := goodIn_app (goodIn_of _ (by decide +kernel)) ggX9_tableOf_X4_toward
theorem zo_dX9_tableOf_0 : ([(0, .aload_n 0, 1), (1, .getfield 19, 3), (4, .iload_n 1, 1), (5, .invokevirtual 65, 3), (8, .aload_n 0, 1), (9, .getfield 19, 3), (12, .getfield 27, 3), (15, .invokestatic 221, 3), (18, .istore_n 3, 1), (19, .aload_n 0, 1), (20, .invokevirtual 146, 3), (23, .iload_n 3, 1), (24, .aload_n 0, 1), (25, .getfield 19, 3), (28, .iload_n 2, 1), (29, .invokevirtual 82, 3)] : List (Nat × Instr × Nat)).all (dOk (decode cX9_tableOf)) = true := by decide +kernel
theorem dX9_tableOf_0 : decode cX9_tableOf 0 = .ok (.aload_n 0, 1) := dcr zo_dX9_tableOf_0 0 rfl
theorem dX9_tableOf_1 : decode cX9_tableOf 1 = .ok (.getfield 19, 3) := dcr zo_dX9_tableOf_0 1 rfl
theorem dX9_tableOf_4 : decode cX9_tableOf 4 = .ok (.iload_n 1, 1) := dcr zo_dX9_tableOf_0 2 rfl
theorem dX9_tableOf_5 : decode cX9_tableOf 5 = .ok (.invokevirtual 65, 3) := dcr zo_dX9_tableOf_0 3 rfl
theorem dX9_tableOf_8 : decode cX9_tableOf 8 = .ok (.aload_n 0, 1) := dcr zo_dX9_tableOf_0 4 rfl
theorem dX9_tableOf_9 : decode cX9_tableOf 9 = .ok (.getfield 19, 3) := dcr zo_dX9_tableOf_0 5 rfl
theorem dX9_tableOf_12 : decode cX9_tableOf 12 = .ok (.getfield 27, 3) := dcr zo_dX9_tableOf_0 6 rfl
theorem dX9_tableOf_15 : decode cX9_tableOf 15 = .ok (.invokestatic 221, 3) := dcr zo_dX9_tableOf_0 7 rfl
theorem dX9_tableOf_18 : decode cX9_tableOf 18 = .ok (.istore_n 3, 1) := dcr zo_dX9_tableOf_0 8 rfl
theorem dX9_tableOf_19 : decode cX9_tableOf 19 = .ok (.aload_n 0, 1) := dcr zo_dX9_tableOf_0 9 rfl
theorem dX9_tableOf_20 : decode cX9_tableOf 20 = .ok (.invokevirtual 146, 3) := dcr zo_dX9_tableOf_0 10 rfl
theorem dX9_tableOf_23 : decode cX9_tableOf 23 = .ok (.iload_n 3, 1) := dcr zo_dX9_tableOf_0 11 rfl
theorem dX9_tableOf_24 : decode cX9_tableOf 24 = .ok (.aload_n 0, 1) := dcr zo_dX9_tableOf_0 12 rfl
theorem dX9_tableOf_25 : decode cX9_tableOf 25 = .ok (.getfield 19, 3) := dcr zo_dX9_tableOf_0 13 rfl
theorem dX9_tableOf_28 : decode cX9_tableOf 28 = .ok (.iload_n 2, 1) := dcr zo_dX9_tableOf_0 14 rfl
theorem dX9_tableOf_29 : decode cX9_tableOf 29 = .ok (.invokevirtual 82, 3) := dcr zo_dX9_tableOf_0 15 rfl
theorem zo_dX9_tableOf_32 : ([(32, .aload_n 0, 1), (33, .getfield 19, 3), (36, .getfield 27, 3), (39, .invokevirtual 168, 3), (42, .areturn, 1)] : List (Nat × Instr × Nat)).all (dOk (decode cX9_tableOf)) = true := by decide +kernel
theorem dX9_tableOf_32 : decode cX9_tableOf 32 = .ok (.aload_n 0, 1) := dcr zo_dX9_tableOf_32 0 rfl
theorem dX9_tableOf_33 : decode cX9_tableOf 33 = .ok (.getfield 19, 3) := dcr zo_dX9_tableOf_32 1 rfl
theorem dX9_tableOf_36 : decode cX9_tableOf 36 = .ok (.getfield 27, 3) := dcr zo_dX9_tableOf_32 2 rfl
theorem dX9_tableOf_39 : decode cX9_tableOf 39 = .ok (.invokevirtual 168, 3) := dcr zo_dX9_tableOf_32 3 rfl
theorem dX9_tableOf_42 : decode cX9_tableOf 42 = .ok (.areturn, 1) := dcr zo_dX9_tableOf_32 4 rfl
def zt_wsX9_noteAllTo : List (List Cond) := [[.code yX9_noteAllTo cX9_noteAllTo 6 none], wsX9_noteAllTo_r1, wsX9_noteAllTo_r2, wsX9_noteAllTo_r3, wsX9_noteAllTo_r4, wsX9_noteAllTo_r5, wsX9_noteAllTo_r6, wsX90, wsX30, wsX40, wsX70, wsX80]
theorem zt_wsX9_noteAllTo_in : ∀ c ∈ zt_wsX9_noteAllTo, ∀ w ∈ c, w ∈ wsX9_noteAllTo := List.forall_mem_cons.mpr ⟨fun _ h => List.mem_cons.mpr (Or.inl (List.mem_singleton.mp h)), List.forall_mem_cons.mpr ⟨fun _ h => List.mem_cons_of_mem _ (List.mem_append_left _ (List.mem_append_left _ (List.mem_append_left _ (List.mem_append_left _ (List.mem_append_left _ (List.mem_append_left _ h)))))), List.forall_mem_cons.mpr ⟨fun _ h => List.mem_cons_of_mem _ (List.mem_append_left _ (List.mem_append_left _ (List.mem_append_left _ (List.mem_append_left _ (List.mem_append_left _ (List.mem_append_right _ (List.mem_append_left _ h))))))), List.forall_mem_cons.mpr ⟨fun _ h => List.mem_cons_of_mem _ (List.mem_append_left _ (List.mem_append_left _ (List.mem_append_left _ (List.mem_append_left _ (List.mem_append_left _ (List.mem_append_right _ (List.mem_append_right _ (List.mem_append_left _ h)))))))), List.forall_mem_cons.mpr ⟨fun _ h => List.mem_cons_of_mem _ (List.mem_append_left _ (List.mem_append_left _ (List.mem_append_left _ (List.mem_append_left _ (List.mem_append_left _ (List.mem_append_right _ (List.mem_append_right _ (List.mem_append_right _ (List.mem_append_left _ h))))))))), List.forall_mem_cons.mpr ⟨fun _ h => List.mem_cons_of_mem _ (List.mem_append_left _ (List.mem_append_left _ (List.mem_append_left _ (List.mem_append_left _ (List.mem_append_left _ (List.mem_append_right _ (List.mem_append_right _ (List.mem_append_right _ (List.mem_append_right _ (List.mem_append_left _ h)))))))))), List.forall_mem_cons.mpr ⟨fun _ h => List.mem_cons_of_mem _ (List.mem_append_left _ (List.mem_append_left _ (List.mem_append_left _ (List.mem_append_left _ (List.mem_append_left _ (List.mem_append_right _ (List.mem_append_right _ (List.mem_append_right _ (List.mem_append_right _ (List.mem_append_right _ (h))))))))))), List.forall_mem_cons.mpr ⟨fun _ h => List.mem_cons_of_mem _ (List.mem_append_left _ (List.mem_append_left _ (List.mem_append_left _ (List.mem_append_left _ (List.mem_append_right _ h))))), List.forall_mem_cons.mpr ⟨fun _ h => List.mem_cons_of_mem _ (List.mem_append_left _ (List.mem_append_left _ (List.mem_append_left _ (List.mem_append_right _ h)))), List.forall_mem_cons.mpr ⟨fun _ h => List.mem_cons_of_mem _ (List.mem_append_left _ (List.mem_append_left _ (List.mem_append_right _ h))), List.forall_mem_cons.mpr ⟨fun _ h => List.mem_cons_of_mem _ (List.mem_append_left _ (List.mem_append_right _ h)), List.forall_mem_cons.mpr ⟨fun _ h => List.mem_cons_of_mem _ (List.mem_append_right _ h), (fun _ h => absurd h List.not_mem_nil)⟩⟩⟩⟩⟩⟩⟩⟩⟩⟩⟩⟩
set_option maxRecDepth 20000 in
theorem ggX9_noteAllTo_X9_tableOf : GoodIn wsX9_noteAllTo wsX9_tableOf := goodIn_c zt_wsX9_noteAllTo_in _ [(1, 6), (1, 1), (1, 7), (1, 8), (1, 9), (1, 10), (1, 11), (1, 12), (1, 13), (1, 14), (1, 15), (1, 16), (1, 17), (1, 18), (1, 19), (1, 20), (1, 21), (1, 22), (1, 23), (2, 0), (2, 1), (2, 2), (2, 3), (2, 4), (2, 5), (2, 6), (2, 7), (2, 8), (2, 9), (2, 10), (1, 5), (2, 11), (2, 12), (2, 13), (2, 14), (2, 15), (2, 16), (2, 17), (2, 18), (2, 19), (2, 20), (2, 21), (2, 22), (2, 23), (3, 0), (3, 1), (3, 2), (3, 3), (3, 4), (3, 5), (3, 6), (3, 7), (3, 8), (3, 9), (3, 10), (3, 11), (3, 12), (3, 13), (3, 14), (3, 15), (3, 16), (3, 17), (3, 18), (3, 19), (3, 20), (3, 21), (3, 22), (3, 23), (4, 0), (4, 1), (4, 2), (4, 3), (4, 4), (4, 5), (4, 6), (4, 7), (4, 8), (4, 9), (4, 10), (4, 11), (4, 12), (4, 13), (4, 14), (4, 15), (4, 16), (4, 17), (4, 18), (4, 19), (4, 20), (4, 21), (4, 22), (4, 23), (5, 0), (5, 1), (5, 2), (5, 3), (7, 0), (7, 1), (7, 2), (7, 3), (7, 4), (8, 0), (8, 1), (8, 2), (8, 3), (8, 4), (8, 5), (9, 0), (9, 1), (9, 2), (10, 0), (10, 1), (10, 2), (10, 3), (10, 4), (10, 5), (10, 6)] rfl zw_wsX9_tableOf
set_option maxRecDepth 20000 in
theorem gX9_noteAllTo_X9_tableOf : GoodIn wsX9_noteAllTo (wsV RX9 102 RX9 yX9_tableOf wsX9_tableOf) := goodIn_app (goodIn_of _ (by decide +kernel)) ggX9_noteAllTo_X9_tableOf
set_option maxRecDepth 20000 in
theorem ggX9_noteAllTo_X9_isOf : GoodIn wsX9_noteAllTo wsX9_isOf := goodIn_c zt_wsX9_noteAllTo_in _ [(5, 6), (5, 7), (5, 8), (1, 5), (5, 9)] rfl zw_wsX9_isOf
set_option maxRecDepth 20000 in
theorem gX9_noteAllTo_X9_isOf : GoodIn wsX9_noteAllTo (va_wsS RX9 132 yX9_isOf wsX9_isOf) := goodIn_app (goodIn_of _ (by decide +kernel)) ggX9_noteAllTo_X9_isOf
set_option maxRecDepth 20000 in
theorem ggX9_noteAllTo_X3_codeOf : GoodIn wsX9_noteAllTo wsX3_codeOf := goodIn_c zt_wsX9_noteAllTo_in _ [(1, 12), (1, 13), (8, 0), (8, 1), (8, 2), (8, 3), (8, 4), (8, 5)] rfl zw_wsX3_codeOf
set_option maxRecDepth 20000 in
theorem gX9_noteAllTo_X3_codeOf : GoodIn wsX9_noteAllTo (wsV RX9 65 RX3 yX3_codeOf wsX3_codeOf) := goodIn_app (goodIn_of _ (by decide +kernel)) ggX9_noteAllTo_X3_codeOf
set_option maxRecDepth 20000 in
theorem ggX9_noteAllTo_X7_slipsFrom : GoodIn wsX9_noteAllTo wsX7_slipsFrom := goodIn_c zt_wsX9_noteAllTo_in _ [(5, 13), (5, 14), (5, 15), (5, 16), (3, 13), (5, 17), (3, 17), (4, 10), (4, 11), (4, 5), (5, 18), (5, 19), (1, 20), (5, 20), (1, 22), (1, 23), (2, 0), (2, 1), (5, 21), (5, 22), (5, 23), (6, 0), (4, 4), (6, 1), (6, 2), (6, 3), (6, 4), (3, 16), (5, 3), (6, 5), (2, 3), (2, 4), (6, 6), (6, 7), (6, 8), (6, 9), (4, 20), (4, 21), (4, 22), (4, 23), (10, 0), (10, 1), (10, 2), (10, 3), (10, 4), (10, 5), (10, 6)] rfl zw_wsX7_slipsFrom
set_option maxRecDepth 20000 in
theorem gX9_noteAllTo_X7_slipsFrom : GoodIn wsX9_noteAllTo (wsV RX9 110 RX7 yX7_slipsFrom wsX7_slipsFrom) := goodIn_app (goodIn_of _ (by decide +kernel)) ggX9_noteAllTo_X7_slipsFrom
set_option maxRecDepth 20000 in
theorem zw_wsX8_note : wsX8_note.all goodWord = true := by decide +kernel
set_option maxRecDepth 20000 in
theorem ggX9_noteAllTo_X8_note : GoodIn wsX9_noteAllTo wsX8_note := goodIn_c zt_wsX9_noteAllTo_in _ [(6, 14), (6, 15), (5, 8), (1, 5), (5, 9), (11, 0), (11, 1), (11, 2), (11, 3), (11, 4)] rfl zw_wsX8_note
set_option maxRecDepth 20000 in
theorem gX9_noteAllTo_X8_note : GoodIn wsX9_noteAllTo (wsV RX9 226 RX8 yX8_note wsX8_note) := goodIn_app (goodIn_of _ (by decide +kernel)) ggX9_noteAllTo_X8_note
theorem zo_dX9_noteAllTo_0 : ([(0, .aload_n 0, 1), (1, .iload_n 1, 1), (2, .iload_n 3, 1), (3, .invokevirtual 102, 3), (6, .astore 4, 2), (8, .iconst 0, 1), (9, .istore 5, 2), (11, .iload 5, 2), (13, .bipush 6, 2), (15, .if_icmp .ge 49, 3), (18, .iload_n 2, 1), (19, .iload 5, 2), (21, .invokestatic 132, 3), (24, .ifCond .eq 34, 3), (27, .aload_n 0, 1), (28, .getfield 125, 3)] : List (Nat × Instr × Nat)).all (dOk (decode cX9_noteAllTo)) = true := by decide +kernel
theorem dX9_noteAllTo_0 : decode cX9_noteAllTo 0 = .ok (.aload_n 0, 1) := dcr zo_dX9_noteAllTo_0 0 rfl
theorem dX9_noteAllTo_1 : decode cX9_noteAllTo 1 = .ok (.iload_n 1, 1) := dcr zo_dX9_noteAllTo_0 1 rfl
theorem dX9_noteAllTo_2 : decode cX9_noteAllTo 2 = .ok (.iload_n 3, 1) := dcr zo_dX9_noteAllTo_0 2 rfl
theorem dX9_noteAllTo_3 : decode cX9_noteAllTo 3 = .ok (.invokevirtual 102, 3) := dcr zo_dX9_noteAllTo_0 3 rfl
theorem dX9_noteAllTo_6 : decode cX9_noteAllTo 6 = .ok (.astore 4, 2) := dcr zo_dX9_noteAllTo_0 4 rfl
theorem dX9_noteAllTo_8 : decode cX9_noteAllTo 8 = .ok (.iconst 0, 1) := dcr zo_dX9_noteAllTo_0 5 rfl
theorem dX9_noteAllTo_9 : decode cX9_noteAllTo 9 = .ok (.istore 5, 2) := dcr zo_dX9_noteAllTo_0 6 rfl
theorem dX9_noteAllTo_11 : decode cX9_noteAllTo 11 = .ok (.iload 5, 2) := dcr zo_dX9_noteAllTo_0 7 rfl
theorem dX9_noteAllTo_13 : decode cX9_noteAllTo 13 = .ok (.bipush 6, 2) := dcr zo_dX9_noteAllTo_0 8 rfl
theorem dX9_noteAllTo_15 : decode cX9_noteAllTo 15 = .ok (.if_icmp .ge 49, 3) := dcr zo_dX9_noteAllTo_0 9 rfl
theorem dX9_noteAllTo_18 : decode cX9_noteAllTo 18 = .ok (.iload_n 2, 1) := dcr zo_dX9_noteAllTo_0 10 rfl
theorem dX9_noteAllTo_19 : decode cX9_noteAllTo 19 = .ok (.iload 5, 2) := dcr zo_dX9_noteAllTo_0 11 rfl
theorem dX9_noteAllTo_21 : decode cX9_noteAllTo 21 = .ok (.invokestatic 132, 3) := dcr zo_dX9_noteAllTo_0 12 rfl
theorem dX9_noteAllTo_24 : decode cX9_noteAllTo 24 = .ok (.ifCond .eq 34, 3) := dcr zo_dX9_noteAllTo_0 13 rfl
theorem dX9_noteAllTo_27 : decode cX9_noteAllTo 27 = .ok (.aload_n 0, 1) := dcr zo_dX9_noteAllTo_0 14 rfl
theorem dX9_noteAllTo_28 : decode cX9_noteAllTo 28 = .ok (.getfield 125, 3) := dcr zo_dX9_noteAllTo_0 15 rfl
theorem zo_dX9_noteAllTo_31 : ([(31, .ifnull 27, 3), (34, .aload_n 0, 1), (35, .getfield 125, 3), (38, .iload 5, 2), (40, .iload_n 1, 1), (41, .aload 4, 2), (43, .aload_n 0, 1), (44, .getfield 19, 3), (47, .iload 5, 2), (49, .invokevirtual 65, 3), (52, .invokevirtual 110, 3), (55, .invokevirtual 226, 3), (58, .iinc 5 1, 3), (61, .goto (-50), 3), (64, .return_, 1)] : List (Nat × Instr × Nat)).all (dOk (decode cX9_noteAllTo)) = true := by decide +kernel
theorem dX9_noteAllTo_31 : decode cX9_noteAllTo 31 = .ok (.ifnull 27, 3) := dcr zo_dX9_noteAllTo_31 0 rfl
theorem dX9_noteAllTo_34 : decode cX9_noteAllTo 34 = .ok (.aload_n 0, 1) := dcr zo_dX9_noteAllTo_31 1 rfl
theorem dX9_noteAllTo_35 : decode cX9_noteAllTo 35 = .ok (.getfield 125, 3) := dcr zo_dX9_noteAllTo_31 2 rfl
theorem dX9_noteAllTo_38 : decode cX9_noteAllTo 38 = .ok (.iload 5, 2) := dcr zo_dX9_noteAllTo_31 3 rfl
theorem dX9_noteAllTo_40 : decode cX9_noteAllTo 40 = .ok (.iload_n 1, 1) := dcr zo_dX9_noteAllTo_31 4 rfl
theorem dX9_noteAllTo_41 : decode cX9_noteAllTo 41 = .ok (.aload 4, 2) := dcr zo_dX9_noteAllTo_31 5 rfl
theorem dX9_noteAllTo_43 : decode cX9_noteAllTo 43 = .ok (.aload_n 0, 1) := dcr zo_dX9_noteAllTo_31 6 rfl
theorem dX9_noteAllTo_44 : decode cX9_noteAllTo 44 = .ok (.getfield 19, 3) := dcr zo_dX9_noteAllTo_31 7 rfl
theorem dX9_noteAllTo_47 : decode cX9_noteAllTo 47 = .ok (.iload 5, 2) := dcr zo_dX9_noteAllTo_31 8 rfl
theorem dX9_noteAllTo_49 : decode cX9_noteAllTo 49 = .ok (.invokevirtual 65, 3) := dcr zo_dX9_noteAllTo_31 9 rfl
theorem dX9_noteAllTo_52 : decode cX9_noteAllTo 52 = .ok (.invokevirtual 110, 3) := dcr zo_dX9_noteAllTo_31 10 rfl
theorem dX9_noteAllTo_55 : decode cX9_noteAllTo 55 = .ok (.invokevirtual 226, 3) := dcr zo_dX9_noteAllTo_31 11 rfl
theorem dX9_noteAllTo_58 : decode cX9_noteAllTo 58 = .ok (.iinc 5 1, 3) := dcr zo_dX9_noteAllTo_31 12 rfl
theorem dX9_noteAllTo_61 : decode cX9_noteAllTo 61 = .ok (.goto (-50), 3) := dcr zo_dX9_noteAllTo_31 13 rfl
theorem dX9_noteAllTo_64 : decode cX9_noteAllTo 64 = .ok (.return_, 1) := dcr zo_dX9_noteAllTo_31 14 rfl
def zt_wsX9_rowAnswer : List (List Cond) := [[.code yX9_rowAnswer cX9_rowAnswer 8 (some .int)], wsX9_rowAnswer_r1, wsX9_rowAnswer_r2, wsX9_rowAnswer_r3, wsX9_rowAnswer_r4, wsX90, wsX70, wsX30]
theorem zt_wsX9_rowAnswer_in : ∀ c ∈ zt_wsX9_rowAnswer, ∀ w ∈ c, w ∈ wsX9_rowAnswer := List.forall_mem_cons.mpr ⟨fun _ h => List.mem_cons.mpr (Or.inl (List.mem_singleton.mp h)), List.forall_mem_cons.mpr ⟨fun _ h => List.mem_cons_of_mem _ (List.mem_append_left _ (List.mem_append_left _ (List.mem_append_left _ (List.mem_append_left _ h)))), List.forall_mem_cons.mpr ⟨fun _ h => List.mem_cons_of_mem _ (List.mem_append_left _ (List.mem_append_left _ (List.mem_append_left _ (List.mem_append_right _ (List.mem_append_left _ h))))), List.forall_mem_cons.mpr ⟨fun _ h => List.mem_cons_of_mem _ (List.mem_append_left _ (List.mem_append_left _ (List.mem_append_left _ (List.mem_append_right _ (List.mem_append_right _ (List.mem_append_left _ h)))))), List.forall_mem_cons.mpr ⟨fun _ h => List.mem_cons_of_mem _ (List.mem_append_left _ (List.mem_append_left _ (List.mem_append_left _ (List.mem_append_right _ (List.mem_append_right _ (List.mem_append_right _ (h))))))), List.forall_mem_cons.mpr ⟨fun _ h => List.mem_cons_of_mem _ (List.mem_append_left _ (List.mem_append_left _ (List.mem_append_right _ h))), List.forall_mem_cons.mpr ⟨fun _ h => List.mem_cons_of_mem _ (List.mem_append_left _ (List.mem_append_right _ h)), List.forall_mem_cons.mpr ⟨fun _ h => List.mem_cons_of_mem _ (List.mem_append_right _ h), (fun _ h => absurd h List.not_mem_nil)⟩⟩⟩⟩⟩⟩⟩⟩
set_option maxRecDepth 20000 in
theorem ggX9_rowAnswer_X7_slipsFrom : GoodIn wsX9_rowAnswer wsX7_slipsFrom := goodIn_c zt_wsX9_rowAnswer_in _ [(1, 5), (1, 6), (1, 7), (1, 8), (1, 4), (1, 9), (1, 10), (1, 11), (1, 12), (1, 13), (1, 14), (1, 15), (1, 16), (1, 17), (1, 18), (1, 19), (1, 20), (1, 21), (1, 22), (1, 23), (2, 0), (2, 1), (2, 2), (2, 3), (2, 4), (2, 5), (2, 6), (2, 7), (2, 8), (2, 9), (2, 10), (2, 11), (2, 12), (2, 13), (2, 14), (2, 15), (2, 16), (2, 17), (2, 18), (2, 19), (6, 0), (6, 1), (6, 2), (6, 3), (6, 4), (6, 5), (6, 6)] rfl zw_wsX7_slipsFrom
set_option maxRecDepth 20000 in
theorem gX9_rowAnswer_X7_slipsFrom : GoodIn wsX9_rowAnswer (wsV RX9 110 RX7 yX7_slipsFrom wsX7_slipsFrom) := goodIn_app (goodIn_of _ (by decide +kernel)) ggX9_rowAnswer_X7_slipsFrom
set_option maxRecDepth 20000 in
theorem ggX9_rowAnswer_X3_kindsOf : GoodIn wsX9_rowAnswer wsX3_kindsOf := goodIn_c zt_wsX9_rowAnswer_in _ [(3, 0), (3, 1), (7, 0), (7, 1), (7, 2), (7, 3), (7, 4), (7, 5)] rfl zw_wsX3_kindsOf
set_option maxRecDepth 20000 in
theorem gX9_rowAnswer_X3_kindsOf : GoodIn wsX9_rowAnswer (wsV RX9 82 RX3 yX3_kindsOf wsX3_kindsOf) := goodIn_app (goodIn_of _ (by decide +kernel)) ggX9_rowAnswer_X3_kindsOf
set_option maxRecDepth 20000 in
theorem zw_wsX9_firstNearer : wsX9_firstNearer.all goodWord = true := by decide +kernel
set_option maxRecDepth 20000 in
theorem ggX9_rowAnswer_X9_firstNearer : GoodIn wsX9_rowAnswer wsX9_firstNearer := goodIn_c zt_wsX9_rowAnswer_in _ [(3, 6), (1, 0), (3, 7), (3, 8), (1, 23), (2, 0), (1, 4), (2, 1), (2, 2), (3, 9), (3, 10), (3, 11), (3, 12), (3, 13), (3, 14), (3, 15), (3, 16), (3, 17), (3, 18), (3, 19), (3, 20), (3, 21), (3, 22), (3, 23), (4, 0), (1, 16), (4, 1), (1, 18), (1, 19), (1, 20), (1, 21), (4, 2), (2, 10), (2, 11), (4, 3), (4, 4), (4, 5), (4, 6), (5, 0), (5, 1), (5, 2), (5, 3), (5, 4), (7, 0), (7, 1), (7, 2), (7, 3), (7, 4), (7, 5), (6, 0), (6, 1), (6, 2), (6, 3), (6, 4), (6, 5), (6, 6)] rfl zw_wsX9_firstNearer
set_option maxRecDepth 20000 in
theorem gX9_rowAnswer_X9_firstNearer : GoodIn wsX9_rowAnswer (wsV RX9 229 RX9 yX9_firstNearer wsX9_firstNearer) := goodIn_app (goodIn_of _ (by decide +kernel)) ggX9_rowAnswer_X9_firstNearer
set_option maxRecDepth 20000 in
theorem ggX9_rowAnswer_X6_after : GoodIn wsX9_rowAnswer wsX6_after := goodIn_c zt_wsX9_rowAnswer_in _ [(3, 22), (3, 23), (4, 0), (1, 16), (4, 1), (1, 18), (1, 19), (1, 20), (1, 21), (4, 2), (2, 10), (2, 11), (4, 3), (4, 4), (4, 5), (4, 6)] rfl zw_wsX6_after
set_option maxRecDepth 20000 in
theorem gX9_rowAnswer_X6_after : GoodIn wsX9_rowAnswer (va_wsS RX9 97 yX6_after wsX6_after) := goodIn_app (goodIn_of _ (by decide +kernel)) ggX9_rowAnswer_X6_after
theorem zo_dX9_rowAnswer_0 : ([(0, .iload 4, 2), (2, .iconst (-1), 1), (3, .if_icmp .ne 9, 3), (6, .aload_n 1, 1), (7, .iload_n 2, 1), (8, .invokevirtual 110, 3), (11, .ireturn, 1), (12, .iload 4, 2), (14, .ifCond .lt 13, 3), (17, .iload 4, 2), (19, .aload_n 1, 1), (20, .iload_n 2, 1), (21, .invokevirtual 110, 3), (24, .if_icmp .lt 6, 3), (27, .bipush (-6), 2), (29, .ireturn, 1)] : List (Nat × Instr × Nat)).all (dOk (decode cX9_rowAnswer)) = true := by decide +kernel
theorem dX9_rowAnswer_0 : decode cX9_rowAnswer 0 = .ok (.iload 4, 2) := dcr zo_dX9_rowAnswer_0 0 rfl
theorem dX9_rowAnswer_2 : decode cX9_rowAnswer 2 = .ok (.iconst (-1), 1) := dcr zo_dX9_rowAnswer_0 1 rfl
theorem dX9_rowAnswer_3 : decode cX9_rowAnswer 3 = .ok (.if_icmp .ne 9, 3) := dcr zo_dX9_rowAnswer_0 2 rfl
theorem dX9_rowAnswer_6 : decode cX9_rowAnswer 6 = .ok (.aload_n 1, 1) := dcr zo_dX9_rowAnswer_0 3 rfl
theorem dX9_rowAnswer_7 : decode cX9_rowAnswer 7 = .ok (.iload_n 2, 1) := dcr zo_dX9_rowAnswer_0 4 rfl
theorem dX9_rowAnswer_8 : decode cX9_rowAnswer 8 = .ok (.invokevirtual 110, 3) := dcr zo_dX9_rowAnswer_0 5 rfl
theorem dX9_rowAnswer_11 : decode cX9_rowAnswer 11 = .ok (.ireturn, 1) := dcr zo_dX9_rowAnswer_0 6 rfl
theorem dX9_rowAnswer_12 : decode cX9_rowAnswer 12 = .ok (.iload 4, 2) := dcr zo_dX9_rowAnswer_0 7 rfl
theorem dX9_rowAnswer_14 : decode cX9_rowAnswer 14 = .ok (.ifCond .lt 13, 3) := dcr zo_dX9_rowAnswer_0 8 rfl
theorem dX9_rowAnswer_17 : decode cX9_rowAnswer 17 = .ok (.iload 4, 2) := dcr zo_dX9_rowAnswer_0 9 rfl
theorem dX9_rowAnswer_19 : decode cX9_rowAnswer 19 = .ok (.aload_n 1, 1) := dcr zo_dX9_rowAnswer_0 10 rfl
theorem dX9_rowAnswer_20 : decode cX9_rowAnswer 20 = .ok (.iload_n 2, 1) := dcr zo_dX9_rowAnswer_0 11 rfl
theorem dX9_rowAnswer_21 : decode cX9_rowAnswer 21 = .ok (.invokevirtual 110, 3) := dcr zo_dX9_rowAnswer_0 12 rfl
theorem dX9_rowAnswer_24 : decode cX9_rowAnswer 24 = .ok (.if_icmp .lt 6, 3) := dcr zo_dX9_rowAnswer_0 13 rfl
theorem dX9_rowAnswer_27 : decode cX9_rowAnswer 27 = .ok (.bipush (-6), 2) := dcr zo_dX9_rowAnswer_0 14 rfl
theorem dX9_rowAnswer_29 : decode cX9_rowAnswer 29 = .ok (.ireturn, 1) := dcr zo_dX9_rowAnswer_0 15 rfl
theorem zo_dX9_rowAnswer_30 : ([(30, .iload_n 2, 1), (31, .istore 5, 2), (33, .bipush (-6), 2), (35, .istore 6, 2), (37, .iconst 0, 1), (38, .istore 7, 2), (40, .iload 7, 2), (42, .iload 4, 2), (44, .if_icmp .gt 35, 3), (47, .aload_n 0, 1), (48, .aload_n 1, 1), (49, .iload 5, 2), (51, .aload_n 0, 1), (52, .getfield 19, 3), (55, .iload_n 3, 1), (56, .invokevirtual 82, 3)] : List (Nat × Instr × Nat)).all (dOk (decode cX9_rowAnswer)) = true := by decide +kernel
theorem dX9_rowAnswer_30 : decode cX9_rowAnswer 30 = .ok (.iload_n 2, 1) := dcr zo_dX9_rowAnswer_30 0 rfl
theorem dX9_rowAnswer_31 : decode cX9_rowAnswer 31 = .ok (.istore 5, 2) := dcr zo_dX9_rowAnswer_30 1 rfl
theorem dX9_rowAnswer_33 : decode cX9_rowAnswer 33 = .ok (.bipush (-6), 2) := dcr zo_dX9_rowAnswer_30 2 rfl
theorem dX9_rowAnswer_35 : decode cX9_rowAnswer 35 = .ok (.istore 6, 2) := dcr zo_dX9_rowAnswer_30 3 rfl
theorem dX9_rowAnswer_37 : decode cX9_rowAnswer 37 = .ok (.iconst 0, 1) := dcr zo_dX9_rowAnswer_30 4 rfl
theorem dX9_rowAnswer_38 : decode cX9_rowAnswer 38 = .ok (.istore 7, 2) := dcr zo_dX9_rowAnswer_30 5 rfl
theorem dX9_rowAnswer_40 : decode cX9_rowAnswer 40 = .ok (.iload 7, 2) := dcr zo_dX9_rowAnswer_30 6 rfl
theorem dX9_rowAnswer_42 : decode cX9_rowAnswer 42 = .ok (.iload 4, 2) := dcr zo_dX9_rowAnswer_30 7 rfl
theorem dX9_rowAnswer_44 : decode cX9_rowAnswer 44 = .ok (.if_icmp .gt 35, 3) := dcr zo_dX9_rowAnswer_30 8 rfl
theorem dX9_rowAnswer_47 : decode cX9_rowAnswer 47 = .ok (.aload_n 0, 1) := dcr zo_dX9_rowAnswer_30 9 rfl
theorem dX9_rowAnswer_48 : decode cX9_rowAnswer 48 = .ok (.aload_n 1, 1) := dcr zo_dX9_rowAnswer_30 10 rfl
theorem dX9_rowAnswer_49 : decode cX9_rowAnswer 49 = .ok (.iload 5, 2) := dcr zo_dX9_rowAnswer_30 11 rfl
theorem dX9_rowAnswer_51 : decode cX9_rowAnswer 51 = .ok (.aload_n 0, 1) := dcr zo_dX9_rowAnswer_30 12 rfl
theorem dX9_rowAnswer_52 : decode cX9_rowAnswer 52 = .ok (.getfield 19, 3) := dcr zo_dX9_rowAnswer_30 13 rfl
theorem dX9_rowAnswer_55 : decode cX9_rowAnswer 55 = .ok (.iload_n 3, 1) := dcr zo_dX9_rowAnswer_30 14 rfl
theorem dX9_rowAnswer_56 : decode cX9_rowAnswer 56 = .ok (.invokevirtual 82, 3) := dcr zo_dX9_rowAnswer_30 15 rfl
theorem zo_dX9_rowAnswer_59 : ([(59, .invokevirtual 229, 3), (62, .istore 6, 2), (64, .iload 5, 2), (66, .iload 6, 2), (68, .invokestatic 97, 3), (71, .istore 5, 2), (73, .iinc 7 1, 3), (76, .goto (-36), 3), (79, .iload 6, 2), (81, .ireturn, 1)] : List (Nat × Instr × Nat)).all (dOk (decode cX9_rowAnswer)) = true := by decide +kernel
theorem dX9_rowAnswer_59 : decode cX9_rowAnswer 59 = .ok (.invokevirtual 229, 3) := dcr zo_dX9_rowAnswer_59 0 rfl
theorem dX9_rowAnswer_62 : decode cX9_rowAnswer 62 = .ok (.istore 6, 2) := dcr zo_dX9_rowAnswer_59 1 rfl
theorem dX9_rowAnswer_64 : decode cX9_rowAnswer 64 = .ok (.iload 5, 2) := dcr zo_dX9_rowAnswer_59 2 rfl
theorem dX9_rowAnswer_66 : decode cX9_rowAnswer 66 = .ok (.iload 6, 2) := dcr zo_dX9_rowAnswer_59 3 rfl
theorem dX9_rowAnswer_68 : decode cX9_rowAnswer 68 = .ok (.invokestatic 97, 3) := dcr zo_dX9_rowAnswer_59 4 rfl
theorem dX9_rowAnswer_71 : decode cX9_rowAnswer 71 = .ok (.istore 5, 2) := dcr zo_dX9_rowAnswer_59 5 rfl
theorem dX9_rowAnswer_73 : decode cX9_rowAnswer 73 = .ok (.iinc 7 1, 3) := dcr zo_dX9_rowAnswer_59 6 rfl
theorem dX9_rowAnswer_76 : decode cX9_rowAnswer 76 = .ok (.goto (-36), 3) := dcr zo_dX9_rowAnswer_59 7 rfl
theorem dX9_rowAnswer_79 : decode cX9_rowAnswer 79 = .ok (.iload 6, 2) := dcr zo_dX9_rowAnswer_59 8 rfl
theorem dX9_rowAnswer_81 : decode cX9_rowAnswer 81 = .ok (.ireturn, 1) := dcr zo_dX9_rowAnswer_59 9 rfl
def zt_wsX9_firstNearer : List (List Cond) := [[.code yX9_firstNearer cX9_firstNearer 7 (some .int)], wsX9_firstNearer_r1, wsX9_firstNearer_r2, wsX90, wsX30, wsX70]
theorem zt_wsX9_firstNearer_in : ∀ c ∈ zt_wsX9_firstNearer, ∀ w ∈ c, w ∈ wsX9_firstNearer := List.forall_mem_cons.mpr ⟨fun _ h => List.mem_cons.mpr (Or.inl (List.mem_singleton.mp h)), List.forall_mem_cons.mpr ⟨fun _ h => List.mem_cons_of_mem _ (List.mem_append_left _ (List.mem_append_left _ (List.mem_append_left _ (List.mem_append_left _ h)))), List.forall_mem_cons.mpr ⟨fun _ h => List.mem_cons_of_mem _ (List.mem_append_left _ (List.mem_append_left _ (List.mem_append_left _ (List.mem_append_right _ (h))))), List.forall_mem_cons.mpr ⟨fun _ h => List.mem_cons_of_mem _ (List.mem_append_left _ (List.mem_append_left _ (List.mem_append_right _ h))), List.forall_mem_cons.mpr ⟨fun _ h => List.mem_cons_of_mem _ (List.mem_append_left _ (List.mem_append_right _ h)), List.forall_mem_cons.mpr ⟨fun _ h => List.mem_cons_of_mem _ (List.mem_append_right _ h), (fun _ h => absurd h List.not_mem_nil)⟩⟩⟩⟩⟩⟩
set_option maxRecDepth 20000 in
theorem ggX9_firstNearer_X7_known : GoodIn wsX9_firstNearer wsX7_known := goodIn_c zt_wsX9_firstNearer_in _ [(1, 6), (1, 7), (5, 0), (5, 1), (5, 2), (5, 3), (5, 4), (5, 5), (5, 6)] rfl zw_wsX7_known
set_option maxRecDepth 20000 in
theorem gX9_firstNearer_X7_known : GoodIn wsX9_firstNearer (wsV RX9 233 RX7 yX7_known wsX7_known) := goodIn_app (goodIn_of _ (by decide +kernel)) ggX9_firstNearer_X7_known
set_option maxRecDepth 20000 in
theorem ggX9_firstNearer_X6_inOrder : GoodIn wsX9_firstNearer wsX6_inOrder := goodIn_c zt_wsX9_firstNearer_in _ [(1, 11), (1, 12)] rfl zw_wsX6_inOrder
set_option maxRecDepth 20000 in
theorem gX9_firstNearer_X6_inOrder : GoodIn wsX9_firstNearer (va_wsS RX9 206 yX6_inOrder wsX6_inOrder) := goodIn_app (goodIn_of _ (by decide +kernel)) ggX9_firstNearer_X6_inOrder
set_option maxRecDepth 20000 in
theorem ggX9_firstNearer_X6_isMade : GoodIn wsX9_firstNearer wsX6_isMade := goodIn_c zt_wsX9_firstNearer_in _ [(1, 15), (1, 16), (1, 17), (1, 10), (1, 18)] rfl zw_wsX6_isMade
set_option maxRecDepth 20000 in
theorem gX9_firstNearer_X6_isMade : GoodIn wsX9_firstNearer (va_wsS RX9 213 yX6_isMade wsX6_isMade) := goodIn_app (goodIn_of _ (by decide +kernel)) ggX9_firstNearer_X6_isMade
set_option maxRecDepth 20000 in
theorem ggX9_firstNearer_X6_after : GoodIn wsX9_firstNearer wsX6_after := goodIn_c zt_wsX9_firstNearer_in _ [(1, 21), (1, 22), (1, 23), (2, 0), (2, 1), (2, 2), (2, 3), (2, 4), (2, 5), (2, 6), (2, 7), (2, 8), (2, 9), (2, 10), (2, 11), (2, 12)] rfl zw_wsX6_after
set_option maxRecDepth 20000 in
theorem gX9_firstNearer_X6_after : GoodIn wsX9_firstNearer (va_wsS RX9 97 yX6_after wsX6_after) := goodIn_app (goodIn_of _ (by decide +kernel)) ggX9_firstNearer_X6_after
theorem zo_dX9_firstNearer_0 : ([(0, .aload_n 1, 1), (1, .iload_n 2, 1), (2, .invokevirtual 233, 3), (5, .iconst 1, 1), (6, .isub, 1), (7, .istore 4, 2), (9, .iconst 0, 1), (10, .istore 5, 2), (12, .iload 5, 2), (14, .bipush 40, 2), (16, .if_icmp .ge 50, 3), (19, .iload 5, 2), (21, .invokestatic 206, 3), (24, .istore 6, 2), (26, .iload 6, 2), (28, .iload_n 3, 1)] : List (Nat × Instr × Nat)).all (dOk (decode cX9_firstNearer)) = true := by decide +kernel
theorem dX9_firstNearer_0 : decode cX9_firstNearer 0 = .ok (.aload_n 1, 1) := dcr zo_dX9_firstNearer_0 0 rfl
theorem dX9_firstNearer_1 : decode cX9_firstNearer 1 = .ok (.iload_n 2, 1) := dcr zo_dX9_firstNearer_0 1 rfl
theorem dX9_firstNearer_2 : decode cX9_firstNearer 2 = .ok (.invokevirtual 233, 3) := dcr zo_dX9_firstNearer_0 2 rfl
theorem dX9_firstNearer_5 : decode cX9_firstNearer 5 = .ok (.iconst 1, 1) := dcr zo_dX9_firstNearer_0 3 rfl
theorem dX9_firstNearer_6 : decode cX9_firstNearer 6 = .ok (.isub, 1) := dcr zo_dX9_firstNearer_0 4 rfl
theorem dX9_firstNearer_7 : decode cX9_firstNearer 7 = .ok (.istore 4, 2) := dcr zo_dX9_firstNearer_0 5 rfl
theorem dX9_firstNearer_9 : decode cX9_firstNearer 9 = .ok (.iconst 0, 1) := dcr zo_dX9_firstNearer_0 6 rfl
theorem dX9_firstNearer_10 : decode cX9_firstNearer 10 = .ok (.istore 5, 2) := dcr zo_dX9_firstNearer_0 7 rfl
theorem dX9_firstNearer_12 : decode cX9_firstNearer 12 = .ok (.iload 5, 2) := dcr zo_dX9_firstNearer_0 8 rfl
theorem dX9_firstNearer_14 : decode cX9_firstNearer 14 = .ok (.bipush 40, 2) := dcr zo_dX9_firstNearer_0 9 rfl
theorem dX9_firstNearer_16 : decode cX9_firstNearer 16 = .ok (.if_icmp .ge 50, 3) := dcr zo_dX9_firstNearer_0 10 rfl
theorem dX9_firstNearer_19 : decode cX9_firstNearer 19 = .ok (.iload 5, 2) := dcr zo_dX9_firstNearer_0 11 rfl
theorem dX9_firstNearer_21 : decode cX9_firstNearer 21 = .ok (.invokestatic 206, 3) := dcr zo_dX9_firstNearer_0 12 rfl
theorem dX9_firstNearer_24 : decode cX9_firstNearer 24 = .ok (.istore 6, 2) := dcr zo_dX9_firstNearer_0 13 rfl
theorem dX9_firstNearer_26 : decode cX9_firstNearer 26 = .ok (.iload 6, 2) := dcr zo_dX9_firstNearer_0 14 rfl
theorem dX9_firstNearer_28 : decode cX9_firstNearer 28 = .ok (.iload_n 3, 1) := dcr zo_dX9_firstNearer_0 15 rfl
theorem zo_dX9_firstNearer_29 : ([(29, .aload_n 0, 1), (30, .getfield 19, 3), (33, .getfield 27, 3), (36, .invokestatic 213, 3), (39, .ifCond .eq 21, 3), (42, .aload_n 1, 1), (43, .iload_n 2, 1), (44, .iload 6, 2), (46, .invokestatic 97, 3), (49, .invokevirtual 233, 3), (52, .iload 4, 2), (54, .if_icmp .ne 6, 3), (57, .iload 6, 2), (59, .ireturn, 1), (60, .iinc 5 1, 3), (63, .goto (-51), 3)] : List (Nat × Instr × Nat)).all (dOk (decode cX9_firstNearer)) = true := by decide +kernel
theorem dX9_firstNearer_29 : decode cX9_firstNearer 29 = .ok (.aload_n 0, 1) := dcr zo_dX9_firstNearer_29 0 rfl
theorem dX9_firstNearer_30 : decode cX9_firstNearer 30 = .ok (.getfield 19, 3) := dcr zo_dX9_firstNearer_29 1 rfl
theorem dX9_firstNearer_33 : decode cX9_firstNearer 33 = .ok (.getfield 27, 3) := dcr zo_dX9_firstNearer_29 2 rfl
theorem dX9_firstNearer_36 : decode cX9_firstNearer 36 = .ok (.invokestatic 213, 3) := dcr zo_dX9_firstNearer_29 3 rfl
theorem dX9_firstNearer_39 : decode cX9_firstNearer 39 = .ok (.ifCond .eq 21, 3) := dcr zo_dX9_firstNearer_29 4 rfl
theorem dX9_firstNearer_42 : decode cX9_firstNearer 42 = .ok (.aload_n 1, 1) := dcr zo_dX9_firstNearer_29 5 rfl
theorem dX9_firstNearer_43 : decode cX9_firstNearer 43 = .ok (.iload_n 2, 1) := dcr zo_dX9_firstNearer_29 6 rfl
theorem dX9_firstNearer_44 : decode cX9_firstNearer 44 = .ok (.iload 6, 2) := dcr zo_dX9_firstNearer_29 7 rfl
theorem dX9_firstNearer_46 : decode cX9_firstNearer 46 = .ok (.invokestatic 97, 3) := dcr zo_dX9_firstNearer_29 8 rfl
theorem dX9_firstNearer_49 : decode cX9_firstNearer 49 = .ok (.invokevirtual 233, 3) := dcr zo_dX9_firstNearer_29 9 rfl
theorem dX9_firstNearer_52 : decode cX9_firstNearer 52 = .ok (.iload 4, 2) := dcr zo_dX9_firstNearer_29 10 rfl
theorem dX9_firstNearer_54 : decode cX9_firstNearer 54 = .ok (.if_icmp .ne 6, 3) := dcr zo_dX9_firstNearer_29 11 rfl
theorem dX9_firstNearer_57 : decode cX9_firstNearer 57 = .ok (.iload 6, 2) := dcr zo_dX9_firstNearer_29 12 rfl
theorem dX9_firstNearer_59 : decode cX9_firstNearer 59 = .ok (.ireturn, 1) := dcr zo_dX9_firstNearer_29 13 rfl
theorem dX9_firstNearer_60 : decode cX9_firstNearer 60 = .ok (.iinc 5 1, 3) := dcr zo_dX9_firstNearer_29 14 rfl
theorem dX9_firstNearer_63 : decode cX9_firstNearer 63 = .ok (.goto (-51), 3) := dcr zo_dX9_firstNearer_29 15 rfl
theorem zo_dX9_firstNearer_66 : ([(66, .bipush (-6), 2), (68, .ireturn, 1)] : List (Nat × Instr × Nat)).all (dOk (decode cX9_firstNearer)) = true := by decide +kernel
theorem dX9_firstNearer_66 : decode cX9_firstNearer 66 = .ok (.bipush (-6), 2) := dcr zo_dX9_firstNearer_66 0 rfl
theorem dX9_firstNearer_68 : decode cX9_firstNearer 68 = .ok (.ireturn, 1) := dcr zo_dX9_firstNearer_66 1 rfl
def zt_wsX9_goalPast : List (List Cond) := [[.code yX9_goalPast cX9_goalPast 8 (some .int)], wsX9_goalPast_r1, wsX9_goalPast_r2, wsX90, wsX30, wsX20]
theorem zt_wsX9_goalPast_in : ∀ c ∈ zt_wsX9_goalPast, ∀ w ∈ c, w ∈ wsX9_goalPast := List.forall_mem_cons.mpr ⟨fun _ h => List.mem_cons.mpr (Or.inl (List.mem_singleton.mp h)), List.forall_mem_cons.mpr ⟨fun _ h => List.mem_cons_of_mem _ (List.mem_append_left _ (List.mem_append_left _ (List.mem_append_left _ (List.mem_append_left _ h)))), List.forall_mem_cons.mpr ⟨fun _ h => List.mem_cons_of_mem _ (List.mem_append_left _ (List.mem_append_left _ (List.mem_append_left _ (List.mem_append_right _ (h))))), List.forall_mem_cons.mpr ⟨fun _ h => List.mem_cons_of_mem _ (List.mem_append_left _ (List.mem_append_left _ (List.mem_append_right _ h))), List.forall_mem_cons.mpr ⟨fun _ h => List.mem_cons_of_mem _ (List.mem_append_left _ (List.mem_append_right _ h)), List.forall_mem_cons.mpr ⟨fun _ h => List.mem_cons_of_mem _ (List.mem_append_right _ h), (fun _ h => absurd h List.not_mem_nil)⟩⟩⟩⟩⟩⟩
set_option maxRecDepth 20000 in
theorem ggX9_goalPast_X2_markAt : GoodIn wsX9_goalPast wsX2_markAt := goodIn_c zt_wsX9_goalPast_in _ [(1, 7), (1, 8), (1, 9), (1, 10), (1, 6), (1, 11), (1, 12), (1, 13), (1, 14), (1, 15), (1, 16), (1, 17), (1, 18), (5, 0), (5, 1), (5, 2)] rfl zw_wsX2_markAt
set_option maxRecDepth 20000 in
theorem gX9_goalPast_X2_markAt : GoodIn wsX9_goalPast (wsV RX9 236 RX2 yX2_markAt wsX2_markAt) := goodIn_app (goodIn_of _ (by decide +kernel)) ggX9_goalPast_X2_markAt
set_option maxRecDepth 20000 in
theorem ggX9_goalPast_X1_signAt : GoodIn wsX9_goalPast wsX1_signAt := goodIn_c zt_wsX9_goalPast_in _ [(1, 22), (1, 23), (2, 0), (1, 21), (2, 1), (2, 2), (2, 3), (2, 4), (2, 5)] rfl zw_wsX1_signAt
set_option maxRecDepth 20000 in
theorem gX9_goalPast_X1_signAt : GoodIn wsX9_goalPast (va_wsS RX9 69 yX1_signAt wsX1_signAt) := goodIn_app (goodIn_of _ (by decide +kernel)) ggX9_goalPast_X1_signAt
set_option maxRecDepth 20000 in
theorem ggX9_goalPast_X0_with : GoodIn wsX9_goalPast wsX0_with := goodIn_c zt_wsX9_goalPast_in _ [(2, 9)] rfl zw_wsX0_with
set_option maxRecDepth 20000 in
theorem gX9_goalPast_X0_with : GoodIn wsX9_goalPast (va_wsS RX9 239 yX0_with wsX0_with) := goodIn_app (goodIn_of _ (by decide +kernel)) ggX9_goalPast_X0_with
theorem zo_dX9_goalPast_0 : ([(0, .iconst 0, 1), (1, .istore_n 3, 1), (2, .iconst 0, 1), (3, .istore 4, 2), (5, .iload 4, 2), (7, .aload_n 0, 1), (8, .getfield 19, 3), (11, .getfield 27, 3), (14, .if_icmp .ge 84, 3), (17, .aload_n 0, 1), (18, .getfield 10, 3), (21, .iload 4, 2), (23, .invokevirtual 236, 3), (26, .istore 5, 2), (28, .iload_n 2, 1), (29, .iload 4, 2)] : List (Nat × Instr × Nat)).all (dOk (decode cX9_goalPast)) = true := by decide +kernel
theorem dX9_goalPast_0 : decode cX9_goalPast 0 = .ok (.iconst 0, 1) := dcr zo_dX9_goalPast_0 0 rfl
theorem dX9_goalPast_1 : decode cX9_goalPast 1 = .ok (.istore_n 3, 1) := dcr zo_dX9_goalPast_0 1 rfl
theorem dX9_goalPast_2 : decode cX9_goalPast 2 = .ok (.iconst 0, 1) := dcr zo_dX9_goalPast_0 2 rfl
theorem dX9_goalPast_3 : decode cX9_goalPast 3 = .ok (.istore 4, 2) := dcr zo_dX9_goalPast_0 3 rfl
theorem dX9_goalPast_5 : decode cX9_goalPast 5 = .ok (.iload 4, 2) := dcr zo_dX9_goalPast_0 4 rfl
theorem dX9_goalPast_7 : decode cX9_goalPast 7 = .ok (.aload_n 0, 1) := dcr zo_dX9_goalPast_0 5 rfl
theorem dX9_goalPast_8 : decode cX9_goalPast 8 = .ok (.getfield 19, 3) := dcr zo_dX9_goalPast_0 6 rfl
theorem dX9_goalPast_11 : decode cX9_goalPast 11 = .ok (.getfield 27, 3) := dcr zo_dX9_goalPast_0 7 rfl
theorem dX9_goalPast_14 : decode cX9_goalPast 14 = .ok (.if_icmp .ge 84, 3) := dcr zo_dX9_goalPast_0 8 rfl
theorem dX9_goalPast_17 : decode cX9_goalPast 17 = .ok (.aload_n 0, 1) := dcr zo_dX9_goalPast_0 9 rfl
theorem dX9_goalPast_18 : decode cX9_goalPast 18 = .ok (.getfield 10, 3) := dcr zo_dX9_goalPast_0 10 rfl
theorem dX9_goalPast_21 : decode cX9_goalPast 21 = .ok (.iload 4, 2) := dcr zo_dX9_goalPast_0 11 rfl
theorem dX9_goalPast_23 : decode cX9_goalPast 23 = .ok (.invokevirtual 236, 3) := dcr zo_dX9_goalPast_0 12 rfl
theorem dX9_goalPast_26 : decode cX9_goalPast 26 = .ok (.istore 5, 2) := dcr zo_dX9_goalPast_0 13 rfl
theorem dX9_goalPast_28 : decode cX9_goalPast 28 = .ok (.iload_n 2, 1) := dcr zo_dX9_goalPast_0 14 rfl
theorem dX9_goalPast_29 : decode cX9_goalPast 29 = .ok (.iload 4, 2) := dcr zo_dX9_goalPast_0 15 rfl
theorem zo_dX9_goalPast_31 : ([(31, .invokestatic 69, 3), (34, .istore 6, 2), (36, .iload_n 1, 1), (37, .iload 4, 2), (39, .ishr, 1), (40, .iconst 1, 1), (41, .iand, 1), (42, .ifCond .eq 7, 3), (45, .iconst 1, 1), (46, .goto 4, 3), (49, .iconst 0, 1), (50, .istore 7, 2), (52, .iload 7, 2), (54, .ifCond .eq 19, 3), (57, .iload 5, 2), (59, .iconst 5, 1)] : List (Nat × Instr × Nat)).all (dOk (decode cX9_goalPast)) = true := by decide +kernel
theorem dX9_goalPast_31 : decode cX9_goalPast 31 = .ok (.invokestatic 69, 3) := dcr zo_dX9_goalPast_31 0 rfl
theorem dX9_goalPast_34 : decode cX9_goalPast 34 = .ok (.istore 6, 2) := dcr zo_dX9_goalPast_31 1 rfl
theorem dX9_goalPast_36 : decode cX9_goalPast 36 = .ok (.iload_n 1, 1) := dcr zo_dX9_goalPast_31 2 rfl
theorem dX9_goalPast_37 : decode cX9_goalPast 37 = .ok (.iload 4, 2) := dcr zo_dX9_goalPast_31 3 rfl
theorem dX9_goalPast_39 : decode cX9_goalPast 39 = .ok (.ishr, 1) := dcr zo_dX9_goalPast_31 4 rfl
theorem dX9_goalPast_40 : decode cX9_goalPast 40 = .ok (.iconst 1, 1) := dcr zo_dX9_goalPast_31 5 rfl
theorem dX9_goalPast_41 : decode cX9_goalPast 41 = .ok (.iand, 1) := dcr zo_dX9_goalPast_31 6 rfl
theorem dX9_goalPast_42 : decode cX9_goalPast 42 = .ok (.ifCond .eq 7, 3) := dcr zo_dX9_goalPast_31 7 rfl
theorem dX9_goalPast_45 : decode cX9_goalPast 45 = .ok (.iconst 1, 1) := dcr zo_dX9_goalPast_31 8 rfl
theorem dX9_goalPast_46 : decode cX9_goalPast 46 = .ok (.goto 4, 3) := dcr zo_dX9_goalPast_31 9 rfl
theorem dX9_goalPast_49 : decode cX9_goalPast 49 = .ok (.iconst 0, 1) := dcr zo_dX9_goalPast_31 10 rfl
theorem dX9_goalPast_50 : decode cX9_goalPast 50 = .ok (.istore 7, 2) := dcr zo_dX9_goalPast_31 11 rfl
theorem dX9_goalPast_52 : decode cX9_goalPast 52 = .ok (.iload 7, 2) := dcr zo_dX9_goalPast_31 12 rfl
theorem dX9_goalPast_54 : decode cX9_goalPast 54 = .ok (.ifCond .eq 19, 3) := dcr zo_dX9_goalPast_31 13 rfl
theorem dX9_goalPast_57 : decode cX9_goalPast 57 = .ok (.iload 5, 2) := dcr zo_dX9_goalPast_31 14 rfl
theorem dX9_goalPast_59 : decode cX9_goalPast 59 = .ok (.iconst 5, 1) := dcr zo_dX9_goalPast_31 15 rfl
theorem zo_dX9_goalPast_60 : ([(60, .if_icmp .eq 13, 3), (63, .iload 5, 2), (65, .iload 6, 2), (67, .if_icmp .eq 6, 3), (70, .bipush (-6), 2), (72, .ireturn, 1), (73, .iload_n 3, 1), (74, .iload 4, 2), (76, .iload 7, 2), (78, .ifCond .eq 8, 3), (81, .iload 6, 2), (83, .goto 5, 3), (86, .iload 5, 2), (88, .invokestatic 239, 3), (91, .istore_n 3, 1), (92, .iinc 4 1, 3)] : List (Nat × Instr × Nat)).all (dOk (decode cX9_goalPast)) = true := by decide +kernel
theorem dX9_goalPast_60 : decode cX9_goalPast 60 = .ok (.if_icmp .eq 13, 3) := dcr zo_dX9_goalPast_60 0 rfl
theorem dX9_goalPast_63 : decode cX9_goalPast 63 = .ok (.iload 5, 2) := dcr zo_dX9_goalPast_60 1 rfl
theorem dX9_goalPast_65 : decode cX9_goalPast 65 = .ok (.iload 6, 2) := dcr zo_dX9_goalPast_60 2 rfl
theorem dX9_goalPast_67 : decode cX9_goalPast 67 = .ok (.if_icmp .eq 6, 3) := dcr zo_dX9_goalPast_60 3 rfl
theorem dX9_goalPast_70 : decode cX9_goalPast 70 = .ok (.bipush (-6), 2) := dcr zo_dX9_goalPast_60 4 rfl
theorem dX9_goalPast_72 : decode cX9_goalPast 72 = .ok (.ireturn, 1) := dcr zo_dX9_goalPast_60 5 rfl
theorem dX9_goalPast_73 : decode cX9_goalPast 73 = .ok (.iload_n 3, 1) := dcr zo_dX9_goalPast_60 6 rfl
theorem dX9_goalPast_74 : decode cX9_goalPast 74 = .ok (.iload 4, 2) := dcr zo_dX9_goalPast_60 7 rfl
theorem dX9_goalPast_76 : decode cX9_goalPast 76 = .ok (.iload 7, 2) := dcr zo_dX9_goalPast_60 8 rfl
theorem dX9_goalPast_78 : decode cX9_goalPast 78 = .ok (.ifCond .eq 8, 3) := dcr zo_dX9_goalPast_60 9 rfl
theorem dX9_goalPast_81 : decode cX9_goalPast 81 = .ok (.iload 6, 2) := dcr zo_dX9_goalPast_60 10 rfl
theorem dX9_goalPast_83 : decode cX9_goalPast 83 = .ok (.goto 5, 3) := dcr zo_dX9_goalPast_60 11 rfl
theorem dX9_goalPast_86 : decode cX9_goalPast 86 = .ok (.iload 5, 2) := dcr zo_dX9_goalPast_60 12 rfl
theorem dX9_goalPast_88 : decode cX9_goalPast 88 = .ok (.invokestatic 239, 3) := dcr zo_dX9_goalPast_60 13 rfl
theorem dX9_goalPast_91 : decode cX9_goalPast 91 = .ok (.istore_n 3, 1) := dcr zo_dX9_goalPast_60 14 rfl
theorem dX9_goalPast_92 : decode cX9_goalPast 92 = .ok (.iinc 4 1, 3) := dcr zo_dX9_goalPast_60 15 rfl
theorem zo_dX9_goalPast_95 : ([(95, .goto (-90), 3), (98, .iload_n 3, 1), (99, .ireturn, 1)] : List (Nat × Instr × Nat)).all (dOk (decode cX9_goalPast)) = true := by decide +kernel
theorem dX9_goalPast_95 : decode cX9_goalPast 95 = .ok (.goto (-90), 3) := dcr zo_dX9_goalPast_95 0 rfl
theorem dX9_goalPast_98 : decode cX9_goalPast 98 = .ok (.iload_n 3, 1) := dcr zo_dX9_goalPast_95 1 rfl
theorem dX9_goalPast_99 : decode cX9_goalPast 99 = .ok (.ireturn, 1) := dcr zo_dX9_goalPast_95 2 rfl
def zt_wsX9_howMany : List (List Cond) := [[.code yX9_howMany cX9_howMany 6 (some .int)], wsX9_howMany_r1, wsX9_howMany_r2, wsX90, wsX30]
theorem zt_wsX9_howMany_in : ∀ c ∈ zt_wsX9_howMany, ∀ w ∈ c, w ∈ wsX9_howMany := List.forall_mem_cons.mpr ⟨fun _ h => List.mem_cons.mpr (Or.inl (List.mem_singleton.mp h)), List.forall_mem_cons.mpr ⟨fun _ h => List.mem_cons_of_mem _ (List.mem_append_left _ (List.mem_append_left _ (List.mem_append_left _ h))), List.forall_mem_cons.mpr ⟨fun _ h => List.mem_cons_of_mem _ (List.mem_append_left _ (List.mem_append_left _ (List.mem_append_right _ (h)))), List.forall_mem_cons.mpr ⟨fun _ h => List.mem_cons_of_mem _ (List.mem_append_left _ (List.mem_append_right _ h)), List.forall_mem_cons.mpr ⟨fun _ h => List.mem_cons_of_mem _ (List.mem_append_right _ h), (fun _ h => absurd h List.not_mem_nil)⟩⟩⟩⟩⟩
set_option maxRecDepth 20000 in
theorem ggX9_howMany_X9_isOf : GoodIn wsX9_howMany wsX9_isOf := goodIn_c zt_wsX9_howMany_in _ [(1, 4), (1, 5), (1, 6), (1, 3), (1, 7)] rfl zw_wsX9_isOf
set_option maxRecDepth 20000 in
theorem gX9_howMany_X9_isOf : GoodIn wsX9_howMany (va_wsS RX9 132 yX9_isOf wsX9_isOf) := goodIn_app (goodIn_of _ (by decide +kernel)) ggX9_howMany_X9_isOf
set_option maxRecDepth 20000 in
theorem ggX9_howMany_X3_codeOf : GoodIn wsX9_howMany wsX3_codeOf := goodIn_c zt_wsX9_howMany_in _ [(1, 12), (1, 13), (4, 0), (4, 1), (4, 2), (4, 3), (4, 4), (4, 5)] rfl zw_wsX3_codeOf
set_option maxRecDepth 20000 in
theorem gX9_howMany_X3_codeOf : GoodIn wsX9_howMany (wsV RX9 65 RX3 yX3_codeOf wsX3_codeOf) := goodIn_app (goodIn_of _ (by decide +kernel)) ggX9_howMany_X3_codeOf
set_option maxRecDepth 20000 in
theorem ggX9_howMany_X1_signAt : GoodIn wsX9_howMany wsX1_signAt := goodIn_c zt_wsX9_howMany_in _ [(1, 17), (1, 18), (1, 19), (1, 16), (1, 20), (1, 21), (1, 22), (1, 23), (2, 0)] rfl zw_wsX1_signAt
set_option maxRecDepth 20000 in
theorem gX9_howMany_X1_signAt : GoodIn wsX9_howMany (va_wsS RX9 69 yX1_signAt wsX1_signAt) := goodIn_app (goodIn_of _ (by decide +kernel)) ggX9_howMany_X1_signAt
theorem zo_dX9_howMany_0 : ([(0, .iconst 0, 1), (1, .istore 4, 2), (3, .iconst 0, 1), (4, .istore 5, 2), (6, .iload 5, 2), (8, .bipush 6, 2), (10, .if_icmp .ge 38, 3), (13, .iload_n 1, 1), (14, .iload 5, 2), (16, .invokestatic 132, 3), (19, .ifCond .eq 23, 3), (22, .aload_n 0, 1), (23, .getfield 19, 3), (26, .iload 5, 2), (28, .invokevirtual 65, 3), (31, .iload_n 2, 1)] : List (Nat × Instr × Nat)).all (dOk (decode cX9_howMany)) = true := by decide +kernel
theorem dX9_howMany_0 : decode cX9_howMany 0 = .ok (.iconst 0, 1) := dcr zo_dX9_howMany_0 0 rfl
theorem dX9_howMany_1 : decode cX9_howMany 1 = .ok (.istore 4, 2) := dcr zo_dX9_howMany_0 1 rfl
theorem dX9_howMany_3 : decode cX9_howMany 3 = .ok (.iconst 0, 1) := dcr zo_dX9_howMany_0 2 rfl
theorem dX9_howMany_4 : decode cX9_howMany 4 = .ok (.istore 5, 2) := dcr zo_dX9_howMany_0 3 rfl
theorem dX9_howMany_6 : decode cX9_howMany 6 = .ok (.iload 5, 2) := dcr zo_dX9_howMany_0 4 rfl
theorem dX9_howMany_8 : decode cX9_howMany 8 = .ok (.bipush 6, 2) := dcr zo_dX9_howMany_0 5 rfl
theorem dX9_howMany_10 : decode cX9_howMany 10 = .ok (.if_icmp .ge 38, 3) := dcr zo_dX9_howMany_0 6 rfl
theorem dX9_howMany_13 : decode cX9_howMany 13 = .ok (.iload_n 1, 1) := dcr zo_dX9_howMany_0 7 rfl
theorem dX9_howMany_14 : decode cX9_howMany 14 = .ok (.iload 5, 2) := dcr zo_dX9_howMany_0 8 rfl
theorem dX9_howMany_16 : decode cX9_howMany 16 = .ok (.invokestatic 132, 3) := dcr zo_dX9_howMany_0 9 rfl
theorem dX9_howMany_19 : decode cX9_howMany 19 = .ok (.ifCond .eq 23, 3) := dcr zo_dX9_howMany_0 10 rfl
theorem dX9_howMany_22 : decode cX9_howMany 22 = .ok (.aload_n 0, 1) := dcr zo_dX9_howMany_0 11 rfl
theorem dX9_howMany_23 : decode cX9_howMany 23 = .ok (.getfield 19, 3) := dcr zo_dX9_howMany_0 12 rfl
theorem dX9_howMany_26 : decode cX9_howMany 26 = .ok (.iload 5, 2) := dcr zo_dX9_howMany_0 13 rfl
theorem dX9_howMany_28 : decode cX9_howMany 28 = .ok (.invokevirtual 65, 3) := dcr zo_dX9_howMany_0 14 rfl
theorem dX9_howMany_31 : decode cX9_howMany 31 = .ok (.iload_n 2, 1) := dcr zo_dX9_howMany_0 15 rfl
theorem zo_dX9_howMany_32 : ([(32, .invokestatic 69, 3), (35, .iload_n 3, 1), (36, .if_icmp .ne 6, 3), (39, .iinc 4 1, 3), (42, .iinc 5 1, 3), (45, .goto (-39), 3), (48, .iload 4, 2), (50, .ireturn, 1)] : List (Nat × Instr × Nat)).all (dOk (decode cX9_howMany)) = true := by decide +kernel
theorem dX9_howMany_32 : decode cX9_howMany 32 = .ok (.invokestatic 69, 3) := dcr zo_dX9_howMany_32 0 rfl
theorem dX9_howMany_35 : decode cX9_howMany 35 = .ok (.iload_n 3, 1) := dcr zo_dX9_howMany_32 1 rfl
theorem dX9_howMany_36 : decode cX9_howMany 36 = .ok (.if_icmp .ne 6, 3) := dcr zo_dX9_howMany_32 2 rfl
theorem dX9_howMany_39 : decode cX9_howMany 39 = .ok (.iinc 4 1, 3) := dcr zo_dX9_howMany_32 3 rfl
theorem dX9_howMany_42 : decode cX9_howMany 42 = .ok (.iinc 5 1, 3) := dcr zo_dX9_howMany_32 4 rfl
theorem dX9_howMany_45 : decode cX9_howMany 45 = .ok (.goto (-39), 3) := dcr zo_dX9_howMany_32 5 rfl
theorem dX9_howMany_48 : decode cX9_howMany 48 = .ok (.iload 4, 2) := dcr zo_dX9_howMany_32 6 rfl
theorem dX9_howMany_50 : decode cX9_howMany 50 = .ok (.ireturn, 1) := dcr zo_dX9_howMany_32 7 rfl
def zt_wsX9_mostAt : List (List Cond) := [[.code yX9_mostAt cX9_mostAt 5 (some .int)], wsX9_mostAt_r1, wsX9_mostAt_r2, wsX90, wsX30]
theorem zt_wsX9_mostAt_in : ∀ c ∈ zt_wsX9_mostAt, ∀ w ∈ c, w ∈ wsX9_mostAt := List.forall_mem_cons.mpr ⟨fun _ h => List.mem_cons.mpr (Or.inl (List.mem_singleton.mp h)), List.forall_mem_cons.mpr ⟨fun _ h => List.mem_cons_of_mem _ (List.mem_append_left _ (List.mem_append_left _ (List.mem_append_left _ h))), List.forall_mem_cons.mpr ⟨fun _ h => List.mem_cons_of_mem _ (List.mem_append_left _ (List.mem_append_left _ (List.mem_append_right _ (h)))), List.forall_mem_cons.mpr ⟨fun _ h => List.mem_cons_of_mem _ (List.mem_append_left _ (List.mem_append_right _ h)), List.forall_mem_cons.mpr ⟨fun _ h => List.mem_cons_of_mem _ (List.mem_append_right _ h), (fun _ h => absurd h List.not_mem_nil)⟩⟩⟩⟩⟩
set_option maxRecDepth 20000 in
theorem ggX9_mostAt_X9_howMany : GoodIn wsX9_mostAt wsX9_howMany := goodIn_c zt_wsX9_mostAt_in _ [(1, 4), (1, 5), (1, 6), (1, 7), (1, 3), (1, 8), (1, 9), (1, 10), (1, 11), (1, 12), (1, 13), (1, 14), (1, 15), (1, 16), (1, 17), (1, 18), (1, 19), (1, 20), (1, 21), (1, 22), (1, 23), (2, 0), (2, 1), (2, 2), (2, 3), (2, 4), (3, 0), (3, 1), (3, 2), (3, 3), (3, 4), (4, 0), (4, 1), (4, 2), (4, 3), (4, 4), (4, 5)] rfl zw_wsX9_howMany
set_option maxRecDepth 20000 in
theorem gX9_mostAt_X9_howMany : GoodIn wsX9_mostAt (wsV RX9 175 RX9 yX9_howMany wsX9_howMany) := goodIn_app (goodIn_of _ (by decide +kernel)) ggX9_mostAt_X9_howMany
theorem zo_dX9_mostAt_0 : ([(0, .iconst 0, 1), (1, .istore_n 3, 1), (2, .iconst 1, 1), (3, .istore 4, 2), (5, .iload 4, 2), (7, .iconst 5, 1), (8, .if_icmp .ge 30, 3), (11, .aload_n 0, 1), (12, .iload_n 1, 1), (13, .iload_n 2, 1), (14, .iload 4, 2), (16, .invokevirtual 175, 3), (19, .aload_n 0, 1), (20, .iload_n 1, 1), (21, .iload_n 2, 1), (22, .iload_n 3, 1)] : List (Nat × Instr × Nat)).all (dOk (decode cX9_mostAt)) = true := by decide +kernel
theorem dX9_mostAt_0 : decode cX9_mostAt 0 = .ok (.iconst 0, 1) := dcr zo_dX9_mostAt_0 0 rfl
theorem dX9_mostAt_1 : decode cX9_mostAt 1 = .ok (.istore_n 3, 1) := dcr zo_dX9_mostAt_0 1 rfl
theorem dX9_mostAt_2 : decode cX9_mostAt 2 = .ok (.iconst 1, 1) := dcr zo_dX9_mostAt_0 2 rfl
theorem dX9_mostAt_3 : decode cX9_mostAt 3 = .ok (.istore 4, 2) := dcr zo_dX9_mostAt_0 3 rfl
theorem dX9_mostAt_5 : decode cX9_mostAt 5 = .ok (.iload 4, 2) := dcr zo_dX9_mostAt_0 4 rfl
theorem dX9_mostAt_7 : decode cX9_mostAt 7 = .ok (.iconst 5, 1) := dcr zo_dX9_mostAt_0 5 rfl
theorem dX9_mostAt_8 : decode cX9_mostAt 8 = .ok (.if_icmp .ge 30, 3) := dcr zo_dX9_mostAt_0 6 rfl
theorem dX9_mostAt_11 : decode cX9_mostAt 11 = .ok (.aload_n 0, 1) := dcr zo_dX9_mostAt_0 7 rfl
theorem dX9_mostAt_12 : decode cX9_mostAt 12 = .ok (.iload_n 1, 1) := dcr zo_dX9_mostAt_0 8 rfl
theorem dX9_mostAt_13 : decode cX9_mostAt 13 = .ok (.iload_n 2, 1) := dcr zo_dX9_mostAt_0 9 rfl
theorem dX9_mostAt_14 : decode cX9_mostAt 14 = .ok (.iload 4, 2) := dcr zo_dX9_mostAt_0 10 rfl
theorem dX9_mostAt_16 : decode cX9_mostAt 16 = .ok (.invokevirtual 175, 3) := dcr zo_dX9_mostAt_0 11 rfl
theorem dX9_mostAt_19 : decode cX9_mostAt 19 = .ok (.aload_n 0, 1) := dcr zo_dX9_mostAt_0 12 rfl
theorem dX9_mostAt_20 : decode cX9_mostAt 20 = .ok (.iload_n 1, 1) := dcr zo_dX9_mostAt_0 13 rfl
theorem dX9_mostAt_21 : decode cX9_mostAt 21 = .ok (.iload_n 2, 1) := dcr zo_dX9_mostAt_0 14 rfl
theorem dX9_mostAt_22 : decode cX9_mostAt 22 = .ok (.iload_n 3, 1) := dcr zo_dX9_mostAt_0 15 rfl
theorem zo_dX9_mostAt_23 : ([(23, .invokevirtual 175, 3), (26, .if_icmp .le 6, 3), (29, .iload 4, 2), (31, .istore_n 3, 1), (32, .iinc 4 1, 3), (35, .goto (-30), 3), (38, .iload_n 3, 1), (39, .ireturn, 1)] : List (Nat × Instr × Nat)).all (dOk (decode cX9_mostAt)) = true := by decide +kernel
theorem dX9_mostAt_23 : decode cX9_mostAt 23 = .ok (.invokevirtual 175, 3) := dcr zo_dX9_mostAt_23 0 rfl
theorem dX9_mostAt_26 : decode cX9_mostAt 26 = .ok (.if_icmp .le 6, 3) := dcr zo_dX9_mostAt_23 1 rfl
theorem dX9_mostAt_29 : decode cX9_mostAt 29 = .ok (.iload 4, 2) := dcr zo_dX9_mostAt_23 2 rfl
theorem dX9_mostAt_31 : decode cX9_mostAt 31 = .ok (.istore_n 3, 1) := dcr zo_dX9_mostAt_23 3 rfl
theorem dX9_mostAt_32 : decode cX9_mostAt 32 = .ok (.iinc 4 1, 3) := dcr zo_dX9_mostAt_23 4 rfl
theorem dX9_mostAt_35 : decode cX9_mostAt 35 = .ok (.goto (-30), 3) := dcr zo_dX9_mostAt_23 5 rfl
theorem dX9_mostAt_38 : decode cX9_mostAt 38 = .ok (.iload_n 3, 1) := dcr zo_dX9_mostAt_23 6 rfl
theorem dX9_mostAt_39 : decode cX9_mostAt 39 = .ok (.ireturn, 1) := dcr zo_dX9_mostAt_23 7 rfl
