def zt_wsX10_init : List (List Cond) := [[.code yX10_init cX10_init 2 none], wsX10_init_r1, wsX10_init_r2, wsX100]
theorem zt_wsX10_init_in : ∀ c ∈ zt_wsX10_init, ∀ w ∈ c, w ∈ wsX10_init := List.forall_mem_cons.mpr ⟨fun _ h => List.mem_cons.mpr (Or.inl (List.mem_singleton.mp h)), List.forall_mem_cons.mpr ⟨fun _ h => List.mem_cons_of_mem _ (List.mem_append_left _ (List.mem_append_left _ h)), List.forall_mem_cons.mpr ⟨fun _ h => List.mem_cons_of_mem _ (List.mem_append_left _ (List.mem_append_right _ (h))), List.forall_mem_cons.mpr ⟨fun _ h => List.mem_cons_of_mem _ (List.mem_append_right _ h), (fun _ h => absurd h List.not_mem_nil)⟩⟩⟩⟩
set_option maxRecDepth 20000 in
theorem zw_wsX10_begin : wsX10_begin.all goodWord = true := by decide +kernel
set_option maxRecDepth 20000 in
theorem ggX10_init_X10_begin : GoodIn wsX10_init wsX10_begin := goodIn_c zt_wsX10_init_in _ [(2, 2), (2, 3), (2, 4), (2, 5), (1, 4), (2, 6), (2, 7), (2, 8), (2, 1), (2, 9), (1, 6), (3, 0), (3, 1), (3, 2), (3, 3), (3, 4), (3, 5), (3, 6), (3, 7), (3, 8), (3, 9), (3, 10), (3, 11), (3, 12), (3, 13), (3, 14), (3, 15), (3, 16), (3, 17), (3, 18), (3, 19), (3, 20), (3, 21), (3, 22), (3, 23), (3, 24), (3, 25), (3, 26), (3, 27)] rfl zw_wsX10_begin
set_option maxRecDepth 20000 in
theorem gX10_init_X10_begin : GoodIn wsX10_init (wsV RX10 63 RX10 yX10_begin wsX10_begin) := goodIn_app (goodIn_of _ (by decide +kernel)) ggX10_init_X10_begin
theorem zo_dX10_init_0 : ([(0, .aload_n 0, 1), (1, .invokespecial 1, 3), (4, .aload_n 0, 1), (5, .bipush 6, 2), (7, .newarray .int, 2), (9, .putfield 7, 3), (12, .aload_n 0, 1), (13, .iconst 4, 1), (14, .newarray .int, 2), (16, .putfield 13, 3), (19, .aload_n 0, 1), (20, .bipush 6, 2), (22, .newarray .int, 2), (24, .putfield 16, 3), (27, .aload_n 0, 1), (28, .bipush 40, 2)] : List (Nat × Instr × Nat)).all (dOk (decode cX10_init)) = true := by decide +kernel
theorem dX10_init_0 : decode cX10_init 0 = .ok (.aload_n 0, 1) := dcr zo_dX10_init_0 0 rfl
theorem dX10_init_1 : decode cX10_init 1 = .ok (.invokespecial 1, 3) := dcr zo_dX10_init_0 1 rfl
theorem dX10_init_4 : decode cX10_init 4 = .ok (.aload_n 0, 1) := dcr zo_dX10_init_0 2 rfl
theorem dX10_init_5 : decode cX10_init 5 = .ok (.bipush 6, 2) := dcr zo_dX10_init_0 3 rfl
theorem dX10_init_7 : decode cX10_init 7 = .ok (.newarray .int, 2) := dcr zo_dX10_init_0 4 rfl
theorem dX10_init_9 : decode cX10_init 9 = .ok (.putfield 7, 3) := dcr zo_dX10_init_0 5 rfl
theorem dX10_init_12 : decode cX10_init 12 = .ok (.aload_n 0, 1) := dcr zo_dX10_init_0 6 rfl
theorem dX10_init_13 : decode cX10_init 13 = .ok (.iconst 4, 1) := dcr zo_dX10_init_0 7 rfl
theorem dX10_init_14 : decode cX10_init 14 = .ok (.newarray .int, 2) := dcr zo_dX10_init_0 8 rfl
theorem dX10_init_16 : decode cX10_init 16 = .ok (.putfield 13, 3) := dcr zo_dX10_init_0 9 rfl
theorem dX10_init_19 : decode cX10_init 19 = .ok (.aload_n 0, 1) := dcr zo_dX10_init_0 10 rfl
theorem dX10_init_20 : decode cX10_init 20 = .ok (.bipush 6, 2) := dcr zo_dX10_init_0 11 rfl
theorem dX10_init_22 : decode cX10_init 22 = .ok (.newarray .int, 2) := dcr zo_dX10_init_0 12 rfl
theorem dX10_init_24 : decode cX10_init 24 = .ok (.putfield 16, 3) := dcr zo_dX10_init_0 13 rfl
theorem dX10_init_27 : decode cX10_init 27 = .ok (.aload_n 0, 1) := dcr zo_dX10_init_0 14 rfl
theorem dX10_init_28 : decode cX10_init 28 = .ok (.bipush 40, 2) := dcr zo_dX10_init_0 15 rfl
theorem zo_dX10_init_30 : ([(30, .newarray .int, 2), (32, .putfield 19, 3), (35, .aload_n 0, 1), (36, .bipush 10, 2), (38, .newarray .int, 2), (40, .putfield 22, 3), (43, .aload_n 0, 1), (44, .sipush 15625, 3), (47, .newarray .int, 2), (49, .putfield 25, 3), (52, .aload_n 0, 1), (53, .sipush 15625, 3), (56, .newarray .int, 2), (58, .putfield 28, 3), (61, .aload_n 0, 1), (62, .sipush 15625, 3)] : List (Nat × Instr × Nat)).all (dOk (decode cX10_init)) = true := by decide +kernel
theorem dX10_init_30 : decode cX10_init 30 = .ok (.newarray .int, 2) := dcr zo_dX10_init_30 0 rfl
theorem dX10_init_32 : decode cX10_init 32 = .ok (.putfield 19, 3) := dcr zo_dX10_init_30 1 rfl
theorem dX10_init_35 : decode cX10_init 35 = .ok (.aload_n 0, 1) := dcr zo_dX10_init_30 2 rfl
theorem dX10_init_36 : decode cX10_init 36 = .ok (.bipush 10, 2) := dcr zo_dX10_init_30 3 rfl
theorem dX10_init_38 : decode cX10_init 38 = .ok (.newarray .int, 2) := dcr zo_dX10_init_30 4 rfl
theorem dX10_init_40 : decode cX10_init 40 = .ok (.putfield 22, 3) := dcr zo_dX10_init_30 5 rfl
theorem dX10_init_43 : decode cX10_init 43 = .ok (.aload_n 0, 1) := dcr zo_dX10_init_30 6 rfl
theorem dX10_init_44 : decode cX10_init 44 = .ok (.sipush 15625, 3) := dcr zo_dX10_init_30 7 rfl
theorem dX10_init_47 : decode cX10_init 47 = .ok (.newarray .int, 2) := dcr zo_dX10_init_30 8 rfl
theorem dX10_init_49 : decode cX10_init 49 = .ok (.putfield 25, 3) := dcr zo_dX10_init_30 9 rfl
theorem dX10_init_52 : decode cX10_init 52 = .ok (.aload_n 0, 1) := dcr zo_dX10_init_30 10 rfl
theorem dX10_init_53 : decode cX10_init 53 = .ok (.sipush 15625, 3) := dcr zo_dX10_init_30 11 rfl
theorem dX10_init_56 : decode cX10_init 56 = .ok (.newarray .int, 2) := dcr zo_dX10_init_30 12 rfl
theorem dX10_init_58 : decode cX10_init 58 = .ok (.putfield 28, 3) := dcr zo_dX10_init_30 13 rfl
theorem dX10_init_61 : decode cX10_init 61 = .ok (.aload_n 0, 1) := dcr zo_dX10_init_30 14 rfl
theorem dX10_init_62 : decode cX10_init 62 = .ok (.sipush 15625, 3) := dcr zo_dX10_init_30 15 rfl
theorem zo_dX10_init_65 : ([(65, .newarray .int, 2), (67, .putfield 31, 3), (70, .aload_n 0, 1), (71, .sipush 15625, 3), (74, .newarray .int, 2), (76, .putfield 34, 3), (79, .aload_n 0, 1), (80, .bipush 36, 2), (82, .newarray .int, 2), (84, .putfield 37, 3), (87, .aload_n 0, 1), (88, .bipush 6, 2), (90, .newarray .int, 2), (92, .putfield 40, 3), (95, .aload_n 0, 1), (96, .bipush 6, 2)] : List (Nat × Instr × Nat)).all (dOk (decode cX10_init)) = true := by decide +kernel
theorem dX10_init_65 : decode cX10_init 65 = .ok (.newarray .int, 2) := dcr zo_dX10_init_65 0 rfl
theorem dX10_init_67 : decode cX10_init 67 = .ok (.putfield 31, 3) := dcr zo_dX10_init_65 1 rfl
theorem dX10_init_70 : decode cX10_init 70 = .ok (.aload_n 0, 1) := dcr zo_dX10_init_65 2 rfl
theorem dX10_init_71 : decode cX10_init 71 = .ok (.sipush 15625, 3) := dcr zo_dX10_init_65 3 rfl
theorem dX10_init_74 : decode cX10_init 74 = .ok (.newarray .int, 2) := dcr zo_dX10_init_65 4 rfl
theorem dX10_init_76 : decode cX10_init 76 = .ok (.putfield 34, 3) := dcr zo_dX10_init_65 5 rfl
theorem dX10_init_79 : decode cX10_init 79 = .ok (.aload_n 0, 1) := dcr zo_dX10_init_65 6 rfl
theorem dX10_init_80 : decode cX10_init 80 = .ok (.bipush 36, 2) := dcr zo_dX10_init_65 7 rfl
theorem dX10_init_82 : decode cX10_init 82 = .ok (.newarray .int, 2) := dcr zo_dX10_init_65 8 rfl
theorem dX10_init_84 : decode cX10_init 84 = .ok (.putfield 37, 3) := dcr zo_dX10_init_65 9 rfl
theorem dX10_init_87 : decode cX10_init 87 = .ok (.aload_n 0, 1) := dcr zo_dX10_init_65 10 rfl
theorem dX10_init_88 : decode cX10_init 88 = .ok (.bipush 6, 2) := dcr zo_dX10_init_65 11 rfl
theorem dX10_init_90 : decode cX10_init 90 = .ok (.newarray .int, 2) := dcr zo_dX10_init_65 12 rfl
theorem dX10_init_92 : decode cX10_init 92 = .ok (.putfield 40, 3) := dcr zo_dX10_init_65 13 rfl
theorem dX10_init_95 : decode cX10_init 95 = .ok (.aload_n 0, 1) := dcr zo_dX10_init_65 14 rfl
theorem dX10_init_96 : decode cX10_init 96 = .ok (.bipush 6, 2) := dcr zo_dX10_init_65 15 rfl
theorem zo_dX10_init_98 : ([(98, .newarray .int, 2), (100, .putfield 43, 3), (103, .aload_n 0, 1), (104, .sipush 15625, 3), (107, .newarray .int, 2), (109, .putfield 46, 3), (112, .aload_n 0, 1), (113, .sipush 15625, 3), (116, .newarray .int, 2), (118, .putfield 49, 3), (121, .aload_n 0, 1), (122, .bipush 80, 2), (124, .newarray .int, 2), (126, .putfield 52, 3), (129, .aload_n 0, 1), (130, .iconst 2, 1)] : List (Nat × Instr × Nat)).all (dOk (decode cX10_init)) = true := by decide +kernel
theorem dX10_init_98 : decode cX10_init 98 = .ok (.newarray .int, 2) := dcr zo_dX10_init_98 0 rfl
theorem dX10_init_100 : decode cX10_init 100 = .ok (.putfield 43, 3) := dcr zo_dX10_init_98 1 rfl
theorem dX10_init_103 : decode cX10_init 103 = .ok (.aload_n 0, 1) := dcr zo_dX10_init_98 2 rfl
theorem dX10_init_104 : decode cX10_init 104 = .ok (.sipush 15625, 3) := dcr zo_dX10_init_98 3 rfl
theorem dX10_init_107 : decode cX10_init 107 = .ok (.newarray .int, 2) := dcr zo_dX10_init_98 4 rfl
theorem dX10_init_109 : decode cX10_init 109 = .ok (.putfield 46, 3) := dcr zo_dX10_init_98 5 rfl
theorem dX10_init_112 : decode cX10_init 112 = .ok (.aload_n 0, 1) := dcr zo_dX10_init_98 6 rfl
theorem dX10_init_113 : decode cX10_init 113 = .ok (.sipush 15625, 3) := dcr zo_dX10_init_98 7 rfl
theorem dX10_init_116 : decode cX10_init 116 = .ok (.newarray .int, 2) := dcr zo_dX10_init_98 8 rfl
theorem dX10_init_118 : decode cX10_init 118 = .ok (.putfield 49, 3) := dcr zo_dX10_init_98 9 rfl
theorem dX10_init_121 : decode cX10_init 121 = .ok (.aload_n 0, 1) := dcr zo_dX10_init_98 10 rfl
theorem dX10_init_122 : decode cX10_init 122 = .ok (.bipush 80, 2) := dcr zo_dX10_init_98 11 rfl
theorem dX10_init_124 : decode cX10_init 124 = .ok (.newarray .int, 2) := dcr zo_dX10_init_98 12 rfl
theorem dX10_init_126 : decode cX10_init 126 = .ok (.putfield 52, 3) := dcr zo_dX10_init_98 13 rfl
theorem dX10_init_129 : decode cX10_init 129 = .ok (.aload_n 0, 1) := dcr zo_dX10_init_98 14 rfl
theorem dX10_init_130 : decode cX10_init 130 = .ok (.iconst 2, 1) := dcr zo_dX10_init_98 15 rfl
theorem zo_dX10_init_131 : ([(131, .newarray .boolean, 2), (133, .putfield 55, 3), (136, .aload_n 0, 1), (137, .iconst 1, 1), (138, .putfield 59, 3), (141, .iconst 0, 1), (142, .istore_n 1, 1), (143, .iload_n 1, 1), (144, .iconst 4, 1), (145, .if_icmp .ge 17, 3), (148, .aload_n 0, 1), (149, .getfield 13, 3), (152, .iload_n 1, 1), (153, .bipush 15, 2), (155, .iastore, 1), (156, .iinc 1 1, 3)] : List (Nat × Instr × Nat)).all (dOk (decode cX10_init)) = true := by decide +kernel
theorem dX10_init_131 : decode cX10_init 131 = .ok (.newarray .boolean, 2) := dcr zo_dX10_init_131 0 rfl
theorem dX10_init_133 : decode cX10_init 133 = .ok (.putfield 55, 3) := dcr zo_dX10_init_131 1 rfl
theorem dX10_init_136 : decode cX10_init 136 = .ok (.aload_n 0, 1) := dcr zo_dX10_init_131 2 rfl
theorem dX10_init_137 : decode cX10_init 137 = .ok (.iconst 1, 1) := dcr zo_dX10_init_131 3 rfl
theorem dX10_init_138 : decode cX10_init 138 = .ok (.putfield 59, 3) := dcr zo_dX10_init_131 4 rfl
theorem dX10_init_141 : decode cX10_init 141 = .ok (.iconst 0, 1) := dcr zo_dX10_init_131 5 rfl
theorem dX10_init_142 : decode cX10_init 142 = .ok (.istore_n 1, 1) := dcr zo_dX10_init_131 6 rfl
theorem dX10_init_143 : decode cX10_init 143 = .ok (.iload_n 1, 1) := dcr zo_dX10_init_131 7 rfl
theorem dX10_init_144 : decode cX10_init 144 = .ok (.iconst 4, 1) := dcr zo_dX10_init_131 8 rfl
theorem dX10_init_145 : decode cX10_init 145 = .ok (.if_icmp .ge 17, 3) := dcr zo_dX10_init_131 9 rfl
theorem dX10_init_148 : decode cX10_init 148 = .ok (.aload_n 0, 1) := dcr zo_dX10_init_131 10 rfl
theorem dX10_init_149 : decode cX10_init 149 = .ok (.getfield 13, 3) := dcr zo_dX10_init_131 11 rfl
theorem dX10_init_152 : decode cX10_init 152 = .ok (.iload_n 1, 1) := dcr zo_dX10_init_131 12 rfl
theorem dX10_init_153 : decode cX10_init 153 = .ok (.bipush 15, 2) := dcr zo_dX10_init_131 13 rfl
theorem dX10_init_155 : decode cX10_init 155 = .ok (.iastore, 1) := dcr zo_dX10_init_131 14 rfl
theorem dX10_init_156 : decode cX10_init 156 = .ok (.iinc 1 1, 3) := dcr zo_dX10_init_131 15 rfl
theorem zo_dX10_init_159 : ([(159, .goto (-16), 3), (162, .aload_n 0, 1), (163, .bipush 6, 2), (165, .invokevirtual 63, 3), (168, .return_, 1)] : List (Nat × Instr × Nat)).all (dOk (decode cX10_init)) = true := by decide +kernel
theorem dX10_init_159 : decode cX10_init 159 = .ok (.goto (-16), 3) := dcr zo_dX10_init_159 0 rfl
theorem dX10_init_162 : decode cX10_init 162 = .ok (.aload_n 0, 1) := dcr zo_dX10_init_159 1 rfl
theorem dX10_init_163 : decode cX10_init 163 = .ok (.bipush 6, 2) := dcr zo_dX10_init_159 2 rfl
theorem dX10_init_165 : decode cX10_init 165 = .ok (.invokevirtual 63, 3) := dcr zo_dX10_init_159 3 rfl
theorem dX10_init_168 : decode cX10_init 168 = .ok (.return_, 1) := dcr zo_dX10_init_159 4 rfl
theorem zo_dX10_in_0 : ([(0, .lload_n 0, 1), (1, .lload_n 2, 1), (2, .lcmp, 1), (3, .ifCond .lt 14, 3), (6, .lload_n 0, 1), (7, .lload 4, 2), (9, .lcmp, 1), (10, .ifCond .gt 7, 3), (13, .iconst 1, 1), (14, .goto 4, 3), (17, .iconst 0, 1), (18, .ireturn, 1)] : List (Nat × Instr × Nat)).all (dOk (decode cX10_in)) = true := by decide +kernel
theorem dX10_in_0 : decode cX10_in 0 = .ok (.lload_n 0, 1) := dcr zo_dX10_in_0 0 rfl
theorem dX10_in_1 : decode cX10_in 1 = .ok (.lload_n 2, 1) := dcr zo_dX10_in_0 1 rfl
theorem dX10_in_2 : decode cX10_in 2 = .ok (.lcmp, 1) := dcr zo_dX10_in_0 2 rfl
theorem dX10_in_3 : decode cX10_in 3 = .ok (.ifCond .lt 14, 3) := dcr zo_dX10_in_0 3 rfl
theorem dX10_in_6 : decode cX10_in 6 = .ok (.lload_n 0, 1) := dcr zo_dX10_in_0 4 rfl
theorem dX10_in_7 : decode cX10_in 7 = .ok (.lload 4, 2) := dcr zo_dX10_in_0 5 rfl
theorem dX10_in_9 : decode cX10_in 9 = .ok (.lcmp, 1) := dcr zo_dX10_in_0 6 rfl
theorem dX10_in_10 : decode cX10_in 10 = .ok (.ifCond .gt 7, 3) := dcr zo_dX10_in_0 7 rfl
theorem dX10_in_13 : decode cX10_in 13 = .ok (.iconst 1, 1) := dcr zo_dX10_in_0 8 rfl
theorem dX10_in_14 : decode cX10_in 14 = .ok (.goto 4, 3) := dcr zo_dX10_in_0 9 rfl
theorem dX10_in_17 : decode cX10_in 17 = .ok (.iconst 0, 1) := dcr zo_dX10_in_0 10 rfl
theorem dX10_in_18 : decode cX10_in 18 = .ok (.ireturn, 1) := dcr zo_dX10_in_0 11 rfl
def zt_wsX10_begin : List (List Cond) := [[.code yX10_begin cX10_begin 3 none], [.fieldLink RX10 67 "LastMapModel" "sites" "I", .fieldLink RX10 70 "LastMapModel" "told" "I", .fieldLink RX10 73 "LastMapModel" "land" "I", .fieldLink RX10 7 "LastMapModel" "maps" "[I", .methodLink RX10 76 yX10_findParts, .instanceMethod yX10_findParts, .selects RX10 yX10_findParts yX10_findParts, .initialized RX10, .code yX10_findParts cX10_findParts 3 none, .fieldLink RX10 16 "LastMapModel" "part" "[I"], wsX100]
theorem zt_wsX10_begin_in : ∀ c ∈ zt_wsX10_begin, ∀ w ∈ c, w ∈ wsX10_begin := List.forall_mem_cons.mpr ⟨fun _ h => List.mem_cons.mpr (Or.inl (List.mem_singleton.mp h)), List.forall_mem_cons.mpr ⟨fun _ h => List.mem_cons_of_mem _ (List.mem_append_left _ (h)), List.forall_mem_cons.mpr ⟨fun _ h => List.mem_cons_of_mem _ (List.mem_append_right _ h), (fun _ h => absurd h List.not_mem_nil)⟩⟩⟩
set_option maxRecDepth 20000 in
theorem zw_wsX10_findParts : wsX10_findParts.all goodWord = true := by decide +kernel
set_option maxRecDepth 20000 in
theorem ggX10_begin_X10_findParts : GoodIn wsX10_begin wsX10_findParts := goodIn_c zt_wsX10_begin_in _ [(1, 8), (1, 0), (1, 9), (2, 0), (2, 1), (2, 2), (2, 3), (2, 4), (2, 5), (2, 6), (2, 7), (2, 8), (2, 9), (2, 10), (2, 11), (2, 12), (2, 13), (2, 14), (2, 15), (2, 16), (2, 17), (2, 18), (2, 19), (2, 20), (2, 21), (2, 22), (2, 23), (2, 24), (2, 25), (2, 26), (2, 27)] rfl zw_wsX10_findParts
set_option maxRecDepth 20000 in
theorem gX10_begin_X10_findParts : GoodIn wsX10_begin (wsV RX10 76 RX10 yX10_findParts wsX10_findParts) := goodIn_app (goodIn_of _ (by decide +kernel)) ggX10_begin_X10_findParts
theorem zo_dX10_begin_0 : ([(0, .aload_n 0, 1), (1, .iload_n 1, 1), (2, .putfield 67, 3), (5, .aload_n 0, 1), (6, .iconst 0, 1), (7, .putfield 70, 3), (10, .aload_n 0, 1), (11, .iconst 0, 1), (12, .putfield 73, 3), (15, .iconst 0, 1), (16, .istore_n 2, 1), (17, .iload_n 2, 1), (18, .bipush 6, 2), (20, .if_icmp .ge 16, 3), (23, .aload_n 0, 1), (24, .getfield 7, 3)] : List (Nat × Instr × Nat)).all (dOk (decode cX10_begin)) = true := by decide +kernel
theorem dX10_begin_0 : decode cX10_begin 0 = .ok (.aload_n 0, 1) := dcr zo_dX10_begin_0 0 rfl
theorem dX10_begin_1 : decode cX10_begin 1 = .ok (.iload_n 1, 1) := dcr zo_dX10_begin_0 1 rfl
theorem dX10_begin_2 : decode cX10_begin 2 = .ok (.putfield 67, 3) := dcr zo_dX10_begin_0 2 rfl
theorem dX10_begin_5 : decode cX10_begin 5 = .ok (.aload_n 0, 1) := dcr zo_dX10_begin_0 3 rfl
theorem dX10_begin_6 : decode cX10_begin 6 = .ok (.iconst 0, 1) := dcr zo_dX10_begin_0 4 rfl
theorem dX10_begin_7 : decode cX10_begin 7 = .ok (.putfield 70, 3) := dcr zo_dX10_begin_0 5 rfl
theorem dX10_begin_10 : decode cX10_begin 10 = .ok (.aload_n 0, 1) := dcr zo_dX10_begin_0 6 rfl
theorem dX10_begin_11 : decode cX10_begin 11 = .ok (.iconst 0, 1) := dcr zo_dX10_begin_0 7 rfl
theorem dX10_begin_12 : decode cX10_begin 12 = .ok (.putfield 73, 3) := dcr zo_dX10_begin_0 8 rfl
theorem dX10_begin_15 : decode cX10_begin 15 = .ok (.iconst 0, 1) := dcr zo_dX10_begin_0 9 rfl
theorem dX10_begin_16 : decode cX10_begin 16 = .ok (.istore_n 2, 1) := dcr zo_dX10_begin_0 10 rfl
theorem dX10_begin_17 : decode cX10_begin 17 = .ok (.iload_n 2, 1) := dcr zo_dX10_begin_0 11 rfl
theorem dX10_begin_18 : decode cX10_begin 18 = .ok (.bipush 6, 2) := dcr zo_dX10_begin_0 12 rfl
theorem dX10_begin_20 : decode cX10_begin 20 = .ok (.if_icmp .ge 16, 3) := dcr zo_dX10_begin_0 13 rfl
theorem dX10_begin_23 : decode cX10_begin 23 = .ok (.aload_n 0, 1) := dcr zo_dX10_begin_0 14 rfl
theorem dX10_begin_24 : decode cX10_begin 24 = .ok (.getfield 7, 3) := dcr zo_dX10_begin_0 15 rfl
theorem zo_dX10_begin_27 : ([(27, .iload_n 2, 1), (28, .iconst 0, 1), (29, .iastore, 1), (30, .iinc 2 1, 3), (33, .goto (-16), 3), (36, .aload_n 0, 1), (37, .invokevirtual 76, 3), (40, .return_, 1)] : List (Nat × Instr × Nat)).all (dOk (decode cX10_begin)) = true := by decide +kernel
theorem dX10_begin_27 : decode cX10_begin 27 = .ok (.iload_n 2, 1) := dcr zo_dX10_begin_27 0 rfl
theorem dX10_begin_28 : decode cX10_begin 28 = .ok (.iconst 0, 1) := dcr zo_dX10_begin_27 1 rfl
theorem dX10_begin_29 : decode cX10_begin 29 = .ok (.iastore, 1) := dcr zo_dX10_begin_27 2 rfl
theorem dX10_begin_30 : decode cX10_begin 30 = .ok (.iinc 2 1, 3) := dcr zo_dX10_begin_27 3 rfl
theorem dX10_begin_33 : decode cX10_begin 33 = .ok (.goto (-16), 3) := dcr zo_dX10_begin_27 4 rfl
theorem dX10_begin_36 : decode cX10_begin 36 = .ok (.aload_n 0, 1) := dcr zo_dX10_begin_27 5 rfl
theorem dX10_begin_37 : decode cX10_begin 37 = .ok (.invokevirtual 76, 3) := dcr zo_dX10_begin_27 6 rfl
theorem dX10_begin_40 : decode cX10_begin 40 = .ok (.return_, 1) := dcr zo_dX10_begin_27 7 rfl
theorem zo_dX10_findParts_0 : ([(0, .iconst 1, 1), (1, .istore_n 1, 1), (2, .aload_n 0, 1), (3, .getfield 67, 3), (6, .iconst 1, 1), (7, .isub, 1), (8, .istore_n 2, 1), (9, .iload_n 2, 1), (10, .ifCond .lt 20, 3), (13, .aload_n 0, 1), (14, .getfield 16, 3), (17, .iload_n 2, 1), (18, .iload_n 1, 1), (19, .iastore, 1), (20, .iload_n 1, 1), (21, .iconst 5, 1)] : List (Nat × Instr × Nat)).all (dOk (decode cX10_findParts)) = true := by decide +kernel
theorem dX10_findParts_0 : decode cX10_findParts 0 = .ok (.iconst 1, 1) := dcr zo_dX10_findParts_0 0 rfl
theorem dX10_findParts_1 : decode cX10_findParts 1 = .ok (.istore_n 1, 1) := dcr zo_dX10_findParts_0 1 rfl
theorem dX10_findParts_2 : decode cX10_findParts 2 = .ok (.aload_n 0, 1) := dcr zo_dX10_findParts_0 2 rfl
theorem dX10_findParts_3 : decode cX10_findParts 3 = .ok (.getfield 67, 3) := dcr zo_dX10_findParts_0 3 rfl
theorem dX10_findParts_6 : decode cX10_findParts 6 = .ok (.iconst 1, 1) := dcr zo_dX10_findParts_0 4 rfl
theorem dX10_findParts_7 : decode cX10_findParts 7 = .ok (.isub, 1) := dcr zo_dX10_findParts_0 5 rfl
theorem dX10_findParts_8 : decode cX10_findParts 8 = .ok (.istore_n 2, 1) := dcr zo_dX10_findParts_0 6 rfl
theorem dX10_findParts_9 : decode cX10_findParts 9 = .ok (.iload_n 2, 1) := dcr zo_dX10_findParts_0 7 rfl
theorem dX10_findParts_10 : decode cX10_findParts 10 = .ok (.ifCond .lt 20, 3) := dcr zo_dX10_findParts_0 8 rfl
theorem dX10_findParts_13 : decode cX10_findParts 13 = .ok (.aload_n 0, 1) := dcr zo_dX10_findParts_0 9 rfl
theorem dX10_findParts_14 : decode cX10_findParts 14 = .ok (.getfield 16, 3) := dcr zo_dX10_findParts_0 10 rfl
theorem dX10_findParts_17 : decode cX10_findParts 17 = .ok (.iload_n 2, 1) := dcr zo_dX10_findParts_0 11 rfl
theorem dX10_findParts_18 : decode cX10_findParts 18 = .ok (.iload_n 1, 1) := dcr zo_dX10_findParts_0 12 rfl
theorem dX10_findParts_19 : decode cX10_findParts 19 = .ok (.iastore, 1) := dcr zo_dX10_findParts_0 13 rfl
theorem dX10_findParts_20 : decode cX10_findParts 20 = .ok (.iload_n 1, 1) := dcr zo_dX10_findParts_0 14 rfl
theorem dX10_findParts_21 : decode cX10_findParts 21 = .ok (.iconst 5, 1) := dcr zo_dX10_findParts_0 15 rfl
theorem zo_dX10_findParts_22 : ([(22, .imul, 1), (23, .istore_n 1, 1), (24, .iinc 2 (-1), 3), (27, .goto (-18), 3), (30, .return_, 1)] : List (Nat × Instr × Nat)).all (dOk (decode cX10_findParts)) = true := by decide +kernel
theorem dX10_findParts_22 : decode cX10_findParts 22 = .ok (.imul, 1) := dcr zo_dX10_findParts_22 0 rfl
theorem dX10_findParts_23 : decode cX10_findParts 23 = .ok (.istore_n 1, 1) := dcr zo_dX10_findParts_22 1 rfl
theorem dX10_findParts_24 : decode cX10_findParts 24 = .ok (.iinc 2 (-1), 3) := dcr zo_dX10_findParts_22 2 rfl
theorem dX10_findParts_27 : decode cX10_findParts 27 = .ok (.goto (-18), 3) := dcr zo_dX10_findParts_22 3 rfl
theorem dX10_findParts_30 : decode cX10_findParts 30 = .ok (.return_, 1) := dcr zo_dX10_findParts_22 4 rfl
theorem zo_dX10_all_0 : ([(0, .iconst 5, 1), (1, .aload_n 0, 1), (2, .getfield 16, 3), (5, .iconst 0, 1), (6, .iaload, 1), (7, .imul, 1), (8, .ireturn, 1)] : List (Nat × Instr × Nat)).all (dOk (decode cX10_all)) = true := by decide +kernel
theorem dX10_all_0 : decode cX10_all 0 = .ok (.iconst 5, 1) := dcr zo_dX10_all_0 0 rfl
theorem dX10_all_1 : decode cX10_all 1 = .ok (.aload_n 0, 1) := dcr zo_dX10_all_0 1 rfl
theorem dX10_all_2 : decode cX10_all 2 = .ok (.getfield 16, 3) := dcr zo_dX10_all_0 2 rfl
theorem dX10_all_5 : decode cX10_all 5 = .ok (.iconst 0, 1) := dcr zo_dX10_all_0 3 rfl
theorem dX10_all_6 : decode cX10_all 6 = .ok (.iaload, 1) := dcr zo_dX10_all_0 4 rfl
theorem dX10_all_7 : decode cX10_all 7 = .ok (.imul, 1) := dcr zo_dX10_all_0 5 rfl
theorem dX10_all_8 : decode cX10_all 8 = .ok (.ireturn, 1) := dcr zo_dX10_all_0 6 rfl
def zt_wsX10_isSite : List (List Cond) := [[.code yX10_isSite cX10_isSite 2 (some .boolean)], [.fieldLink RX10 67 "LastMapModel" "sites" "I", .methodLink RX10 79 yX10_in, .static yX10_in, .initialized RX10, .code yX10_in cX10_in 6 (some .boolean)], wsX100]
theorem zt_wsX10_isSite_in : ∀ c ∈ zt_wsX10_isSite, ∀ w ∈ c, w ∈ wsX10_isSite := List.forall_mem_cons.mpr ⟨fun _ h => List.mem_cons.mpr (Or.inl (List.mem_singleton.mp h)), List.forall_mem_cons.mpr ⟨fun _ h => List.mem_cons_of_mem _ (List.mem_append_left _ (h)), List.forall_mem_cons.mpr ⟨fun _ h => List.mem_cons_of_mem _ (List.mem_append_right _ h), (fun _ h => absurd h List.not_mem_nil)⟩⟩⟩
set_option maxRecDepth 20000 in
theorem zw_wsX10_in : wsX10_in.all goodWord = true := by decide +kernel
set_option maxRecDepth 20000 in
theorem ggX10_isSite_X10_in : GoodIn wsX10_isSite wsX10_in := goodIn_c zt_wsX10_isSite_in _ [(1, 4)] rfl zw_wsX10_in
set_option maxRecDepth 20000 in
theorem gX10_isSite_X10_in : GoodIn wsX10_isSite (va_wsS RX10 79 yX10_in wsX10_in) := goodIn_app (goodIn_of _ (by decide +kernel)) ggX10_isSite_X10_in
theorem zo_dX10_isSite_0 : ([(0, .iload_n 1, 1), (1, .i2l, 1), (2, .lconst 0, 1), (3, .aload_n 0, 1), (4, .getfield 67, 3), (7, .iconst 1, 1), (8, .isub, 1), (9, .i2l, 1), (10, .invokestatic 79, 3), (13, .ireturn, 1)] : List (Nat × Instr × Nat)).all (dOk (decode cX10_isSite)) = true := by decide +kernel
theorem dX10_isSite_0 : decode cX10_isSite 0 = .ok (.iload_n 1, 1) := dcr zo_dX10_isSite_0 0 rfl
theorem dX10_isSite_1 : decode cX10_isSite 1 = .ok (.i2l, 1) := dcr zo_dX10_isSite_0 1 rfl
theorem dX10_isSite_2 : decode cX10_isSite 2 = .ok (.lconst 0, 1) := dcr zo_dX10_isSite_0 2 rfl
theorem dX10_isSite_3 : decode cX10_isSite 3 = .ok (.aload_n 0, 1) := dcr zo_dX10_isSite_0 3 rfl
theorem dX10_isSite_4 : decode cX10_isSite 4 = .ok (.getfield 67, 3) := dcr zo_dX10_isSite_0 4 rfl
theorem dX10_isSite_7 : decode cX10_isSite 7 = .ok (.iconst 1, 1) := dcr zo_dX10_isSite_0 5 rfl
theorem dX10_isSite_8 : decode cX10_isSite 8 = .ok (.isub, 1) := dcr zo_dX10_isSite_0 6 rfl
theorem dX10_isSite_9 : decode cX10_isSite 9 = .ok (.i2l, 1) := dcr zo_dX10_isSite_0 7 rfl
theorem dX10_isSite_10 : decode cX10_isSite 10 = .ok (.invokestatic 79, 3) := dcr zo_dX10_isSite_0 8 rfl
theorem dX10_isSite_13 : decode cX10_isSite 13 = .ok (.ireturn, 1) := dcr zo_dX10_isSite_0 9 rfl
def zt_wsX10_isMap : List (List Cond) := [[.code yX10_isMap cX10_isMap 1 (some .boolean)], [.constantLong RX10 83 (5), .methodLink RX10 79 yX10_in, .static yX10_in, .initialized RX10, .code yX10_in cX10_in 6 (some .boolean)]]
theorem zt_wsX10_isMap_in : ∀ c ∈ zt_wsX10_isMap, ∀ w ∈ c, w ∈ wsX10_isMap := List.forall_mem_cons.mpr ⟨fun _ h => List.mem_cons.mpr (Or.inl (List.mem_singleton.mp h)), List.forall_mem_cons.mpr ⟨fun _ h => List.mem_cons_of_mem _ (h), (fun _ h => absurd h List.not_mem_nil)⟩⟩
set_option maxRecDepth 20000 in
theorem ggX10_isMap_X10_in : GoodIn wsX10_isMap wsX10_in := goodIn_c zt_wsX10_isMap_in _ [(1, 4)] rfl zw_wsX10_in
set_option maxRecDepth 20000 in
theorem gX10_isMap_X10_in : GoodIn wsX10_isMap (va_wsS RX10 79 yX10_in wsX10_in) := goodIn_app (goodIn_of _ (by decide +kernel)) ggX10_isMap_X10_in
theorem zo_dX10_isMap_0 : ([(0, .iload_n 0, 1), (1, .i2l, 1), (2, .lconst 0, 1), (3, .ldc2_w 83, 3), (6, .invokestatic 79, 3), (9, .ireturn, 1)] : List (Nat × Instr × Nat)).all (dOk (decode cX10_isMap)) = true := by decide +kernel
theorem dX10_isMap_0 : decode cX10_isMap 0 = .ok (.iload_n 0, 1) := dcr zo_dX10_isMap_0 0 rfl
theorem dX10_isMap_1 : decode cX10_isMap 1 = .ok (.i2l, 1) := dcr zo_dX10_isMap_0 1 rfl
theorem dX10_isMap_2 : decode cX10_isMap 2 = .ok (.lconst 0, 1) := dcr zo_dX10_isMap_0 2 rfl
theorem dX10_isMap_3 : decode cX10_isMap 3 = .ok (.ldc2_w 83, 3) := dcr zo_dX10_isMap_0 3 rfl
theorem dX10_isMap_6 : decode cX10_isMap 6 = .ok (.invokestatic 79, 3) := dcr zo_dX10_isMap_0 4 rfl
theorem dX10_isMap_9 : decode cX10_isMap 9 = .ok (.ireturn, 1) := dcr zo_dX10_isMap_0 5 rfl
def zt_wsX10_isHand : List (List Cond) := [[.code yX10_isHand cX10_isHand 1 (some .boolean)], [.constantLong RX10 85 (3), .methodLink RX10 79 yX10_in, .static yX10_in, .initialized RX10, .code yX10_in cX10_in 6 (some .boolean)]]
theorem zt_wsX10_isHand_in : ∀ c ∈ zt_wsX10_isHand, ∀ w ∈ c, w ∈ wsX10_isHand := List.forall_mem_cons.mpr ⟨fun _ h => List.mem_cons.mpr (Or.inl (List.mem_singleton.mp h)), List.forall_mem_cons.mpr ⟨fun _ h => List.mem_cons_of_mem _ (h), (fun _ h => absurd h List.not_mem_nil)⟩⟩
set_option maxRecDepth 20000 in
theorem ggX10_isHand_X10_in : GoodIn wsX10_isHand wsX10_in := goodIn_c zt_wsX10_isHand_in _ [(1, 4)] rfl zw_wsX10_in
set_option maxRecDepth 20000 in
theorem gX10_isHand_X10_in : GoodIn wsX10_isHand (va_wsS RX10 79 yX10_in wsX10_in) := goodIn_app (goodIn_of _ (by decide +kernel)) ggX10_isHand_X10_in
theorem zo_dX10_isHand_0 : ([(0, .iload_n 0, 1), (1, .i2l, 1), (2, .lconst 0, 1), (3, .ldc2_w 85, 3), (6, .invokestatic 79, 3), (9, .ireturn, 1)] : List (Nat × Instr × Nat)).all (dOk (decode cX10_isHand)) = true := by decide +kernel
theorem dX10_isHand_0 : decode cX10_isHand 0 = .ok (.iload_n 0, 1) := dcr zo_dX10_isHand_0 0 rfl
theorem dX10_isHand_1 : decode cX10_isHand 1 = .ok (.i2l, 1) := dcr zo_dX10_isHand_0 1 rfl
theorem dX10_isHand_2 : decode cX10_isHand 2 = .ok (.lconst 0, 1) := dcr zo_dX10_isHand_0 2 rfl
theorem dX10_isHand_3 : decode cX10_isHand 3 = .ok (.ldc2_w 85, 3) := dcr zo_dX10_isHand_0 3 rfl
theorem dX10_isHand_6 : decode cX10_isHand 6 = .ok (.invokestatic 79, 3) := dcr zo_dX10_isHand_0 4 rfl
theorem dX10_isHand_9 : decode cX10_isHand 9 = .ok (.ireturn, 1) := dcr zo_dX10_isHand_0 5 rfl
theorem zo_dX10_isTold_0 : ([(0, .aload_n 0, 1), (1, .getfield 70, 3), (4, .iload_n 1, 1), (5, .ishr, 1), (6, .iconst 1, 1), (7, .iand, 1), (8, .iconst 1, 1), (9, .if_icmp .ne 7, 3), (12, .iconst 1, 1), (13, .goto 4, 3), (16, .iconst 0, 1), (17, .ireturn, 1)] : List (Nat × Instr × Nat)).all (dOk (decode cX10_isTold)) = true := by decide +kernel
theorem dX10_isTold_0 : decode cX10_isTold 0 = .ok (.aload_n 0, 1) := dcr zo_dX10_isTold_0 0 rfl
theorem dX10_isTold_1 : decode cX10_isTold 1 = .ok (.getfield 70, 3) := dcr zo_dX10_isTold_0 1 rfl
theorem dX10_isTold_4 : decode cX10_isTold 4 = .ok (.iload_n 1, 1) := dcr zo_dX10_isTold_0 2 rfl
theorem dX10_isTold_5 : decode cX10_isTold 5 = .ok (.ishr, 1) := dcr zo_dX10_isTold_0 3 rfl
theorem dX10_isTold_6 : decode cX10_isTold 6 = .ok (.iconst 1, 1) := dcr zo_dX10_isTold_0 4 rfl
theorem dX10_isTold_7 : decode cX10_isTold 7 = .ok (.iand, 1) := dcr zo_dX10_isTold_0 5 rfl
theorem dX10_isTold_8 : decode cX10_isTold 8 = .ok (.iconst 1, 1) := dcr zo_dX10_isTold_0 6 rfl
theorem dX10_isTold_9 : decode cX10_isTold 9 = .ok (.if_icmp .ne 7, 3) := dcr zo_dX10_isTold_0 7 rfl
theorem dX10_isTold_12 : decode cX10_isTold 12 = .ok (.iconst 1, 1) := dcr zo_dX10_isTold_0 8 rfl
theorem dX10_isTold_13 : decode cX10_isTold 13 = .ok (.goto 4, 3) := dcr zo_dX10_isTold_0 9 rfl
theorem dX10_isTold_16 : decode cX10_isTold 16 = .ok (.iconst 0, 1) := dcr zo_dX10_isTold_0 10 rfl
theorem dX10_isTold_17 : decode cX10_isTold 17 = .ok (.ireturn, 1) := dcr zo_dX10_isTold_0 11 rfl
def zt_wsX10_sites : List (List Cond) := [[.code yX10_sites cX10_sites 3 (some .int)], [.constantLong RX10 87 (2), .constantLong RX10 89 (6), .fieldLink RX10 67 "LastMapModel" "sites" "I", .methodLink RX10 79 yX10_in, .static yX10_in, .initialized RX10, .code yX10_in cX10_in 6 (some .boolean), .methodLink RX10 63 yX10_begin, .instanceMethod yX10_begin, .selects RX10 yX10_begin yX10_begin, .code yX10_begin cX10_begin 3 none, .fieldLink RX10 70 "LastMapModel" "told" "I", .fieldLink RX10 73 "LastMapModel" "land" "I", .fieldLink RX10 7 "LastMapModel" "maps" "[I", .methodLink RX10 76 yX10_findParts, .instanceMethod yX10_findParts, .selects RX10 yX10_findParts yX10_findParts, .code yX10_findParts cX10_findParts 3 none, .fieldLink RX10 16 "LastMapModel" "part" "[I"], wsX100]
theorem zt_wsX10_sites_in : ∀ c ∈ zt_wsX10_sites, ∀ w ∈ c, w ∈ wsX10_sites := List.forall_mem_cons.mpr ⟨fun _ h => List.mem_cons.mpr (Or.inl (List.mem_singleton.mp h)), List.forall_mem_cons.mpr ⟨fun _ h => List.mem_cons_of_mem _ (List.mem_append_left _ (h)), List.forall_mem_cons.mpr ⟨fun _ h => List.mem_cons_of_mem _ (List.mem_append_right _ h), (fun _ h => absurd h List.not_mem_nil)⟩⟩⟩
set_option maxRecDepth 20000 in
theorem ggX10_sites_X10_in : GoodIn wsX10_sites wsX10_in := goodIn_c zt_wsX10_sites_in _ [(1, 6)] rfl zw_wsX10_in
set_option maxRecDepth 20000 in
theorem gX10_sites_X10_in : GoodIn wsX10_sites (va_wsS RX10 79 yX10_in wsX10_in) := goodIn_app (goodIn_of _ (by decide +kernel)) ggX10_sites_X10_in
set_option maxRecDepth 20000 in
theorem ggX10_sites_X10_begin : GoodIn wsX10_sites wsX10_begin := goodIn_c zt_wsX10_sites_in _ [(1, 10), (1, 2), (1, 11), (1, 12), (1, 13), (1, 14), (1, 15), (1, 16), (1, 5), (1, 17), (1, 18), (2, 0), (2, 1), (2, 2), (2, 3), (2, 4), (2, 5), (2, 6), (2, 7), (2, 8), (2, 9), (2, 10), (2, 11), (2, 12), (2, 13), (2, 14), (2, 15), (2, 16), (2, 17), (2, 18), (2, 19), (2, 20), (2, 21), (2, 22), (2, 23), (2, 24), (2, 25), (2, 26), (2, 27)] rfl zw_wsX10_begin
set_option maxRecDepth 20000 in
theorem gX10_sites_X10_begin : GoodIn wsX10_sites (wsV RX10 63 RX10 yX10_begin wsX10_begin) := goodIn_app (goodIn_of _ (by decide +kernel)) ggX10_sites_X10_begin
theorem zo_dX10_sites_0 : ([(0, .iload_n 1, 1), (1, .i2l, 1), (2, .ldc2_w 87, 3), (5, .ldc2_w 89, 3), (8, .invokestatic 79, 3), (11, .ifCond .ne 6, 3), (14, .bipush (-2), 2), (16, .ireturn, 1), (17, .aload_n 0, 1), (18, .getfield 67, 3), (21, .istore_n 2, 1), (22, .aload_n 0, 1), (23, .iload_n 1, 1), (24, .invokevirtual 63, 3), (27, .iload_n 2, 1), (28, .ireturn, 1)] : List (Nat × Instr × Nat)).all (dOk (decode cX10_sites)) = true := by decide +kernel
theorem dX10_sites_0 : decode cX10_sites 0 = .ok (.iload_n 1, 1) := dcr zo_dX10_sites_0 0 rfl
theorem dX10_sites_1 : decode cX10_sites 1 = .ok (.i2l, 1) := dcr zo_dX10_sites_0 1 rfl
theorem dX10_sites_2 : decode cX10_sites 2 = .ok (.ldc2_w 87, 3) := dcr zo_dX10_sites_0 2 rfl
theorem dX10_sites_5 : decode cX10_sites 5 = .ok (.ldc2_w 89, 3) := dcr zo_dX10_sites_0 3 rfl
theorem dX10_sites_8 : decode cX10_sites 8 = .ok (.invokestatic 79, 3) := dcr zo_dX10_sites_0 4 rfl
theorem dX10_sites_11 : decode cX10_sites 11 = .ok (.ifCond .ne 6, 3) := dcr zo_dX10_sites_0 5 rfl
theorem dX10_sites_14 : decode cX10_sites 14 = .ok (.bipush (-2), 2) := dcr zo_dX10_sites_0 6 rfl
theorem dX10_sites_16 : decode cX10_sites 16 = .ok (.ireturn, 1) := dcr zo_dX10_sites_0 7 rfl
theorem dX10_sites_17 : decode cX10_sites 17 = .ok (.aload_n 0, 1) := dcr zo_dX10_sites_0 8 rfl
theorem dX10_sites_18 : decode cX10_sites 18 = .ok (.getfield 67, 3) := dcr zo_dX10_sites_0 9 rfl
theorem dX10_sites_21 : decode cX10_sites 21 = .ok (.istore_n 2, 1) := dcr zo_dX10_sites_0 10 rfl
theorem dX10_sites_22 : decode cX10_sites 22 = .ok (.aload_n 0, 1) := dcr zo_dX10_sites_0 11 rfl
theorem dX10_sites_23 : decode cX10_sites 23 = .ok (.iload_n 1, 1) := dcr zo_dX10_sites_0 12 rfl
theorem dX10_sites_24 : decode cX10_sites 24 = .ok (.invokevirtual 63, 3) := dcr zo_dX10_sites_0 13 rfl
theorem dX10_sites_27 : decode cX10_sites 27 = .ok (.iload_n 2, 1) := dcr zo_dX10_sites_0 14 rfl
theorem dX10_sites_28 : decode cX10_sites 28 = .ok (.ireturn, 1) := dcr zo_dX10_sites_0 15 rfl
theorem zo_dX10_signAt_0 : ([(0, .iload_n 1, 1), (1, .aload_n 0, 1), (2, .getfield 16, 3), (5, .iload_n 2, 1), (6, .iaload, 1), (7, .idiv, 1), (8, .iconst 5, 1), (9, .irem, 1), (10, .ireturn, 1)] : List (Nat × Instr × Nat)).all (dOk (decode cX10_signAt)) = true := by decide +kernel
theorem dX10_signAt_0 : decode cX10_signAt 0 = .ok (.iload_n 1, 1) := dcr zo_dX10_signAt_0 0 rfl
theorem dX10_signAt_1 : decode cX10_signAt 1 = .ok (.aload_n 0, 1) := dcr zo_dX10_signAt_0 1 rfl
theorem dX10_signAt_2 : decode cX10_signAt 2 = .ok (.getfield 16, 3) := dcr zo_dX10_signAt_0 2 rfl
theorem dX10_signAt_5 : decode cX10_signAt 5 = .ok (.iload_n 2, 1) := dcr zo_dX10_signAt_0 3 rfl
theorem dX10_signAt_6 : decode cX10_signAt 6 = .ok (.iaload, 1) := dcr zo_dX10_signAt_0 4 rfl
theorem dX10_signAt_7 : decode cX10_signAt 7 = .ok (.idiv, 1) := dcr zo_dX10_signAt_0 5 rfl
theorem dX10_signAt_8 : decode cX10_signAt 8 = .ok (.iconst 5, 1) := dcr zo_dX10_signAt_0 6 rfl
theorem dX10_signAt_9 : decode cX10_signAt 9 = .ok (.irem, 1) := dcr zo_dX10_signAt_0 7 rfl
theorem dX10_signAt_10 : decode cX10_signAt 10 = .ok (.ireturn, 1) := dcr zo_dX10_signAt_0 8 rfl
def zt_wsX10_with : List (List Cond) := [[.code yX10_with cX10_with 4 (some .int)], [.fieldLink RX10 16 "LastMapModel" "part" "[I", .methodLink RX10 91 yX10_signAt, .instanceMethod yX10_signAt, .selects RX10 yX10_signAt yX10_signAt, .initialized RX10, .code yX10_signAt cX10_signAt 3 (some .int)], wsX100]
theorem zt_wsX10_with_in : ∀ c ∈ zt_wsX10_with, ∀ w ∈ c, w ∈ wsX10_with := List.forall_mem_cons.mpr ⟨fun _ h => List.mem_cons.mpr (Or.inl (List.mem_singleton.mp h)), List.forall_mem_cons.mpr ⟨fun _ h => List.mem_cons_of_mem _ (List.mem_append_left _ (h)), List.forall_mem_cons.mpr ⟨fun _ h => List.mem_cons_of_mem _ (List.mem_append_right _ h), (fun _ h => absurd h List.not_mem_nil)⟩⟩⟩
set_option maxRecDepth 20000 in
theorem zw_wsX10_signAt : wsX10_signAt.all goodWord = true := by decide +kernel
set_option maxRecDepth 20000 in
theorem ggX10_with_X10_signAt : GoodIn wsX10_with wsX10_signAt := goodIn_c zt_wsX10_with_in _ [(1, 5), (1, 0), (2, 0), (2, 1), (2, 2), (2, 3), (2, 4), (2, 5), (2, 6), (2, 7), (2, 8), (2, 9), (2, 10), (2, 11), (2, 12), (2, 13), (2, 14), (2, 15), (2, 16), (2, 17), (2, 18), (2, 19), (2, 20), (2, 21), (2, 22), (2, 23), (2, 24), (2, 25), (2, 26), (2, 27)] rfl zw_wsX10_signAt
set_option maxRecDepth 20000 in
theorem gX10_with_X10_signAt : GoodIn wsX10_with (wsV RX10 91 RX10 yX10_signAt wsX10_signAt) := goodIn_app (goodIn_of _ (by decide +kernel)) ggX10_with_X10_signAt
theorem zo_dX10_with_0 : ([(0, .iload_n 1, 1), (1, .iload_n 3, 1), (2, .aload_n 0, 1), (3, .iload_n 1, 1), (4, .iload_n 2, 1), (5, .invokevirtual 91, 3), (8, .isub, 1), (9, .aload_n 0, 1), (10, .getfield 16, 3), (13, .iload_n 2, 1), (14, .iaload, 1), (15, .imul, 1), (16, .iadd, 1), (17, .ireturn, 1)] : List (Nat × Instr × Nat)).all (dOk (decode cX10_with)) = true := by decide +kernel
theorem dX10_with_0 : decode cX10_with 0 = .ok (.iload_n 1, 1) := dcr zo_dX10_with_0 0 rfl
theorem dX10_with_1 : decode cX10_with 1 = .ok (.iload_n 3, 1) := dcr zo_dX10_with_0 1 rfl
theorem dX10_with_2 : decode cX10_with 2 = .ok (.aload_n 0, 1) := dcr zo_dX10_with_0 2 rfl
theorem dX10_with_3 : decode cX10_with 3 = .ok (.iload_n 1, 1) := dcr zo_dX10_with_0 3 rfl
theorem dX10_with_4 : decode cX10_with 4 = .ok (.iload_n 2, 1) := dcr zo_dX10_with_0 4 rfl
theorem dX10_with_5 : decode cX10_with 5 = .ok (.invokevirtual 91, 3) := dcr zo_dX10_with_0 5 rfl
theorem dX10_with_8 : decode cX10_with 8 = .ok (.isub, 1) := dcr zo_dX10_with_0 6 rfl
theorem dX10_with_9 : decode cX10_with 9 = .ok (.aload_n 0, 1) := dcr zo_dX10_with_0 7 rfl
theorem dX10_with_10 : decode cX10_with 10 = .ok (.getfield 16, 3) := dcr zo_dX10_with_0 8 rfl
theorem dX10_with_13 : decode cX10_with 13 = .ok (.iload_n 2, 1) := dcr zo_dX10_with_0 9 rfl
theorem dX10_with_14 : decode cX10_with 14 = .ok (.iaload, 1) := dcr zo_dX10_with_0 10 rfl
theorem dX10_with_15 : decode cX10_with 15 = .ok (.imul, 1) := dcr zo_dX10_with_0 11 rfl
theorem dX10_with_16 : decode cX10_with 16 = .ok (.iadd, 1) := dcr zo_dX10_with_0 12 rfl
theorem dX10_with_17 : decode cX10_with 17 = .ok (.ireturn, 1) := dcr zo_dX10_with_0 13 rfl
theorem zo_dX10_codeOf_0 : ([(0, .iload_n 0, 1), (1, .iconst 4, 1), (2, .if_icmp .ne 8, 3), (5, .bipush 45, 2), (7, .goto 7, 3), (10, .bipush 97, 2), (12, .iload_n 0, 1), (13, .iadd, 1), (14, .ireturn, 1)] : List (Nat × Instr × Nat)).all (dOk (decode cX10_codeOf)) = true := by decide +kernel
theorem dX10_codeOf_0 : decode cX10_codeOf 0 = .ok (.iload_n 0, 1) := dcr zo_dX10_codeOf_0 0 rfl
theorem dX10_codeOf_1 : decode cX10_codeOf 1 = .ok (.iconst 4, 1) := dcr zo_dX10_codeOf_0 1 rfl
theorem dX10_codeOf_2 : decode cX10_codeOf 2 = .ok (.if_icmp .ne 8, 3) := dcr zo_dX10_codeOf_0 2 rfl
theorem dX10_codeOf_5 : decode cX10_codeOf 5 = .ok (.bipush 45, 2) := dcr zo_dX10_codeOf_0 3 rfl
theorem dX10_codeOf_7 : decode cX10_codeOf 7 = .ok (.goto 7, 3) := dcr zo_dX10_codeOf_0 4 rfl
theorem dX10_codeOf_10 : decode cX10_codeOf 10 = .ok (.bipush 97, 2) := dcr zo_dX10_codeOf_0 5 rfl
theorem dX10_codeOf_12 : decode cX10_codeOf 12 = .ok (.iload_n 0, 1) := dcr zo_dX10_codeOf_0 6 rfl
theorem dX10_codeOf_13 : decode cX10_codeOf 13 = .ok (.iadd, 1) := dcr zo_dX10_codeOf_0 7 rfl
theorem dX10_codeOf_14 : decode cX10_codeOf 14 = .ok (.ireturn, 1) := dcr zo_dX10_codeOf_0 8 rfl
def zt_wsX10_signOf : List (List Cond) := [[.code yX10_signOf cX10_signOf 1 (some .int)], [.constantLong RX10 95 (97), .constantLong RX10 97 (100), .methodLink RX10 79 yX10_in, .static yX10_in, .initialized RX10, .code yX10_in cX10_in 6 (some .boolean)]]
theorem zt_wsX10_signOf_in : ∀ c ∈ zt_wsX10_signOf, ∀ w ∈ c, w ∈ wsX10_signOf := List.forall_mem_cons.mpr ⟨fun _ h => List.mem_cons.mpr (Or.inl (List.mem_singleton.mp h)), List.forall_mem_cons.mpr ⟨fun _ h => List.mem_cons_of_mem _ (h), (fun _ h => absurd h List.not_mem_nil)⟩⟩
set_option maxRecDepth 20000 in
theorem ggX10_signOf_X10_in : GoodIn wsX10_signOf wsX10_in := goodIn_c zt_wsX10_signOf_in _ [(1, 5)] rfl zw_wsX10_in
set_option maxRecDepth 20000 in
theorem gX10_signOf_X10_in : GoodIn wsX10_signOf (va_wsS RX10 79 yX10_in wsX10_in) := goodIn_app (goodIn_of _ (by decide +kernel)) ggX10_signOf_X10_in
theorem zo_dX10_signOf_0 : ([(0, .iload_n 0, 1), (1, .bipush 45, 2), (3, .if_icmp .ne 7, 3), (6, .iconst 4, 1), (7, .goto 26, 3), (10, .iload_n 0, 1), (11, .i2l, 1), (12, .ldc2_w 95, 3), (15, .ldc2_w 97, 3), (18, .invokestatic 79, 3), (21, .ifCond .eq 10, 3), (24, .iload_n 0, 1), (25, .bipush 97, 2), (27, .isub, 1), (28, .goto 5, 3), (31, .bipush (-6), 2)] : List (Nat × Instr × Nat)).all (dOk (decode cX10_signOf)) = true := by decide +kernel
theorem dX10_signOf_0 : decode cX10_signOf 0 = .ok (.iload_n 0, 1) := dcr zo_dX10_signOf_0 0 rfl
theorem dX10_signOf_1 : decode cX10_signOf 1 = .ok (.bipush 45, 2) := dcr zo_dX10_signOf_0 1 rfl
theorem dX10_signOf_3 : decode cX10_signOf 3 = .ok (.if_icmp .ne 7, 3) := dcr zo_dX10_signOf_0 2 rfl
theorem dX10_signOf_6 : decode cX10_signOf 6 = .ok (.iconst 4, 1) := dcr zo_dX10_signOf_0 3 rfl
theorem dX10_signOf_7 : decode cX10_signOf 7 = .ok (.goto 26, 3) := dcr zo_dX10_signOf_0 4 rfl
theorem dX10_signOf_10 : decode cX10_signOf 10 = .ok (.iload_n 0, 1) := dcr zo_dX10_signOf_0 5 rfl
theorem dX10_signOf_11 : decode cX10_signOf 11 = .ok (.i2l, 1) := dcr zo_dX10_signOf_0 6 rfl
theorem dX10_signOf_12 : decode cX10_signOf 12 = .ok (.ldc2_w 95, 3) := dcr zo_dX10_signOf_0 7 rfl
theorem dX10_signOf_15 : decode cX10_signOf 15 = .ok (.ldc2_w 97, 3) := dcr zo_dX10_signOf_0 8 rfl
theorem dX10_signOf_18 : decode cX10_signOf 18 = .ok (.invokestatic 79, 3) := dcr zo_dX10_signOf_0 9 rfl
theorem dX10_signOf_21 : decode cX10_signOf 21 = .ok (.ifCond .eq 10, 3) := dcr zo_dX10_signOf_0 10 rfl
theorem dX10_signOf_24 : decode cX10_signOf 24 = .ok (.iload_n 0, 1) := dcr zo_dX10_signOf_0 11 rfl
theorem dX10_signOf_25 : decode cX10_signOf 25 = .ok (.bipush 97, 2) := dcr zo_dX10_signOf_0 12 rfl
theorem dX10_signOf_27 : decode cX10_signOf 27 = .ok (.isub, 1) := dcr zo_dX10_signOf_0 13 rfl
theorem dX10_signOf_28 : decode cX10_signOf 28 = .ok (.goto 5, 3) := dcr zo_dX10_signOf_0 14 rfl
theorem dX10_signOf_31 : decode cX10_signOf 31 = .ok (.bipush (-6), 2) := dcr zo_dX10_signOf_0 15 rfl
theorem zo_dX10_signOf_33 : ([(33, .ireturn, 1)] : List (Nat × Instr × Nat)).all (dOk (decode cX10_signOf)) = true := by decide +kernel
theorem dX10_signOf_33 : decode cX10_signOf 33 = .ok (.ireturn, 1) := dcr zo_dX10_signOf_33 0 rfl
def zt_wsX10_say : List (List Cond) := [[.code yX10_say cX10_say 2 (some .int)], [.constantLong RX10 99 (33), .constantLong RX10 101 (126), .fieldLink RX10 103 "LastMapModel" "padMany" "I", .fieldLink RX10 19 "LastMapModel" "pad" "[I", .methodLink RX10 79 yX10_in, .static yX10_in, .initialized RX10, .code yX10_in cX10_in 6 (some .boolean)], wsX100]
theorem zt_wsX10_say_in : ∀ c ∈ zt_wsX10_say, ∀ w ∈ c, w ∈ wsX10_say := List.forall_mem_cons.mpr ⟨fun _ h => List.mem_cons.mpr (Or.inl (List.mem_singleton.mp h)), List.forall_mem_cons.mpr ⟨fun _ h => List.mem_cons_of_mem _ (List.mem_append_left _ (h)), List.forall_mem_cons.mpr ⟨fun _ h => List.mem_cons_of_mem _ (List.mem_append_right _ h), (fun _ h => absurd h List.not_mem_nil)⟩⟩⟩
set_option maxRecDepth 20000 in
theorem ggX10_say_X10_in : GoodIn wsX10_say wsX10_in := goodIn_c zt_wsX10_say_in _ [(1, 7)] rfl zw_wsX10_in
set_option maxRecDepth 20000 in
theorem gX10_say_X10_in : GoodIn wsX10_say (va_wsS RX10 79 yX10_in wsX10_in) := goodIn_app (goodIn_of _ (by decide +kernel)) ggX10_say_X10_in
theorem zo_dX10_say_0 : ([(0, .iload_n 1, 1), (1, .i2l, 1), (2, .ldc2_w 99, 3), (5, .ldc2_w 101, 3), (8, .invokestatic 79, 3), (11, .ifCond .ne 6, 3), (14, .bipush (-2), 2), (16, .ireturn, 1), (17, .aload_n 0, 1), (18, .getfield 103, 3), (21, .bipush 40, 2), (23, .if_icmp .ne 6, 3), (26, .bipush (-4), 2), (28, .ireturn, 1), (29, .aload_n 0, 1), (30, .getfield 19, 3)] : List (Nat × Instr × Nat)).all (dOk (decode cX10_say)) = true := by decide +kernel
theorem dX10_say_0 : decode cX10_say 0 = .ok (.iload_n 1, 1) := dcr zo_dX10_say_0 0 rfl
theorem dX10_say_1 : decode cX10_say 1 = .ok (.i2l, 1) := dcr zo_dX10_say_0 1 rfl
theorem dX10_say_2 : decode cX10_say 2 = .ok (.ldc2_w 99, 3) := dcr zo_dX10_say_0 2 rfl
theorem dX10_say_5 : decode cX10_say 5 = .ok (.ldc2_w 101, 3) := dcr zo_dX10_say_0 3 rfl
theorem dX10_say_8 : decode cX10_say 8 = .ok (.invokestatic 79, 3) := dcr zo_dX10_say_0 4 rfl
theorem dX10_say_11 : decode cX10_say 11 = .ok (.ifCond .ne 6, 3) := dcr zo_dX10_say_0 5 rfl
theorem dX10_say_14 : decode cX10_say 14 = .ok (.bipush (-2), 2) := dcr zo_dX10_say_0 6 rfl
theorem dX10_say_16 : decode cX10_say 16 = .ok (.ireturn, 1) := dcr zo_dX10_say_0 7 rfl
theorem dX10_say_17 : decode cX10_say 17 = .ok (.aload_n 0, 1) := dcr zo_dX10_say_0 8 rfl
theorem dX10_say_18 : decode cX10_say 18 = .ok (.getfield 103, 3) := dcr zo_dX10_say_0 9 rfl
theorem dX10_say_21 : decode cX10_say 21 = .ok (.bipush 40, 2) := dcr zo_dX10_say_0 10 rfl
theorem dX10_say_23 : decode cX10_say 23 = .ok (.if_icmp .ne 6, 3) := dcr zo_dX10_say_0 11 rfl
theorem dX10_say_26 : decode cX10_say 26 = .ok (.bipush (-4), 2) := dcr zo_dX10_say_0 12 rfl
theorem dX10_say_28 : decode cX10_say 28 = .ok (.ireturn, 1) := dcr zo_dX10_say_0 13 rfl
theorem dX10_say_29 : decode cX10_say 29 = .ok (.aload_n 0, 1) := dcr zo_dX10_say_0 14 rfl
theorem dX10_say_30 : decode cX10_say 30 = .ok (.getfield 19, 3) := dcr zo_dX10_say_0 15 rfl
theorem zo_dX10_say_33 : ([(33, .aload_n 0, 1), (34, .getfield 103, 3), (37, .iload_n 1, 1), (38, .iastore, 1), (39, .aload_n 0, 1), (40, .dup, 1), (41, .getfield 103, 3), (44, .iconst 1, 1), (45, .iadd, 1), (46, .putfield 103, 3), (49, .aload_n 0, 1), (50, .getfield 103, 3), (53, .ireturn, 1)] : List (Nat × Instr × Nat)).all (dOk (decode cX10_say)) = true := by decide +kernel
theorem dX10_say_33 : decode cX10_say 33 = .ok (.aload_n 0, 1) := dcr zo_dX10_say_33 0 rfl
theorem dX10_say_34 : decode cX10_say 34 = .ok (.getfield 103, 3) := dcr zo_dX10_say_33 1 rfl
theorem dX10_say_37 : decode cX10_say 37 = .ok (.iload_n 1, 1) := dcr zo_dX10_say_33 2 rfl
theorem dX10_say_38 : decode cX10_say 38 = .ok (.iastore, 1) := dcr zo_dX10_say_33 3 rfl
theorem dX10_say_39 : decode cX10_say 39 = .ok (.aload_n 0, 1) := dcr zo_dX10_say_33 4 rfl
theorem dX10_say_40 : decode cX10_say 40 = .ok (.dup, 1) := dcr zo_dX10_say_33 5 rfl
theorem dX10_say_41 : decode cX10_say 41 = .ok (.getfield 103, 3) := dcr zo_dX10_say_33 6 rfl
theorem dX10_say_44 : decode cX10_say 44 = .ok (.iconst 1, 1) := dcr zo_dX10_say_33 7 rfl
theorem dX10_say_45 : decode cX10_say 45 = .ok (.iadd, 1) := dcr zo_dX10_say_33 8 rfl
theorem dX10_say_46 : decode cX10_say 46 = .ok (.putfield 103, 3) := dcr zo_dX10_say_33 9 rfl
theorem dX10_say_49 : decode cX10_say 49 = .ok (.aload_n 0, 1) := dcr zo_dX10_say_33 10 rfl
theorem dX10_say_50 : decode cX10_say 50 = .ok (.getfield 103, 3) := dcr zo_dX10_say_33 11 rfl
theorem dX10_say_53 : decode cX10_say 53 = .ok (.ireturn, 1) := dcr zo_dX10_say_33 12 rfl
theorem zo_dX10_wipe_0 : ([(0, .aload_n 0, 1), (1, .getfield 103, 3), (4, .istore_n 1, 1), (5, .aload_n 0, 1), (6, .iconst 0, 1), (7, .putfield 103, 3), (10, .iload_n 1, 1), (11, .ireturn, 1)] : List (Nat × Instr × Nat)).all (dOk (decode cX10_wipe)) = true := by decide +kernel
theorem dX10_wipe_0 : decode cX10_wipe 0 = .ok (.aload_n 0, 1) := dcr zo_dX10_wipe_0 0 rfl
theorem dX10_wipe_1 : decode cX10_wipe 1 = .ok (.getfield 103, 3) := dcr zo_dX10_wipe_0 1 rfl
theorem dX10_wipe_4 : decode cX10_wipe 4 = .ok (.istore_n 1, 1) := dcr zo_dX10_wipe_0 2 rfl
theorem dX10_wipe_5 : decode cX10_wipe 5 = .ok (.aload_n 0, 1) := dcr zo_dX10_wipe_0 3 rfl
theorem dX10_wipe_6 : decode cX10_wipe 6 = .ok (.iconst 0, 1) := dcr zo_dX10_wipe_0 4 rfl
theorem dX10_wipe_7 : decode cX10_wipe 7 = .ok (.putfield 103, 3) := dcr zo_dX10_wipe_0 5 rfl
theorem dX10_wipe_10 : decode cX10_wipe 10 = .ok (.iload_n 1, 1) := dcr zo_dX10_wipe_0 6 rfl
theorem dX10_wipe_11 : decode cX10_wipe 11 = .ok (.ireturn, 1) := dcr zo_dX10_wipe_0 7 rfl
def zt_wsX10_faultOfMap : List (List Cond) := [[.code yX10_faultOfMap cX10_faultOfMap 4 (some .int)], [.fieldLink RX10 103 "LastMapModel" "padMany" "I", .fieldLink RX10 19 "LastMapModel" "pad" "[I", .fieldLink RX10 67 "LastMapModel" "sites" "I", .methodLink RX10 106 yX10_signOf, .static yX10_signOf, .initialized RX10, .code yX10_signOf cX10_signOf 1 (some .int), .constantLong RX10 95 (97), .constantLong RX10 97 (100), .methodLink RX10 79 yX10_in, .static yX10_in, .code yX10_in cX10_in 6 (some .boolean)], wsX100]
theorem zt_wsX10_faultOfMap_in : ∀ c ∈ zt_wsX10_faultOfMap, ∀ w ∈ c, w ∈ wsX10_faultOfMap := List.forall_mem_cons.mpr ⟨fun _ h => List.mem_cons.mpr (Or.inl (List.mem_singleton.mp h)), List.forall_mem_cons.mpr ⟨fun _ h => List.mem_cons_of_mem _ (List.mem_append_left _ (h)), List.forall_mem_cons.mpr ⟨fun _ h => List.mem_cons_of_mem _ (List.mem_append_right _ h), (fun _ h => absurd h List.not_mem_nil)⟩⟩⟩
set_option maxRecDepth 20000 in
theorem zw_wsX10_signOf : wsX10_signOf.all goodWord = true := by decide +kernel
set_option maxRecDepth 20000 in
theorem ggX10_faultOfMap_X10_signOf : GoodIn wsX10_faultOfMap wsX10_signOf := goodIn_c zt_wsX10_faultOfMap_in _ [(1, 6), (1, 7), (1, 8), (1, 9), (1, 10), (1, 5), (1, 11)] rfl zw_wsX10_signOf
set_option maxRecDepth 20000 in
theorem gX10_faultOfMap_X10_signOf : GoodIn wsX10_faultOfMap (va_wsS RX10 106 yX10_signOf wsX10_signOf) := goodIn_app (goodIn_of _ (by decide +kernel)) ggX10_faultOfMap_X10_signOf
theorem zo_dX10_faultOfMap_0 : ([(0, .iconst 0, 1), (1, .istore_n 2, 1), (2, .iload_n 2, 1), (3, .aload_n 0, 1), (4, .getfield 103, 3), (7, .if_icmp .ge 56, 3), (10, .aload_n 0, 1), (11, .getfield 19, 3), (14, .iload_n 2, 1), (15, .iaload, 1), (16, .invokestatic 106, 3), (19, .ifCond .ge 18, 3), (22, .iload_n 1, 1), (23, .ifCond .eq 18, 3), (26, .aload_n 0, 1), (27, .getfield 19, 3)] : List (Nat × Instr × Nat)).all (dOk (decode cX10_faultOfMap)) = true := by decide +kernel
theorem dX10_faultOfMap_0 : decode cX10_faultOfMap 0 = .ok (.iconst 0, 1) := dcr zo_dX10_faultOfMap_0 0 rfl
theorem dX10_faultOfMap_1 : decode cX10_faultOfMap 1 = .ok (.istore_n 2, 1) := dcr zo_dX10_faultOfMap_0 1 rfl
theorem dX10_faultOfMap_2 : decode cX10_faultOfMap 2 = .ok (.iload_n 2, 1) := dcr zo_dX10_faultOfMap_0 2 rfl
theorem dX10_faultOfMap_3 : decode cX10_faultOfMap 3 = .ok (.aload_n 0, 1) := dcr zo_dX10_faultOfMap_0 3 rfl
theorem dX10_faultOfMap_4 : decode cX10_faultOfMap 4 = .ok (.getfield 103, 3) := dcr zo_dX10_faultOfMap_0 4 rfl
theorem dX10_faultOfMap_7 : decode cX10_faultOfMap 7 = .ok (.if_icmp .ge 56, 3) := dcr zo_dX10_faultOfMap_0 5 rfl
theorem dX10_faultOfMap_10 : decode cX10_faultOfMap 10 = .ok (.aload_n 0, 1) := dcr zo_dX10_faultOfMap_0 6 rfl
theorem dX10_faultOfMap_11 : decode cX10_faultOfMap 11 = .ok (.getfield 19, 3) := dcr zo_dX10_faultOfMap_0 7 rfl
theorem dX10_faultOfMap_14 : decode cX10_faultOfMap 14 = .ok (.iload_n 2, 1) := dcr zo_dX10_faultOfMap_0 8 rfl
theorem dX10_faultOfMap_15 : decode cX10_faultOfMap 15 = .ok (.iaload, 1) := dcr zo_dX10_faultOfMap_0 9 rfl
theorem dX10_faultOfMap_16 : decode cX10_faultOfMap 16 = .ok (.invokestatic 106, 3) := dcr zo_dX10_faultOfMap_0 10 rfl
theorem dX10_faultOfMap_19 : decode cX10_faultOfMap 19 = .ok (.ifCond .ge 18, 3) := dcr zo_dX10_faultOfMap_0 11 rfl
theorem dX10_faultOfMap_22 : decode cX10_faultOfMap 22 = .ok (.iload_n 1, 1) := dcr zo_dX10_faultOfMap_0 12 rfl
theorem dX10_faultOfMap_23 : decode cX10_faultOfMap 23 = .ok (.ifCond .eq 18, 3) := dcr zo_dX10_faultOfMap_0 13 rfl
theorem dX10_faultOfMap_26 : decode cX10_faultOfMap 26 = .ok (.aload_n 0, 1) := dcr zo_dX10_faultOfMap_0 14 rfl
theorem dX10_faultOfMap_27 : decode cX10_faultOfMap 27 = .ok (.getfield 19, 3) := dcr zo_dX10_faultOfMap_0 15 rfl
theorem zo_dX10_faultOfMap_30 : ([(30, .iload_n 2, 1), (31, .iaload, 1), (32, .bipush 63, 2), (34, .if_icmp .ne 7, 3), (37, .iconst 1, 1), (38, .goto 4, 3), (41, .iconst 0, 1), (42, .istore_n 3, 1), (43, .iload_n 2, 1), (44, .aload_n 0, 1), (45, .getfield 67, 3), (48, .if_icmp .eq 7, 3), (51, .iload_n 3, 1), (52, .ifCond .ne 5, 3), (55, .iload_n 2, 1), (56, .ireturn, 1)] : List (Nat × Instr × Nat)).all (dOk (decode cX10_faultOfMap)) = true := by decide +kernel
theorem dX10_faultOfMap_30 : decode cX10_faultOfMap 30 = .ok (.iload_n 2, 1) := dcr zo_dX10_faultOfMap_30 0 rfl
theorem dX10_faultOfMap_31 : decode cX10_faultOfMap 31 = .ok (.iaload, 1) := dcr zo_dX10_faultOfMap_30 1 rfl
theorem dX10_faultOfMap_32 : decode cX10_faultOfMap 32 = .ok (.bipush 63, 2) := dcr zo_dX10_faultOfMap_30 2 rfl
theorem dX10_faultOfMap_34 : decode cX10_faultOfMap 34 = .ok (.if_icmp .ne 7, 3) := dcr zo_dX10_faultOfMap_30 3 rfl
theorem dX10_faultOfMap_37 : decode cX10_faultOfMap 37 = .ok (.iconst 1, 1) := dcr zo_dX10_faultOfMap_30 4 rfl
theorem dX10_faultOfMap_38 : decode cX10_faultOfMap 38 = .ok (.goto 4, 3) := dcr zo_dX10_faultOfMap_30 5 rfl
theorem dX10_faultOfMap_41 : decode cX10_faultOfMap 41 = .ok (.iconst 0, 1) := dcr zo_dX10_faultOfMap_30 6 rfl
theorem dX10_faultOfMap_42 : decode cX10_faultOfMap 42 = .ok (.istore_n 3, 1) := dcr zo_dX10_faultOfMap_30 7 rfl
theorem dX10_faultOfMap_43 : decode cX10_faultOfMap 43 = .ok (.iload_n 2, 1) := dcr zo_dX10_faultOfMap_30 8 rfl
theorem dX10_faultOfMap_44 : decode cX10_faultOfMap 44 = .ok (.aload_n 0, 1) := dcr zo_dX10_faultOfMap_30 9 rfl
theorem dX10_faultOfMap_45 : decode cX10_faultOfMap 45 = .ok (.getfield 67, 3) := dcr zo_dX10_faultOfMap_30 10 rfl
theorem dX10_faultOfMap_48 : decode cX10_faultOfMap 48 = .ok (.if_icmp .eq 7, 3) := dcr zo_dX10_faultOfMap_30 11 rfl
theorem dX10_faultOfMap_51 : decode cX10_faultOfMap 51 = .ok (.iload_n 3, 1) := dcr zo_dX10_faultOfMap_30 12 rfl
theorem dX10_faultOfMap_52 : decode cX10_faultOfMap 52 = .ok (.ifCond .ne 5, 3) := dcr zo_dX10_faultOfMap_30 13 rfl
theorem dX10_faultOfMap_55 : decode cX10_faultOfMap 55 = .ok (.iload_n 2, 1) := dcr zo_dX10_faultOfMap_30 14 rfl
theorem dX10_faultOfMap_56 : decode cX10_faultOfMap 56 = .ok (.ireturn, 1) := dcr zo_dX10_faultOfMap_30 15 rfl
theorem zo_dX10_faultOfMap_57 : ([(57, .iinc 2 1, 3), (60, .goto (-58), 3), (63, .aload_n 0, 1), (64, .getfield 103, 3), (67, .aload_n 0, 1), (68, .getfield 67, 3), (71, .if_icmp .ge 10, 3), (74, .aload_n 0, 1), (75, .getfield 103, 3), (78, .goto 5, 3), (81, .bipush (-6), 2), (83, .ireturn, 1)] : List (Nat × Instr × Nat)).all (dOk (decode cX10_faultOfMap)) = true := by decide +kernel
theorem dX10_faultOfMap_57 : decode cX10_faultOfMap 57 = .ok (.iinc 2 1, 3) := dcr zo_dX10_faultOfMap_57 0 rfl
theorem dX10_faultOfMap_60 : decode cX10_faultOfMap 60 = .ok (.goto (-58), 3) := dcr zo_dX10_faultOfMap_57 1 rfl
theorem dX10_faultOfMap_63 : decode cX10_faultOfMap 63 = .ok (.aload_n 0, 1) := dcr zo_dX10_faultOfMap_57 2 rfl
theorem dX10_faultOfMap_64 : decode cX10_faultOfMap 64 = .ok (.getfield 103, 3) := dcr zo_dX10_faultOfMap_57 3 rfl
theorem dX10_faultOfMap_67 : decode cX10_faultOfMap 67 = .ok (.aload_n 0, 1) := dcr zo_dX10_faultOfMap_57 4 rfl
theorem dX10_faultOfMap_68 : decode cX10_faultOfMap 68 = .ok (.getfield 67, 3) := dcr zo_dX10_faultOfMap_57 5 rfl
theorem dX10_faultOfMap_71 : decode cX10_faultOfMap 71 = .ok (.if_icmp .ge 10, 3) := dcr zo_dX10_faultOfMap_57 6 rfl
theorem dX10_faultOfMap_74 : decode cX10_faultOfMap 74 = .ok (.aload_n 0, 1) := dcr zo_dX10_faultOfMap_57 7 rfl
theorem dX10_faultOfMap_75 : decode cX10_faultOfMap 75 = .ok (.getfield 103, 3) := dcr zo_dX10_faultOfMap_57 8 rfl
theorem dX10_faultOfMap_78 : decode cX10_faultOfMap 78 = .ok (.goto 5, 3) := dcr zo_dX10_faultOfMap_57 9 rfl
theorem dX10_faultOfMap_81 : decode cX10_faultOfMap 81 = .ok (.bipush (-6), 2) := dcr zo_dX10_faultOfMap_57 10 rfl
theorem dX10_faultOfMap_83 : decode cX10_faultOfMap 83 = .ok (.ireturn, 1) := dcr zo_dX10_faultOfMap_57 11 rfl
theorem zo_dX10_kindOf_0 : ([(0, .iload_n 0, 1), (1, .bipush 99, 2), (3, .if_icmp .ne 7, 3), (6, .iconst 0, 1), (7, .goto 35, 3), (10, .iload_n 0, 1), (11, .bipush 115, 2), (13, .if_icmp .ne 7, 3), (16, .iconst 1, 1), (17, .goto 25, 3), (20, .iload_n 0, 1), (21, .bipush 116, 2), (23, .if_icmp .ne 7, 3), (26, .iconst 2, 1), (27, .goto 15, 3), (30, .iload_n 0, 1)] : List (Nat × Instr × Nat)).all (dOk (decode cX10_kindOf)) = true := by decide +kernel
theorem dX10_kindOf_0 : decode cX10_kindOf 0 = .ok (.iload_n 0, 1) := dcr zo_dX10_kindOf_0 0 rfl
theorem dX10_kindOf_1 : decode cX10_kindOf 1 = .ok (.bipush 99, 2) := dcr zo_dX10_kindOf_0 1 rfl
theorem dX10_kindOf_3 : decode cX10_kindOf 3 = .ok (.if_icmp .ne 7, 3) := dcr zo_dX10_kindOf_0 2 rfl
theorem dX10_kindOf_6 : decode cX10_kindOf 6 = .ok (.iconst 0, 1) := dcr zo_dX10_kindOf_0 3 rfl
theorem dX10_kindOf_7 : decode cX10_kindOf 7 = .ok (.goto 35, 3) := dcr zo_dX10_kindOf_0 4 rfl
theorem dX10_kindOf_10 : decode cX10_kindOf 10 = .ok (.iload_n 0, 1) := dcr zo_dX10_kindOf_0 5 rfl
theorem dX10_kindOf_11 : decode cX10_kindOf 11 = .ok (.bipush 115, 2) := dcr zo_dX10_kindOf_0 6 rfl
theorem dX10_kindOf_13 : decode cX10_kindOf 13 = .ok (.if_icmp .ne 7, 3) := dcr zo_dX10_kindOf_0 7 rfl
theorem dX10_kindOf_16 : decode cX10_kindOf 16 = .ok (.iconst 1, 1) := dcr zo_dX10_kindOf_0 8 rfl
theorem dX10_kindOf_17 : decode cX10_kindOf 17 = .ok (.goto 25, 3) := dcr zo_dX10_kindOf_0 9 rfl
theorem dX10_kindOf_20 : decode cX10_kindOf 20 = .ok (.iload_n 0, 1) := dcr zo_dX10_kindOf_0 10 rfl
theorem dX10_kindOf_21 : decode cX10_kindOf 21 = .ok (.bipush 116, 2) := dcr zo_dX10_kindOf_0 11 rfl
theorem dX10_kindOf_23 : decode cX10_kindOf 23 = .ok (.if_icmp .ne 7, 3) := dcr zo_dX10_kindOf_0 12 rfl
theorem dX10_kindOf_26 : decode cX10_kindOf 26 = .ok (.iconst 2, 1) := dcr zo_dX10_kindOf_0 13 rfl
theorem dX10_kindOf_27 : decode cX10_kindOf 27 = .ok (.goto 15, 3) := dcr zo_dX10_kindOf_0 14 rfl
theorem dX10_kindOf_30 : decode cX10_kindOf 30 = .ok (.iload_n 0, 1) := dcr zo_dX10_kindOf_0 15 rfl
theorem zo_dX10_kindOf_31 : ([(31, .bipush 111, 2), (33, .if_icmp .ne 7, 3), (36, .iconst 3, 1), (37, .goto 5, 3), (40, .bipush (-6), 2), (42, .ireturn, 1)] : List (Nat × Instr × Nat)).all (dOk (decode cX10_kindOf)) = true := by decide +kernel
theorem dX10_kindOf_31 : decode cX10_kindOf 31 = .ok (.bipush 111, 2) := dcr zo_dX10_kindOf_31 0 rfl
theorem dX10_kindOf_33 : decode cX10_kindOf 33 = .ok (.if_icmp .ne 7, 3) := dcr zo_dX10_kindOf_31 1 rfl
theorem dX10_kindOf_36 : decode cX10_kindOf 36 = .ok (.iconst 3, 1) := dcr zo_dX10_kindOf_31 2 rfl
theorem dX10_kindOf_37 : decode cX10_kindOf 37 = .ok (.goto 5, 3) := dcr zo_dX10_kindOf_31 3 rfl
theorem dX10_kindOf_40 : decode cX10_kindOf 40 = .ok (.bipush (-6), 2) := dcr zo_dX10_kindOf_31 4 rfl
theorem dX10_kindOf_42 : decode cX10_kindOf 42 = .ok (.ireturn, 1) := dcr zo_dX10_kindOf_31 5 rfl
def zt_wsX10_faultOfSlips : List (List Cond) := [[.code yX10_faultOfSlips cX10_faultOfSlips 7 (some .int)], [.fieldLink RX10 110 "LastMapModel" "slipMany" "I", .fieldLink RX10 103 "LastMapModel" "padMany" "I", .fieldLink RX10 19 "LastMapModel" "pad" "[I", .fieldLink RX10 67 "LastMapModel" "sites" "I", .constantLong RX10 95 (97), .constantLong RX10 97 (100), .fieldLink RX10 22 "LastMapModel" "slips" "[I", .methodLink RX10 113 yX10_kindOf, .static yX10_kindOf, .initialized RX10, .code yX10_kindOf cX10_kindOf 1 (some .int), .methodLink RX10 79 yX10_in, .static yX10_in, .code yX10_in cX10_in 6 (some .boolean)], wsX100]
theorem zt_wsX10_faultOfSlips_in : ∀ c ∈ zt_wsX10_faultOfSlips, ∀ w ∈ c, w ∈ wsX10_faultOfSlips := List.forall_mem_cons.mpr ⟨fun _ h => List.mem_cons.mpr (Or.inl (List.mem_singleton.mp h)), List.forall_mem_cons.mpr ⟨fun _ h => List.mem_cons_of_mem _ (List.mem_append_left _ (h)), List.forall_mem_cons.mpr ⟨fun _ h => List.mem_cons_of_mem _ (List.mem_append_right _ h), (fun _ h => absurd h List.not_mem_nil)⟩⟩⟩
set_option maxRecDepth 20000 in
theorem zw_wsX10_kindOf : wsX10_kindOf.all goodWord = true := by decide +kernel
set_option maxRecDepth 20000 in
theorem ggX10_faultOfSlips_X10_kindOf : GoodIn wsX10_faultOfSlips wsX10_kindOf := goodIn_c zt_wsX10_faultOfSlips_in _ [(1, 10)] rfl zw_wsX10_kindOf
set_option maxRecDepth 20000 in
theorem gX10_faultOfSlips_X10_kindOf : GoodIn wsX10_faultOfSlips (va_wsS RX10 113 yX10_kindOf wsX10_kindOf) := goodIn_app (goodIn_of _ (by decide +kernel)) ggX10_faultOfSlips_X10_kindOf
set_option maxRecDepth 20000 in
theorem ggX10_faultOfSlips_X10_in : GoodIn wsX10_faultOfSlips wsX10_in := goodIn_c zt_wsX10_faultOfSlips_in _ [(1, 13)] rfl zw_wsX10_in
set_option maxRecDepth 20000 in
theorem gX10_faultOfSlips_X10_in : GoodIn wsX10_faultOfSlips (va_wsS RX10 79 yX10_in wsX10_in) := goodIn_app (goodIn_of _ (by decide +kernel)) ggX10_faultOfSlips_X10_in
theorem zo_dX10_faultOfSlips_0 : ([(0, .iconst 0, 1), (1, .istore_n 1, 1), (2, .iconst 0, 1), (3, .istore_n 2, 1), (4, .iconst 0, 1), (5, .istore_n 3, 1), (6, .aload_n 0, 1), (7, .iconst 0, 1), (8, .putfield 110, 3), (11, .iconst 0, 1), (12, .istore 4, 2), (14, .iload 4, 2), (16, .aload_n 0, 1), (17, .getfield 103, 3), (20, .if_icmp .ge 198, 3), (23, .aload_n 0, 1)] : List (Nat × Instr × Nat)).all (dOk (decode cX10_faultOfSlips)) = true := by decide +kernel
theorem dX10_faultOfSlips_0 : decode cX10_faultOfSlips 0 = .ok (.iconst 0, 1) := dcr zo_dX10_faultOfSlips_0 0 rfl
theorem dX10_faultOfSlips_1 : decode cX10_faultOfSlips 1 = .ok (.istore_n 1, 1) := dcr zo_dX10_faultOfSlips_0 1 rfl
theorem dX10_faultOfSlips_2 : decode cX10_faultOfSlips 2 = .ok (.iconst 0, 1) := dcr zo_dX10_faultOfSlips_0 2 rfl
theorem dX10_faultOfSlips_3 : decode cX10_faultOfSlips 3 = .ok (.istore_n 2, 1) := dcr zo_dX10_faultOfSlips_0 3 rfl
theorem dX10_faultOfSlips_4 : decode cX10_faultOfSlips 4 = .ok (.iconst 0, 1) := dcr zo_dX10_faultOfSlips_0 4 rfl
theorem dX10_faultOfSlips_5 : decode cX10_faultOfSlips 5 = .ok (.istore_n 3, 1) := dcr zo_dX10_faultOfSlips_0 5 rfl
theorem dX10_faultOfSlips_6 : decode cX10_faultOfSlips 6 = .ok (.aload_n 0, 1) := dcr zo_dX10_faultOfSlips_0 6 rfl
theorem dX10_faultOfSlips_7 : decode cX10_faultOfSlips 7 = .ok (.iconst 0, 1) := dcr zo_dX10_faultOfSlips_0 7 rfl
theorem dX10_faultOfSlips_8 : decode cX10_faultOfSlips 8 = .ok (.putfield 110, 3) := dcr zo_dX10_faultOfSlips_0 8 rfl
theorem dX10_faultOfSlips_11 : decode cX10_faultOfSlips 11 = .ok (.iconst 0, 1) := dcr zo_dX10_faultOfSlips_0 9 rfl
theorem dX10_faultOfSlips_12 : decode cX10_faultOfSlips 12 = .ok (.istore 4, 2) := dcr zo_dX10_faultOfSlips_0 10 rfl
theorem dX10_faultOfSlips_14 : decode cX10_faultOfSlips 14 = .ok (.iload 4, 2) := dcr zo_dX10_faultOfSlips_0 11 rfl
theorem dX10_faultOfSlips_16 : decode cX10_faultOfSlips 16 = .ok (.aload_n 0, 1) := dcr zo_dX10_faultOfSlips_0 12 rfl
theorem dX10_faultOfSlips_17 : decode cX10_faultOfSlips 17 = .ok (.getfield 103, 3) := dcr zo_dX10_faultOfSlips_0 13 rfl
theorem dX10_faultOfSlips_20 : decode cX10_faultOfSlips 20 = .ok (.if_icmp .ge 198, 3) := dcr zo_dX10_faultOfSlips_0 14 rfl
theorem dX10_faultOfSlips_23 : decode cX10_faultOfSlips 23 = .ok (.aload_n 0, 1) := dcr zo_dX10_faultOfSlips_0 15 rfl
theorem zo_dX10_faultOfSlips_24 : ([(24, .getfield 19, 3), (27, .iload 4, 2), (29, .iaload, 1), (30, .istore 5, 2), (32, .iconst 0, 1), (33, .istore 6, 2), (35, .iload_n 1, 1), (36, .ifCond .ne 31, 3), (39, .aload_n 0, 1), (40, .getfield 110, 3), (43, .bipush 10, 2), (45, .if_icmp .ge 22, 3), (48, .iload 5, 2), (50, .invokestatic 113, 3), (53, .ifCond .lt 14, 3), (56, .iload 5, 2)] : List (Nat × Instr × Nat)).all (dOk (decode cX10_faultOfSlips)) = true := by decide +kernel
theorem dX10_faultOfSlips_24 : decode cX10_faultOfSlips 24 = .ok (.getfield 19, 3) := dcr zo_dX10_faultOfSlips_24 0 rfl
theorem dX10_faultOfSlips_27 : decode cX10_faultOfSlips 27 = .ok (.iload 4, 2) := dcr zo_dX10_faultOfSlips_24 1 rfl
theorem dX10_faultOfSlips_29 : decode cX10_faultOfSlips 29 = .ok (.iaload, 1) := dcr zo_dX10_faultOfSlips_24 2 rfl
theorem dX10_faultOfSlips_30 : decode cX10_faultOfSlips 30 = .ok (.istore 5, 2) := dcr zo_dX10_faultOfSlips_24 3 rfl
theorem dX10_faultOfSlips_32 : decode cX10_faultOfSlips 32 = .ok (.iconst 0, 1) := dcr zo_dX10_faultOfSlips_24 4 rfl
theorem dX10_faultOfSlips_33 : decode cX10_faultOfSlips 33 = .ok (.istore 6, 2) := dcr zo_dX10_faultOfSlips_24 5 rfl
theorem dX10_faultOfSlips_35 : decode cX10_faultOfSlips 35 = .ok (.iload_n 1, 1) := dcr zo_dX10_faultOfSlips_24 6 rfl
theorem dX10_faultOfSlips_36 : decode cX10_faultOfSlips 36 = .ok (.ifCond .ne 31, 3) := dcr zo_dX10_faultOfSlips_24 7 rfl
theorem dX10_faultOfSlips_39 : decode cX10_faultOfSlips 39 = .ok (.aload_n 0, 1) := dcr zo_dX10_faultOfSlips_24 8 rfl
theorem dX10_faultOfSlips_40 : decode cX10_faultOfSlips 40 = .ok (.getfield 110, 3) := dcr zo_dX10_faultOfSlips_24 9 rfl
theorem dX10_faultOfSlips_43 : decode cX10_faultOfSlips 43 = .ok (.bipush 10, 2) := dcr zo_dX10_faultOfSlips_24 10 rfl
theorem dX10_faultOfSlips_45 : decode cX10_faultOfSlips 45 = .ok (.if_icmp .ge 22, 3) := dcr zo_dX10_faultOfSlips_24 11 rfl
theorem dX10_faultOfSlips_48 : decode cX10_faultOfSlips 48 = .ok (.iload 5, 2) := dcr zo_dX10_faultOfSlips_24 12 rfl
theorem dX10_faultOfSlips_50 : decode cX10_faultOfSlips 50 = .ok (.invokestatic 113, 3) := dcr zo_dX10_faultOfSlips_24 13 rfl
theorem dX10_faultOfSlips_53 : decode cX10_faultOfSlips 53 = .ok (.ifCond .lt 14, 3) := dcr zo_dX10_faultOfSlips_24 14 rfl
theorem dX10_faultOfSlips_56 : decode cX10_faultOfSlips 56 = .ok (.iload 5, 2) := dcr zo_dX10_faultOfSlips_24 15 rfl
theorem zo_dX10_faultOfSlips_58 : ([(58, .invokestatic 113, 3), (61, .istore_n 2, 1), (62, .iconst 1, 1), (63, .istore_n 1, 1), (64, .goto 99, 3), (67, .iload_n 1, 1), (68, .iconst 1, 1), (69, .if_icmp .ne 65, 3), (72, .iload 5, 2), (74, .bipush 48, 2), (76, .isub, 1), (77, .i2l, 1), (78, .lconst 0, 1), (79, .iload_n 2, 1), (80, .iconst 1, 1), (81, .if_icmp .eq 8, 3)] : List (Nat × Instr × Nat)).all (dOk (decode cX10_faultOfSlips)) = true := by decide +kernel
theorem dX10_faultOfSlips_58 : decode cX10_faultOfSlips 58 = .ok (.invokestatic 113, 3) := dcr zo_dX10_faultOfSlips_58 0 rfl
theorem dX10_faultOfSlips_61 : decode cX10_faultOfSlips 61 = .ok (.istore_n 2, 1) := dcr zo_dX10_faultOfSlips_58 1 rfl
theorem dX10_faultOfSlips_62 : decode cX10_faultOfSlips 62 = .ok (.iconst 1, 1) := dcr zo_dX10_faultOfSlips_58 2 rfl
theorem dX10_faultOfSlips_63 : decode cX10_faultOfSlips 63 = .ok (.istore_n 1, 1) := dcr zo_dX10_faultOfSlips_58 3 rfl
theorem dX10_faultOfSlips_64 : decode cX10_faultOfSlips 64 = .ok (.goto 99, 3) := dcr zo_dX10_faultOfSlips_58 4 rfl
theorem dX10_faultOfSlips_67 : decode cX10_faultOfSlips 67 = .ok (.iload_n 1, 1) := dcr zo_dX10_faultOfSlips_58 5 rfl
theorem dX10_faultOfSlips_68 : decode cX10_faultOfSlips 68 = .ok (.iconst 1, 1) := dcr zo_dX10_faultOfSlips_58 6 rfl
theorem dX10_faultOfSlips_69 : decode cX10_faultOfSlips 69 = .ok (.if_icmp .ne 65, 3) := dcr zo_dX10_faultOfSlips_58 7 rfl
theorem dX10_faultOfSlips_72 : decode cX10_faultOfSlips 72 = .ok (.iload 5, 2) := dcr zo_dX10_faultOfSlips_58 8 rfl
theorem dX10_faultOfSlips_74 : decode cX10_faultOfSlips 74 = .ok (.bipush 48, 2) := dcr zo_dX10_faultOfSlips_58 9 rfl
theorem dX10_faultOfSlips_76 : decode cX10_faultOfSlips 76 = .ok (.isub, 1) := dcr zo_dX10_faultOfSlips_58 10 rfl
theorem dX10_faultOfSlips_77 : decode cX10_faultOfSlips 77 = .ok (.i2l, 1) := dcr zo_dX10_faultOfSlips_58 11 rfl
theorem dX10_faultOfSlips_78 : decode cX10_faultOfSlips 78 = .ok (.lconst 0, 1) := dcr zo_dX10_faultOfSlips_58 12 rfl
theorem dX10_faultOfSlips_79 : decode cX10_faultOfSlips 79 = .ok (.iload_n 2, 1) := dcr zo_dX10_faultOfSlips_58 13 rfl
theorem dX10_faultOfSlips_80 : decode cX10_faultOfSlips 80 = .ok (.iconst 1, 1) := dcr zo_dX10_faultOfSlips_58 14 rfl
theorem dX10_faultOfSlips_81 : decode cX10_faultOfSlips 81 = .ok (.if_icmp .eq 8, 3) := dcr zo_dX10_faultOfSlips_58 15 rfl
theorem zo_dX10_faultOfSlips_84 : ([(84, .iload_n 2, 1), (85, .iconst 2, 1), (86, .if_icmp .ne 13, 3), (89, .aload_n 0, 1), (90, .getfield 67, 3), (93, .iconst 2, 1), (94, .isub, 1), (95, .i2l, 1), (96, .goto 10, 3), (99, .aload_n 0, 1), (100, .getfield 67, 3), (103, .iconst 1, 1), (104, .isub, 1), (105, .i2l, 1), (106, .invokestatic 79, 3), (109, .ifCond .eq 25, 3)] : List (Nat × Instr × Nat)).all (dOk (decode cX10_faultOfSlips)) = true := by decide +kernel
theorem dX10_faultOfSlips_84 : decode cX10_faultOfSlips 84 = .ok (.iload_n 2, 1) := dcr zo_dX10_faultOfSlips_84 0 rfl
theorem dX10_faultOfSlips_85 : decode cX10_faultOfSlips 85 = .ok (.iconst 2, 1) := dcr zo_dX10_faultOfSlips_84 1 rfl
theorem dX10_faultOfSlips_86 : decode cX10_faultOfSlips 86 = .ok (.if_icmp .ne 13, 3) := dcr zo_dX10_faultOfSlips_84 2 rfl
theorem dX10_faultOfSlips_89 : decode cX10_faultOfSlips 89 = .ok (.aload_n 0, 1) := dcr zo_dX10_faultOfSlips_84 3 rfl
theorem dX10_faultOfSlips_90 : decode cX10_faultOfSlips 90 = .ok (.getfield 67, 3) := dcr zo_dX10_faultOfSlips_84 4 rfl
theorem dX10_faultOfSlips_93 : decode cX10_faultOfSlips 93 = .ok (.iconst 2, 1) := dcr zo_dX10_faultOfSlips_84 5 rfl
theorem dX10_faultOfSlips_94 : decode cX10_faultOfSlips 94 = .ok (.isub, 1) := dcr zo_dX10_faultOfSlips_84 6 rfl
theorem dX10_faultOfSlips_95 : decode cX10_faultOfSlips 95 = .ok (.i2l, 1) := dcr zo_dX10_faultOfSlips_84 7 rfl
theorem dX10_faultOfSlips_96 : decode cX10_faultOfSlips 96 = .ok (.goto 10, 3) := dcr zo_dX10_faultOfSlips_84 8 rfl
theorem dX10_faultOfSlips_99 : decode cX10_faultOfSlips 99 = .ok (.aload_n 0, 1) := dcr zo_dX10_faultOfSlips_84 9 rfl
theorem dX10_faultOfSlips_100 : decode cX10_faultOfSlips 100 = .ok (.getfield 67, 3) := dcr zo_dX10_faultOfSlips_84 10 rfl
theorem dX10_faultOfSlips_103 : decode cX10_faultOfSlips 103 = .ok (.iconst 1, 1) := dcr zo_dX10_faultOfSlips_84 11 rfl
theorem dX10_faultOfSlips_104 : decode cX10_faultOfSlips 104 = .ok (.isub, 1) := dcr zo_dX10_faultOfSlips_84 12 rfl
theorem dX10_faultOfSlips_105 : decode cX10_faultOfSlips 105 = .ok (.i2l, 1) := dcr zo_dX10_faultOfSlips_84 13 rfl
theorem dX10_faultOfSlips_106 : decode cX10_faultOfSlips 106 = .ok (.invokestatic 79, 3) := dcr zo_dX10_faultOfSlips_84 14 rfl
theorem dX10_faultOfSlips_109 : decode cX10_faultOfSlips 109 = .ok (.ifCond .eq 25, 3) := dcr zo_dX10_faultOfSlips_84 15 rfl
theorem zo_dX10_faultOfSlips_112 : ([(112, .iload 5, 2), (114, .bipush 48, 2), (116, .isub, 1), (117, .istore_n 3, 1), (118, .iconst 2, 1), (119, .istore_n 1, 1), (120, .iload_n 2, 1), (121, .ifCond .eq 7, 3), (124, .iconst 1, 1), (125, .goto 4, 3), (128, .iconst 0, 1), (129, .istore 6, 2), (131, .goto 32, 3), (134, .iload_n 1, 1), (135, .iconst 2, 1), (136, .if_icmp .ne 24, 3)] : List (Nat × Instr × Nat)).all (dOk (decode cX10_faultOfSlips)) = true := by decide +kernel
theorem dX10_faultOfSlips_112 : decode cX10_faultOfSlips 112 = .ok (.iload 5, 2) := dcr zo_dX10_faultOfSlips_112 0 rfl
theorem dX10_faultOfSlips_114 : decode cX10_faultOfSlips 114 = .ok (.bipush 48, 2) := dcr zo_dX10_faultOfSlips_112 1 rfl
theorem dX10_faultOfSlips_116 : decode cX10_faultOfSlips 116 = .ok (.isub, 1) := dcr zo_dX10_faultOfSlips_112 2 rfl
theorem dX10_faultOfSlips_117 : decode cX10_faultOfSlips 117 = .ok (.istore_n 3, 1) := dcr zo_dX10_faultOfSlips_112 3 rfl
theorem dX10_faultOfSlips_118 : decode cX10_faultOfSlips 118 = .ok (.iconst 2, 1) := dcr zo_dX10_faultOfSlips_112 4 rfl
theorem dX10_faultOfSlips_119 : decode cX10_faultOfSlips 119 = .ok (.istore_n 1, 1) := dcr zo_dX10_faultOfSlips_112 5 rfl
theorem dX10_faultOfSlips_120 : decode cX10_faultOfSlips 120 = .ok (.iload_n 2, 1) := dcr zo_dX10_faultOfSlips_112 6 rfl
theorem dX10_faultOfSlips_121 : decode cX10_faultOfSlips 121 = .ok (.ifCond .eq 7, 3) := dcr zo_dX10_faultOfSlips_112 7 rfl
theorem dX10_faultOfSlips_124 : decode cX10_faultOfSlips 124 = .ok (.iconst 1, 1) := dcr zo_dX10_faultOfSlips_112 8 rfl
theorem dX10_faultOfSlips_125 : decode cX10_faultOfSlips 125 = .ok (.goto 4, 3) := dcr zo_dX10_faultOfSlips_112 9 rfl
theorem dX10_faultOfSlips_128 : decode cX10_faultOfSlips 128 = .ok (.iconst 0, 1) := dcr zo_dX10_faultOfSlips_112 10 rfl
theorem dX10_faultOfSlips_129 : decode cX10_faultOfSlips 129 = .ok (.istore 6, 2) := dcr zo_dX10_faultOfSlips_112 11 rfl
theorem dX10_faultOfSlips_131 : decode cX10_faultOfSlips 131 = .ok (.goto 32, 3) := dcr zo_dX10_faultOfSlips_112 12 rfl
theorem dX10_faultOfSlips_134 : decode cX10_faultOfSlips 134 = .ok (.iload_n 1, 1) := dcr zo_dX10_faultOfSlips_112 13 rfl
theorem dX10_faultOfSlips_135 : decode cX10_faultOfSlips 135 = .ok (.iconst 2, 1) := dcr zo_dX10_faultOfSlips_112 14 rfl
theorem dX10_faultOfSlips_136 : decode cX10_faultOfSlips 136 = .ok (.if_icmp .ne 24, 3) := dcr zo_dX10_faultOfSlips_112 15 rfl
theorem zo_dX10_faultOfSlips_139 : ([(139, .iload 5, 2), (141, .i2l, 1), (142, .ldc2_w 95, 3), (145, .ldc2_w 97, 3), (148, .invokestatic 79, 3), (151, .ifCond .eq 9, 3), (154, .iconst 1, 1), (155, .istore 6, 2), (157, .goto 6, 3), (160, .iload 4, 2), (162, .ireturn, 1), (163, .iload 6, 2), (165, .ifCond .eq 47, 3), (168, .aload_n 0, 1), (169, .getfield 22, 3), (172, .aload_n 0, 1)] : List (Nat × Instr × Nat)).all (dOk (decode cX10_faultOfSlips)) = true := by decide +kernel
theorem dX10_faultOfSlips_139 : decode cX10_faultOfSlips 139 = .ok (.iload 5, 2) := dcr zo_dX10_faultOfSlips_139 0 rfl
theorem dX10_faultOfSlips_141 : decode cX10_faultOfSlips 141 = .ok (.i2l, 1) := dcr zo_dX10_faultOfSlips_139 1 rfl
theorem dX10_faultOfSlips_142 : decode cX10_faultOfSlips 142 = .ok (.ldc2_w 95, 3) := dcr zo_dX10_faultOfSlips_139 2 rfl
theorem dX10_faultOfSlips_145 : decode cX10_faultOfSlips 145 = .ok (.ldc2_w 97, 3) := dcr zo_dX10_faultOfSlips_139 3 rfl
theorem dX10_faultOfSlips_148 : decode cX10_faultOfSlips 148 = .ok (.invokestatic 79, 3) := dcr zo_dX10_faultOfSlips_139 4 rfl
theorem dX10_faultOfSlips_151 : decode cX10_faultOfSlips 151 = .ok (.ifCond .eq 9, 3) := dcr zo_dX10_faultOfSlips_139 5 rfl
theorem dX10_faultOfSlips_154 : decode cX10_faultOfSlips 154 = .ok (.iconst 1, 1) := dcr zo_dX10_faultOfSlips_139 6 rfl
theorem dX10_faultOfSlips_155 : decode cX10_faultOfSlips 155 = .ok (.istore 6, 2) := dcr zo_dX10_faultOfSlips_139 7 rfl
theorem dX10_faultOfSlips_157 : decode cX10_faultOfSlips 157 = .ok (.goto 6, 3) := dcr zo_dX10_faultOfSlips_139 8 rfl
theorem dX10_faultOfSlips_160 : decode cX10_faultOfSlips 160 = .ok (.iload 4, 2) := dcr zo_dX10_faultOfSlips_139 9 rfl
theorem dX10_faultOfSlips_162 : decode cX10_faultOfSlips 162 = .ok (.ireturn, 1) := dcr zo_dX10_faultOfSlips_139 10 rfl
theorem dX10_faultOfSlips_163 : decode cX10_faultOfSlips 163 = .ok (.iload 6, 2) := dcr zo_dX10_faultOfSlips_139 11 rfl
theorem dX10_faultOfSlips_165 : decode cX10_faultOfSlips 165 = .ok (.ifCond .eq 47, 3) := dcr zo_dX10_faultOfSlips_139 12 rfl
theorem dX10_faultOfSlips_168 : decode cX10_faultOfSlips 168 = .ok (.aload_n 0, 1) := dcr zo_dX10_faultOfSlips_139 13 rfl
theorem dX10_faultOfSlips_169 : decode cX10_faultOfSlips 169 = .ok (.getfield 22, 3) := dcr zo_dX10_faultOfSlips_139 14 rfl
theorem dX10_faultOfSlips_172 : decode cX10_faultOfSlips 172 = .ok (.aload_n 0, 1) := dcr zo_dX10_faultOfSlips_139 15 rfl
theorem zo_dX10_faultOfSlips_173 : ([(173, .getfield 110, 3), (176, .bipush 100, 2), (178, .iload_n 2, 1), (179, .imul, 1), (180, .bipush 10, 2), (182, .iload_n 3, 1), (183, .imul, 1), (184, .iadd, 1), (185, .iload_n 2, 1), (186, .ifCond .ne 11, 3), (189, .iload 5, 2), (191, .bipush 97, 2), (193, .isub, 1), (194, .goto 4, 3), (197, .iconst 0, 1), (198, .iadd, 1)] : List (Nat × Instr × Nat)).all (dOk (decode cX10_faultOfSlips)) = true := by decide +kernel
theorem dX10_faultOfSlips_173 : decode cX10_faultOfSlips 173 = .ok (.getfield 110, 3) := dcr zo_dX10_faultOfSlips_173 0 rfl
theorem dX10_faultOfSlips_176 : decode cX10_faultOfSlips 176 = .ok (.bipush 100, 2) := dcr zo_dX10_faultOfSlips_173 1 rfl
theorem dX10_faultOfSlips_178 : decode cX10_faultOfSlips 178 = .ok (.iload_n 2, 1) := dcr zo_dX10_faultOfSlips_173 2 rfl
theorem dX10_faultOfSlips_179 : decode cX10_faultOfSlips 179 = .ok (.imul, 1) := dcr zo_dX10_faultOfSlips_173 3 rfl
theorem dX10_faultOfSlips_180 : decode cX10_faultOfSlips 180 = .ok (.bipush 10, 2) := dcr zo_dX10_faultOfSlips_173 4 rfl
theorem dX10_faultOfSlips_182 : decode cX10_faultOfSlips 182 = .ok (.iload_n 3, 1) := dcr zo_dX10_faultOfSlips_173 5 rfl
theorem dX10_faultOfSlips_183 : decode cX10_faultOfSlips 183 = .ok (.imul, 1) := dcr zo_dX10_faultOfSlips_173 6 rfl
theorem dX10_faultOfSlips_184 : decode cX10_faultOfSlips 184 = .ok (.iadd, 1) := dcr zo_dX10_faultOfSlips_173 7 rfl
theorem dX10_faultOfSlips_185 : decode cX10_faultOfSlips 185 = .ok (.iload_n 2, 1) := dcr zo_dX10_faultOfSlips_173 8 rfl
theorem dX10_faultOfSlips_186 : decode cX10_faultOfSlips 186 = .ok (.ifCond .ne 11, 3) := dcr zo_dX10_faultOfSlips_173 9 rfl
theorem dX10_faultOfSlips_189 : decode cX10_faultOfSlips 189 = .ok (.iload 5, 2) := dcr zo_dX10_faultOfSlips_173 10 rfl
theorem dX10_faultOfSlips_191 : decode cX10_faultOfSlips 191 = .ok (.bipush 97, 2) := dcr zo_dX10_faultOfSlips_173 11 rfl
theorem dX10_faultOfSlips_193 : decode cX10_faultOfSlips 193 = .ok (.isub, 1) := dcr zo_dX10_faultOfSlips_173 12 rfl
theorem dX10_faultOfSlips_194 : decode cX10_faultOfSlips 194 = .ok (.goto 4, 3) := dcr zo_dX10_faultOfSlips_173 13 rfl
theorem dX10_faultOfSlips_197 : decode cX10_faultOfSlips 197 = .ok (.iconst 0, 1) := dcr zo_dX10_faultOfSlips_173 14 rfl
theorem dX10_faultOfSlips_198 : decode cX10_faultOfSlips 198 = .ok (.iadd, 1) := dcr zo_dX10_faultOfSlips_173 15 rfl
theorem zo_dX10_faultOfSlips_199 : ([(199, .iastore, 1), (200, .aload_n 0, 1), (201, .dup, 1), (202, .getfield 110, 3), (205, .iconst 1, 1), (206, .iadd, 1), (207, .putfield 110, 3), (210, .iconst 0, 1), (211, .istore_n 1, 1), (212, .iinc 4 1, 3), (215, .goto (-201), 3), (218, .iload_n 1, 1), (219, .ifCond .ne 8, 3), (222, .bipush (-6), 2), (224, .goto 7, 3), (227, .aload_n 0, 1)] : List (Nat × Instr × Nat)).all (dOk (decode cX10_faultOfSlips)) = true := by decide +kernel
theorem dX10_faultOfSlips_199 : decode cX10_faultOfSlips 199 = .ok (.iastore, 1) := dcr zo_dX10_faultOfSlips_199 0 rfl
theorem dX10_faultOfSlips_200 : decode cX10_faultOfSlips 200 = .ok (.aload_n 0, 1) := dcr zo_dX10_faultOfSlips_199 1 rfl
theorem dX10_faultOfSlips_201 : decode cX10_faultOfSlips 201 = .ok (.dup, 1) := dcr zo_dX10_faultOfSlips_199 2 rfl
theorem dX10_faultOfSlips_202 : decode cX10_faultOfSlips 202 = .ok (.getfield 110, 3) := dcr zo_dX10_faultOfSlips_199 3 rfl
theorem dX10_faultOfSlips_205 : decode cX10_faultOfSlips 205 = .ok (.iconst 1, 1) := dcr zo_dX10_faultOfSlips_199 4 rfl
theorem dX10_faultOfSlips_206 : decode cX10_faultOfSlips 206 = .ok (.iadd, 1) := dcr zo_dX10_faultOfSlips_199 5 rfl
theorem dX10_faultOfSlips_207 : decode cX10_faultOfSlips 207 = .ok (.putfield 110, 3) := dcr zo_dX10_faultOfSlips_199 6 rfl
theorem dX10_faultOfSlips_210 : decode cX10_faultOfSlips 210 = .ok (.iconst 0, 1) := dcr zo_dX10_faultOfSlips_199 7 rfl
theorem dX10_faultOfSlips_211 : decode cX10_faultOfSlips 211 = .ok (.istore_n 1, 1) := dcr zo_dX10_faultOfSlips_199 8 rfl
theorem dX10_faultOfSlips_212 : decode cX10_faultOfSlips 212 = .ok (.iinc 4 1, 3) := dcr zo_dX10_faultOfSlips_199 9 rfl
theorem dX10_faultOfSlips_215 : decode cX10_faultOfSlips 215 = .ok (.goto (-201), 3) := dcr zo_dX10_faultOfSlips_199 10 rfl
theorem dX10_faultOfSlips_218 : decode cX10_faultOfSlips 218 = .ok (.iload_n 1, 1) := dcr zo_dX10_faultOfSlips_199 11 rfl
theorem dX10_faultOfSlips_219 : decode cX10_faultOfSlips 219 = .ok (.ifCond .ne 8, 3) := dcr zo_dX10_faultOfSlips_199 12 rfl
theorem dX10_faultOfSlips_222 : decode cX10_faultOfSlips 222 = .ok (.bipush (-6), 2) := dcr zo_dX10_faultOfSlips_199 13 rfl
theorem dX10_faultOfSlips_224 : decode cX10_faultOfSlips 224 = .ok (.goto 7, 3) := dcr zo_dX10_faultOfSlips_199 14 rfl
theorem dX10_faultOfSlips_227 : decode cX10_faultOfSlips 227 = .ok (.aload_n 0, 1) := dcr zo_dX10_faultOfSlips_199 15 rfl
theorem zo_dX10_faultOfSlips_228 : ([(228, .getfield 103, 3), (231, .ireturn, 1)] : List (Nat × Instr × Nat)).all (dOk (decode cX10_faultOfSlips)) = true := by decide +kernel
theorem dX10_faultOfSlips_228 : decode cX10_faultOfSlips 228 = .ok (.getfield 103, 3) := dcr zo_dX10_faultOfSlips_228 0 rfl
theorem dX10_faultOfSlips_231 : decode cX10_faultOfSlips 231 = .ok (.ireturn, 1) := dcr zo_dX10_faultOfSlips_228 1 rfl
def zt_wsX10_fault : List (List Cond) := [[.code yX10_fault cX10_fault 2 (some .int)], wsX10_fault_r1, wsX10_fault_r2, wsX100]
theorem zt_wsX10_fault_in : ∀ c ∈ zt_wsX10_fault, ∀ w ∈ c, w ∈ wsX10_fault := List.forall_mem_cons.mpr ⟨fun _ h => List.mem_cons.mpr (Or.inl (List.mem_singleton.mp h)), List.forall_mem_cons.mpr ⟨fun _ h => List.mem_cons_of_mem _ (List.mem_append_left _ (List.mem_append_left _ h)), List.forall_mem_cons.mpr ⟨fun _ h => List.mem_cons_of_mem _ (List.mem_append_left _ (List.mem_append_right _ (h))), List.forall_mem_cons.mpr ⟨fun _ h => List.mem_cons_of_mem _ (List.mem_append_right _ h), (fun _ h => absurd h List.not_mem_nil)⟩⟩⟩⟩
set_option maxRecDepth 20000 in
theorem zw_wsX10_faultOfMap : wsX10_faultOfMap.all goodWord = true := by decide +kernel
set_option maxRecDepth 20000 in
theorem ggX10_fault_X10_faultOfMap : GoodIn wsX10_fault wsX10_faultOfMap := goodIn_c zt_wsX10_fault_in _ [(1, 4), (1, 5), (1, 6), (1, 7), (1, 8), (1, 9), (1, 3), (1, 10), (1, 11), (1, 12), (1, 13), (1, 14), (1, 15), (3, 0), (3, 1), (3, 2), (3, 3), (3, 4), (3, 5), (3, 6), (3, 7), (3, 8), (3, 9), (3, 10), (3, 11), (3, 12), (3, 13), (3, 14), (3, 15), (3, 16), (3, 17), (3, 18), (3, 19), (3, 20), (3, 21), (3, 22), (3, 23), (3, 24), (3, 25), (3, 26), (3, 27)] rfl zw_wsX10_faultOfMap
set_option maxRecDepth 20000 in
theorem gX10_fault_X10_faultOfMap : GoodIn wsX10_fault (wsV RX10 116 RX10 yX10_faultOfMap wsX10_faultOfMap) := goodIn_app (goodIn_of _ (by decide +kernel)) ggX10_fault_X10_faultOfMap
set_option maxRecDepth 20000 in
theorem zw_wsX10_faultOfSlips : wsX10_faultOfSlips.all goodWord = true := by decide +kernel
set_option maxRecDepth 20000 in
theorem ggX10_fault_X10_faultOfSlips : GoodIn wsX10_fault wsX10_faultOfSlips := goodIn_c zt_wsX10_fault_in _ [(1, 19), (1, 20), (1, 5), (1, 6), (1, 7), (1, 11), (1, 12), (1, 21), (1, 22), (1, 23), (1, 3), (2, 0), (1, 13), (1, 14), (1, 15), (3, 0), (3, 1), (3, 2), (3, 3), (3, 4), (3, 5), (3, 6), (3, 7), (3, 8), (3, 9), (3, 10), (3, 11), (3, 12), (3, 13), (3, 14), (3, 15), (3, 16), (3, 17), (3, 18), (3, 19), (3, 20), (3, 21), (3, 22), (3, 23), (3, 24), (3, 25), (3, 26), (3, 27)] rfl zw_wsX10_faultOfSlips
set_option maxRecDepth 20000 in
theorem gX10_fault_X10_faultOfSlips : GoodIn wsX10_fault (wsV RX10 120 RX10 yX10_faultOfSlips wsX10_faultOfSlips) := goodIn_app (goodIn_of _ (by decide +kernel)) ggX10_fault_X10_faultOfSlips
theorem zo_dX10_fault_0 : ([(0, .iload_n 1, 1), (1, .ifCond .ne 11, 3), (4, .aload_n 0, 1), (5, .iconst 0, 1), (6, .invokevirtual 116, 3), (9, .goto 30, 3), (12, .iload_n 1, 1), (13, .iconst 1, 1), (14, .if_icmp .ne 10, 3), (17, .aload_n 0, 1), (18, .invokevirtual 120, 3), (21, .goto 18, 3), (24, .iload_n 1, 1), (25, .iconst 2, 1), (26, .if_icmp .ne 11, 3), (29, .aload_n 0, 1)] : List (Nat × Instr × Nat)).all (dOk (decode cX10_fault)) = true := by decide +kernel
theorem dX10_fault_0 : decode cX10_fault 0 = .ok (.iload_n 1, 1) := dcr zo_dX10_fault_0 0 rfl
theorem dX10_fault_1 : decode cX10_fault 1 = .ok (.ifCond .ne 11, 3) := dcr zo_dX10_fault_0 1 rfl
theorem dX10_fault_4 : decode cX10_fault 4 = .ok (.aload_n 0, 1) := dcr zo_dX10_fault_0 2 rfl
theorem dX10_fault_5 : decode cX10_fault 5 = .ok (.iconst 0, 1) := dcr zo_dX10_fault_0 3 rfl
theorem dX10_fault_6 : decode cX10_fault 6 = .ok (.invokevirtual 116, 3) := dcr zo_dX10_fault_0 4 rfl
theorem dX10_fault_9 : decode cX10_fault 9 = .ok (.goto 30, 3) := dcr zo_dX10_fault_0 5 rfl
theorem dX10_fault_12 : decode cX10_fault 12 = .ok (.iload_n 1, 1) := dcr zo_dX10_fault_0 6 rfl
theorem dX10_fault_13 : decode cX10_fault 13 = .ok (.iconst 1, 1) := dcr zo_dX10_fault_0 7 rfl
theorem dX10_fault_14 : decode cX10_fault 14 = .ok (.if_icmp .ne 10, 3) := dcr zo_dX10_fault_0 8 rfl
theorem dX10_fault_17 : decode cX10_fault 17 = .ok (.aload_n 0, 1) := dcr zo_dX10_fault_0 9 rfl
theorem dX10_fault_18 : decode cX10_fault 18 = .ok (.invokevirtual 120, 3) := dcr zo_dX10_fault_0 10 rfl
theorem dX10_fault_21 : decode cX10_fault 21 = .ok (.goto 18, 3) := dcr zo_dX10_fault_0 11 rfl
theorem dX10_fault_24 : decode cX10_fault 24 = .ok (.iload_n 1, 1) := dcr zo_dX10_fault_0 12 rfl
theorem dX10_fault_25 : decode cX10_fault 25 = .ok (.iconst 2, 1) := dcr zo_dX10_fault_0 13 rfl
theorem dX10_fault_26 : decode cX10_fault 26 = .ok (.if_icmp .ne 11, 3) := dcr zo_dX10_fault_0 14 rfl
theorem dX10_fault_29 : decode cX10_fault 29 = .ok (.aload_n 0, 1) := dcr zo_dX10_fault_0 15 rfl
theorem zo_dX10_fault_30 : ([(30, .iconst 1, 1), (31, .invokevirtual 116, 3), (34, .goto 5, 3), (37, .bipush (-2), 2), (39, .ireturn, 1)] : List (Nat × Instr × Nat)).all (dOk (decode cX10_fault)) = true := by decide +kernel
theorem dX10_fault_30 : decode cX10_fault 30 = .ok (.iconst 1, 1) := dcr zo_dX10_fault_30 0 rfl
theorem dX10_fault_31 : decode cX10_fault 31 = .ok (.invokevirtual 116, 3) := dcr zo_dX10_fault_30 1 rfl
theorem dX10_fault_34 : decode cX10_fault 34 = .ok (.goto 5, 3) := dcr zo_dX10_fault_30 2 rfl
theorem dX10_fault_37 : decode cX10_fault 37 = .ok (.bipush (-2), 2) := dcr zo_dX10_fault_30 3 rfl
theorem dX10_fault_39 : decode cX10_fault 39 = .ok (.ireturn, 1) := dcr zo_dX10_fault_30 4 rfl
def zt_wsX10_map : List (List Cond) := [[.code yX10_map cX10_map 4 (some .int)], [.fieldLink RX10 67 "LastMapModel" "sites" "I", .fieldLink RX10 19 "LastMapModel" "pad" "[I", .fieldLink RX10 7 "LastMapModel" "maps" "[I", .fieldLink RX10 70 "LastMapModel" "told" "I", .fieldLink RX10 103 "LastMapModel" "padMany" "I", .methodLink RX10 124 yX10_isMap, .static yX10_isMap, .initialized RX10, .code yX10_isMap cX10_isMap 1 (some .boolean), .constantLong RX10 83 (5), .methodLink RX10 79 yX10_in, .static yX10_in, .code yX10_in cX10_in 6 (some .boolean), .methodLink RX10 116 yX10_faultOfMap, .instanceMethod yX10_faultOfMap, .selects RX10 yX10_faultOfMap yX10_faultOfMap, .code yX10_faultOfMap cX10_faultOfMap 4 (some .int), .methodLink RX10 106 yX10_signOf, .static yX10_signOf, .code yX10_signOf cX10_signOf 1 (some .int), .constantLong RX10 95 (97), .constantLong RX10 97 (100)], wsX100]
theorem zt_wsX10_map_in : ∀ c ∈ zt_wsX10_map, ∀ w ∈ c, w ∈ wsX10_map := List.forall_mem_cons.mpr ⟨fun _ h => List.mem_cons.mpr (Or.inl (List.mem_singleton.mp h)), List.forall_mem_cons.mpr ⟨fun _ h => List.mem_cons_of_mem _ (List.mem_append_left _ (h)), List.forall_mem_cons.mpr ⟨fun _ h => List.mem_cons_of_mem _ (List.mem_append_right _ h), (fun _ h => absurd h List.not_mem_nil)⟩⟩⟩
set_option maxRecDepth 20000 in
theorem zw_wsX10_isMap : wsX10_isMap.all goodWord = true := by decide +kernel
set_option maxRecDepth 20000 in
theorem ggX10_map_X10_isMap : GoodIn wsX10_map wsX10_isMap := goodIn_c zt_wsX10_map_in _ [(1, 8), (1, 9), (1, 10), (1, 11), (1, 7), (1, 12)] rfl zw_wsX10_isMap
set_option maxRecDepth 20000 in
theorem gX10_map_X10_isMap : GoodIn wsX10_map (va_wsS RX10 124 yX10_isMap wsX10_isMap) := goodIn_app (goodIn_of _ (by decide +kernel)) ggX10_map_X10_isMap
set_option maxRecDepth 20000 in
theorem ggX10_map_X10_faultOfMap : GoodIn wsX10_map wsX10_faultOfMap := goodIn_c zt_wsX10_map_in _ [(1, 16), (1, 4), (1, 1), (1, 0), (1, 17), (1, 18), (1, 7), (1, 19), (1, 20), (1, 21), (1, 10), (1, 11), (1, 12), (2, 0), (2, 1), (2, 2), (2, 3), (2, 4), (2, 5), (2, 6), (2, 7), (2, 8), (2, 9), (2, 10), (2, 11), (2, 12), (2, 13), (2, 14), (2, 15), (2, 16), (2, 17), (2, 18), (2, 19), (2, 20), (2, 21), (2, 22), (2, 23), (2, 24), (2, 25), (2, 26), (2, 27)] rfl zw_wsX10_faultOfMap
set_option maxRecDepth 20000 in
theorem gX10_map_X10_faultOfMap : GoodIn wsX10_map (wsV RX10 116 RX10 yX10_faultOfMap wsX10_faultOfMap) := goodIn_app (goodIn_of _ (by decide +kernel)) ggX10_map_X10_faultOfMap
set_option maxRecDepth 20000 in
theorem ggX10_map_X10_signOf : GoodIn wsX10_map wsX10_signOf := goodIn_c zt_wsX10_map_in _ [(1, 19), (1, 20), (1, 21), (1, 10), (1, 11), (1, 7), (1, 12)] rfl zw_wsX10_signOf
set_option maxRecDepth 20000 in
theorem gX10_map_X10_signOf : GoodIn wsX10_map (va_wsS RX10 106 yX10_signOf wsX10_signOf) := goodIn_app (goodIn_of _ (by decide +kernel)) ggX10_map_X10_signOf
theorem zo_dX10_map_0 : ([(0, .iload_n 1, 1), (1, .invokestatic 124, 3), (4, .ifCond .ne 5, 3), (7, .iconst (-1), 1), (8, .ireturn, 1), (9, .aload_n 0, 1), (10, .iconst 0, 1), (11, .invokevirtual 116, 3), (14, .ifCond .lt 6, 3), (17, .bipush (-5), 2), (19, .ireturn, 1), (20, .iconst 0, 1), (21, .istore_n 2, 1), (22, .iconst 0, 1), (23, .istore_n 3, 1), (24, .iload_n 3, 1)] : List (Nat × Instr × Nat)).all (dOk (decode cX10_map)) = true := by decide +kernel
theorem dX10_map_0 : decode cX10_map 0 = .ok (.iload_n 1, 1) := dcr zo_dX10_map_0 0 rfl
theorem dX10_map_1 : decode cX10_map 1 = .ok (.invokestatic 124, 3) := dcr zo_dX10_map_0 1 rfl
theorem dX10_map_4 : decode cX10_map 4 = .ok (.ifCond .ne 5, 3) := dcr zo_dX10_map_0 2 rfl
theorem dX10_map_7 : decode cX10_map 7 = .ok (.iconst (-1), 1) := dcr zo_dX10_map_0 3 rfl
theorem dX10_map_8 : decode cX10_map 8 = .ok (.ireturn, 1) := dcr zo_dX10_map_0 4 rfl
theorem dX10_map_9 : decode cX10_map 9 = .ok (.aload_n 0, 1) := dcr zo_dX10_map_0 5 rfl
theorem dX10_map_10 : decode cX10_map 10 = .ok (.iconst 0, 1) := dcr zo_dX10_map_0 6 rfl
theorem dX10_map_11 : decode cX10_map 11 = .ok (.invokevirtual 116, 3) := dcr zo_dX10_map_0 7 rfl
theorem dX10_map_14 : decode cX10_map 14 = .ok (.ifCond .lt 6, 3) := dcr zo_dX10_map_0 8 rfl
theorem dX10_map_17 : decode cX10_map 17 = .ok (.bipush (-5), 2) := dcr zo_dX10_map_0 9 rfl
theorem dX10_map_19 : decode cX10_map 19 = .ok (.ireturn, 1) := dcr zo_dX10_map_0 10 rfl
theorem dX10_map_20 : decode cX10_map 20 = .ok (.iconst 0, 1) := dcr zo_dX10_map_0 11 rfl
theorem dX10_map_21 : decode cX10_map 21 = .ok (.istore_n 2, 1) := dcr zo_dX10_map_0 12 rfl
theorem dX10_map_22 : decode cX10_map 22 = .ok (.iconst 0, 1) := dcr zo_dX10_map_0 13 rfl
theorem dX10_map_23 : decode cX10_map 23 = .ok (.istore_n 3, 1) := dcr zo_dX10_map_0 14 rfl
theorem dX10_map_24 : decode cX10_map 24 = .ok (.iload_n 3, 1) := dcr zo_dX10_map_0 15 rfl
theorem zo_dX10_map_25 : ([(25, .aload_n 0, 1), (26, .getfield 67, 3), (29, .if_icmp .ge 23, 3), (32, .iconst 5, 1), (33, .iload_n 2, 1), (34, .imul, 1), (35, .aload_n 0, 1), (36, .getfield 19, 3), (39, .iload_n 3, 1), (40, .iaload, 1), (41, .invokestatic 106, 3), (44, .iadd, 1), (45, .istore_n 2, 1), (46, .iinc 3 1, 3), (49, .goto (-25), 3), (52, .aload_n 0, 1)] : List (Nat × Instr × Nat)).all (dOk (decode cX10_map)) = true := by decide +kernel
theorem dX10_map_25 : decode cX10_map 25 = .ok (.aload_n 0, 1) := dcr zo_dX10_map_25 0 rfl
theorem dX10_map_26 : decode cX10_map 26 = .ok (.getfield 67, 3) := dcr zo_dX10_map_25 1 rfl
theorem dX10_map_29 : decode cX10_map 29 = .ok (.if_icmp .ge 23, 3) := dcr zo_dX10_map_25 2 rfl
theorem dX10_map_32 : decode cX10_map 32 = .ok (.iconst 5, 1) := dcr zo_dX10_map_25 3 rfl
theorem dX10_map_33 : decode cX10_map 33 = .ok (.iload_n 2, 1) := dcr zo_dX10_map_25 4 rfl
theorem dX10_map_34 : decode cX10_map 34 = .ok (.imul, 1) := dcr zo_dX10_map_25 5 rfl
theorem dX10_map_35 : decode cX10_map 35 = .ok (.aload_n 0, 1) := dcr zo_dX10_map_25 6 rfl
theorem dX10_map_36 : decode cX10_map 36 = .ok (.getfield 19, 3) := dcr zo_dX10_map_25 7 rfl
theorem dX10_map_39 : decode cX10_map 39 = .ok (.iload_n 3, 1) := dcr zo_dX10_map_25 8 rfl
theorem dX10_map_40 : decode cX10_map 40 = .ok (.iaload, 1) := dcr zo_dX10_map_25 9 rfl
theorem dX10_map_41 : decode cX10_map 41 = .ok (.invokestatic 106, 3) := dcr zo_dX10_map_25 10 rfl
theorem dX10_map_44 : decode cX10_map 44 = .ok (.iadd, 1) := dcr zo_dX10_map_25 11 rfl
theorem dX10_map_45 : decode cX10_map 45 = .ok (.istore_n 2, 1) := dcr zo_dX10_map_25 12 rfl
theorem dX10_map_46 : decode cX10_map 46 = .ok (.iinc 3 1, 3) := dcr zo_dX10_map_25 13 rfl
theorem dX10_map_49 : decode cX10_map 49 = .ok (.goto (-25), 3) := dcr zo_dX10_map_25 14 rfl
theorem dX10_map_52 : decode cX10_map 52 = .ok (.aload_n 0, 1) := dcr zo_dX10_map_25 15 rfl
theorem zo_dX10_map_53 : ([(53, .getfield 7, 3), (56, .iload_n 1, 1), (57, .iload_n 2, 1), (58, .iastore, 1), (59, .aload_n 0, 1), (60, .dup, 1), (61, .getfield 70, 3), (64, .iconst 1, 1), (65, .iload_n 1, 1), (66, .ishl, 1), (67, .ior, 1), (68, .putfield 70, 3), (71, .aload_n 0, 1), (72, .iconst 0, 1), (73, .putfield 103, 3), (76, .iconst 1, 1)] : List (Nat × Instr × Nat)).all (dOk (decode cX10_map)) = true := by decide +kernel
theorem dX10_map_53 : decode cX10_map 53 = .ok (.getfield 7, 3) := dcr zo_dX10_map_53 0 rfl
theorem dX10_map_56 : decode cX10_map 56 = .ok (.iload_n 1, 1) := dcr zo_dX10_map_53 1 rfl
theorem dX10_map_57 : decode cX10_map 57 = .ok (.iload_n 2, 1) := dcr zo_dX10_map_53 2 rfl
theorem dX10_map_58 : decode cX10_map 58 = .ok (.iastore, 1) := dcr zo_dX10_map_53 3 rfl
theorem dX10_map_59 : decode cX10_map 59 = .ok (.aload_n 0, 1) := dcr zo_dX10_map_53 4 rfl
theorem dX10_map_60 : decode cX10_map 60 = .ok (.dup, 1) := dcr zo_dX10_map_53 5 rfl
theorem dX10_map_61 : decode cX10_map 61 = .ok (.getfield 70, 3) := dcr zo_dX10_map_53 6 rfl
theorem dX10_map_64 : decode cX10_map 64 = .ok (.iconst 1, 1) := dcr zo_dX10_map_53 7 rfl
theorem dX10_map_65 : decode cX10_map 65 = .ok (.iload_n 1, 1) := dcr zo_dX10_map_53 8 rfl
theorem dX10_map_66 : decode cX10_map 66 = .ok (.ishl, 1) := dcr zo_dX10_map_53 9 rfl
theorem dX10_map_67 : decode cX10_map 67 = .ok (.ior, 1) := dcr zo_dX10_map_53 10 rfl
theorem dX10_map_68 : decode cX10_map 68 = .ok (.putfield 70, 3) := dcr zo_dX10_map_53 11 rfl
theorem dX10_map_71 : decode cX10_map 71 = .ok (.aload_n 0, 1) := dcr zo_dX10_map_53 12 rfl
theorem dX10_map_72 : decode cX10_map 72 = .ok (.iconst 0, 1) := dcr zo_dX10_map_53 13 rfl
theorem dX10_map_73 : decode cX10_map 73 = .ok (.putfield 103, 3) := dcr zo_dX10_map_53 14 rfl
theorem dX10_map_76 : decode cX10_map 76 = .ok (.iconst 1, 1) := dcr zo_dX10_map_53 15 rfl
theorem zo_dX10_map_77 : ([(77, .ireturn, 1)] : List (Nat × Instr × Nat)).all (dOk (decode cX10_map)) = true := by decide +kernel
theorem dX10_map_77 : decode cX10_map 77 = .ok (.ireturn, 1) := dcr zo_dX10_map_77 0 rfl
def zt_wsX10_at : List (List Cond) := [[.code yX10_at cX10_at 3 (some .int)], wsX10_at_r1, wsX10_at_r2, wsX100]
theorem zt_wsX10_at_in : ∀ c ∈ zt_wsX10_at, ∀ w ∈ c, w ∈ wsX10_at := List.forall_mem_cons.mpr ⟨fun _ h => List.mem_cons.mpr (Or.inl (List.mem_singleton.mp h)), List.forall_mem_cons.mpr ⟨fun _ h => List.mem_cons_of_mem _ (List.mem_append_left _ (List.mem_append_left _ h)), List.forall_mem_cons.mpr ⟨fun _ h => List.mem_cons_of_mem _ (List.mem_append_left _ (List.mem_append_right _ (h))), List.forall_mem_cons.mpr ⟨fun _ h => List.mem_cons_of_mem _ (List.mem_append_right _ h), (fun _ h => absurd h List.not_mem_nil)⟩⟩⟩⟩
set_option maxRecDepth 20000 in
theorem ggX10_at_X10_isMap : GoodIn wsX10_at wsX10_isMap := goodIn_c zt_wsX10_at_in _ [(1, 4), (1, 5), (1, 6), (1, 7), (1, 3), (1, 8)] rfl zw_wsX10_isMap
set_option maxRecDepth 20000 in
theorem gX10_at_X10_isMap : GoodIn wsX10_at (va_wsS RX10 124 yX10_isMap wsX10_isMap) := goodIn_app (goodIn_of _ (by decide +kernel)) ggX10_at_X10_isMap
set_option maxRecDepth 20000 in
theorem zw_wsX10_isSite : wsX10_isSite.all goodWord = true := by decide +kernel
set_option maxRecDepth 20000 in
theorem ggX10_at_X10_isSite : GoodIn wsX10_at wsX10_isSite := goodIn_c zt_wsX10_at_in _ [(1, 12), (1, 13), (1, 6), (1, 7), (1, 3), (1, 8), (3, 0), (3, 1), (3, 2), (3, 3), (3, 4), (3, 5), (3, 6), (3, 7), (3, 8), (3, 9), (3, 10), (3, 11), (3, 12), (3, 13), (3, 14), (3, 15), (3, 16), (3, 17), (3, 18), (3, 19), (3, 20), (3, 21), (3, 22), (3, 23), (3, 24), (3, 25), (3, 26), (3, 27)] rfl zw_wsX10_isSite
set_option maxRecDepth 20000 in
theorem gX10_at_X10_isSite : GoodIn wsX10_at (wsV RX10 128 RX10 yX10_isSite wsX10_isSite) := goodIn_app (goodIn_of _ (by decide +kernel)) ggX10_at_X10_isSite
set_option maxRecDepth 20000 in
theorem zw_wsX10_isTold : wsX10_isTold.all goodWord = true := by decide +kernel
set_option maxRecDepth 20000 in
theorem ggX10_at_X10_isTold : GoodIn wsX10_at wsX10_isTold := goodIn_c zt_wsX10_at_in _ [(1, 17), (1, 18), (3, 0), (3, 1), (3, 2), (3, 3), (3, 4), (3, 5), (3, 6), (3, 7), (3, 8), (3, 9), (3, 10), (3, 11), (3, 12), (3, 13), (3, 14), (3, 15), (3, 16), (3, 17), (3, 18), (3, 19), (3, 20), (3, 21), (3, 22), (3, 23), (3, 24), (3, 25), (3, 26), (3, 27)] rfl zw_wsX10_isTold
set_option maxRecDepth 20000 in
theorem gX10_at_X10_isTold : GoodIn wsX10_at (wsV RX10 131 RX10 yX10_isTold wsX10_isTold) := goodIn_app (goodIn_of _ (by decide +kernel)) ggX10_at_X10_isTold
set_option maxRecDepth 20000 in
theorem ggX10_at_X10_signAt : GoodIn wsX10_at wsX10_signAt := goodIn_c zt_wsX10_at_in _ [(1, 22), (1, 23), (3, 0), (3, 1), (3, 2), (3, 3), (3, 4), (3, 5), (3, 6), (3, 7), (3, 8), (3, 9), (3, 10), (3, 11), (3, 12), (3, 13), (3, 14), (3, 15), (3, 16), (3, 17), (3, 18), (3, 19), (3, 20), (3, 21), (3, 22), (3, 23), (3, 24), (3, 25), (3, 26), (3, 27)] rfl zw_wsX10_signAt
set_option maxRecDepth 20000 in
theorem gX10_at_X10_signAt : GoodIn wsX10_at (wsV RX10 91 RX10 yX10_signAt wsX10_signAt) := goodIn_app (goodIn_of _ (by decide +kernel)) ggX10_at_X10_signAt
set_option maxRecDepth 20000 in
theorem zw_wsX10_codeOf : wsX10_codeOf.all goodWord = true := by decide +kernel
set_option maxRecDepth 20000 in
theorem ggX10_at_X10_codeOf : GoodIn wsX10_at wsX10_codeOf := goodIn_c zt_wsX10_at_in _ [(2, 2)] rfl zw_wsX10_codeOf
set_option maxRecDepth 20000 in
theorem gX10_at_X10_codeOf : GoodIn wsX10_at (va_wsS RX10 134 yX10_codeOf wsX10_codeOf) := goodIn_app (goodIn_of _ (by decide +kernel)) ggX10_at_X10_codeOf
theorem zo_dX10_at_0 : ([(0, .iload_n 1, 1), (1, .invokestatic 124, 3), (4, .ifCond .eq 11, 3), (7, .aload_n 0, 1), (8, .iload_n 2, 1), (9, .invokevirtual 128, 3), (12, .ifCond .ne 5, 3), (15, .iconst (-1), 1), (16, .ireturn, 1), (17, .aload_n 0, 1), (18, .iload_n 1, 1), (19, .invokevirtual 131, 3), (22, .ifCond .eq 20, 3), (25, .aload_n 0, 1), (26, .aload_n 0, 1), (27, .getfield 7, 3)] : List (Nat × Instr × Nat)).all (dOk (decode cX10_at)) = true := by decide +kernel
theorem dX10_at_0 : decode cX10_at 0 = .ok (.iload_n 1, 1) := dcr zo_dX10_at_0 0 rfl
theorem dX10_at_1 : decode cX10_at 1 = .ok (.invokestatic 124, 3) := dcr zo_dX10_at_0 1 rfl
theorem dX10_at_4 : decode cX10_at 4 = .ok (.ifCond .eq 11, 3) := dcr zo_dX10_at_0 2 rfl
theorem dX10_at_7 : decode cX10_at 7 = .ok (.aload_n 0, 1) := dcr zo_dX10_at_0 3 rfl
theorem dX10_at_8 : decode cX10_at 8 = .ok (.iload_n 2, 1) := dcr zo_dX10_at_0 4 rfl
theorem dX10_at_9 : decode cX10_at 9 = .ok (.invokevirtual 128, 3) := dcr zo_dX10_at_0 5 rfl
theorem dX10_at_12 : decode cX10_at 12 = .ok (.ifCond .ne 5, 3) := dcr zo_dX10_at_0 6 rfl
theorem dX10_at_15 : decode cX10_at 15 = .ok (.iconst (-1), 1) := dcr zo_dX10_at_0 7 rfl
theorem dX10_at_16 : decode cX10_at 16 = .ok (.ireturn, 1) := dcr zo_dX10_at_0 8 rfl
theorem dX10_at_17 : decode cX10_at 17 = .ok (.aload_n 0, 1) := dcr zo_dX10_at_0 9 rfl
theorem dX10_at_18 : decode cX10_at 18 = .ok (.iload_n 1, 1) := dcr zo_dX10_at_0 10 rfl
theorem dX10_at_19 : decode cX10_at 19 = .ok (.invokevirtual 131, 3) := dcr zo_dX10_at_0 11 rfl
theorem dX10_at_22 : decode cX10_at 22 = .ok (.ifCond .eq 20, 3) := dcr zo_dX10_at_0 12 rfl
theorem dX10_at_25 : decode cX10_at 25 = .ok (.aload_n 0, 1) := dcr zo_dX10_at_0 13 rfl
theorem dX10_at_26 : decode cX10_at 26 = .ok (.aload_n 0, 1) := dcr zo_dX10_at_0 14 rfl
theorem dX10_at_27 : decode cX10_at 27 = .ok (.getfield 7, 3) := dcr zo_dX10_at_0 15 rfl
theorem zo_dX10_at_30 : ([(30, .iload_n 1, 1), (31, .iaload, 1), (32, .iload_n 2, 1), (33, .invokevirtual 91, 3), (36, .invokestatic 134, 3), (39, .goto 5, 3), (42, .bipush (-3), 2), (44, .ireturn, 1)] : List (Nat × Instr × Nat)).all (dOk (decode cX10_at)) = true := by decide +kernel
theorem dX10_at_30 : decode cX10_at 30 = .ok (.iload_n 1, 1) := dcr zo_dX10_at_30 0 rfl
theorem dX10_at_31 : decode cX10_at 31 = .ok (.iaload, 1) := dcr zo_dX10_at_30 1 rfl
theorem dX10_at_32 : decode cX10_at 32 = .ok (.iload_n 2, 1) := dcr zo_dX10_at_30 2 rfl
theorem dX10_at_33 : decode cX10_at 33 = .ok (.invokevirtual 91, 3) := dcr zo_dX10_at_30 3 rfl
theorem dX10_at_36 : decode cX10_at 36 = .ok (.invokestatic 134, 3) := dcr zo_dX10_at_30 4 rfl
theorem dX10_at_39 : decode cX10_at 39 = .ok (.goto 5, 3) := dcr zo_dX10_at_30 5 rfl
theorem dX10_at_42 : decode cX10_at 42 = .ok (.bipush (-3), 2) := dcr zo_dX10_at_30 6 rfl
theorem dX10_at_44 : decode cX10_at 44 = .ok (.ireturn, 1) := dcr zo_dX10_at_30 7 rfl
def zt_wsX10_hand : List (List Cond) := [[.code yX10_hand cX10_hand 4 (some .int)], [.constantLong RX10 140 (15), .fieldLink RX10 13 "LastMapModel" "kinds" "[I", .methodLink RX10 137 yX10_isHand, .static yX10_isHand, .initialized RX10, .code yX10_isHand cX10_isHand 1 (some .boolean), .constantLong RX10 85 (3), .methodLink RX10 79 yX10_in, .static yX10_in, .code yX10_in cX10_in 6 (some .boolean)], wsX100]
theorem zt_wsX10_hand_in : ∀ c ∈ zt_wsX10_hand, ∀ w ∈ c, w ∈ wsX10_hand := List.forall_mem_cons.mpr ⟨fun _ h => List.mem_cons.mpr (Or.inl (List.mem_singleton.mp h)), List.forall_mem_cons.mpr ⟨fun _ h => List.mem_cons_of_mem _ (List.mem_append_left _ (h)), List.forall_mem_cons.mpr ⟨fun _ h => List.mem_cons_of_mem _ (List.mem_append_right _ h), (fun _ h => absurd h List.not_mem_nil)⟩⟩⟩
set_option maxRecDepth 20000 in
theorem zw_wsX10_isHand : wsX10_isHand.all goodWord = true := by decide +kernel
set_option maxRecDepth 20000 in
theorem ggX10_hand_X10_isHand : GoodIn wsX10_hand wsX10_isHand := goodIn_c zt_wsX10_hand_in _ [(1, 5), (1, 6), (1, 7), (1, 8), (1, 4), (1, 9)] rfl zw_wsX10_isHand
set_option maxRecDepth 20000 in
theorem gX10_hand_X10_isHand : GoodIn wsX10_hand (va_wsS RX10 137 yX10_isHand wsX10_isHand) := goodIn_app (goodIn_of _ (by decide +kernel)) ggX10_hand_X10_isHand
set_option maxRecDepth 20000 in
theorem ggX10_hand_X10_in : GoodIn wsX10_hand wsX10_in := goodIn_c zt_wsX10_hand_in _ [(1, 9)] rfl zw_wsX10_in
set_option maxRecDepth 20000 in
theorem gX10_hand_X10_in : GoodIn wsX10_hand (va_wsS RX10 79 yX10_in wsX10_in) := goodIn_app (goodIn_of _ (by decide +kernel)) ggX10_hand_X10_in
theorem zo_dX10_hand_0 : ([(0, .iload_n 1, 1), (1, .invokestatic 137, 3), (4, .ifCond .ne 5, 3), (7, .iconst (-1), 1), (8, .ireturn, 1), (9, .iload_n 2, 1), (10, .i2l, 1), (11, .lconst 0, 1), (12, .ldc2_w 140, 3), (15, .invokestatic 79, 3), (18, .ifCond .ne 6, 3), (21, .bipush (-2), 2), (23, .ireturn, 1), (24, .aload_n 0, 1), (25, .getfield 13, 3), (28, .iload_n 1, 1)] : List (Nat × Instr × Nat)).all (dOk (decode cX10_hand)) = true := by decide +kernel
theorem dX10_hand_0 : decode cX10_hand 0 = .ok (.iload_n 1, 1) := dcr zo_dX10_hand_0 0 rfl
theorem dX10_hand_1 : decode cX10_hand 1 = .ok (.invokestatic 137, 3) := dcr zo_dX10_hand_0 1 rfl
theorem dX10_hand_4 : decode cX10_hand 4 = .ok (.ifCond .ne 5, 3) := dcr zo_dX10_hand_0 2 rfl
theorem dX10_hand_7 : decode cX10_hand 7 = .ok (.iconst (-1), 1) := dcr zo_dX10_hand_0 3 rfl
theorem dX10_hand_8 : decode cX10_hand 8 = .ok (.ireturn, 1) := dcr zo_dX10_hand_0 4 rfl
theorem dX10_hand_9 : decode cX10_hand 9 = .ok (.iload_n 2, 1) := dcr zo_dX10_hand_0 5 rfl
theorem dX10_hand_10 : decode cX10_hand 10 = .ok (.i2l, 1) := dcr zo_dX10_hand_0 6 rfl
theorem dX10_hand_11 : decode cX10_hand 11 = .ok (.lconst 0, 1) := dcr zo_dX10_hand_0 7 rfl
theorem dX10_hand_12 : decode cX10_hand 12 = .ok (.ldc2_w 140, 3) := dcr zo_dX10_hand_0 8 rfl
theorem dX10_hand_15 : decode cX10_hand 15 = .ok (.invokestatic 79, 3) := dcr zo_dX10_hand_0 9 rfl
theorem dX10_hand_18 : decode cX10_hand 18 = .ok (.ifCond .ne 6, 3) := dcr zo_dX10_hand_0 10 rfl
theorem dX10_hand_21 : decode cX10_hand 21 = .ok (.bipush (-2), 2) := dcr zo_dX10_hand_0 11 rfl
theorem dX10_hand_23 : decode cX10_hand 23 = .ok (.ireturn, 1) := dcr zo_dX10_hand_0 12 rfl
theorem dX10_hand_24 : decode cX10_hand 24 = .ok (.aload_n 0, 1) := dcr zo_dX10_hand_0 13 rfl
theorem dX10_hand_25 : decode cX10_hand 25 = .ok (.getfield 13, 3) := dcr zo_dX10_hand_0 14 rfl
theorem dX10_hand_28 : decode cX10_hand 28 = .ok (.iload_n 1, 1) := dcr zo_dX10_hand_0 15 rfl
theorem zo_dX10_hand_29 : ([(29, .iaload, 1), (30, .istore_n 3, 1), (31, .aload_n 0, 1), (32, .getfield 13, 3), (35, .iload_n 1, 1), (36, .iload_n 2, 1), (37, .iastore, 1), (38, .iload_n 3, 1), (39, .ireturn, 1)] : List (Nat × Instr × Nat)).all (dOk (decode cX10_hand)) = true := by decide +kernel
theorem dX10_hand_29 : decode cX10_hand 29 = .ok (.iaload, 1) := dcr zo_dX10_hand_29 0 rfl
theorem dX10_hand_30 : decode cX10_hand 30 = .ok (.istore_n 3, 1) := dcr zo_dX10_hand_29 1 rfl
theorem dX10_hand_31 : decode cX10_hand 31 = .ok (.aload_n 0, 1) := dcr zo_dX10_hand_29 2 rfl
theorem dX10_hand_32 : decode cX10_hand 32 = .ok (.getfield 13, 3) := dcr zo_dX10_hand_29 3 rfl
theorem dX10_hand_35 : decode cX10_hand 35 = .ok (.iload_n 1, 1) := dcr zo_dX10_hand_29 4 rfl
theorem dX10_hand_36 : decode cX10_hand 36 = .ok (.iload_n 2, 1) := dcr zo_dX10_hand_29 5 rfl
theorem dX10_hand_37 : decode cX10_hand 37 = .ok (.iastore, 1) := dcr zo_dX10_hand_29 6 rfl
theorem dX10_hand_38 : decode cX10_hand 38 = .ok (.iload_n 3, 1) := dcr zo_dX10_hand_29 7 rfl
theorem dX10_hand_39 : decode cX10_hand 39 = .ok (.ireturn, 1) := dcr zo_dX10_hand_29 8 rfl
theorem zo_dX10_slipsThere_0 : ([(0, .iconst 4, 1), (1, .aload_n 0, 1), (2, .getfield 67, 3), (5, .imul, 1), (6, .iconst 2, 1), (7, .aload_n 0, 1), (8, .getfield 67, 3), (11, .iconst 1, 1), (12, .isub, 1), (13, .imul, 1), (14, .iadd, 1), (15, .aload_n 0, 1), (16, .getfield 67, 3), (19, .iadd, 1), (20, .ireturn, 1)] : List (Nat × Instr × Nat)).all (dOk (decode cX10_slipsThere)) = true := by decide +kernel
theorem dX10_slipsThere_0 : decode cX10_slipsThere 0 = .ok (.iconst 4, 1) := dcr zo_dX10_slipsThere_0 0 rfl
theorem dX10_slipsThere_1 : decode cX10_slipsThere 1 = .ok (.aload_n 0, 1) := dcr zo_dX10_slipsThere_0 1 rfl
theorem dX10_slipsThere_2 : decode cX10_slipsThere 2 = .ok (.getfield 67, 3) := dcr zo_dX10_slipsThere_0 2 rfl
theorem dX10_slipsThere_5 : decode cX10_slipsThere 5 = .ok (.imul, 1) := dcr zo_dX10_slipsThere_0 3 rfl
theorem dX10_slipsThere_6 : decode cX10_slipsThere 6 = .ok (.iconst 2, 1) := dcr zo_dX10_slipsThere_0 4 rfl
theorem dX10_slipsThere_7 : decode cX10_slipsThere 7 = .ok (.aload_n 0, 1) := dcr zo_dX10_slipsThere_0 5 rfl
theorem dX10_slipsThere_8 : decode cX10_slipsThere 8 = .ok (.getfield 67, 3) := dcr zo_dX10_slipsThere_0 6 rfl
theorem dX10_slipsThere_11 : decode cX10_slipsThere 11 = .ok (.iconst 1, 1) := dcr zo_dX10_slipsThere_0 7 rfl
theorem dX10_slipsThere_12 : decode cX10_slipsThere 12 = .ok (.isub, 1) := dcr zo_dX10_slipsThere_0 8 rfl
theorem dX10_slipsThere_13 : decode cX10_slipsThere 13 = .ok (.imul, 1) := dcr zo_dX10_slipsThere_0 9 rfl
theorem dX10_slipsThere_14 : decode cX10_slipsThere 14 = .ok (.iadd, 1) := dcr zo_dX10_slipsThere_0 10 rfl
theorem dX10_slipsThere_15 : decode cX10_slipsThere 15 = .ok (.aload_n 0, 1) := dcr zo_dX10_slipsThere_0 11 rfl
theorem dX10_slipsThere_16 : decode cX10_slipsThere 16 = .ok (.getfield 67, 3) := dcr zo_dX10_slipsThere_0 12 rfl
theorem dX10_slipsThere_19 : decode cX10_slipsThere 19 = .ok (.iadd, 1) := dcr zo_dX10_slipsThere_0 13 rfl
theorem dX10_slipsThere_20 : decode cX10_slipsThere 20 = .ok (.ireturn, 1) := dcr zo_dX10_slipsThere_0 14 rfl
theorem zo_dX10_slipAt_0 : ([(0, .iload_n 1, 1), (1, .iconst 4, 1), (2, .aload_n 0, 1), (3, .getfield 67, 3), (6, .imul, 1), (7, .isub, 1), (8, .istore_n 2, 1), (9, .iload_n 2, 1), (10, .ifCond .ge 14, 3), (13, .bipush 10, 2), (15, .iload_n 1, 1), (16, .iconst 4, 1), (17, .idiv, 1), (18, .imul, 1), (19, .iload_n 1, 1), (20, .iconst 4, 1)] : List (Nat × Instr × Nat)).all (dOk (decode cX10_slipAt)) = true := by decide +kernel
theorem dX10_slipAt_0 : decode cX10_slipAt 0 = .ok (.iload_n 1, 1) := dcr zo_dX10_slipAt_0 0 rfl
theorem dX10_slipAt_1 : decode cX10_slipAt 1 = .ok (.iconst 4, 1) := dcr zo_dX10_slipAt_0 1 rfl
theorem dX10_slipAt_2 : decode cX10_slipAt 2 = .ok (.aload_n 0, 1) := dcr zo_dX10_slipAt_0 2 rfl
theorem dX10_slipAt_3 : decode cX10_slipAt 3 = .ok (.getfield 67, 3) := dcr zo_dX10_slipAt_0 3 rfl
theorem dX10_slipAt_6 : decode cX10_slipAt 6 = .ok (.imul, 1) := dcr zo_dX10_slipAt_0 4 rfl
theorem dX10_slipAt_7 : decode cX10_slipAt 7 = .ok (.isub, 1) := dcr zo_dX10_slipAt_0 5 rfl
theorem dX10_slipAt_8 : decode cX10_slipAt 8 = .ok (.istore_n 2, 1) := dcr zo_dX10_slipAt_0 6 rfl
theorem dX10_slipAt_9 : decode cX10_slipAt 9 = .ok (.iload_n 2, 1) := dcr zo_dX10_slipAt_0 7 rfl
theorem dX10_slipAt_10 : decode cX10_slipAt 10 = .ok (.ifCond .ge 14, 3) := dcr zo_dX10_slipAt_0 8 rfl
theorem dX10_slipAt_13 : decode cX10_slipAt 13 = .ok (.bipush 10, 2) := dcr zo_dX10_slipAt_0 9 rfl
theorem dX10_slipAt_15 : decode cX10_slipAt 15 = .ok (.iload_n 1, 1) := dcr zo_dX10_slipAt_0 10 rfl
theorem dX10_slipAt_16 : decode cX10_slipAt 16 = .ok (.iconst 4, 1) := dcr zo_dX10_slipAt_0 11 rfl
theorem dX10_slipAt_17 : decode cX10_slipAt 17 = .ok (.idiv, 1) := dcr zo_dX10_slipAt_0 12 rfl
theorem dX10_slipAt_18 : decode cX10_slipAt 18 = .ok (.imul, 1) := dcr zo_dX10_slipAt_0 13 rfl
theorem dX10_slipAt_19 : decode cX10_slipAt 19 = .ok (.iload_n 1, 1) := dcr zo_dX10_slipAt_0 14 rfl
theorem dX10_slipAt_20 : decode cX10_slipAt 20 = .ok (.iconst 4, 1) := dcr zo_dX10_slipAt_0 15 rfl
theorem zo_dX10_slipAt_21 : ([(21, .irem, 1), (22, .iadd, 1), (23, .ireturn, 1), (24, .iconst 2, 1), (25, .aload_n 0, 1), (26, .getfield 67, 3), (29, .iconst 1, 1), (30, .isub, 1), (31, .imul, 1), (32, .istore_n 3, 1), (33, .iload_n 2, 1), (34, .aload_n 0, 1), (35, .getfield 67, 3), (38, .iconst 1, 1), (39, .isub, 1), (40, .if_icmp .ge 13, 3)] : List (Nat × Instr × Nat)).all (dOk (decode cX10_slipAt)) = true := by decide +kernel
theorem dX10_slipAt_21 : decode cX10_slipAt 21 = .ok (.irem, 1) := dcr zo_dX10_slipAt_21 0 rfl
theorem dX10_slipAt_22 : decode cX10_slipAt 22 = .ok (.iadd, 1) := dcr zo_dX10_slipAt_21 1 rfl
theorem dX10_slipAt_23 : decode cX10_slipAt 23 = .ok (.ireturn, 1) := dcr zo_dX10_slipAt_21 2 rfl
theorem dX10_slipAt_24 : decode cX10_slipAt 24 = .ok (.iconst 2, 1) := dcr zo_dX10_slipAt_21 3 rfl
theorem dX10_slipAt_25 : decode cX10_slipAt 25 = .ok (.aload_n 0, 1) := dcr zo_dX10_slipAt_21 4 rfl
theorem dX10_slipAt_26 : decode cX10_slipAt 26 = .ok (.getfield 67, 3) := dcr zo_dX10_slipAt_21 5 rfl
theorem dX10_slipAt_29 : decode cX10_slipAt 29 = .ok (.iconst 1, 1) := dcr zo_dX10_slipAt_21 6 rfl
theorem dX10_slipAt_30 : decode cX10_slipAt 30 = .ok (.isub, 1) := dcr zo_dX10_slipAt_21 7 rfl
theorem dX10_slipAt_31 : decode cX10_slipAt 31 = .ok (.imul, 1) := dcr zo_dX10_slipAt_21 8 rfl
theorem dX10_slipAt_32 : decode cX10_slipAt 32 = .ok (.istore_n 3, 1) := dcr zo_dX10_slipAt_21 9 rfl
theorem dX10_slipAt_33 : decode cX10_slipAt 33 = .ok (.iload_n 2, 1) := dcr zo_dX10_slipAt_21 10 rfl
theorem dX10_slipAt_34 : decode cX10_slipAt 34 = .ok (.aload_n 0, 1) := dcr zo_dX10_slipAt_21 11 rfl
theorem dX10_slipAt_35 : decode cX10_slipAt 35 = .ok (.getfield 67, 3) := dcr zo_dX10_slipAt_21 12 rfl
theorem dX10_slipAt_38 : decode cX10_slipAt 38 = .ok (.iconst 1, 1) := dcr zo_dX10_slipAt_21 13 rfl
theorem dX10_slipAt_39 : decode cX10_slipAt 39 = .ok (.isub, 1) := dcr zo_dX10_slipAt_21 14 rfl
theorem dX10_slipAt_40 : decode cX10_slipAt 40 = .ok (.if_icmp .ge 13, 3) := dcr zo_dX10_slipAt_21 15 rfl
theorem zo_dX10_slipAt_43 : ([(43, .bipush 100, 2), (45, .bipush 10, 2), (47, .iload_n 2, 1), (48, .imul, 1), (49, .iadd, 1), (50, .goto 36, 3), (53, .iload_n 2, 1), (54, .iload_n 3, 1), (55, .if_icmp .ge 21, 3), (58, .sipush 200, 3), (61, .bipush 10, 2), (63, .iload_n 2, 1), (64, .aload_n 0, 1), (65, .getfield 67, 3), (68, .isub, 1), (69, .iconst 1, 1)] : List (Nat × Instr × Nat)).all (dOk (decode cX10_slipAt)) = true := by decide +kernel
theorem dX10_slipAt_43 : decode cX10_slipAt 43 = .ok (.bipush 100, 2) := dcr zo_dX10_slipAt_43 0 rfl
theorem dX10_slipAt_45 : decode cX10_slipAt 45 = .ok (.bipush 10, 2) := dcr zo_dX10_slipAt_43 1 rfl
theorem dX10_slipAt_47 : decode cX10_slipAt 47 = .ok (.iload_n 2, 1) := dcr zo_dX10_slipAt_43 2 rfl
theorem dX10_slipAt_48 : decode cX10_slipAt 48 = .ok (.imul, 1) := dcr zo_dX10_slipAt_43 3 rfl
theorem dX10_slipAt_49 : decode cX10_slipAt 49 = .ok (.iadd, 1) := dcr zo_dX10_slipAt_43 4 rfl
theorem dX10_slipAt_50 : decode cX10_slipAt 50 = .ok (.goto 36, 3) := dcr zo_dX10_slipAt_43 5 rfl
theorem dX10_slipAt_53 : decode cX10_slipAt 53 = .ok (.iload_n 2, 1) := dcr zo_dX10_slipAt_43 6 rfl
theorem dX10_slipAt_54 : decode cX10_slipAt 54 = .ok (.iload_n 3, 1) := dcr zo_dX10_slipAt_43 7 rfl
theorem dX10_slipAt_55 : decode cX10_slipAt 55 = .ok (.if_icmp .ge 21, 3) := dcr zo_dX10_slipAt_43 8 rfl
theorem dX10_slipAt_58 : decode cX10_slipAt 58 = .ok (.sipush 200, 3) := dcr zo_dX10_slipAt_43 9 rfl
theorem dX10_slipAt_61 : decode cX10_slipAt 61 = .ok (.bipush 10, 2) := dcr zo_dX10_slipAt_43 10 rfl
theorem dX10_slipAt_63 : decode cX10_slipAt 63 = .ok (.iload_n 2, 1) := dcr zo_dX10_slipAt_43 11 rfl
theorem dX10_slipAt_64 : decode cX10_slipAt 64 = .ok (.aload_n 0, 1) := dcr zo_dX10_slipAt_43 12 rfl
theorem dX10_slipAt_65 : decode cX10_slipAt 65 = .ok (.getfield 67, 3) := dcr zo_dX10_slipAt_43 13 rfl
theorem dX10_slipAt_68 : decode cX10_slipAt 68 = .ok (.isub, 1) := dcr zo_dX10_slipAt_43 14 rfl
theorem dX10_slipAt_69 : decode cX10_slipAt 69 = .ok (.iconst 1, 1) := dcr zo_dX10_slipAt_43 15 rfl
theorem zo_dX10_slipAt_70 : ([(70, .iadd, 1), (71, .imul, 1), (72, .iadd, 1), (73, .goto 13, 3), (76, .sipush 300, 3), (79, .bipush 10, 2), (81, .iload_n 2, 1), (82, .iload_n 3, 1), (83, .isub, 1), (84, .imul, 1), (85, .iadd, 1), (86, .ireturn, 1)] : List (Nat × Instr × Nat)).all (dOk (decode cX10_slipAt)) = true := by decide +kernel
theorem dX10_slipAt_70 : decode cX10_slipAt 70 = .ok (.iadd, 1) := dcr zo_dX10_slipAt_70 0 rfl
theorem dX10_slipAt_71 : decode cX10_slipAt 71 = .ok (.imul, 1) := dcr zo_dX10_slipAt_70 1 rfl
theorem dX10_slipAt_72 : decode cX10_slipAt 72 = .ok (.iadd, 1) := dcr zo_dX10_slipAt_70 2 rfl
theorem dX10_slipAt_73 : decode cX10_slipAt 73 = .ok (.goto 13, 3) := dcr zo_dX10_slipAt_70 3 rfl
theorem dX10_slipAt_76 : decode cX10_slipAt 76 = .ok (.sipush 300, 3) := dcr zo_dX10_slipAt_70 4 rfl
theorem dX10_slipAt_79 : decode cX10_slipAt 79 = .ok (.bipush 10, 2) := dcr zo_dX10_slipAt_70 5 rfl
theorem dX10_slipAt_81 : decode cX10_slipAt 81 = .ok (.iload_n 2, 1) := dcr zo_dX10_slipAt_70 6 rfl
theorem dX10_slipAt_82 : decode cX10_slipAt 82 = .ok (.iload_n 3, 1) := dcr zo_dX10_slipAt_70 7 rfl
theorem dX10_slipAt_83 : decode cX10_slipAt 83 = .ok (.isub, 1) := dcr zo_dX10_slipAt_70 8 rfl
theorem dX10_slipAt_84 : decode cX10_slipAt 84 = .ok (.imul, 1) := dcr zo_dX10_slipAt_70 9 rfl
theorem dX10_slipAt_85 : decode cX10_slipAt 85 = .ok (.iadd, 1) := dcr zo_dX10_slipAt_70 10 rfl
theorem dX10_slipAt_86 : decode cX10_slipAt 86 = .ok (.ireturn, 1) := dcr zo_dX10_slipAt_70 11 rfl
def zt_wsX10_slipped : List (List Cond) := [[.code yX10_slipped cX10_slipped 5 (some .int)], [.methodLink RX10 91 yX10_signAt, .instanceMethod yX10_signAt, .selects RX10 yX10_signAt yX10_signAt, .initialized RX10, .code yX10_signAt cX10_signAt 3 (some .int), .fieldLink RX10 16 "LastMapModel" "part" "[I", .methodLink RX10 142 yX10_with, .instanceMethod yX10_with, .selects RX10 yX10_with yX10_with, .code yX10_with cX10_with 4 (some .int)], wsX100]
theorem zt_wsX10_slipped_in : ∀ c ∈ zt_wsX10_slipped, ∀ w ∈ c, w ∈ wsX10_slipped := List.forall_mem_cons.mpr ⟨fun _ h => List.mem_cons.mpr (Or.inl (List.mem_singleton.mp h)), List.forall_mem_cons.mpr ⟨fun _ h => List.mem_cons_of_mem _ (List.mem_append_left _ (h)), List.forall_mem_cons.mpr ⟨fun _ h => List.mem_cons_of_mem _ (List.mem_append_right _ h), (fun _ h => absurd h List.not_mem_nil)⟩⟩⟩
set_option maxRecDepth 20000 in
theorem ggX10_slipped_X10_signAt : GoodIn wsX10_slipped wsX10_signAt := goodIn_c zt_wsX10_slipped_in _ [(1, 4), (1, 5), (2, 0), (2, 1), (2, 2), (2, 3), (2, 4), (2, 5), (2, 6), (2, 7), (2, 8), (2, 9), (2, 10), (2, 11), (2, 12), (2, 13), (2, 14), (2, 15), (2, 16), (2, 17), (2, 18), (2, 19), (2, 20), (2, 21), (2, 22), (2, 23), (2, 24), (2, 25), (2, 26), (2, 27)] rfl zw_wsX10_signAt
set_option maxRecDepth 20000 in
theorem gX10_slipped_X10_signAt : GoodIn wsX10_slipped (wsV RX10 91 RX10 yX10_signAt wsX10_signAt) := goodIn_app (goodIn_of _ (by decide +kernel)) ggX10_slipped_X10_signAt
set_option maxRecDepth 20000 in
theorem zw_wsX10_with : wsX10_with.all goodWord = true := by decide +kernel
set_option maxRecDepth 20000 in
theorem ggX10_slipped_X10_with : GoodIn wsX10_slipped wsX10_with := goodIn_c zt_wsX10_slipped_in _ [(1, 9), (1, 5), (1, 0), (1, 1), (1, 2), (1, 3), (1, 4), (2, 0), (2, 1), (2, 2), (2, 3), (2, 4), (2, 5), (2, 6), (2, 7), (2, 8), (2, 9), (2, 10), (2, 11), (2, 12), (2, 13), (2, 14), (2, 15), (2, 16), (2, 17), (2, 18), (2, 19), (2, 20), (2, 21), (2, 22), (2, 23), (2, 24), (2, 25), (2, 26), (2, 27)] rfl zw_wsX10_with
set_option maxRecDepth 20000 in
theorem gX10_slipped_X10_with : GoodIn wsX10_slipped (wsV RX10 142 RX10 yX10_with wsX10_with) := goodIn_app (goodIn_of _ (by decide +kernel)) ggX10_slipped_X10_with
theorem zo_dX10_slipped_0 : ([(0, .iload_n 2, 1), (1, .bipush 10, 2), (3, .idiv, 1), (4, .bipush 10, 2), (6, .irem, 1), (7, .istore_n 3, 1), (8, .aload_n 0, 1), (9, .iload_n 1, 1), (10, .iload_n 3, 1), (11, .invokevirtual 91, 3), (14, .istore 4, 2), (16, .iload_n 2, 1), (17, .bipush 100, 2), (19, .idiv, 1), (20, .tableswitch 74 0 2 #[28, 39, 63], 28), (48, .aload_n 0, 1)] : List (Nat × Instr × Nat)).all (dOk (decode cX10_slipped)) = true := by decide +kernel
theorem dX10_slipped_0 : decode cX10_slipped 0 = .ok (.iload_n 2, 1) := dcr zo_dX10_slipped_0 0 rfl
theorem dX10_slipped_1 : decode cX10_slipped 1 = .ok (.bipush 10, 2) := dcr zo_dX10_slipped_0 1 rfl
theorem dX10_slipped_3 : decode cX10_slipped 3 = .ok (.idiv, 1) := dcr zo_dX10_slipped_0 2 rfl
theorem dX10_slipped_4 : decode cX10_slipped 4 = .ok (.bipush 10, 2) := dcr zo_dX10_slipped_0 3 rfl
theorem dX10_slipped_6 : decode cX10_slipped 6 = .ok (.irem, 1) := dcr zo_dX10_slipped_0 4 rfl
theorem dX10_slipped_7 : decode cX10_slipped 7 = .ok (.istore_n 3, 1) := dcr zo_dX10_slipped_0 5 rfl
theorem dX10_slipped_8 : decode cX10_slipped 8 = .ok (.aload_n 0, 1) := dcr zo_dX10_slipped_0 6 rfl
theorem dX10_slipped_9 : decode cX10_slipped 9 = .ok (.iload_n 1, 1) := dcr zo_dX10_slipped_0 7 rfl
theorem dX10_slipped_10 : decode cX10_slipped 10 = .ok (.iload_n 3, 1) := dcr zo_dX10_slipped_0 8 rfl
theorem dX10_slipped_11 : decode cX10_slipped 11 = .ok (.invokevirtual 91, 3) := dcr zo_dX10_slipped_0 9 rfl
theorem dX10_slipped_14 : decode cX10_slipped 14 = .ok (.istore 4, 2) := dcr zo_dX10_slipped_0 10 rfl
theorem dX10_slipped_16 : decode cX10_slipped 16 = .ok (.iload_n 2, 1) := dcr zo_dX10_slipped_0 11 rfl
theorem dX10_slipped_17 : decode cX10_slipped 17 = .ok (.bipush 100, 2) := dcr zo_dX10_slipped_0 12 rfl
theorem dX10_slipped_19 : decode cX10_slipped 19 = .ok (.idiv, 1) := dcr zo_dX10_slipped_0 13 rfl
theorem dX10_slipped_20 : decode cX10_slipped 20 = .ok (.tableswitch 74 0 2 #[28, 39, 63], 28) := dcr zo_dX10_slipped_0 14 rfl
theorem dX10_slipped_48 : decode cX10_slipped 48 = .ok (.aload_n 0, 1) := dcr zo_dX10_slipped_0 15 rfl
theorem zo_dX10_slipped_49 : ([(49, .iload_n 1, 1), (50, .iload_n 3, 1), (51, .iload_n 2, 1), (52, .bipush 10, 2), (54, .irem, 1), (55, .invokevirtual 142, 3), (58, .ireturn, 1), (59, .aload_n 0, 1), (60, .aload_n 0, 1), (61, .iload_n 1, 1), (62, .iload_n 3, 1), (63, .aload_n 0, 1), (64, .iload_n 1, 1), (65, .iload_n 3, 1), (66, .iconst 1, 1), (67, .iadd, 1)] : List (Nat × Instr × Nat)).all (dOk (decode cX10_slipped)) = true := by decide +kernel
theorem dX10_slipped_49 : decode cX10_slipped 49 = .ok (.iload_n 1, 1) := dcr zo_dX10_slipped_49 0 rfl
theorem dX10_slipped_50 : decode cX10_slipped 50 = .ok (.iload_n 3, 1) := dcr zo_dX10_slipped_49 1 rfl
theorem dX10_slipped_51 : decode cX10_slipped 51 = .ok (.iload_n 2, 1) := dcr zo_dX10_slipped_49 2 rfl
theorem dX10_slipped_52 : decode cX10_slipped 52 = .ok (.bipush 10, 2) := dcr zo_dX10_slipped_49 3 rfl
theorem dX10_slipped_54 : decode cX10_slipped 54 = .ok (.irem, 1) := dcr zo_dX10_slipped_49 4 rfl
theorem dX10_slipped_55 : decode cX10_slipped 55 = .ok (.invokevirtual 142, 3) := dcr zo_dX10_slipped_49 5 rfl
theorem dX10_slipped_58 : decode cX10_slipped 58 = .ok (.ireturn, 1) := dcr zo_dX10_slipped_49 6 rfl
theorem dX10_slipped_59 : decode cX10_slipped 59 = .ok (.aload_n 0, 1) := dcr zo_dX10_slipped_49 7 rfl
theorem dX10_slipped_60 : decode cX10_slipped 60 = .ok (.aload_n 0, 1) := dcr zo_dX10_slipped_49 8 rfl
theorem dX10_slipped_61 : decode cX10_slipped 61 = .ok (.iload_n 1, 1) := dcr zo_dX10_slipped_49 9 rfl
theorem dX10_slipped_62 : decode cX10_slipped 62 = .ok (.iload_n 3, 1) := dcr zo_dX10_slipped_49 10 rfl
theorem dX10_slipped_63 : decode cX10_slipped 63 = .ok (.aload_n 0, 1) := dcr zo_dX10_slipped_49 11 rfl
theorem dX10_slipped_64 : decode cX10_slipped 64 = .ok (.iload_n 1, 1) := dcr zo_dX10_slipped_49 12 rfl
theorem dX10_slipped_65 : decode cX10_slipped 65 = .ok (.iload_n 3, 1) := dcr zo_dX10_slipped_49 13 rfl
theorem dX10_slipped_66 : decode cX10_slipped 66 = .ok (.iconst 1, 1) := dcr zo_dX10_slipped_49 14 rfl
theorem dX10_slipped_67 : decode cX10_slipped 67 = .ok (.iadd, 1) := dcr zo_dX10_slipped_49 15 rfl
theorem zo_dX10_slipped_68 : ([(68, .invokevirtual 91, 3), (71, .invokevirtual 142, 3), (74, .iload_n 3, 1), (75, .iconst 1, 1), (76, .iadd, 1), (77, .iload 4, 2), (79, .invokevirtual 142, 3), (82, .ireturn, 1), (83, .aload_n 0, 1), (84, .iload_n 1, 1), (85, .iload_n 3, 1), (86, .iconst 1, 1), (87, .iadd, 1), (88, .iload 4, 2), (90, .invokevirtual 142, 3), (93, .ireturn, 1)] : List (Nat × Instr × Nat)).all (dOk (decode cX10_slipped)) = true := by decide +kernel
theorem dX10_slipped_68 : decode cX10_slipped 68 = .ok (.invokevirtual 91, 3) := dcr zo_dX10_slipped_68 0 rfl
theorem dX10_slipped_71 : decode cX10_slipped 71 = .ok (.invokevirtual 142, 3) := dcr zo_dX10_slipped_68 1 rfl
theorem dX10_slipped_74 : decode cX10_slipped 74 = .ok (.iload_n 3, 1) := dcr zo_dX10_slipped_68 2 rfl
theorem dX10_slipped_75 : decode cX10_slipped 75 = .ok (.iconst 1, 1) := dcr zo_dX10_slipped_68 3 rfl
theorem dX10_slipped_76 : decode cX10_slipped 76 = .ok (.iadd, 1) := dcr zo_dX10_slipped_68 4 rfl
theorem dX10_slipped_77 : decode cX10_slipped 77 = .ok (.iload 4, 2) := dcr zo_dX10_slipped_68 5 rfl
theorem dX10_slipped_79 : decode cX10_slipped 79 = .ok (.invokevirtual 142, 3) := dcr zo_dX10_slipped_68 6 rfl
theorem dX10_slipped_82 : decode cX10_slipped 82 = .ok (.ireturn, 1) := dcr zo_dX10_slipped_68 7 rfl
theorem dX10_slipped_83 : decode cX10_slipped 83 = .ok (.aload_n 0, 1) := dcr zo_dX10_slipped_68 8 rfl
theorem dX10_slipped_84 : decode cX10_slipped 84 = .ok (.iload_n 1, 1) := dcr zo_dX10_slipped_68 9 rfl
theorem dX10_slipped_85 : decode cX10_slipped 85 = .ok (.iload_n 3, 1) := dcr zo_dX10_slipped_68 10 rfl
theorem dX10_slipped_86 : decode cX10_slipped 86 = .ok (.iconst 1, 1) := dcr zo_dX10_slipped_68 11 rfl
theorem dX10_slipped_87 : decode cX10_slipped 87 = .ok (.iadd, 1) := dcr zo_dX10_slipped_68 12 rfl
theorem dX10_slipped_88 : decode cX10_slipped 88 = .ok (.iload 4, 2) := dcr zo_dX10_slipped_68 13 rfl
theorem dX10_slipped_90 : decode cX10_slipped 90 = .ok (.invokevirtual 142, 3) := dcr zo_dX10_slipped_68 14 rfl
theorem dX10_slipped_93 : decode cX10_slipped 93 = .ok (.ireturn, 1) := dcr zo_dX10_slipped_68 15 rfl
theorem zo_dX10_slipped_94 : ([(94, .aload_n 0, 1), (95, .iload_n 1, 1), (96, .iload_n 3, 1), (97, .iconst 4, 1), (98, .invokevirtual 142, 3), (101, .ireturn, 1)] : List (Nat × Instr × Nat)).all (dOk (decode cX10_slipped)) = true := by decide +kernel
theorem dX10_slipped_94 : decode cX10_slipped 94 = .ok (.aload_n 0, 1) := dcr zo_dX10_slipped_94 0 rfl
theorem dX10_slipped_95 : decode cX10_slipped 95 = .ok (.iload_n 1, 1) := dcr zo_dX10_slipped_94 1 rfl
theorem dX10_slipped_96 : decode cX10_slipped 96 = .ok (.iload_n 3, 1) := dcr zo_dX10_slipped_94 2 rfl
theorem dX10_slipped_97 : decode cX10_slipped 97 = .ok (.iconst 4, 1) := dcr zo_dX10_slipped_94 3 rfl
theorem dX10_slipped_98 : decode cX10_slipped 98 = .ok (.invokevirtual 142, 3) := dcr zo_dX10_slipped_94 4 rfl
theorem dX10_slipped_101 : decode cX10_slipped 101 = .ok (.ireturn, 1) := dcr zo_dX10_slipped_94 5 rfl
theorem zo_dX10_makes_0 : ([(0, .iload_n 0, 1), (1, .iload_n 1, 1), (2, .bipush 100, 2), (4, .idiv, 1), (5, .ishr, 1), (6, .iconst 1, 1), (7, .iand, 1), (8, .iconst 1, 1), (9, .if_icmp .ne 7, 3), (12, .iconst 1, 1), (13, .goto 4, 3), (16, .iconst 0, 1), (17, .ireturn, 1)] : List (Nat × Instr × Nat)).all (dOk (decode cX10_makes)) = true := by decide +kernel
theorem dX10_makes_0 : decode cX10_makes 0 = .ok (.iload_n 0, 1) := dcr zo_dX10_makes_0 0 rfl
theorem dX10_makes_1 : decode cX10_makes 1 = .ok (.iload_n 1, 1) := dcr zo_dX10_makes_0 1 rfl
theorem dX10_makes_2 : decode cX10_makes 2 = .ok (.bipush 100, 2) := dcr zo_dX10_makes_0 2 rfl
theorem dX10_makes_4 : decode cX10_makes 4 = .ok (.idiv, 1) := dcr zo_dX10_makes_0 3 rfl
theorem dX10_makes_5 : decode cX10_makes 5 = .ok (.ishr, 1) := dcr zo_dX10_makes_0 4 rfl
theorem dX10_makes_6 : decode cX10_makes 6 = .ok (.iconst 1, 1) := dcr zo_dX10_makes_0 5 rfl
theorem dX10_makes_7 : decode cX10_makes 7 = .ok (.iand, 1) := dcr zo_dX10_makes_0 6 rfl
theorem dX10_makes_8 : decode cX10_makes 8 = .ok (.iconst 1, 1) := dcr zo_dX10_makes_0 7 rfl
theorem dX10_makes_9 : decode cX10_makes 9 = .ok (.if_icmp .ne 7, 3) := dcr zo_dX10_makes_0 8 rfl
theorem dX10_makes_12 : decode cX10_makes 12 = .ok (.iconst 1, 1) := dcr zo_dX10_makes_0 9 rfl
theorem dX10_makes_13 : decode cX10_makes 13 = .ok (.goto 4, 3) := dcr zo_dX10_makes_0 10 rfl
theorem dX10_makes_16 : decode cX10_makes 16 = .ok (.iconst 0, 1) := dcr zo_dX10_makes_0 11 rfl
theorem dX10_makes_17 : decode cX10_makes 17 = .ok (.ireturn, 1) := dcr zo_dX10_makes_0 12 rfl
def zt_wsX10_judge : List (List Cond) := [[.code yX10_judge cX10_judge 2 (some .int)], wsX10_judge_r1, wsX10_judge_r2, wsX100]
theorem zt_wsX10_judge_in : ∀ c ∈ zt_wsX10_judge, ∀ w ∈ c, w ∈ wsX10_judge := List.forall_mem_cons.mpr ⟨fun _ h => List.mem_cons.mpr (Or.inl (List.mem_singleton.mp h)), List.forall_mem_cons.mpr ⟨fun _ h => List.mem_cons_of_mem _ (List.mem_append_left _ (List.mem_append_left _ h)), List.forall_mem_cons.mpr ⟨fun _ h => List.mem_cons_of_mem _ (List.mem_append_left _ (List.mem_append_right _ (h))), List.forall_mem_cons.mpr ⟨fun _ h => List.mem_cons_of_mem _ (List.mem_append_right _ h), (fun _ h => absurd h List.not_mem_nil)⟩⟩⟩⟩
set_option maxRecDepth 20000 in
theorem ggX10_judge_X10_isMap : GoodIn wsX10_judge wsX10_isMap := goodIn_c zt_wsX10_judge_in _ [(1, 4), (1, 5), (1, 6), (1, 7), (1, 3), (1, 8)] rfl zw_wsX10_isMap
set_option maxRecDepth 20000 in
theorem gX10_judge_X10_isMap : GoodIn wsX10_judge (va_wsS RX10 124 yX10_isMap wsX10_isMap) := goodIn_app (goodIn_of _ (by decide +kernel)) ggX10_judge_X10_isMap
set_option maxRecDepth 20000 in
theorem ggX10_judge_X10_isTold : GoodIn wsX10_judge wsX10_isTold := goodIn_c zt_wsX10_judge_in _ [(1, 12), (1, 13), (3, 0), (3, 1), (3, 2), (3, 3), (3, 4), (3, 5), (3, 6), (3, 7), (3, 8), (3, 9), (3, 10), (3, 11), (3, 12), (3, 13), (3, 14), (3, 15), (3, 16), (3, 17), (3, 18), (3, 19), (3, 20), (3, 21), (3, 22), (3, 23), (3, 24), (3, 25), (3, 26), (3, 27)] rfl zw_wsX10_isTold
set_option maxRecDepth 20000 in
theorem gX10_judge_X10_isTold : GoodIn wsX10_judge (wsV RX10 131 RX10 yX10_isTold wsX10_isTold) := goodIn_app (goodIn_of _ (by decide +kernel)) ggX10_judge_X10_isTold
set_option maxRecDepth 20000 in
theorem ggX10_judge_X10_faultOfSlips : GoodIn wsX10_judge wsX10_faultOfSlips := goodIn_c zt_wsX10_judge_in _ [(1, 17), (1, 18), (1, 19), (1, 20), (1, 21), (1, 22), (1, 23), (2, 0), (2, 1), (2, 2), (1, 3), (2, 3), (1, 6), (1, 7), (1, 8), (3, 0), (3, 1), (3, 2), (3, 3), (3, 4), (3, 5), (3, 6), (3, 7), (3, 8), (3, 9), (3, 10), (3, 11), (3, 12), (3, 13), (3, 14), (3, 15), (3, 16), (3, 17), (3, 18), (3, 19), (3, 20), (3, 21), (3, 22), (3, 23), (3, 24), (3, 25), (3, 26), (3, 27)] rfl zw_wsX10_faultOfSlips
set_option maxRecDepth 20000 in
theorem gX10_judge_X10_faultOfSlips : GoodIn wsX10_judge (wsV RX10 120 RX10 yX10_faultOfSlips wsX10_faultOfSlips) := goodIn_app (goodIn_of _ (by decide +kernel)) ggX10_judge_X10_faultOfSlips
set_option maxRecDepth 20000 in
theorem zw_wsX10_badFrom : wsX10_badFrom.all goodWord = true := by decide +kernel
set_option maxRecDepth 20000 in
theorem ggX10_judge_X10_badFrom : GoodIn wsX10_judge wsX10_badFrom := goodIn_c zt_wsX10_judge_in _ [(2, 7), (2, 8), (1, 18), (2, 0), (2, 9), (2, 10), (2, 11), (1, 3), (2, 12), (2, 13), (2, 14), (2, 15), (2, 16), (2, 17), (2, 18), (2, 19), (2, 20), (2, 21), (3, 0), (3, 1), (3, 2), (3, 3), (3, 4), (3, 5), (3, 6), (3, 7), (3, 8), (3, 9), (3, 10), (3, 11), (3, 12), (3, 13), (3, 14), (3, 15), (3, 16), (3, 17), (3, 18), (3, 19), (3, 20), (3, 21), (3, 22), (3, 23), (3, 24), (3, 25), (3, 26), (3, 27)] rfl zw_wsX10_badFrom
set_option maxRecDepth 20000 in
theorem gX10_judge_X10_badFrom : GoodIn wsX10_judge (wsV RX10 146 RX10 yX10_badFrom wsX10_badFrom) := goodIn_app (goodIn_of _ (by decide +kernel)) ggX10_judge_X10_badFrom
theorem zo_dX10_judge_0 : ([(0, .iload_n 1, 1), (1, .invokestatic 124, 3), (4, .ifCond .ne 5, 3), (7, .iconst (-1), 1), (8, .ireturn, 1), (9, .aload_n 0, 1), (10, .iload_n 1, 1), (11, .invokevirtual 131, 3), (14, .ifCond .ne 6, 3), (17, .bipush (-3), 2), (19, .ireturn, 1), (20, .aload_n 0, 1), (21, .invokevirtual 120, 3), (24, .ifCond .lt 8, 3), (27, .bipush (-5), 2), (29, .goto 13, 3)] : List (Nat × Instr × Nat)).all (dOk (decode cX10_judge)) = true := by decide +kernel
theorem dX10_judge_0 : decode cX10_judge 0 = .ok (.iload_n 1, 1) := dcr zo_dX10_judge_0 0 rfl
theorem dX10_judge_1 : decode cX10_judge 1 = .ok (.invokestatic 124, 3) := dcr zo_dX10_judge_0 1 rfl
theorem dX10_judge_4 : decode cX10_judge 4 = .ok (.ifCond .ne 5, 3) := dcr zo_dX10_judge_0 2 rfl
theorem dX10_judge_7 : decode cX10_judge 7 = .ok (.iconst (-1), 1) := dcr zo_dX10_judge_0 3 rfl
theorem dX10_judge_8 : decode cX10_judge 8 = .ok (.ireturn, 1) := dcr zo_dX10_judge_0 4 rfl
theorem dX10_judge_9 : decode cX10_judge 9 = .ok (.aload_n 0, 1) := dcr zo_dX10_judge_0 5 rfl
theorem dX10_judge_10 : decode cX10_judge 10 = .ok (.iload_n 1, 1) := dcr zo_dX10_judge_0 6 rfl
theorem dX10_judge_11 : decode cX10_judge 11 = .ok (.invokevirtual 131, 3) := dcr zo_dX10_judge_0 7 rfl
theorem dX10_judge_14 : decode cX10_judge 14 = .ok (.ifCond .ne 6, 3) := dcr zo_dX10_judge_0 8 rfl
theorem dX10_judge_17 : decode cX10_judge 17 = .ok (.bipush (-3), 2) := dcr zo_dX10_judge_0 9 rfl
theorem dX10_judge_19 : decode cX10_judge 19 = .ok (.ireturn, 1) := dcr zo_dX10_judge_0 10 rfl
theorem dX10_judge_20 : decode cX10_judge 20 = .ok (.aload_n 0, 1) := dcr zo_dX10_judge_0 11 rfl
theorem dX10_judge_21 : decode cX10_judge 21 = .ok (.invokevirtual 120, 3) := dcr zo_dX10_judge_0 12 rfl
theorem dX10_judge_24 : decode cX10_judge 24 = .ok (.ifCond .lt 8, 3) := dcr zo_dX10_judge_0 13 rfl
theorem dX10_judge_27 : decode cX10_judge 27 = .ok (.bipush (-5), 2) := dcr zo_dX10_judge_0 14 rfl
theorem dX10_judge_29 : decode cX10_judge 29 = .ok (.goto 13, 3) := dcr zo_dX10_judge_0 15 rfl
theorem zo_dX10_judge_32 : ([(32, .aload_n 0, 1), (33, .aload_n 0, 1), (34, .getfield 7, 3), (37, .iload_n 1, 1), (38, .iaload, 1), (39, .invokevirtual 146, 3), (42, .ireturn, 1)] : List (Nat × Instr × Nat)).all (dOk (decode cX10_judge)) = true := by decide +kernel
theorem dX10_judge_32 : decode cX10_judge 32 = .ok (.aload_n 0, 1) := dcr zo_dX10_judge_32 0 rfl
theorem dX10_judge_33 : decode cX10_judge 33 = .ok (.aload_n 0, 1) := dcr zo_dX10_judge_32 1 rfl
theorem dX10_judge_34 : decode cX10_judge 34 = .ok (.getfield 7, 3) := dcr zo_dX10_judge_32 2 rfl
theorem dX10_judge_37 : decode cX10_judge 37 = .ok (.iload_n 1, 1) := dcr zo_dX10_judge_32 3 rfl
theorem dX10_judge_38 : decode cX10_judge 38 = .ok (.iaload, 1) := dcr zo_dX10_judge_32 4 rfl
theorem dX10_judge_39 : decode cX10_judge 39 = .ok (.invokevirtual 146, 3) := dcr zo_dX10_judge_32 5 rfl
theorem dX10_judge_42 : decode cX10_judge 42 = .ok (.ireturn, 1) := dcr zo_dX10_judge_32 6 rfl
def zt_wsX10_badFrom : List (List Cond) := [[.code yX10_badFrom cX10_badFrom 4 (some .int)], [.fieldLink RX10 149 "LastMapModel" "made" "I", .fieldLink RX10 110 "LastMapModel" "slipMany" "I", .fieldLink RX10 22 "LastMapModel" "slips" "[I", .methodLink RX10 152 yX10_slipped, .instanceMethod yX10_slipped, .selects RX10 yX10_slipped yX10_slipped, .initialized RX10, .code yX10_slipped cX10_slipped 5 (some .int), .methodLink RX10 91 yX10_signAt, .instanceMethod yX10_signAt, .selects RX10 yX10_signAt yX10_signAt, .code yX10_signAt cX10_signAt 3 (some .int), .fieldLink RX10 16 "LastMapModel" "part" "[I", .methodLink RX10 142 yX10_with, .instanceMethod yX10_with, .selects RX10 yX10_with yX10_with, .code yX10_with cX10_with 4 (some .int)], wsX100]
theorem zt_wsX10_badFrom_in : ∀ c ∈ zt_wsX10_badFrom, ∀ w ∈ c, w ∈ wsX10_badFrom := List.forall_mem_cons.mpr ⟨fun _ h => List.mem_cons.mpr (Or.inl (List.mem_singleton.mp h)), List.forall_mem_cons.mpr ⟨fun _ h => List.mem_cons_of_mem _ (List.mem_append_left _ (h)), List.forall_mem_cons.mpr ⟨fun _ h => List.mem_cons_of_mem _ (List.mem_append_right _ h), (fun _ h => absurd h List.not_mem_nil)⟩⟩⟩
set_option maxRecDepth 20000 in
theorem zw_wsX10_slipped : wsX10_slipped.all goodWord = true := by decide +kernel
set_option maxRecDepth 20000 in
theorem ggX10_badFrom_X10_slipped : GoodIn wsX10_badFrom wsX10_slipped := goodIn_c zt_wsX10_badFrom_in _ [(1, 7), (1, 8), (1, 9), (1, 10), (1, 6), (1, 11), (1, 12), (1, 13), (1, 14), (1, 15), (1, 16), (2, 0), (2, 1), (2, 2), (2, 3), (2, 4), (2, 5), (2, 6), (2, 7), (2, 8), (2, 9), (2, 10), (2, 11), (2, 12), (2, 13), (2, 14), (2, 15), (2, 16), (2, 17), (2, 18), (2, 19), (2, 20), (2, 21), (2, 22), (2, 23), (2, 24), (2, 25), (2, 26), (2, 27)] rfl zw_wsX10_slipped
set_option maxRecDepth 20000 in
theorem gX10_badFrom_X10_slipped : GoodIn wsX10_badFrom (wsV RX10 152 RX10 yX10_slipped wsX10_slipped) := goodIn_app (goodIn_of _ (by decide +kernel)) ggX10_badFrom_X10_slipped
theorem zo_dX10_badFrom_0 : ([(0, .aload_n 0, 1), (1, .iload_n 1, 1), (2, .putfield 149, 3), (5, .iconst 0, 1), (6, .istore_n 2, 1), (7, .iload_n 2, 1), (8, .aload_n 0, 1), (9, .getfield 110, 3), (12, .if_icmp .ge 39, 3), (15, .aload_n 0, 1), (16, .aload_n 0, 1), (17, .getfield 149, 3), (20, .aload_n 0, 1), (21, .getfield 22, 3), (24, .iload_n 2, 1), (25, .iaload, 1)] : List (Nat × Instr × Nat)).all (dOk (decode cX10_badFrom)) = true := by decide +kernel
theorem dX10_badFrom_0 : decode cX10_badFrom 0 = .ok (.aload_n 0, 1) := dcr zo_dX10_badFrom_0 0 rfl
theorem dX10_badFrom_1 : decode cX10_badFrom 1 = .ok (.iload_n 1, 1) := dcr zo_dX10_badFrom_0 1 rfl
theorem dX10_badFrom_2 : decode cX10_badFrom 2 = .ok (.putfield 149, 3) := dcr zo_dX10_badFrom_0 2 rfl
theorem dX10_badFrom_5 : decode cX10_badFrom 5 = .ok (.iconst 0, 1) := dcr zo_dX10_badFrom_0 3 rfl
theorem dX10_badFrom_6 : decode cX10_badFrom 6 = .ok (.istore_n 2, 1) := dcr zo_dX10_badFrom_0 4 rfl
theorem dX10_badFrom_7 : decode cX10_badFrom 7 = .ok (.iload_n 2, 1) := dcr zo_dX10_badFrom_0 5 rfl
theorem dX10_badFrom_8 : decode cX10_badFrom 8 = .ok (.aload_n 0, 1) := dcr zo_dX10_badFrom_0 6 rfl
theorem dX10_badFrom_9 : decode cX10_badFrom 9 = .ok (.getfield 110, 3) := dcr zo_dX10_badFrom_0 7 rfl
theorem dX10_badFrom_12 : decode cX10_badFrom 12 = .ok (.if_icmp .ge 39, 3) := dcr zo_dX10_badFrom_0 8 rfl
theorem dX10_badFrom_15 : decode cX10_badFrom 15 = .ok (.aload_n 0, 1) := dcr zo_dX10_badFrom_0 9 rfl
theorem dX10_badFrom_16 : decode cX10_badFrom 16 = .ok (.aload_n 0, 1) := dcr zo_dX10_badFrom_0 10 rfl
theorem dX10_badFrom_17 : decode cX10_badFrom 17 = .ok (.getfield 149, 3) := dcr zo_dX10_badFrom_0 11 rfl
theorem dX10_badFrom_20 : decode cX10_badFrom 20 = .ok (.aload_n 0, 1) := dcr zo_dX10_badFrom_0 12 rfl
theorem dX10_badFrom_21 : decode cX10_badFrom 21 = .ok (.getfield 22, 3) := dcr zo_dX10_badFrom_0 13 rfl
theorem dX10_badFrom_24 : decode cX10_badFrom 24 = .ok (.iload_n 2, 1) := dcr zo_dX10_badFrom_0 14 rfl
theorem dX10_badFrom_25 : decode cX10_badFrom 25 = .ok (.iaload, 1) := dcr zo_dX10_badFrom_0 15 rfl
theorem zo_dX10_badFrom_26 : ([(26, .invokevirtual 152, 3), (29, .istore_n 3, 1), (30, .iload_n 3, 1), (31, .aload_n 0, 1), (32, .getfield 149, 3), (35, .if_icmp .ne 5, 3), (38, .iload_n 2, 1), (39, .ireturn, 1), (40, .aload_n 0, 1), (41, .iload_n 3, 1), (42, .putfield 149, 3), (45, .iinc 2 1, 3), (48, .goto (-41), 3), (51, .bipush (-6), 2), (53, .ireturn, 1)] : List (Nat × Instr × Nat)).all (dOk (decode cX10_badFrom)) = true := by decide +kernel
theorem dX10_badFrom_26 : decode cX10_badFrom 26 = .ok (.invokevirtual 152, 3) := dcr zo_dX10_badFrom_26 0 rfl
theorem dX10_badFrom_29 : decode cX10_badFrom 29 = .ok (.istore_n 3, 1) := dcr zo_dX10_badFrom_26 1 rfl
theorem dX10_badFrom_30 : decode cX10_badFrom 30 = .ok (.iload_n 3, 1) := dcr zo_dX10_badFrom_26 2 rfl
theorem dX10_badFrom_31 : decode cX10_badFrom 31 = .ok (.aload_n 0, 1) := dcr zo_dX10_badFrom_26 3 rfl
theorem dX10_badFrom_32 : decode cX10_badFrom 32 = .ok (.getfield 149, 3) := dcr zo_dX10_badFrom_26 4 rfl
theorem dX10_badFrom_35 : decode cX10_badFrom 35 = .ok (.if_icmp .ne 5, 3) := dcr zo_dX10_badFrom_26 5 rfl
theorem dX10_badFrom_38 : decode cX10_badFrom 38 = .ok (.iload_n 2, 1) := dcr zo_dX10_badFrom_26 6 rfl
theorem dX10_badFrom_39 : decode cX10_badFrom 39 = .ok (.ireturn, 1) := dcr zo_dX10_badFrom_26 7 rfl
theorem dX10_badFrom_40 : decode cX10_badFrom 40 = .ok (.aload_n 0, 1) := dcr zo_dX10_badFrom_26 8 rfl
theorem dX10_badFrom_41 : decode cX10_badFrom 41 = .ok (.iload_n 3, 1) := dcr zo_dX10_badFrom_26 9 rfl
theorem dX10_badFrom_42 : decode cX10_badFrom 42 = .ok (.putfield 149, 3) := dcr zo_dX10_badFrom_26 10 rfl
theorem dX10_badFrom_45 : decode cX10_badFrom 45 = .ok (.iinc 2 1, 3) := dcr zo_dX10_badFrom_26 11 rfl
theorem dX10_badFrom_48 : decode cX10_badFrom 48 = .ok (.goto (-41), 3) := dcr zo_dX10_badFrom_26 12 rfl
theorem dX10_badFrom_51 : decode cX10_badFrom 51 = .ok (.bipush (-6), 2) := dcr zo_dX10_badFrom_26 13 rfl
theorem dX10_badFrom_53 : decode cX10_badFrom 53 = .ok (.ireturn, 1) := dcr zo_dX10_badFrom_26 14 rfl
def zt_wsX10_copy : List (List Cond) := [[.code yX10_copy cX10_copy 3 (some .int)], wsX10_copy_r1, wsX10_copy_r2, wsX100]
theorem zt_wsX10_copy_in : ∀ c ∈ zt_wsX10_copy, ∀ w ∈ c, w ∈ wsX10_copy := List.forall_mem_cons.mpr ⟨fun _ h => List.mem_cons.mpr (Or.inl (List.mem_singleton.mp h)), List.forall_mem_cons.mpr ⟨fun _ h => List.mem_cons_of_mem _ (List.mem_append_left _ (List.mem_append_left _ h)), List.forall_mem_cons.mpr ⟨fun _ h => List.mem_cons_of_mem _ (List.mem_append_left _ (List.mem_append_right _ (h))), List.forall_mem_cons.mpr ⟨fun _ h => List.mem_cons_of_mem _ (List.mem_append_right _ h), (fun _ h => absurd h List.not_mem_nil)⟩⟩⟩⟩
set_option maxRecDepth 20000 in
theorem ggX10_copy_X10_isMap : GoodIn wsX10_copy wsX10_isMap := goodIn_c zt_wsX10_copy_in _ [(1, 8), (1, 9), (1, 10), (1, 11), (1, 7), (1, 12)] rfl zw_wsX10_isMap
set_option maxRecDepth 20000 in
theorem gX10_copy_X10_isMap : GoodIn wsX10_copy (va_wsS RX10 124 yX10_isMap wsX10_isMap) := goodIn_app (goodIn_of _ (by decide +kernel)) ggX10_copy_X10_isMap
set_option maxRecDepth 20000 in
theorem ggX10_copy_X10_isTold : GoodIn wsX10_copy wsX10_isTold := goodIn_c zt_wsX10_copy_in _ [(1, 16), (1, 2), (3, 0), (3, 1), (3, 2), (3, 3), (3, 4), (3, 5), (3, 6), (3, 7), (3, 8), (3, 9), (3, 10), (3, 11), (3, 12), (3, 13), (3, 14), (3, 15), (3, 16), (3, 17), (3, 18), (3, 19), (3, 20), (3, 21), (3, 22), (3, 23), (3, 24), (3, 25), (3, 26), (3, 27)] rfl zw_wsX10_isTold
set_option maxRecDepth 20000 in
theorem gX10_copy_X10_isTold : GoodIn wsX10_copy (wsV RX10 131 RX10 yX10_isTold wsX10_isTold) := goodIn_app (goodIn_of _ (by decide +kernel)) ggX10_copy_X10_isTold
set_option maxRecDepth 20000 in
theorem ggX10_copy_X10_faultOfSlips : GoodIn wsX10_copy wsX10_faultOfSlips := goodIn_c zt_wsX10_copy_in _ [(1, 20), (1, 4), (1, 3), (1, 21), (1, 22), (1, 23), (2, 0), (2, 1), (2, 2), (2, 3), (1, 7), (2, 4), (1, 10), (1, 11), (1, 12), (3, 0), (3, 1), (3, 2), (3, 3), (3, 4), (3, 5), (3, 6), (3, 7), (3, 8), (3, 9), (3, 10), (3, 11), (3, 12), (3, 13), (3, 14), (3, 15), (3, 16), (3, 17), (3, 18), (3, 19), (3, 20), (3, 21), (3, 22), (3, 23), (3, 24), (3, 25), (3, 26), (3, 27)] rfl zw_wsX10_faultOfSlips
set_option maxRecDepth 20000 in
theorem gX10_copy_X10_faultOfSlips : GoodIn wsX10_copy (wsV RX10 120 RX10 yX10_faultOfSlips wsX10_faultOfSlips) := goodIn_app (goodIn_of _ (by decide +kernel)) ggX10_copy_X10_faultOfSlips
set_option maxRecDepth 20000 in
theorem ggX10_copy_X10_badFrom : GoodIn wsX10_copy wsX10_badFrom := goodIn_c zt_wsX10_copy_in _ [(2, 8), (1, 1), (1, 4), (2, 1), (2, 9), (2, 10), (2, 11), (1, 7), (2, 12), (2, 13), (2, 14), (2, 15), (2, 16), (2, 17), (2, 18), (2, 19), (2, 20), (2, 21), (3, 0), (3, 1), (3, 2), (3, 3), (3, 4), (3, 5), (3, 6), (3, 7), (3, 8), (3, 9), (3, 10), (3, 11), (3, 12), (3, 13), (3, 14), (3, 15), (3, 16), (3, 17), (3, 18), (3, 19), (3, 20), (3, 21), (3, 22), (3, 23), (3, 24), (3, 25), (3, 26), (3, 27)] rfl zw_wsX10_badFrom
set_option maxRecDepth 20000 in
theorem gX10_copy_X10_badFrom : GoodIn wsX10_copy (wsV RX10 146 RX10 yX10_badFrom wsX10_badFrom) := goodIn_app (goodIn_of _ (by decide +kernel)) ggX10_copy_X10_badFrom
theorem zo_dX10_copy_0 : ([(0, .iload_n 1, 1), (1, .invokestatic 124, 3), (4, .ifCond .eq 10, 3), (7, .iload_n 2, 1), (8, .invokestatic 124, 3), (11, .ifCond .ne 5, 3), (14, .iconst (-1), 1), (15, .ireturn, 1), (16, .aload_n 0, 1), (17, .iload_n 2, 1), (18, .invokevirtual 131, 3), (21, .ifCond .ne 6, 3), (24, .bipush (-3), 2), (26, .ireturn, 1), (27, .aload_n 0, 1), (28, .invokevirtual 120, 3)] : List (Nat × Instr × Nat)).all (dOk (decode cX10_copy)) = true := by decide +kernel
theorem dX10_copy_0 : decode cX10_copy 0 = .ok (.iload_n 1, 1) := dcr zo_dX10_copy_0 0 rfl
theorem dX10_copy_1 : decode cX10_copy 1 = .ok (.invokestatic 124, 3) := dcr zo_dX10_copy_0 1 rfl
theorem dX10_copy_4 : decode cX10_copy 4 = .ok (.ifCond .eq 10, 3) := dcr zo_dX10_copy_0 2 rfl
theorem dX10_copy_7 : decode cX10_copy 7 = .ok (.iload_n 2, 1) := dcr zo_dX10_copy_0 3 rfl
theorem dX10_copy_8 : decode cX10_copy 8 = .ok (.invokestatic 124, 3) := dcr zo_dX10_copy_0 4 rfl
theorem dX10_copy_11 : decode cX10_copy 11 = .ok (.ifCond .ne 5, 3) := dcr zo_dX10_copy_0 5 rfl
theorem dX10_copy_14 : decode cX10_copy 14 = .ok (.iconst (-1), 1) := dcr zo_dX10_copy_0 6 rfl
theorem dX10_copy_15 : decode cX10_copy 15 = .ok (.ireturn, 1) := dcr zo_dX10_copy_0 7 rfl
theorem dX10_copy_16 : decode cX10_copy 16 = .ok (.aload_n 0, 1) := dcr zo_dX10_copy_0 8 rfl
theorem dX10_copy_17 : decode cX10_copy 17 = .ok (.iload_n 2, 1) := dcr zo_dX10_copy_0 9 rfl
theorem dX10_copy_18 : decode cX10_copy 18 = .ok (.invokevirtual 131, 3) := dcr zo_dX10_copy_0 10 rfl
theorem dX10_copy_21 : decode cX10_copy 21 = .ok (.ifCond .ne 6, 3) := dcr zo_dX10_copy_0 11 rfl
theorem dX10_copy_24 : decode cX10_copy 24 = .ok (.bipush (-3), 2) := dcr zo_dX10_copy_0 12 rfl
theorem dX10_copy_26 : decode cX10_copy 26 = .ok (.ireturn, 1) := dcr zo_dX10_copy_0 13 rfl
theorem dX10_copy_27 : decode cX10_copy 27 = .ok (.aload_n 0, 1) := dcr zo_dX10_copy_0 14 rfl
theorem dX10_copy_28 : decode cX10_copy 28 = .ok (.invokevirtual 120, 3) := dcr zo_dX10_copy_0 15 rfl
theorem zo_dX10_copy_31 : ([(31, .ifCond .ge 16, 3), (34, .aload_n 0, 1), (35, .aload_n 0, 1), (36, .getfield 7, 3), (39, .iload_n 2, 1), (40, .iaload, 1), (41, .invokevirtual 146, 3), (44, .ifCond .lt 6, 3), (47, .bipush (-5), 2), (49, .ireturn, 1), (50, .aload_n 0, 1), (51, .getfield 7, 3), (54, .iload_n 1, 1), (55, .aload_n 0, 1), (56, .getfield 149, 3), (59, .iastore, 1)] : List (Nat × Instr × Nat)).all (dOk (decode cX10_copy)) = true := by decide +kernel
theorem dX10_copy_31 : decode cX10_copy 31 = .ok (.ifCond .ge 16, 3) := dcr zo_dX10_copy_31 0 rfl
theorem dX10_copy_34 : decode cX10_copy 34 = .ok (.aload_n 0, 1) := dcr zo_dX10_copy_31 1 rfl
theorem dX10_copy_35 : decode cX10_copy 35 = .ok (.aload_n 0, 1) := dcr zo_dX10_copy_31 2 rfl
theorem dX10_copy_36 : decode cX10_copy 36 = .ok (.getfield 7, 3) := dcr zo_dX10_copy_31 3 rfl
theorem dX10_copy_39 : decode cX10_copy 39 = .ok (.iload_n 2, 1) := dcr zo_dX10_copy_31 4 rfl
theorem dX10_copy_40 : decode cX10_copy 40 = .ok (.iaload, 1) := dcr zo_dX10_copy_31 5 rfl
theorem dX10_copy_41 : decode cX10_copy 41 = .ok (.invokevirtual 146, 3) := dcr zo_dX10_copy_31 6 rfl
theorem dX10_copy_44 : decode cX10_copy 44 = .ok (.ifCond .lt 6, 3) := dcr zo_dX10_copy_31 7 rfl
theorem dX10_copy_47 : decode cX10_copy 47 = .ok (.bipush (-5), 2) := dcr zo_dX10_copy_31 8 rfl
theorem dX10_copy_49 : decode cX10_copy 49 = .ok (.ireturn, 1) := dcr zo_dX10_copy_31 9 rfl
theorem dX10_copy_50 : decode cX10_copy 50 = .ok (.aload_n 0, 1) := dcr zo_dX10_copy_31 10 rfl
theorem dX10_copy_51 : decode cX10_copy 51 = .ok (.getfield 7, 3) := dcr zo_dX10_copy_31 11 rfl
theorem dX10_copy_54 : decode cX10_copy 54 = .ok (.iload_n 1, 1) := dcr zo_dX10_copy_31 12 rfl
theorem dX10_copy_55 : decode cX10_copy 55 = .ok (.aload_n 0, 1) := dcr zo_dX10_copy_31 13 rfl
theorem dX10_copy_56 : decode cX10_copy 56 = .ok (.getfield 149, 3) := dcr zo_dX10_copy_31 14 rfl
theorem dX10_copy_59 : decode cX10_copy 59 = .ok (.iastore, 1) := dcr zo_dX10_copy_31 15 rfl
theorem zo_dX10_copy_60 : ([(60, .aload_n 0, 1), (61, .dup, 1), (62, .getfield 70, 3), (65, .iconst 1, 1), (66, .iload_n 1, 1), (67, .ishl, 1), (68, .ior, 1), (69, .putfield 70, 3), (72, .aload_n 0, 1), (73, .iconst 0, 1), (74, .putfield 103, 3), (77, .aload_n 0, 1), (78, .getfield 110, 3), (81, .ireturn, 1)] : List (Nat × Instr × Nat)).all (dOk (decode cX10_copy)) = true := by decide +kernel
theorem dX10_copy_60 : decode cX10_copy 60 = .ok (.aload_n 0, 1) := dcr zo_dX10_copy_60 0 rfl
theorem dX10_copy_61 : decode cX10_copy 61 = .ok (.dup, 1) := dcr zo_dX10_copy_60 1 rfl
theorem dX10_copy_62 : decode cX10_copy 62 = .ok (.getfield 70, 3) := dcr zo_dX10_copy_60 2 rfl
theorem dX10_copy_65 : decode cX10_copy 65 = .ok (.iconst 1, 1) := dcr zo_dX10_copy_60 3 rfl
theorem dX10_copy_66 : decode cX10_copy 66 = .ok (.iload_n 1, 1) := dcr zo_dX10_copy_60 4 rfl
theorem dX10_copy_67 : decode cX10_copy 67 = .ok (.ishl, 1) := dcr zo_dX10_copy_60 5 rfl
theorem dX10_copy_68 : decode cX10_copy 68 = .ok (.ior, 1) := dcr zo_dX10_copy_60 6 rfl
theorem dX10_copy_69 : decode cX10_copy 69 = .ok (.putfield 70, 3) := dcr zo_dX10_copy_60 7 rfl
theorem dX10_copy_72 : decode cX10_copy 72 = .ok (.aload_n 0, 1) := dcr zo_dX10_copy_60 8 rfl
theorem dX10_copy_73 : decode cX10_copy 73 = .ok (.iconst 0, 1) := dcr zo_dX10_copy_60 9 rfl
theorem dX10_copy_74 : decode cX10_copy 74 = .ok (.putfield 103, 3) := dcr zo_dX10_copy_60 10 rfl
theorem dX10_copy_77 : decode cX10_copy 77 = .ok (.aload_n 0, 1) := dcr zo_dX10_copy_60 11 rfl
theorem dX10_copy_78 : decode cX10_copy 78 = .ok (.getfield 110, 3) := dcr zo_dX10_copy_60 12 rfl
theorem dX10_copy_81 : decode cX10_copy 81 = .ok (.ireturn, 1) := dcr zo_dX10_copy_60 13 rfl
def zt_wsX10_goFrom : List (List Cond) := [[.code yX10_goFrom cX10_goFrom 10 none], wsX10_goFrom_r1, wsX10_goFrom_r2, wsX100]
theorem zt_wsX10_goFrom_in : ∀ c ∈ zt_wsX10_goFrom, ∀ w ∈ c, w ∈ wsX10_goFrom := List.forall_mem_cons.mpr ⟨fun _ h => List.mem_cons.mpr (Or.inl (List.mem_singleton.mp h)), List.forall_mem_cons.mpr ⟨fun _ h => List.mem_cons_of_mem _ (List.mem_append_left _ (List.mem_append_left _ h)), List.forall_mem_cons.mpr ⟨fun _ h => List.mem_cons_of_mem _ (List.mem_append_left _ (List.mem_append_right _ (h))), List.forall_mem_cons.mpr ⟨fun _ h => List.mem_cons_of_mem _ (List.mem_append_right _ h), (fun _ h => absurd h List.not_mem_nil)⟩⟩⟩⟩
set_option maxRecDepth 20000 in
theorem zw_wsX10_all : wsX10_all.all goodWord = true := by decide +kernel
set_option maxRecDepth 20000 in
theorem ggX10_goFrom_X10_all : GoodIn wsX10_goFrom wsX10_all := goodIn_c zt_wsX10_goFrom_in _ [(1, 9), (1, 10), (3, 0), (3, 1), (3, 2), (3, 3), (3, 4), (3, 5), (3, 6), (3, 7), (3, 8), (3, 9), (3, 10), (3, 11), (3, 12), (3, 13), (3, 14), (3, 15), (3, 16), (3, 17), (3, 18), (3, 19), (3, 20), (3, 21), (3, 22), (3, 23), (3, 24), (3, 25), (3, 26), (3, 27)] rfl zw_wsX10_all
set_option maxRecDepth 20000 in
theorem gX10_goFrom_X10_all : GoodIn wsX10_goFrom (wsV RX10 155 RX10 yX10_all wsX10_all) := goodIn_app (goodIn_of _ (by decide +kernel)) ggX10_goFrom_X10_all
set_option maxRecDepth 20000 in
theorem zw_wsX10_slipsThere : wsX10_slipsThere.all goodWord = true := by decide +kernel
set_option maxRecDepth 20000 in
theorem ggX10_goFrom_X10_slipsThere : GoodIn wsX10_goFrom wsX10_slipsThere := goodIn_c zt_wsX10_goFrom_in _ [(1, 14), (1, 15), (3, 0), (3, 1), (3, 2), (3, 3), (3, 4), (3, 5), (3, 6), (3, 7), (3, 8), (3, 9), (3, 10), (3, 11), (3, 12), (3, 13), (3, 14), (3, 15), (3, 16), (3, 17), (3, 18), (3, 19), (3, 20), (3, 21), (3, 22), (3, 23), (3, 24), (3, 25), (3, 26), (3, 27)] rfl zw_wsX10_slipsThere
set_option maxRecDepth 20000 in
theorem gX10_goFrom_X10_slipsThere : GoodIn wsX10_goFrom (wsV RX10 161 RX10 yX10_slipsThere wsX10_slipsThere) := goodIn_app (goodIn_of _ (by decide +kernel)) ggX10_goFrom_X10_slipsThere
set_option maxRecDepth 20000 in
theorem zw_wsX10_slipAt : wsX10_slipAt.all goodWord = true := by decide +kernel
set_option maxRecDepth 20000 in
theorem ggX10_goFrom_X10_slipAt : GoodIn wsX10_goFrom wsX10_slipAt := goodIn_c zt_wsX10_goFrom_in _ [(1, 19), (1, 15), (3, 0), (3, 1), (3, 2), (3, 3), (3, 4), (3, 5), (3, 6), (3, 7), (3, 8), (3, 9), (3, 10), (3, 11), (3, 12), (3, 13), (3, 14), (3, 15), (3, 16), (3, 17), (3, 18), (3, 19), (3, 20), (3, 21), (3, 22), (3, 23), (3, 24), (3, 25), (3, 26), (3, 27)] rfl zw_wsX10_slipAt
set_option maxRecDepth 20000 in
theorem gX10_goFrom_X10_slipAt : GoodIn wsX10_goFrom (wsV RX10 164 RX10 yX10_slipAt wsX10_slipAt) := goodIn_app (goodIn_of _ (by decide +kernel)) ggX10_goFrom_X10_slipAt
set_option maxRecDepth 20000 in
theorem zw_wsX10_makes : wsX10_makes.all goodWord = true := by decide +kernel
set_option maxRecDepth 20000 in
theorem ggX10_goFrom_X10_makes : GoodIn wsX10_goFrom wsX10_makes := goodIn_c zt_wsX10_goFrom_in _ [(1, 22)] rfl zw_wsX10_makes
set_option maxRecDepth 20000 in
theorem gX10_goFrom_X10_makes : GoodIn wsX10_goFrom (va_wsS RX10 167 yX10_makes wsX10_makes) := goodIn_app (goodIn_of _ (by decide +kernel)) ggX10_goFrom_X10_makes
set_option maxRecDepth 20000 in
theorem ggX10_goFrom_X10_slipped : GoodIn wsX10_goFrom wsX10_slipped := goodIn_c zt_wsX10_goFrom_in _ [(2, 2), (2, 3), (2, 4), (2, 5), (1, 8), (2, 6), (1, 10), (2, 7), (2, 8), (2, 9), (2, 10), (3, 0), (3, 1), (3, 2), (3, 3), (3, 4), (3, 5), (3, 6), (3, 7), (3, 8), (3, 9), (3, 10), (3, 11), (3, 12), (3, 13), (3, 14), (3, 15), (3, 16), (3, 17), (3, 18), (3, 19), (3, 20), (3, 21), (3, 22), (3, 23), (3, 24), (3, 25), (3, 26), (3, 27)] rfl zw_wsX10_slipped
set_option maxRecDepth 20000 in
theorem gX10_goFrom_X10_slipped : GoodIn wsX10_goFrom (wsV RX10 152 RX10 yX10_slipped wsX10_slipped) := goodIn_app (goodIn_of _ (by decide +kernel)) ggX10_goFrom_X10_slipped
theorem zo_dX10_goFrom_0 : ([(0, .aload_n 0, 1), (1, .invokevirtual 155, 3), (4, .istore_n 3, 1), (5, .iconst 0, 1), (6, .istore 4, 2), (8, .iload 4, 2), (10, .iload_n 3, 1), (11, .if_icmp .ge 18, 3), (14, .aload_n 0, 1), (15, .getfield 28, 3), (18, .iload 4, 2), (20, .bipush (-6), 2), (22, .iastore, 1), (23, .iinc 4 1, 3), (26, .goto (-18), 3), (29, .aload_n 0, 1)] : List (Nat × Instr × Nat)).all (dOk (decode cX10_goFrom)) = true := by decide +kernel
theorem dX10_goFrom_0 : decode cX10_goFrom 0 = .ok (.aload_n 0, 1) := dcr zo_dX10_goFrom_0 0 rfl
theorem dX10_goFrom_1 : decode cX10_goFrom 1 = .ok (.invokevirtual 155, 3) := dcr zo_dX10_goFrom_0 1 rfl
theorem dX10_goFrom_4 : decode cX10_goFrom 4 = .ok (.istore_n 3, 1) := dcr zo_dX10_goFrom_0 2 rfl
theorem dX10_goFrom_5 : decode cX10_goFrom 5 = .ok (.iconst 0, 1) := dcr zo_dX10_goFrom_0 3 rfl
theorem dX10_goFrom_6 : decode cX10_goFrom 6 = .ok (.istore 4, 2) := dcr zo_dX10_goFrom_0 4 rfl
theorem dX10_goFrom_8 : decode cX10_goFrom 8 = .ok (.iload 4, 2) := dcr zo_dX10_goFrom_0 5 rfl
theorem dX10_goFrom_10 : decode cX10_goFrom 10 = .ok (.iload_n 3, 1) := dcr zo_dX10_goFrom_0 6 rfl
theorem dX10_goFrom_11 : decode cX10_goFrom 11 = .ok (.if_icmp .ge 18, 3) := dcr zo_dX10_goFrom_0 7 rfl
theorem dX10_goFrom_14 : decode cX10_goFrom 14 = .ok (.aload_n 0, 1) := dcr zo_dX10_goFrom_0 8 rfl
theorem dX10_goFrom_15 : decode cX10_goFrom 15 = .ok (.getfield 28, 3) := dcr zo_dX10_goFrom_0 9 rfl
theorem dX10_goFrom_18 : decode cX10_goFrom 18 = .ok (.iload 4, 2) := dcr zo_dX10_goFrom_0 10 rfl
theorem dX10_goFrom_20 : decode cX10_goFrom 20 = .ok (.bipush (-6), 2) := dcr zo_dX10_goFrom_0 11 rfl
theorem dX10_goFrom_22 : decode cX10_goFrom 22 = .ok (.iastore, 1) := dcr zo_dX10_goFrom_0 12 rfl
theorem dX10_goFrom_23 : decode cX10_goFrom 23 = .ok (.iinc 4 1, 3) := dcr zo_dX10_goFrom_0 13 rfl
theorem dX10_goFrom_26 : decode cX10_goFrom 26 = .ok (.goto (-18), 3) := dcr zo_dX10_goFrom_0 14 rfl
theorem dX10_goFrom_29 : decode cX10_goFrom 29 = .ok (.aload_n 0, 1) := dcr zo_dX10_goFrom_0 15 rfl
theorem zo_dX10_goFrom_30 : ([(30, .getfield 28, 3), (33, .iload_n 1, 1), (34, .iconst 0, 1), (35, .iastore, 1), (36, .aload_n 0, 1), (37, .getfield 25, 3), (40, .iconst 0, 1), (41, .iload_n 1, 1), (42, .iastore, 1), (43, .aload_n 0, 1), (44, .iconst 1, 1), (45, .putfield 158, 3), (48, .aload_n 0, 1), (49, .invokevirtual 161, 3), (52, .istore 4, 2), (54, .iconst 0, 1)] : List (Nat × Instr × Nat)).all (dOk (decode cX10_goFrom)) = true := by decide +kernel
theorem dX10_goFrom_30 : decode cX10_goFrom 30 = .ok (.getfield 28, 3) := dcr zo_dX10_goFrom_30 0 rfl
theorem dX10_goFrom_33 : decode cX10_goFrom 33 = .ok (.iload_n 1, 1) := dcr zo_dX10_goFrom_30 1 rfl
theorem dX10_goFrom_34 : decode cX10_goFrom 34 = .ok (.iconst 0, 1) := dcr zo_dX10_goFrom_30 2 rfl
theorem dX10_goFrom_35 : decode cX10_goFrom 35 = .ok (.iastore, 1) := dcr zo_dX10_goFrom_30 3 rfl
theorem dX10_goFrom_36 : decode cX10_goFrom 36 = .ok (.aload_n 0, 1) := dcr zo_dX10_goFrom_30 4 rfl
theorem dX10_goFrom_37 : decode cX10_goFrom 37 = .ok (.getfield 25, 3) := dcr zo_dX10_goFrom_30 5 rfl
theorem dX10_goFrom_40 : decode cX10_goFrom 40 = .ok (.iconst 0, 1) := dcr zo_dX10_goFrom_30 6 rfl
theorem dX10_goFrom_41 : decode cX10_goFrom 41 = .ok (.iload_n 1, 1) := dcr zo_dX10_goFrom_30 7 rfl
theorem dX10_goFrom_42 : decode cX10_goFrom 42 = .ok (.iastore, 1) := dcr zo_dX10_goFrom_30 8 rfl
theorem dX10_goFrom_43 : decode cX10_goFrom 43 = .ok (.aload_n 0, 1) := dcr zo_dX10_goFrom_30 9 rfl
theorem dX10_goFrom_44 : decode cX10_goFrom 44 = .ok (.iconst 1, 1) := dcr zo_dX10_goFrom_30 10 rfl
theorem dX10_goFrom_45 : decode cX10_goFrom 45 = .ok (.putfield 158, 3) := dcr zo_dX10_goFrom_30 11 rfl
theorem dX10_goFrom_48 : decode cX10_goFrom 48 = .ok (.aload_n 0, 1) := dcr zo_dX10_goFrom_30 12 rfl
theorem dX10_goFrom_49 : decode cX10_goFrom 49 = .ok (.invokevirtual 161, 3) := dcr zo_dX10_goFrom_30 13 rfl
theorem dX10_goFrom_52 : decode cX10_goFrom 52 = .ok (.istore 4, 2) := dcr zo_dX10_goFrom_30 14 rfl
theorem dX10_goFrom_54 : decode cX10_goFrom 54 = .ok (.iconst 0, 1) := dcr zo_dX10_goFrom_30 15 rfl
theorem zo_dX10_goFrom_55 : ([(55, .istore 5, 2), (57, .iload 5, 2), (59, .aload_n 0, 1), (60, .getfield 158, 3), (63, .if_icmp .ge 131, 3), (66, .aload_n 0, 1), (67, .getfield 25, 3), (70, .iload 5, 2), (72, .iaload, 1), (73, .istore 6, 2), (75, .iconst 0, 1), (76, .istore 7, 2), (78, .iload 7, 2), (80, .iload 4, 2), (82, .if_icmp .ge 106, 3), (85, .aload_n 0, 1)] : List (Nat × Instr × Nat)).all (dOk (decode cX10_goFrom)) = true := by decide +kernel
theorem dX10_goFrom_55 : decode cX10_goFrom 55 = .ok (.istore 5, 2) := dcr zo_dX10_goFrom_55 0 rfl
theorem dX10_goFrom_57 : decode cX10_goFrom 57 = .ok (.iload 5, 2) := dcr zo_dX10_goFrom_55 1 rfl
theorem dX10_goFrom_59 : decode cX10_goFrom 59 = .ok (.aload_n 0, 1) := dcr zo_dX10_goFrom_55 2 rfl
theorem dX10_goFrom_60 : decode cX10_goFrom 60 = .ok (.getfield 158, 3) := dcr zo_dX10_goFrom_55 3 rfl
theorem dX10_goFrom_63 : decode cX10_goFrom 63 = .ok (.if_icmp .ge 131, 3) := dcr zo_dX10_goFrom_55 4 rfl
theorem dX10_goFrom_66 : decode cX10_goFrom 66 = .ok (.aload_n 0, 1) := dcr zo_dX10_goFrom_55 5 rfl
theorem dX10_goFrom_67 : decode cX10_goFrom 67 = .ok (.getfield 25, 3) := dcr zo_dX10_goFrom_55 6 rfl
theorem dX10_goFrom_70 : decode cX10_goFrom 70 = .ok (.iload 5, 2) := dcr zo_dX10_goFrom_55 7 rfl
theorem dX10_goFrom_72 : decode cX10_goFrom 72 = .ok (.iaload, 1) := dcr zo_dX10_goFrom_55 8 rfl
theorem dX10_goFrom_73 : decode cX10_goFrom 73 = .ok (.istore 6, 2) := dcr zo_dX10_goFrom_55 9 rfl
theorem dX10_goFrom_75 : decode cX10_goFrom 75 = .ok (.iconst 0, 1) := dcr zo_dX10_goFrom_55 10 rfl
theorem dX10_goFrom_76 : decode cX10_goFrom 76 = .ok (.istore 7, 2) := dcr zo_dX10_goFrom_55 11 rfl
theorem dX10_goFrom_78 : decode cX10_goFrom 78 = .ok (.iload 7, 2) := dcr zo_dX10_goFrom_55 12 rfl
theorem dX10_goFrom_80 : decode cX10_goFrom 80 = .ok (.iload 4, 2) := dcr zo_dX10_goFrom_55 13 rfl
theorem dX10_goFrom_82 : decode cX10_goFrom 82 = .ok (.if_icmp .ge 106, 3) := dcr zo_dX10_goFrom_55 14 rfl
theorem dX10_goFrom_85 : decode cX10_goFrom 85 = .ok (.aload_n 0, 1) := dcr zo_dX10_goFrom_55 15 rfl
theorem zo_dX10_goFrom_86 : ([(86, .iload 7, 2), (88, .invokevirtual 164, 3), (91, .istore 8, 2), (93, .iload_n 2, 1), (94, .iload 8, 2), (96, .invokestatic 167, 3), (99, .ifCond .eq 14, 3), (102, .aload_n 0, 1), (103, .iload 6, 2), (105, .iload 8, 2), (107, .invokevirtual 152, 3), (110, .goto 5, 3), (113, .iload 6, 2), (115, .istore 9, 2), (117, .aload_n 0, 1), (118, .getfield 28, 3)] : List (Nat × Instr × Nat)).all (dOk (decode cX10_goFrom)) = true := by decide +kernel
theorem dX10_goFrom_86 : decode cX10_goFrom 86 = .ok (.iload 7, 2) := dcr zo_dX10_goFrom_86 0 rfl
theorem dX10_goFrom_88 : decode cX10_goFrom 88 = .ok (.invokevirtual 164, 3) := dcr zo_dX10_goFrom_86 1 rfl
theorem dX10_goFrom_91 : decode cX10_goFrom 91 = .ok (.istore 8, 2) := dcr zo_dX10_goFrom_86 2 rfl
theorem dX10_goFrom_93 : decode cX10_goFrom 93 = .ok (.iload_n 2, 1) := dcr zo_dX10_goFrom_86 3 rfl
theorem dX10_goFrom_94 : decode cX10_goFrom 94 = .ok (.iload 8, 2) := dcr zo_dX10_goFrom_86 4 rfl
theorem dX10_goFrom_96 : decode cX10_goFrom 96 = .ok (.invokestatic 167, 3) := dcr zo_dX10_goFrom_86 5 rfl
theorem dX10_goFrom_99 : decode cX10_goFrom 99 = .ok (.ifCond .eq 14, 3) := dcr zo_dX10_goFrom_86 6 rfl
theorem dX10_goFrom_102 : decode cX10_goFrom 102 = .ok (.aload_n 0, 1) := dcr zo_dX10_goFrom_86 7 rfl
theorem dX10_goFrom_103 : decode cX10_goFrom 103 = .ok (.iload 6, 2) := dcr zo_dX10_goFrom_86 8 rfl
theorem dX10_goFrom_105 : decode cX10_goFrom 105 = .ok (.iload 8, 2) := dcr zo_dX10_goFrom_86 9 rfl
theorem dX10_goFrom_107 : decode cX10_goFrom 107 = .ok (.invokevirtual 152, 3) := dcr zo_dX10_goFrom_86 10 rfl
theorem dX10_goFrom_110 : decode cX10_goFrom 110 = .ok (.goto 5, 3) := dcr zo_dX10_goFrom_86 11 rfl
theorem dX10_goFrom_113 : decode cX10_goFrom 113 = .ok (.iload 6, 2) := dcr zo_dX10_goFrom_86 12 rfl
theorem dX10_goFrom_115 : decode cX10_goFrom 115 = .ok (.istore 9, 2) := dcr zo_dX10_goFrom_86 13 rfl
theorem dX10_goFrom_117 : decode cX10_goFrom 117 = .ok (.aload_n 0, 1) := dcr zo_dX10_goFrom_86 14 rfl
theorem dX10_goFrom_118 : decode cX10_goFrom 118 = .ok (.getfield 28, 3) := dcr zo_dX10_goFrom_86 15 rfl
theorem zo_dX10_goFrom_121 : ([(121, .iload 9, 2), (123, .iaload, 1), (124, .ifCond .ge 58, 3), (127, .aload_n 0, 1), (128, .getfield 28, 3), (131, .iload 9, 2), (133, .aload_n 0, 1), (134, .getfield 28, 3), (137, .iload 6, 2), (139, .iaload, 1), (140, .iconst 1, 1), (141, .iadd, 1), (142, .iastore, 1), (143, .aload_n 0, 1), (144, .getfield 31, 3), (147, .iload 9, 2)] : List (Nat × Instr × Nat)).all (dOk (decode cX10_goFrom)) = true := by decide +kernel
theorem dX10_goFrom_121 : decode cX10_goFrom 121 = .ok (.iload 9, 2) := dcr zo_dX10_goFrom_121 0 rfl
theorem dX10_goFrom_123 : decode cX10_goFrom 123 = .ok (.iaload, 1) := dcr zo_dX10_goFrom_121 1 rfl
theorem dX10_goFrom_124 : decode cX10_goFrom 124 = .ok (.ifCond .ge 58, 3) := dcr zo_dX10_goFrom_121 2 rfl
theorem dX10_goFrom_127 : decode cX10_goFrom 127 = .ok (.aload_n 0, 1) := dcr zo_dX10_goFrom_121 3 rfl
theorem dX10_goFrom_128 : decode cX10_goFrom 128 = .ok (.getfield 28, 3) := dcr zo_dX10_goFrom_121 4 rfl
theorem dX10_goFrom_131 : decode cX10_goFrom 131 = .ok (.iload 9, 2) := dcr zo_dX10_goFrom_121 5 rfl
theorem dX10_goFrom_133 : decode cX10_goFrom 133 = .ok (.aload_n 0, 1) := dcr zo_dX10_goFrom_121 6 rfl
theorem dX10_goFrom_134 : decode cX10_goFrom 134 = .ok (.getfield 28, 3) := dcr zo_dX10_goFrom_121 7 rfl
theorem dX10_goFrom_137 : decode cX10_goFrom 137 = .ok (.iload 6, 2) := dcr zo_dX10_goFrom_121 8 rfl
theorem dX10_goFrom_139 : decode cX10_goFrom 139 = .ok (.iaload, 1) := dcr zo_dX10_goFrom_121 9 rfl
theorem dX10_goFrom_140 : decode cX10_goFrom 140 = .ok (.iconst 1, 1) := dcr zo_dX10_goFrom_121 10 rfl
theorem dX10_goFrom_141 : decode cX10_goFrom 141 = .ok (.iadd, 1) := dcr zo_dX10_goFrom_121 11 rfl
theorem dX10_goFrom_142 : decode cX10_goFrom 142 = .ok (.iastore, 1) := dcr zo_dX10_goFrom_121 12 rfl
theorem dX10_goFrom_143 : decode cX10_goFrom 143 = .ok (.aload_n 0, 1) := dcr zo_dX10_goFrom_121 13 rfl
theorem dX10_goFrom_144 : decode cX10_goFrom 144 = .ok (.getfield 31, 3) := dcr zo_dX10_goFrom_121 14 rfl
theorem dX10_goFrom_147 : decode cX10_goFrom 147 = .ok (.iload 9, 2) := dcr zo_dX10_goFrom_121 15 rfl
theorem zo_dX10_goFrom_149 : ([(149, .iload 8, 2), (151, .iastore, 1), (152, .aload_n 0, 1), (153, .getfield 34, 3), (156, .iload 9, 2), (158, .iload 6, 2), (160, .iastore, 1), (161, .aload_n 0, 1), (162, .getfield 25, 3), (165, .aload_n 0, 1), (166, .getfield 158, 3), (169, .iload 9, 2), (171, .iastore, 1), (172, .aload_n 0, 1), (173, .dup, 1), (174, .getfield 158, 3)] : List (Nat × Instr × Nat)).all (dOk (decode cX10_goFrom)) = true := by decide +kernel
theorem dX10_goFrom_149 : decode cX10_goFrom 149 = .ok (.iload 8, 2) := dcr zo_dX10_goFrom_149 0 rfl
theorem dX10_goFrom_151 : decode cX10_goFrom 151 = .ok (.iastore, 1) := dcr zo_dX10_goFrom_149 1 rfl
theorem dX10_goFrom_152 : decode cX10_goFrom 152 = .ok (.aload_n 0, 1) := dcr zo_dX10_goFrom_149 2 rfl
theorem dX10_goFrom_153 : decode cX10_goFrom 153 = .ok (.getfield 34, 3) := dcr zo_dX10_goFrom_149 3 rfl
theorem dX10_goFrom_156 : decode cX10_goFrom 156 = .ok (.iload 9, 2) := dcr zo_dX10_goFrom_149 4 rfl
theorem dX10_goFrom_158 : decode cX10_goFrom 158 = .ok (.iload 6, 2) := dcr zo_dX10_goFrom_149 5 rfl
theorem dX10_goFrom_160 : decode cX10_goFrom 160 = .ok (.iastore, 1) := dcr zo_dX10_goFrom_149 6 rfl
theorem dX10_goFrom_161 : decode cX10_goFrom 161 = .ok (.aload_n 0, 1) := dcr zo_dX10_goFrom_149 7 rfl
theorem dX10_goFrom_162 : decode cX10_goFrom 162 = .ok (.getfield 25, 3) := dcr zo_dX10_goFrom_149 8 rfl
theorem dX10_goFrom_165 : decode cX10_goFrom 165 = .ok (.aload_n 0, 1) := dcr zo_dX10_goFrom_149 9 rfl
theorem dX10_goFrom_166 : decode cX10_goFrom 166 = .ok (.getfield 158, 3) := dcr zo_dX10_goFrom_149 10 rfl
theorem dX10_goFrom_169 : decode cX10_goFrom 169 = .ok (.iload 9, 2) := dcr zo_dX10_goFrom_149 11 rfl
theorem dX10_goFrom_171 : decode cX10_goFrom 171 = .ok (.iastore, 1) := dcr zo_dX10_goFrom_149 12 rfl
theorem dX10_goFrom_172 : decode cX10_goFrom 172 = .ok (.aload_n 0, 1) := dcr zo_dX10_goFrom_149 13 rfl
theorem dX10_goFrom_173 : decode cX10_goFrom 173 = .ok (.dup, 1) := dcr zo_dX10_goFrom_149 14 rfl
theorem dX10_goFrom_174 : decode cX10_goFrom 174 = .ok (.getfield 158, 3) := dcr zo_dX10_goFrom_149 15 rfl
theorem zo_dX10_goFrom_177 : ([(177, .iconst 1, 1), (178, .iadd, 1), (179, .putfield 158, 3), (182, .iinc 7 1, 3), (185, .goto (-107), 3), (188, .iinc 5 1, 3), (191, .goto (-134), 3), (194, .return_, 1)] : List (Nat × Instr × Nat)).all (dOk (decode cX10_goFrom)) = true := by decide +kernel
theorem dX10_goFrom_177 : decode cX10_goFrom 177 = .ok (.iconst 1, 1) := dcr zo_dX10_goFrom_177 0 rfl
theorem dX10_goFrom_178 : decode cX10_goFrom 178 = .ok (.iadd, 1) := dcr zo_dX10_goFrom_177 1 rfl
theorem dX10_goFrom_179 : decode cX10_goFrom 179 = .ok (.putfield 158, 3) := dcr zo_dX10_goFrom_177 2 rfl
theorem dX10_goFrom_182 : decode cX10_goFrom 182 = .ok (.iinc 7 1, 3) := dcr zo_dX10_goFrom_177 3 rfl
theorem dX10_goFrom_185 : decode cX10_goFrom 185 = .ok (.goto (-107), 3) := dcr zo_dX10_goFrom_177 4 rfl
theorem dX10_goFrom_188 : decode cX10_goFrom 188 = .ok (.iinc 5 1, 3) := dcr zo_dX10_goFrom_177 5 rfl
theorem dX10_goFrom_191 : decode cX10_goFrom 191 = .ok (.goto (-134), 3) := dcr zo_dX10_goFrom_177 6 rfl
theorem dX10_goFrom_194 : decode cX10_goFrom 194 = .ok (.return_, 1) := dcr zo_dX10_goFrom_177 7 rfl
def zt_wsX10_slipTo : List (List Cond) := [[.code yX10_slipTo cX10_slipTo 4 (some .int)], [.fieldLink RX10 28 "LastMapModel" "depth" "[I", .fieldLink RX10 34 "LastMapModel" "from" "[I", .fieldLink RX10 31 "LastMapModel" "by" "[I", .methodLink RX10 79 yX10_in, .static yX10_in, .initialized RX10, .code yX10_in cX10_in 6 (some .boolean)], wsX100]
theorem zt_wsX10_slipTo_in : ∀ c ∈ zt_wsX10_slipTo, ∀ w ∈ c, w ∈ wsX10_slipTo := List.forall_mem_cons.mpr ⟨fun _ h => List.mem_cons.mpr (Or.inl (List.mem_singleton.mp h)), List.forall_mem_cons.mpr ⟨fun _ h => List.mem_cons_of_mem _ (List.mem_append_left _ (h)), List.forall_mem_cons.mpr ⟨fun _ h => List.mem_cons_of_mem _ (List.mem_append_right _ h), (fun _ h => absurd h List.not_mem_nil)⟩⟩⟩
set_option maxRecDepth 20000 in
theorem ggX10_slipTo_X10_in : GoodIn wsX10_slipTo wsX10_in := goodIn_c zt_wsX10_slipTo_in _ [(1, 6)] rfl zw_wsX10_in
set_option maxRecDepth 20000 in
theorem gX10_slipTo_X10_in : GoodIn wsX10_slipTo (va_wsS RX10 79 yX10_in wsX10_in) := goodIn_app (goodIn_of _ (by decide +kernel)) ggX10_slipTo_X10_in
theorem zo_dX10_slipTo_0 : ([(0, .iload_n 2, 1), (1, .i2l, 1), (2, .lconst 0, 1), (3, .aload_n 0, 1), (4, .getfield 28, 3), (7, .iload_n 1, 1), (8, .iaload, 1), (9, .iconst 1, 1), (10, .isub, 1), (11, .i2l, 1), (12, .invokestatic 79, 3), (15, .ifCond .ne 6, 3), (18, .bipush (-6), 2), (20, .ireturn, 1), (21, .iload_n 1, 1), (22, .istore_n 3, 1)] : List (Nat × Instr × Nat)).all (dOk (decode cX10_slipTo)) = true := by decide +kernel
theorem dX10_slipTo_0 : decode cX10_slipTo 0 = .ok (.iload_n 2, 1) := dcr zo_dX10_slipTo_0 0 rfl
theorem dX10_slipTo_1 : decode cX10_slipTo 1 = .ok (.i2l, 1) := dcr zo_dX10_slipTo_0 1 rfl
theorem dX10_slipTo_2 : decode cX10_slipTo 2 = .ok (.lconst 0, 1) := dcr zo_dX10_slipTo_0 2 rfl
theorem dX10_slipTo_3 : decode cX10_slipTo 3 = .ok (.aload_n 0, 1) := dcr zo_dX10_slipTo_0 3 rfl
theorem dX10_slipTo_4 : decode cX10_slipTo 4 = .ok (.getfield 28, 3) := dcr zo_dX10_slipTo_0 4 rfl
theorem dX10_slipTo_7 : decode cX10_slipTo 7 = .ok (.iload_n 1, 1) := dcr zo_dX10_slipTo_0 5 rfl
theorem dX10_slipTo_8 : decode cX10_slipTo 8 = .ok (.iaload, 1) := dcr zo_dX10_slipTo_0 6 rfl
theorem dX10_slipTo_9 : decode cX10_slipTo 9 = .ok (.iconst 1, 1) := dcr zo_dX10_slipTo_0 7 rfl
theorem dX10_slipTo_10 : decode cX10_slipTo 10 = .ok (.isub, 1) := dcr zo_dX10_slipTo_0 8 rfl
theorem dX10_slipTo_11 : decode cX10_slipTo 11 = .ok (.i2l, 1) := dcr zo_dX10_slipTo_0 9 rfl
theorem dX10_slipTo_12 : decode cX10_slipTo 12 = .ok (.invokestatic 79, 3) := dcr zo_dX10_slipTo_0 10 rfl
theorem dX10_slipTo_15 : decode cX10_slipTo 15 = .ok (.ifCond .ne 6, 3) := dcr zo_dX10_slipTo_0 11 rfl
theorem dX10_slipTo_18 : decode cX10_slipTo 18 = .ok (.bipush (-6), 2) := dcr zo_dX10_slipTo_0 12 rfl
theorem dX10_slipTo_20 : decode cX10_slipTo 20 = .ok (.ireturn, 1) := dcr zo_dX10_slipTo_0 13 rfl
theorem dX10_slipTo_21 : decode cX10_slipTo 21 = .ok (.iload_n 1, 1) := dcr zo_dX10_slipTo_0 14 rfl
theorem dX10_slipTo_22 : decode cX10_slipTo 22 = .ok (.istore_n 3, 1) := dcr zo_dX10_slipTo_0 15 rfl
theorem zo_dX10_slipTo_23 : ([(23, .aload_n 0, 1), (24, .getfield 28, 3), (27, .iload_n 3, 1), (28, .iaload, 1), (29, .iload_n 2, 1), (30, .iconst 1, 1), (31, .iadd, 1), (32, .if_icmp .le 13, 3), (35, .aload_n 0, 1), (36, .getfield 34, 3), (39, .iload_n 3, 1), (40, .iaload, 1), (41, .istore_n 3, 1), (42, .goto (-19), 3), (45, .aload_n 0, 1), (46, .getfield 31, 3)] : List (Nat × Instr × Nat)).all (dOk (decode cX10_slipTo)) = true := by decide +kernel
theorem dX10_slipTo_23 : decode cX10_slipTo 23 = .ok (.aload_n 0, 1) := dcr zo_dX10_slipTo_23 0 rfl
theorem dX10_slipTo_24 : decode cX10_slipTo 24 = .ok (.getfield 28, 3) := dcr zo_dX10_slipTo_23 1 rfl
theorem dX10_slipTo_27 : decode cX10_slipTo 27 = .ok (.iload_n 3, 1) := dcr zo_dX10_slipTo_23 2 rfl
theorem dX10_slipTo_28 : decode cX10_slipTo 28 = .ok (.iaload, 1) := dcr zo_dX10_slipTo_23 3 rfl
theorem dX10_slipTo_29 : decode cX10_slipTo 29 = .ok (.iload_n 2, 1) := dcr zo_dX10_slipTo_23 4 rfl
theorem dX10_slipTo_30 : decode cX10_slipTo 30 = .ok (.iconst 1, 1) := dcr zo_dX10_slipTo_23 5 rfl
theorem dX10_slipTo_31 : decode cX10_slipTo 31 = .ok (.iadd, 1) := dcr zo_dX10_slipTo_23 6 rfl
theorem dX10_slipTo_32 : decode cX10_slipTo 32 = .ok (.if_icmp .le 13, 3) := dcr zo_dX10_slipTo_23 7 rfl
theorem dX10_slipTo_35 : decode cX10_slipTo 35 = .ok (.aload_n 0, 1) := dcr zo_dX10_slipTo_23 8 rfl
theorem dX10_slipTo_36 : decode cX10_slipTo 36 = .ok (.getfield 34, 3) := dcr zo_dX10_slipTo_23 9 rfl
theorem dX10_slipTo_39 : decode cX10_slipTo 39 = .ok (.iload_n 3, 1) := dcr zo_dX10_slipTo_23 10 rfl
theorem dX10_slipTo_40 : decode cX10_slipTo 40 = .ok (.iaload, 1) := dcr zo_dX10_slipTo_23 11 rfl
theorem dX10_slipTo_41 : decode cX10_slipTo 41 = .ok (.istore_n 3, 1) := dcr zo_dX10_slipTo_23 12 rfl
theorem dX10_slipTo_42 : decode cX10_slipTo 42 = .ok (.goto (-19), 3) := dcr zo_dX10_slipTo_23 13 rfl
theorem dX10_slipTo_45 : decode cX10_slipTo 45 = .ok (.aload_n 0, 1) := dcr zo_dX10_slipTo_23 14 rfl
theorem dX10_slipTo_46 : decode cX10_slipTo 46 = .ok (.getfield 31, 3) := dcr zo_dX10_slipTo_23 15 rfl
theorem zo_dX10_slipTo_49 : ([(49, .iload_n 3, 1), (50, .iaload, 1), (51, .ireturn, 1)] : List (Nat × Instr × Nat)).all (dOk (decode cX10_slipTo)) = true := by decide +kernel
theorem dX10_slipTo_49 : decode cX10_slipTo 49 = .ok (.iload_n 3, 1) := dcr zo_dX10_slipTo_49 0 rfl
theorem dX10_slipTo_50 : decode cX10_slipTo 50 = .ok (.iaload, 1) := dcr zo_dX10_slipTo_49 1 rfl
theorem dX10_slipTo_51 : decode cX10_slipTo 51 = .ok (.ireturn, 1) := dcr zo_dX10_slipTo_49 2 rfl
def zt_wsX10_farOf : List (List Cond) := [[.code yX10_farOf cX10_farOf 4 (some .int)], wsX10_farOf_r1, wsX10_farOf_r2, wsX100]
theorem zt_wsX10_farOf_in : ∀ c ∈ zt_wsX10_farOf, ∀ w ∈ c, w ∈ wsX10_farOf := List.forall_mem_cons.mpr ⟨fun _ h => List.mem_cons.mpr (Or.inl (List.mem_singleton.mp h)), List.forall_mem_cons.mpr ⟨fun _ h => List.mem_cons_of_mem _ (List.mem_append_left _ (List.mem_append_left _ h)), List.forall_mem_cons.mpr ⟨fun _ h => List.mem_cons_of_mem _ (List.mem_append_left _ (List.mem_append_right _ (h))), List.forall_mem_cons.mpr ⟨fun _ h => List.mem_cons_of_mem _ (List.mem_append_right _ h), (fun _ h => absurd h List.not_mem_nil)⟩⟩⟩⟩
set_option maxRecDepth 20000 in
theorem zw_wsX10_goFrom : wsX10_goFrom.all goodWord = true := by decide +kernel
set_option maxRecDepth 20000 in
theorem ggX10_farOf_X10_goFrom : GoodIn wsX10_farOf wsX10_goFrom := goodIn_c zt_wsX10_farOf_in _ [(1, 5), (1, 0), (1, 6), (1, 7), (1, 8), (1, 9), (1, 10), (1, 11), (1, 12), (1, 4), (1, 13), (1, 14), (1, 15), (1, 16), (1, 17), (1, 18), (1, 19), (1, 20), (1, 21), (1, 22), (1, 23), (2, 0), (2, 1), (2, 2), (2, 3), (2, 4), (2, 5), (2, 6), (2, 7), (2, 8), (2, 9), (2, 10), (2, 11), (2, 12), (2, 13), (2, 14), (3, 0), (3, 1), (3, 2), (3, 3), (3, 4), (3, 5), (3, 6), (3, 7), (3, 8), (3, 9), (3, 10), (3, 11), (3, 12), (3, 13), (3, 14), (3, 15), (3, 16), (3, 17), (3, 18), (3, 19), (3, 20), (3, 21), (3, 22), (3, 23), (3, 24), (3, 25), (3, 26), (3, 27)] rfl zw_wsX10_goFrom
set_option maxRecDepth 20000 in
theorem gX10_farOf_X10_goFrom : GoodIn wsX10_farOf (wsV RX10 171 RX10 yX10_goFrom wsX10_goFrom) := goodIn_app (goodIn_of _ (by decide +kernel)) ggX10_farOf_X10_goFrom
theorem zo_dX10_farOf_0 : ([(0, .aload_n 0, 1), (1, .iload_n 1, 1), (2, .iload_n 3, 1), (3, .invokevirtual 171, 3), (6, .aload_n 0, 1), (7, .getfield 28, 3), (10, .iload_n 2, 1), (11, .iaload, 1), (12, .ireturn, 1)] : List (Nat × Instr × Nat)).all (dOk (decode cX10_farOf)) = true := by decide +kernel
theorem dX10_farOf_0 : decode cX10_farOf 0 = .ok (.aload_n 0, 1) := dcr zo_dX10_farOf_0 0 rfl
theorem dX10_farOf_1 : decode cX10_farOf 1 = .ok (.iload_n 1, 1) := dcr zo_dX10_farOf_0 1 rfl
theorem dX10_farOf_2 : decode cX10_farOf 2 = .ok (.iload_n 3, 1) := dcr zo_dX10_farOf_0 2 rfl
theorem dX10_farOf_3 : decode cX10_farOf 3 = .ok (.invokevirtual 171, 3) := dcr zo_dX10_farOf_0 3 rfl
theorem dX10_farOf_6 : decode cX10_farOf 6 = .ok (.aload_n 0, 1) := dcr zo_dX10_farOf_0 4 rfl
theorem dX10_farOf_7 : decode cX10_farOf 7 = .ok (.getfield 28, 3) := dcr zo_dX10_farOf_0 5 rfl
theorem dX10_farOf_10 : decode cX10_farOf 10 = .ok (.iload_n 2, 1) := dcr zo_dX10_farOf_0 6 rfl
theorem dX10_farOf_11 : decode cX10_farOf 11 = .ok (.iaload, 1) := dcr zo_dX10_farOf_0 7 rfl
theorem dX10_farOf_12 : decode cX10_farOf 12 = .ok (.ireturn, 1) := dcr zo_dX10_farOf_0 8 rfl
def zt_wsX10_far : List (List Cond) := [[.code yX10_far cX10_far 6 (some .int)], wsX10_far_r1, wsX10_far_r2, wsX10_far_r3, wsX100]
theorem zt_wsX10_far_in : ∀ c ∈ zt_wsX10_far, ∀ w ∈ c, w ∈ wsX10_far := List.forall_mem_cons.mpr ⟨fun _ h => List.mem_cons.mpr (Or.inl (List.mem_singleton.mp h)), List.forall_mem_cons.mpr ⟨fun _ h => List.mem_cons_of_mem _ (List.mem_append_left _ (List.mem_append_left _ h)), List.forall_mem_cons.mpr ⟨fun _ h => List.mem_cons_of_mem _ (List.mem_append_left _ (List.mem_append_right _ (List.mem_append_left _ h))), List.forall_mem_cons.mpr ⟨fun _ h => List.mem_cons_of_mem _ (List.mem_append_left _ (List.mem_append_right _ (List.mem_append_right _ (h)))), List.forall_mem_cons.mpr ⟨fun _ h => List.mem_cons_of_mem _ (List.mem_append_right _ h), (fun _ h => absurd h List.not_mem_nil)⟩⟩⟩⟩⟩
set_option maxRecDepth 20000 in
theorem ggX10_far_X10_isMap : GoodIn wsX10_far wsX10_isMap := goodIn_c zt_wsX10_far_in _ [(1, 5), (1, 6), (1, 7), (1, 8), (1, 4), (1, 9)] rfl zw_wsX10_isMap
set_option maxRecDepth 20000 in
theorem gX10_far_X10_isMap : GoodIn wsX10_far (va_wsS RX10 124 yX10_isMap wsX10_isMap) := goodIn_app (goodIn_of _ (by decide +kernel)) ggX10_far_X10_isMap
set_option maxRecDepth 20000 in
theorem ggX10_far_X10_isHand : GoodIn wsX10_far wsX10_isHand := goodIn_c zt_wsX10_far_in _ [(1, 12), (1, 13), (1, 7), (1, 8), (1, 4), (1, 9)] rfl zw_wsX10_isHand
set_option maxRecDepth 20000 in
theorem gX10_far_X10_isHand : GoodIn wsX10_far (va_wsS RX10 137 yX10_isHand wsX10_isHand) := goodIn_app (goodIn_of _ (by decide +kernel)) ggX10_far_X10_isHand
set_option maxRecDepth 20000 in
theorem ggX10_far_X10_isTold : GoodIn wsX10_far wsX10_isTold := goodIn_c zt_wsX10_far_in _ [(1, 17), (1, 18), (4, 0), (4, 1), (4, 2), (4, 3), (4, 4), (4, 5), (4, 6), (4, 7), (4, 8), (4, 9), (4, 10), (4, 11), (4, 12), (4, 13), (4, 14), (4, 15), (4, 16), (4, 17), (4, 18), (4, 19), (4, 20), (4, 21), (4, 22), (4, 23), (4, 24), (4, 25), (4, 26), (4, 27)] rfl zw_wsX10_isTold
set_option maxRecDepth 20000 in
theorem gX10_far_X10_isTold : GoodIn wsX10_far (wsV RX10 131 RX10 yX10_isTold wsX10_isTold) := goodIn_app (goodIn_of _ (by decide +kernel)) ggX10_far_X10_isTold
set_option maxRecDepth 20000 in
theorem zw_wsX10_farOf : wsX10_farOf.all goodWord = true := by decide +kernel
set_option maxRecDepth 20000 in
theorem ggX10_far_X10_farOf : GoodIn wsX10_far wsX10_farOf := goodIn_c zt_wsX10_far_in _ [(1, 22), (1, 23), (2, 0), (2, 1), (2, 2), (1, 4), (2, 3), (2, 4), (2, 5), (2, 6), (2, 7), (2, 8), (2, 9), (2, 10), (2, 11), (2, 12), (2, 13), (2, 14), (2, 15), (2, 16), (2, 17), (2, 18), (2, 19), (2, 20), (2, 21), (2, 22), (2, 23), (3, 0), (3, 1), (3, 2), (3, 3), (3, 4), (3, 5), (3, 6), (3, 7), (3, 8), (3, 9), (3, 10), (3, 11), (3, 12), (4, 0), (4, 1), (4, 2), (4, 3), (4, 4), (4, 5), (4, 6), (4, 7), (4, 8), (4, 9), (4, 10), (4, 11), (4, 12), (4, 13), (4, 14), (4, 15), (4, 16), (4, 17), (4, 18), (4, 19), (4, 20), (4, 21), (4, 22), (4, 23), (4, 24), (4, 25), (4, 26), (4, 27)] rfl zw_wsX10_farOf
set_option maxRecDepth 20000 in
theorem gX10_far_X10_farOf : GoodIn wsX10_far (wsV RX10 175 RX10 yX10_farOf wsX10_farOf) := goodIn_app (goodIn_of _ (by decide +kernel)) ggX10_far_X10_farOf
set_option maxRecDepth 20000 in
theorem zw_wsX10_slipTo : wsX10_slipTo.all goodWord = true := by decide +kernel
set_option maxRecDepth 20000 in
theorem ggX10_far_X10_slipTo : GoodIn wsX10_far wsX10_slipTo := goodIn_c zt_wsX10_far_in _ [(3, 16), (1, 23), (2, 7), (2, 6), (1, 7), (1, 8), (1, 4), (1, 9), (4, 0), (4, 1), (4, 2), (4, 3), (4, 4), (4, 5), (4, 6), (4, 7), (4, 8), (4, 9), (4, 10), (4, 11), (4, 12), (4, 13), (4, 14), (4, 15), (4, 16), (4, 17), (4, 18), (4, 19), (4, 20), (4, 21), (4, 22), (4, 23), (4, 24), (4, 25), (4, 26), (4, 27)] rfl zw_wsX10_slipTo
set_option maxRecDepth 20000 in
theorem gX10_far_X10_slipTo : GoodIn wsX10_far (wsV RX10 178 RX10 yX10_slipTo wsX10_slipTo) := goodIn_app (goodIn_of _ (by decide +kernel)) ggX10_far_X10_slipTo
theorem zo_dX10_far_0 : ([(0, .iload_n 1, 1), (1, .invokestatic 124, 3), (4, .ifCond .eq 17, 3), (7, .iload_n 2, 1), (8, .invokestatic 124, 3), (11, .ifCond .eq 10, 3), (14, .iload_n 3, 1), (15, .invokestatic 137, 3), (18, .ifCond .ne 5, 3), (21, .iconst (-1), 1), (22, .ireturn, 1), (23, .aload_n 0, 1), (24, .iload_n 1, 1), (25, .invokevirtual 131, 3), (28, .ifCond .eq 11, 3), (31, .aload_n 0, 1)] : List (Nat × Instr × Nat)).all (dOk (decode cX10_far)) = true := by decide +kernel
theorem dX10_far_0 : decode cX10_far 0 = .ok (.iload_n 1, 1) := dcr zo_dX10_far_0 0 rfl
theorem dX10_far_1 : decode cX10_far 1 = .ok (.invokestatic 124, 3) := dcr zo_dX10_far_0 1 rfl
theorem dX10_far_4 : decode cX10_far 4 = .ok (.ifCond .eq 17, 3) := dcr zo_dX10_far_0 2 rfl
theorem dX10_far_7 : decode cX10_far 7 = .ok (.iload_n 2, 1) := dcr zo_dX10_far_0 3 rfl
theorem dX10_far_8 : decode cX10_far 8 = .ok (.invokestatic 124, 3) := dcr zo_dX10_far_0 4 rfl
theorem dX10_far_11 : decode cX10_far 11 = .ok (.ifCond .eq 10, 3) := dcr zo_dX10_far_0 5 rfl
theorem dX10_far_14 : decode cX10_far 14 = .ok (.iload_n 3, 1) := dcr zo_dX10_far_0 6 rfl
theorem dX10_far_15 : decode cX10_far 15 = .ok (.invokestatic 137, 3) := dcr zo_dX10_far_0 7 rfl
theorem dX10_far_18 : decode cX10_far 18 = .ok (.ifCond .ne 5, 3) := dcr zo_dX10_far_0 8 rfl
theorem dX10_far_21 : decode cX10_far 21 = .ok (.iconst (-1), 1) := dcr zo_dX10_far_0 9 rfl
theorem dX10_far_22 : decode cX10_far 22 = .ok (.ireturn, 1) := dcr zo_dX10_far_0 10 rfl
theorem dX10_far_23 : decode cX10_far 23 = .ok (.aload_n 0, 1) := dcr zo_dX10_far_0 11 rfl
theorem dX10_far_24 : decode cX10_far 24 = .ok (.iload_n 1, 1) := dcr zo_dX10_far_0 12 rfl
theorem dX10_far_25 : decode cX10_far 25 = .ok (.invokevirtual 131, 3) := dcr zo_dX10_far_0 13 rfl
theorem dX10_far_28 : decode cX10_far 28 = .ok (.ifCond .eq 11, 3) := dcr zo_dX10_far_0 14 rfl
theorem dX10_far_31 : decode cX10_far 31 = .ok (.aload_n 0, 1) := dcr zo_dX10_far_0 15 rfl
theorem zo_dX10_far_32 : ([(32, .iload_n 2, 1), (33, .invokevirtual 131, 3), (36, .ifCond .ne 6, 3), (39, .bipush (-3), 2), (41, .ireturn, 1), (42, .aload_n 0, 1), (43, .aload_n 0, 1), (44, .getfield 7, 3), (47, .iload_n 1, 1), (48, .iaload, 1), (49, .aload_n 0, 1), (50, .getfield 7, 3), (53, .iload_n 2, 1), (54, .iaload, 1), (55, .aload_n 0, 1), (56, .getfield 13, 3)] : List (Nat × Instr × Nat)).all (dOk (decode cX10_far)) = true := by decide +kernel
theorem dX10_far_32 : decode cX10_far 32 = .ok (.iload_n 2, 1) := dcr zo_dX10_far_32 0 rfl
theorem dX10_far_33 : decode cX10_far 33 = .ok (.invokevirtual 131, 3) := dcr zo_dX10_far_32 1 rfl
theorem dX10_far_36 : decode cX10_far 36 = .ok (.ifCond .ne 6, 3) := dcr zo_dX10_far_32 2 rfl
theorem dX10_far_39 : decode cX10_far 39 = .ok (.bipush (-3), 2) := dcr zo_dX10_far_32 3 rfl
theorem dX10_far_41 : decode cX10_far 41 = .ok (.ireturn, 1) := dcr zo_dX10_far_32 4 rfl
theorem dX10_far_42 : decode cX10_far 42 = .ok (.aload_n 0, 1) := dcr zo_dX10_far_32 5 rfl
theorem dX10_far_43 : decode cX10_far 43 = .ok (.aload_n 0, 1) := dcr zo_dX10_far_32 6 rfl
theorem dX10_far_44 : decode cX10_far 44 = .ok (.getfield 7, 3) := dcr zo_dX10_far_32 7 rfl
theorem dX10_far_47 : decode cX10_far 47 = .ok (.iload_n 1, 1) := dcr zo_dX10_far_32 8 rfl
theorem dX10_far_48 : decode cX10_far 48 = .ok (.iaload, 1) := dcr zo_dX10_far_32 9 rfl
theorem dX10_far_49 : decode cX10_far 49 = .ok (.aload_n 0, 1) := dcr zo_dX10_far_32 10 rfl
theorem dX10_far_50 : decode cX10_far 50 = .ok (.getfield 7, 3) := dcr zo_dX10_far_32 11 rfl
theorem dX10_far_53 : decode cX10_far 53 = .ok (.iload_n 2, 1) := dcr zo_dX10_far_32 12 rfl
theorem dX10_far_54 : decode cX10_far 54 = .ok (.iaload, 1) := dcr zo_dX10_far_32 13 rfl
theorem dX10_far_55 : decode cX10_far 55 = .ok (.aload_n 0, 1) := dcr zo_dX10_far_32 14 rfl
theorem dX10_far_56 : decode cX10_far 56 = .ok (.getfield 13, 3) := dcr zo_dX10_far_32 15 rfl
theorem zo_dX10_far_59 : ([(59, .iload_n 3, 1), (60, .iaload, 1), (61, .invokevirtual 175, 3), (64, .istore 5, 2), (66, .iload 5, 2), (68, .ifCond .lt 9, 3), (71, .iload 4, 2), (73, .iconst (-1), 1), (74, .if_icmp .ne 8, 3), (77, .iload 5, 2), (79, .goto 15, 3), (82, .aload_n 0, 1), (83, .aload_n 0, 1), (84, .getfield 7, 3), (87, .iload_n 2, 1), (88, .iaload, 1)] : List (Nat × Instr × Nat)).all (dOk (decode cX10_far)) = true := by decide +kernel
theorem dX10_far_59 : decode cX10_far 59 = .ok (.iload_n 3, 1) := dcr zo_dX10_far_59 0 rfl
theorem dX10_far_60 : decode cX10_far 60 = .ok (.iaload, 1) := dcr zo_dX10_far_59 1 rfl
theorem dX10_far_61 : decode cX10_far 61 = .ok (.invokevirtual 175, 3) := dcr zo_dX10_far_59 2 rfl
theorem dX10_far_64 : decode cX10_far 64 = .ok (.istore 5, 2) := dcr zo_dX10_far_59 3 rfl
theorem dX10_far_66 : decode cX10_far 66 = .ok (.iload 5, 2) := dcr zo_dX10_far_59 4 rfl
theorem dX10_far_68 : decode cX10_far 68 = .ok (.ifCond .lt 9, 3) := dcr zo_dX10_far_59 5 rfl
theorem dX10_far_71 : decode cX10_far 71 = .ok (.iload 4, 2) := dcr zo_dX10_far_59 6 rfl
theorem dX10_far_73 : decode cX10_far 73 = .ok (.iconst (-1), 1) := dcr zo_dX10_far_59 7 rfl
theorem dX10_far_74 : decode cX10_far 74 = .ok (.if_icmp .ne 8, 3) := dcr zo_dX10_far_59 8 rfl
theorem dX10_far_77 : decode cX10_far 77 = .ok (.iload 5, 2) := dcr zo_dX10_far_59 9 rfl
theorem dX10_far_79 : decode cX10_far 79 = .ok (.goto 15, 3) := dcr zo_dX10_far_59 10 rfl
theorem dX10_far_82 : decode cX10_far 82 = .ok (.aload_n 0, 1) := dcr zo_dX10_far_59 11 rfl
theorem dX10_far_83 : decode cX10_far 83 = .ok (.aload_n 0, 1) := dcr zo_dX10_far_59 12 rfl
theorem dX10_far_84 : decode cX10_far 84 = .ok (.getfield 7, 3) := dcr zo_dX10_far_59 13 rfl
theorem dX10_far_87 : decode cX10_far 87 = .ok (.iload_n 2, 1) := dcr zo_dX10_far_59 14 rfl
theorem dX10_far_88 : decode cX10_far 88 = .ok (.iaload, 1) := dcr zo_dX10_far_59 15 rfl
theorem zo_dX10_far_89 : ([(89, .iload 4, 2), (91, .invokevirtual 178, 3), (94, .ireturn, 1)] : List (Nat × Instr × Nat)).all (dOk (decode cX10_far)) = true := by decide +kernel
theorem dX10_far_89 : decode cX10_far 89 = .ok (.iload 4, 2) := dcr zo_dX10_far_89 0 rfl
theorem dX10_far_91 : decode cX10_far 91 = .ok (.invokevirtual 178, 3) := dcr zo_dX10_far_89 1 rfl
theorem dX10_far_94 : decode cX10_far 94 = .ok (.ireturn, 1) := dcr zo_dX10_far_89 2 rfl
def zt_wsX10_who : List (List Cond) := [[.code yX10_who cX10_who 7 (some .int)], wsX10_who_r1, wsX10_who_r2, wsX10_who_r3, wsX100]
theorem zt_wsX10_who_in : ∀ c ∈ zt_wsX10_who, ∀ w ∈ c, w ∈ wsX10_who := List.forall_mem_cons.mpr ⟨fun _ h => List.mem_cons.mpr (Or.inl (List.mem_singleton.mp h)), List.forall_mem_cons.mpr ⟨fun _ h => List.mem_cons_of_mem _ (List.mem_append_left _ (List.mem_append_left _ h)), List.forall_mem_cons.mpr ⟨fun _ h => List.mem_cons_of_mem _ (List.mem_append_left _ (List.mem_append_right _ (List.mem_append_left _ h))), List.forall_mem_cons.mpr ⟨fun _ h => List.mem_cons_of_mem _ (List.mem_append_left _ (List.mem_append_right _ (List.mem_append_right _ (h)))), List.forall_mem_cons.mpr ⟨fun _ h => List.mem_cons_of_mem _ (List.mem_append_right _ h), (fun _ h => absurd h List.not_mem_nil)⟩⟩⟩⟩⟩
set_option maxRecDepth 20000 in
theorem ggX10_who_X10_isMap : GoodIn wsX10_who wsX10_isMap := goodIn_c zt_wsX10_who_in _ [(1, 6), (1, 7), (1, 8), (1, 9), (1, 5), (1, 10)] rfl zw_wsX10_isMap
set_option maxRecDepth 20000 in
theorem gX10_who_X10_isMap : GoodIn wsX10_who (va_wsS RX10 124 yX10_isMap wsX10_isMap) := goodIn_app (goodIn_of _ (by decide +kernel)) ggX10_who_X10_isMap
set_option maxRecDepth 20000 in
theorem ggX10_who_X10_in : GoodIn wsX10_who wsX10_in := goodIn_c zt_wsX10_who_in _ [(1, 10)] rfl zw_wsX10_in
set_option maxRecDepth 20000 in
theorem gX10_who_X10_in : GoodIn wsX10_who (va_wsS RX10 79 yX10_in wsX10_in) := goodIn_app (goodIn_of _ (by decide +kernel)) ggX10_who_X10_in
set_option maxRecDepth 20000 in
theorem ggX10_who_X10_isTold : GoodIn wsX10_who wsX10_isTold := goodIn_c zt_wsX10_who_in _ [(1, 14), (1, 15), (4, 0), (4, 1), (4, 2), (4, 3), (4, 4), (4, 5), (4, 6), (4, 7), (4, 8), (4, 9), (4, 10), (4, 11), (4, 12), (4, 13), (4, 14), (4, 15), (4, 16), (4, 17), (4, 18), (4, 19), (4, 20), (4, 21), (4, 22), (4, 23), (4, 24), (4, 25), (4, 26), (4, 27)] rfl zw_wsX10_isTold
set_option maxRecDepth 20000 in
theorem gX10_who_X10_isTold : GoodIn wsX10_who (wsV RX10 131 RX10 yX10_isTold wsX10_isTold) := goodIn_app (goodIn_of _ (by decide +kernel)) ggX10_who_X10_isTold
set_option maxRecDepth 20000 in
theorem ggX10_who_X10_farOf : GoodIn wsX10_who wsX10_farOf := goodIn_c zt_wsX10_who_in _ [(1, 19), (1, 20), (1, 21), (1, 22), (1, 23), (1, 5), (2, 0), (2, 1), (2, 2), (2, 3), (2, 4), (2, 5), (2, 6), (2, 7), (2, 8), (2, 9), (2, 10), (2, 11), (2, 12), (2, 13), (2, 14), (2, 15), (2, 16), (2, 17), (2, 18), (2, 19), (2, 20), (2, 21), (2, 22), (2, 23), (3, 0), (3, 1), (3, 2), (3, 3), (3, 4), (3, 5), (3, 6), (3, 7), (3, 8), (3, 9), (4, 0), (4, 1), (4, 2), (4, 3), (4, 4), (4, 5), (4, 6), (4, 7), (4, 8), (4, 9), (4, 10), (4, 11), (4, 12), (4, 13), (4, 14), (4, 15), (4, 16), (4, 17), (4, 18), (4, 19), (4, 20), (4, 21), (4, 22), (4, 23), (4, 24), (4, 25), (4, 26), (4, 27)] rfl zw_wsX10_farOf
set_option maxRecDepth 20000 in
theorem gX10_who_X10_farOf : GoodIn wsX10_who (wsV RX10 175 RX10 yX10_farOf wsX10_farOf) := goodIn_app (goodIn_of _ (by decide +kernel)) ggX10_who_X10_farOf
theorem zo_dX10_who_0 : ([(0, .iload_n 1, 1), (1, .invokestatic 124, 3), (4, .ifCond .eq 10, 3), (7, .iload_n 2, 1), (8, .invokestatic 124, 3), (11, .ifCond .ne 5, 3), (14, .iconst (-1), 1), (15, .ireturn, 1), (16, .iload_n 3, 1), (17, .i2l, 1), (18, .lconst 0, 1), (19, .ldc2_w 181, 3), (22, .invokestatic 79, 3), (25, .ifCond .ne 6, 3), (28, .bipush (-2), 2), (30, .ireturn, 1)] : List (Nat × Instr × Nat)).all (dOk (decode cX10_who)) = true := by decide +kernel
theorem dX10_who_0 : decode cX10_who 0 = .ok (.iload_n 1, 1) := dcr zo_dX10_who_0 0 rfl
theorem dX10_who_1 : decode cX10_who 1 = .ok (.invokestatic 124, 3) := dcr zo_dX10_who_0 1 rfl
theorem dX10_who_4 : decode cX10_who 4 = .ok (.ifCond .eq 10, 3) := dcr zo_dX10_who_0 2 rfl
theorem dX10_who_7 : decode cX10_who 7 = .ok (.iload_n 2, 1) := dcr zo_dX10_who_0 3 rfl
theorem dX10_who_8 : decode cX10_who 8 = .ok (.invokestatic 124, 3) := dcr zo_dX10_who_0 4 rfl
theorem dX10_who_11 : decode cX10_who 11 = .ok (.ifCond .ne 5, 3) := dcr zo_dX10_who_0 5 rfl
theorem dX10_who_14 : decode cX10_who 14 = .ok (.iconst (-1), 1) := dcr zo_dX10_who_0 6 rfl
theorem dX10_who_15 : decode cX10_who 15 = .ok (.ireturn, 1) := dcr zo_dX10_who_0 7 rfl
theorem dX10_who_16 : decode cX10_who 16 = .ok (.iload_n 3, 1) := dcr zo_dX10_who_0 8 rfl
theorem dX10_who_17 : decode cX10_who 17 = .ok (.i2l, 1) := dcr zo_dX10_who_0 9 rfl
theorem dX10_who_18 : decode cX10_who 18 = .ok (.lconst 0, 1) := dcr zo_dX10_who_0 10 rfl
theorem dX10_who_19 : decode cX10_who 19 = .ok (.ldc2_w 181, 3) := dcr zo_dX10_who_0 11 rfl
theorem dX10_who_22 : decode cX10_who 22 = .ok (.invokestatic 79, 3) := dcr zo_dX10_who_0 12 rfl
theorem dX10_who_25 : decode cX10_who 25 = .ok (.ifCond .ne 6, 3) := dcr zo_dX10_who_0 13 rfl
theorem dX10_who_28 : decode cX10_who 28 = .ok (.bipush (-2), 2) := dcr zo_dX10_who_0 14 rfl
theorem dX10_who_30 : decode cX10_who 30 = .ok (.ireturn, 1) := dcr zo_dX10_who_0 15 rfl
theorem zo_dX10_who_31 : ([(31, .aload_n 0, 1), (32, .iload_n 1, 1), (33, .invokevirtual 131, 3), (36, .ifCond .eq 11, 3), (39, .aload_n 0, 1), (40, .iload_n 2, 1), (41, .invokevirtual 131, 3), (44, .ifCond .ne 6, 3), (47, .bipush (-3), 2), (49, .ireturn, 1), (50, .iconst 0, 1), (51, .istore 4, 2), (53, .iconst 0, 1), (54, .istore 5, 2), (56, .iload 5, 2), (58, .iconst 4, 1)] : List (Nat × Instr × Nat)).all (dOk (decode cX10_who)) = true := by decide +kernel
theorem dX10_who_31 : decode cX10_who 31 = .ok (.aload_n 0, 1) := dcr zo_dX10_who_31 0 rfl
theorem dX10_who_32 : decode cX10_who 32 = .ok (.iload_n 1, 1) := dcr zo_dX10_who_31 1 rfl
theorem dX10_who_33 : decode cX10_who 33 = .ok (.invokevirtual 131, 3) := dcr zo_dX10_who_31 2 rfl
theorem dX10_who_36 : decode cX10_who 36 = .ok (.ifCond .eq 11, 3) := dcr zo_dX10_who_31 3 rfl
theorem dX10_who_39 : decode cX10_who 39 = .ok (.aload_n 0, 1) := dcr zo_dX10_who_31 4 rfl
theorem dX10_who_40 : decode cX10_who 40 = .ok (.iload_n 2, 1) := dcr zo_dX10_who_31 5 rfl
theorem dX10_who_41 : decode cX10_who 41 = .ok (.invokevirtual 131, 3) := dcr zo_dX10_who_31 6 rfl
theorem dX10_who_44 : decode cX10_who 44 = .ok (.ifCond .ne 6, 3) := dcr zo_dX10_who_31 7 rfl
theorem dX10_who_47 : decode cX10_who 47 = .ok (.bipush (-3), 2) := dcr zo_dX10_who_31 8 rfl
theorem dX10_who_49 : decode cX10_who 49 = .ok (.ireturn, 1) := dcr zo_dX10_who_31 9 rfl
theorem dX10_who_50 : decode cX10_who 50 = .ok (.iconst 0, 1) := dcr zo_dX10_who_31 10 rfl
theorem dX10_who_51 : decode cX10_who 51 = .ok (.istore 4, 2) := dcr zo_dX10_who_31 11 rfl
theorem dX10_who_53 : decode cX10_who 53 = .ok (.iconst 0, 1) := dcr zo_dX10_who_31 12 rfl
theorem dX10_who_54 : decode cX10_who 54 = .ok (.istore 5, 2) := dcr zo_dX10_who_31 13 rfl
theorem dX10_who_56 : decode cX10_who 56 = .ok (.iload 5, 2) := dcr zo_dX10_who_31 14 rfl
theorem dX10_who_58 : decode cX10_who 58 = .ok (.iconst 4, 1) := dcr zo_dX10_who_31 15 rfl
theorem zo_dX10_who_59 : ([(59, .if_icmp .ge 58, 3), (62, .aload_n 0, 1), (63, .aload_n 0, 1), (64, .getfield 7, 3), (67, .iload_n 1, 1), (68, .iaload, 1), (69, .aload_n 0, 1), (70, .getfield 7, 3), (73, .iload_n 2, 1), (74, .iaload, 1), (75, .aload_n 0, 1), (76, .getfield 13, 3), (79, .iload 5, 2), (81, .iaload, 1), (82, .invokevirtual 175, 3), (85, .istore 6, 2)] : List (Nat × Instr × Nat)).all (dOk (decode cX10_who)) = true := by decide +kernel
theorem dX10_who_59 : decode cX10_who 59 = .ok (.if_icmp .ge 58, 3) := dcr zo_dX10_who_59 0 rfl
theorem dX10_who_62 : decode cX10_who 62 = .ok (.aload_n 0, 1) := dcr zo_dX10_who_59 1 rfl
theorem dX10_who_63 : decode cX10_who 63 = .ok (.aload_n 0, 1) := dcr zo_dX10_who_59 2 rfl
theorem dX10_who_64 : decode cX10_who 64 = .ok (.getfield 7, 3) := dcr zo_dX10_who_59 3 rfl
theorem dX10_who_67 : decode cX10_who 67 = .ok (.iload_n 1, 1) := dcr zo_dX10_who_59 4 rfl
theorem dX10_who_68 : decode cX10_who 68 = .ok (.iaload, 1) := dcr zo_dX10_who_59 5 rfl
theorem dX10_who_69 : decode cX10_who 69 = .ok (.aload_n 0, 1) := dcr zo_dX10_who_59 6 rfl
theorem dX10_who_70 : decode cX10_who 70 = .ok (.getfield 7, 3) := dcr zo_dX10_who_59 7 rfl
theorem dX10_who_73 : decode cX10_who 73 = .ok (.iload_n 2, 1) := dcr zo_dX10_who_59 8 rfl
theorem dX10_who_74 : decode cX10_who 74 = .ok (.iaload, 1) := dcr zo_dX10_who_59 9 rfl
theorem dX10_who_75 : decode cX10_who 75 = .ok (.aload_n 0, 1) := dcr zo_dX10_who_59 10 rfl
theorem dX10_who_76 : decode cX10_who 76 = .ok (.getfield 13, 3) := dcr zo_dX10_who_59 11 rfl
theorem dX10_who_79 : decode cX10_who 79 = .ok (.iload 5, 2) := dcr zo_dX10_who_59 12 rfl
theorem dX10_who_81 : decode cX10_who 81 = .ok (.iaload, 1) := dcr zo_dX10_who_59 13 rfl
theorem dX10_who_82 : decode cX10_who 82 = .ok (.invokevirtual 175, 3) := dcr zo_dX10_who_59 14 rfl
theorem dX10_who_85 : decode cX10_who 85 = .ok (.istore 6, 2) := dcr zo_dX10_who_59 15 rfl
theorem zo_dX10_who_87 : ([(87, .iload 4, 2), (89, .iload 6, 2), (91, .ifCond .lt 16, 3), (94, .iload 6, 2), (96, .iload_n 3, 1), (97, .if_icmp .gt 10, 3), (100, .iconst 1, 1), (101, .iload 5, 2), (103, .ishl, 1), (104, .goto 4, 3), (107, .iconst 0, 1), (108, .ior, 1), (109, .istore 4, 2), (111, .iinc 5 1, 3), (114, .goto (-58), 3), (117, .iload 4, 2)] : List (Nat × Instr × Nat)).all (dOk (decode cX10_who)) = true := by decide +kernel
theorem dX10_who_87 : decode cX10_who 87 = .ok (.iload 4, 2) := dcr zo_dX10_who_87 0 rfl
theorem dX10_who_89 : decode cX10_who 89 = .ok (.iload 6, 2) := dcr zo_dX10_who_87 1 rfl
theorem dX10_who_91 : decode cX10_who 91 = .ok (.ifCond .lt 16, 3) := dcr zo_dX10_who_87 2 rfl
theorem dX10_who_94 : decode cX10_who 94 = .ok (.iload 6, 2) := dcr zo_dX10_who_87 3 rfl
theorem dX10_who_96 : decode cX10_who 96 = .ok (.iload_n 3, 1) := dcr zo_dX10_who_87 4 rfl
theorem dX10_who_97 : decode cX10_who 97 = .ok (.if_icmp .gt 10, 3) := dcr zo_dX10_who_87 5 rfl
theorem dX10_who_100 : decode cX10_who 100 = .ok (.iconst 1, 1) := dcr zo_dX10_who_87 6 rfl
theorem dX10_who_101 : decode cX10_who 101 = .ok (.iload 5, 2) := dcr zo_dX10_who_87 7 rfl
theorem dX10_who_103 : decode cX10_who 103 = .ok (.ishl, 1) := dcr zo_dX10_who_87 8 rfl
theorem dX10_who_104 : decode cX10_who 104 = .ok (.goto 4, 3) := dcr zo_dX10_who_87 9 rfl
theorem dX10_who_107 : decode cX10_who 107 = .ok (.iconst 0, 1) := dcr zo_dX10_who_87 10 rfl
theorem dX10_who_108 : decode cX10_who 108 = .ok (.ior, 1) := dcr zo_dX10_who_87 11 rfl
theorem dX10_who_109 : decode cX10_who 109 = .ok (.istore 4, 2) := dcr zo_dX10_who_87 12 rfl
theorem dX10_who_111 : decode cX10_who 111 = .ok (.iinc 5 1, 3) := dcr zo_dX10_who_87 13 rfl
theorem dX10_who_114 : decode cX10_who 114 = .ok (.goto (-58), 3) := dcr zo_dX10_who_87 14 rfl
theorem dX10_who_117 : decode cX10_who 117 = .ok (.iload 4, 2) := dcr zo_dX10_who_87 15 rfl
theorem zo_dX10_who_119 : ([(119, .ireturn, 1)] : List (Nat × Instr × Nat)).all (dOk (decode cX10_who)) = true := by decide +kernel
theorem dX10_who_119 : decode cX10_who 119 = .ok (.ireturn, 1) := dcr zo_dX10_who_119 0 rfl
def zt_wsX10_between : List (List Cond) := [[.code yX10_between cX10_between 6 (some .int)], wsX10_between_r1, wsX10_between_r2, wsX10_between_r3, wsX100]
theorem zt_wsX10_between_in : ∀ c ∈ zt_wsX10_between, ∀ w ∈ c, w ∈ wsX10_between := List.forall_mem_cons.mpr ⟨fun _ h => List.mem_cons.mpr (Or.inl (List.mem_singleton.mp h)), List.forall_mem_cons.mpr ⟨fun _ h => List.mem_cons_of_mem _ (List.mem_append_left _ (List.mem_append_left _ h)), List.forall_mem_cons.mpr ⟨fun _ h => List.mem_cons_of_mem _ (List.mem_append_left _ (List.mem_append_right _ (List.mem_append_left _ h))), List.forall_mem_cons.mpr ⟨fun _ h => List.mem_cons_of_mem _ (List.mem_append_left _ (List.mem_append_right _ (List.mem_append_right _ (h)))), List.forall_mem_cons.mpr ⟨fun _ h => List.mem_cons_of_mem _ (List.mem_append_right _ h), (fun _ h => absurd h List.not_mem_nil)⟩⟩⟩⟩⟩
set_option maxRecDepth 20000 in
theorem ggX10_between_X10_isMap : GoodIn wsX10_between wsX10_isMap := goodIn_c zt_wsX10_between_in _ [(1, 6), (1, 7), (1, 8), (1, 9), (1, 5), (1, 10)] rfl zw_wsX10_isMap
set_option maxRecDepth 20000 in
theorem gX10_between_X10_isMap : GoodIn wsX10_between (va_wsS RX10 124 yX10_isMap wsX10_isMap) := goodIn_app (goodIn_of _ (by decide +kernel)) ggX10_between_X10_isMap
set_option maxRecDepth 20000 in
theorem ggX10_between_X10_isHand : GoodIn wsX10_between wsX10_isHand := goodIn_c zt_wsX10_between_in _ [(1, 13), (1, 14), (1, 8), (1, 9), (1, 5), (1, 10)] rfl zw_wsX10_isHand
set_option maxRecDepth 20000 in
theorem gX10_between_X10_isHand : GoodIn wsX10_between (va_wsS RX10 137 yX10_isHand wsX10_isHand) := goodIn_app (goodIn_of _ (by decide +kernel)) ggX10_between_X10_isHand
set_option maxRecDepth 20000 in
theorem ggX10_between_X10_in : GoodIn wsX10_between wsX10_in := goodIn_c zt_wsX10_between_in _ [(1, 10)] rfl zw_wsX10_in
set_option maxRecDepth 20000 in
theorem gX10_between_X10_in : GoodIn wsX10_between (va_wsS RX10 79 yX10_in wsX10_in) := goodIn_app (goodIn_of _ (by decide +kernel)) ggX10_between_X10_in
set_option maxRecDepth 20000 in
theorem ggX10_between_X10_isTold : GoodIn wsX10_between wsX10_isTold := goodIn_c zt_wsX10_between_in _ [(1, 18), (1, 19), (4, 0), (4, 1), (4, 2), (4, 3), (4, 4), (4, 5), (4, 6), (4, 7), (4, 8), (4, 9), (4, 10), (4, 11), (4, 12), (4, 13), (4, 14), (4, 15), (4, 16), (4, 17), (4, 18), (4, 19), (4, 20), (4, 21), (4, 22), (4, 23), (4, 24), (4, 25), (4, 26), (4, 27)] rfl zw_wsX10_isTold
set_option maxRecDepth 20000 in
theorem gX10_between_X10_isTold : GoodIn wsX10_between (wsV RX10 131 RX10 yX10_isTold wsX10_isTold) := goodIn_app (goodIn_of _ (by decide +kernel)) ggX10_between_X10_isTold
set_option maxRecDepth 20000 in
theorem ggX10_between_X10_farOf : GoodIn wsX10_between wsX10_farOf := goodIn_c zt_wsX10_between_in _ [(1, 23), (2, 0), (2, 1), (2, 2), (2, 3), (1, 5), (2, 4), (2, 5), (2, 6), (2, 7), (2, 8), (2, 9), (2, 10), (2, 11), (2, 12), (2, 13), (2, 14), (2, 15), (2, 16), (2, 17), (2, 18), (2, 19), (2, 20), (2, 21), (2, 22), (2, 23), (3, 0), (3, 1), (3, 2), (3, 3), (3, 4), (3, 5), (3, 6), (3, 7), (3, 8), (3, 9), (3, 10), (3, 11), (3, 12), (3, 13), (4, 0), (4, 1), (4, 2), (4, 3), (4, 4), (4, 5), (4, 6), (4, 7), (4, 8), (4, 9), (4, 10), (4, 11), (4, 12), (4, 13), (4, 14), (4, 15), (4, 16), (4, 17), (4, 18), (4, 19), (4, 20), (4, 21), (4, 22), (4, 23), (4, 24), (4, 25), (4, 26), (4, 27)] rfl zw_wsX10_farOf
set_option maxRecDepth 20000 in
theorem gX10_between_X10_farOf : GoodIn wsX10_between (wsV RX10 175 RX10 yX10_farOf wsX10_farOf) := goodIn_app (goodIn_of _ (by decide +kernel)) ggX10_between_X10_farOf
theorem zo_dX10_between_0 : ([(0, .iload_n 1, 1), (1, .invokestatic 124, 3), (4, .ifCond .eq 17, 3), (7, .iload_n 2, 1), (8, .invokestatic 124, 3), (11, .ifCond .eq 10, 3), (14, .iload_n 3, 1), (15, .invokestatic 137, 3), (18, .ifCond .ne 5, 3), (21, .iconst (-1), 1), (22, .ireturn, 1), (23, .iload 4, 2), (25, .i2l, 1), (26, .lconst 1, 1), (27, .ldc2_w 183, 3), (30, .invokestatic 79, 3)] : List (Nat × Instr × Nat)).all (dOk (decode cX10_between)) = true := by decide +kernel
theorem dX10_between_0 : decode cX10_between 0 = .ok (.iload_n 1, 1) := dcr zo_dX10_between_0 0 rfl
theorem dX10_between_1 : decode cX10_between 1 = .ok (.invokestatic 124, 3) := dcr zo_dX10_between_0 1 rfl
theorem dX10_between_4 : decode cX10_between 4 = .ok (.ifCond .eq 17, 3) := dcr zo_dX10_between_0 2 rfl
theorem dX10_between_7 : decode cX10_between 7 = .ok (.iload_n 2, 1) := dcr zo_dX10_between_0 3 rfl
theorem dX10_between_8 : decode cX10_between 8 = .ok (.invokestatic 124, 3) := dcr zo_dX10_between_0 4 rfl
theorem dX10_between_11 : decode cX10_between 11 = .ok (.ifCond .eq 10, 3) := dcr zo_dX10_between_0 5 rfl
theorem dX10_between_14 : decode cX10_between 14 = .ok (.iload_n 3, 1) := dcr zo_dX10_between_0 6 rfl
theorem dX10_between_15 : decode cX10_between 15 = .ok (.invokestatic 137, 3) := dcr zo_dX10_between_0 7 rfl
theorem dX10_between_18 : decode cX10_between 18 = .ok (.ifCond .ne 5, 3) := dcr zo_dX10_between_0 8 rfl
theorem dX10_between_21 : decode cX10_between 21 = .ok (.iconst (-1), 1) := dcr zo_dX10_between_0 9 rfl
theorem dX10_between_22 : decode cX10_between 22 = .ok (.ireturn, 1) := dcr zo_dX10_between_0 10 rfl
theorem dX10_between_23 : decode cX10_between 23 = .ok (.iload 4, 2) := dcr zo_dX10_between_0 11 rfl
theorem dX10_between_25 : decode cX10_between 25 = .ok (.i2l, 1) := dcr zo_dX10_between_0 12 rfl
theorem dX10_between_26 : decode cX10_between 26 = .ok (.lconst 1, 1) := dcr zo_dX10_between_0 13 rfl
theorem dX10_between_27 : decode cX10_between 27 = .ok (.ldc2_w 183, 3) := dcr zo_dX10_between_0 14 rfl
theorem dX10_between_30 : decode cX10_between 30 = .ok (.invokestatic 79, 3) := dcr zo_dX10_between_0 15 rfl
theorem zo_dX10_between_33 : ([(33, .ifCond .ne 6, 3), (36, .bipush (-2), 2), (38, .ireturn, 1), (39, .aload_n 0, 1), (40, .iload_n 1, 1), (41, .invokevirtual 131, 3), (44, .ifCond .eq 11, 3), (47, .aload_n 0, 1), (48, .iload_n 2, 1), (49, .invokevirtual 131, 3), (52, .ifCond .ne 6, 3), (55, .bipush (-3), 2), (57, .ireturn, 1), (58, .aload_n 0, 1), (59, .aload_n 0, 1), (60, .getfield 7, 3)] : List (Nat × Instr × Nat)).all (dOk (decode cX10_between)) = true := by decide +kernel
theorem dX10_between_33 : decode cX10_between 33 = .ok (.ifCond .ne 6, 3) := dcr zo_dX10_between_33 0 rfl
theorem dX10_between_36 : decode cX10_between 36 = .ok (.bipush (-2), 2) := dcr zo_dX10_between_33 1 rfl
theorem dX10_between_38 : decode cX10_between 38 = .ok (.ireturn, 1) := dcr zo_dX10_between_33 2 rfl
theorem dX10_between_39 : decode cX10_between 39 = .ok (.aload_n 0, 1) := dcr zo_dX10_between_33 3 rfl
theorem dX10_between_40 : decode cX10_between 40 = .ok (.iload_n 1, 1) := dcr zo_dX10_between_33 4 rfl
theorem dX10_between_41 : decode cX10_between 41 = .ok (.invokevirtual 131, 3) := dcr zo_dX10_between_33 5 rfl
theorem dX10_between_44 : decode cX10_between 44 = .ok (.ifCond .eq 11, 3) := dcr zo_dX10_between_33 6 rfl
theorem dX10_between_47 : decode cX10_between 47 = .ok (.aload_n 0, 1) := dcr zo_dX10_between_33 7 rfl
theorem dX10_between_48 : decode cX10_between 48 = .ok (.iload_n 2, 1) := dcr zo_dX10_between_33 8 rfl
theorem dX10_between_49 : decode cX10_between 49 = .ok (.invokevirtual 131, 3) := dcr zo_dX10_between_33 9 rfl
theorem dX10_between_52 : decode cX10_between 52 = .ok (.ifCond .ne 6, 3) := dcr zo_dX10_between_33 10 rfl
theorem dX10_between_55 : decode cX10_between 55 = .ok (.bipush (-3), 2) := dcr zo_dX10_between_33 11 rfl
theorem dX10_between_57 : decode cX10_between 57 = .ok (.ireturn, 1) := dcr zo_dX10_between_33 12 rfl
theorem dX10_between_58 : decode cX10_between 58 = .ok (.aload_n 0, 1) := dcr zo_dX10_between_33 13 rfl
theorem dX10_between_59 : decode cX10_between 59 = .ok (.aload_n 0, 1) := dcr zo_dX10_between_33 14 rfl
theorem dX10_between_60 : decode cX10_between 60 = .ok (.getfield 7, 3) := dcr zo_dX10_between_33 15 rfl
theorem zo_dX10_between_63 : ([(63, .iload_n 1, 1), (64, .iaload, 1), (65, .aload_n 0, 1), (66, .getfield 7, 3), (69, .iload_n 2, 1), (70, .iaload, 1), (71, .aload_n 0, 1), (72, .getfield 13, 3), (75, .iload_n 3, 1), (76, .iaload, 1), (77, .invokevirtual 175, 3), (80, .istore 5, 2), (82, .iload 5, 2), (84, .ifCond .ge 8, 3), (87, .bipush (-6), 2), (89, .goto 13, 3)] : List (Nat × Instr × Nat)).all (dOk (decode cX10_between)) = true := by decide +kernel
theorem dX10_between_63 : decode cX10_between 63 = .ok (.iload_n 1, 1) := dcr zo_dX10_between_63 0 rfl
theorem dX10_between_64 : decode cX10_between 64 = .ok (.iaload, 1) := dcr zo_dX10_between_63 1 rfl
theorem dX10_between_65 : decode cX10_between 65 = .ok (.aload_n 0, 1) := dcr zo_dX10_between_63 2 rfl
theorem dX10_between_66 : decode cX10_between 66 = .ok (.getfield 7, 3) := dcr zo_dX10_between_63 3 rfl
theorem dX10_between_69 : decode cX10_between 69 = .ok (.iload_n 2, 1) := dcr zo_dX10_between_63 4 rfl
theorem dX10_between_70 : decode cX10_between 70 = .ok (.iaload, 1) := dcr zo_dX10_between_63 5 rfl
theorem dX10_between_71 : decode cX10_between 71 = .ok (.aload_n 0, 1) := dcr zo_dX10_between_63 6 rfl
theorem dX10_between_72 : decode cX10_between 72 = .ok (.getfield 13, 3) := dcr zo_dX10_between_63 7 rfl
theorem dX10_between_75 : decode cX10_between 75 = .ok (.iload_n 3, 1) := dcr zo_dX10_between_63 8 rfl
theorem dX10_between_76 : decode cX10_between 76 = .ok (.iaload, 1) := dcr zo_dX10_between_63 9 rfl
theorem dX10_between_77 : decode cX10_between 77 = .ok (.invokevirtual 175, 3) := dcr zo_dX10_between_63 10 rfl
theorem dX10_between_80 : decode cX10_between 80 = .ok (.istore 5, 2) := dcr zo_dX10_between_63 11 rfl
theorem dX10_between_82 : decode cX10_between 82 = .ok (.iload 5, 2) := dcr zo_dX10_between_63 12 rfl
theorem dX10_between_84 : decode cX10_between 84 = .ok (.ifCond .ge 8, 3) := dcr zo_dX10_between_63 13 rfl
theorem dX10_between_87 : decode cX10_between 87 = .ok (.bipush (-6), 2) := dcr zo_dX10_between_63 14 rfl
theorem dX10_between_89 : decode cX10_between 89 = .ok (.goto 13, 3) := dcr zo_dX10_between_63 15 rfl
theorem zo_dX10_between_92 : ([(92, .iload 5, 2), (94, .iload 4, 2), (96, .iadd, 1), (97, .iconst 1, 1), (98, .isub, 1), (99, .iload 4, 2), (101, .idiv, 1), (102, .ireturn, 1)] : List (Nat × Instr × Nat)).all (dOk (decode cX10_between)) = true := by decide +kernel
theorem dX10_between_92 : decode cX10_between 92 = .ok (.iload 5, 2) := dcr zo_dX10_between_92 0 rfl
theorem dX10_between_94 : decode cX10_between 94 = .ok (.iload 4, 2) := dcr zo_dX10_between_92 1 rfl
theorem dX10_between_96 : decode cX10_between 96 = .ok (.iadd, 1) := dcr zo_dX10_between_92 2 rfl
theorem dX10_between_97 : decode cX10_between 97 = .ok (.iconst 1, 1) := dcr zo_dX10_between_92 3 rfl
theorem dX10_between_98 : decode cX10_between 98 = .ok (.isub, 1) := dcr zo_dX10_between_92 4 rfl
theorem dX10_between_99 : decode cX10_between 99 = .ok (.iload 4, 2) := dcr zo_dX10_between_92 5 rfl
theorem dX10_between_101 : decode cX10_between 101 = .ok (.idiv, 1) := dcr zo_dX10_between_92 6 rfl
theorem dX10_between_102 : decode cX10_between 102 = .ok (.ireturn, 1) := dcr zo_dX10_between_92 7 rfl
theorem zo_dX10_areTold_0 : ([(0, .iload_n 1, 1), (1, .aload_n 0, 1), (2, .getfield 70, 3), (5, .iconst (-1), 1), (6, .ixor, 1), (7, .iand, 1), (8, .ifCond .ne 7, 3), (11, .iconst 1, 1), (12, .goto 4, 3), (15, .iconst 0, 1), (16, .ireturn, 1)] : List (Nat × Instr × Nat)).all (dOk (decode cX10_areTold)) = true := by decide +kernel
theorem dX10_areTold_0 : decode cX10_areTold 0 = .ok (.iload_n 1, 1) := dcr zo_dX10_areTold_0 0 rfl
theorem dX10_areTold_1 : decode cX10_areTold 1 = .ok (.aload_n 0, 1) := dcr zo_dX10_areTold_0 1 rfl
theorem dX10_areTold_2 : decode cX10_areTold 2 = .ok (.getfield 70, 3) := dcr zo_dX10_areTold_0 2 rfl
theorem dX10_areTold_5 : decode cX10_areTold 5 = .ok (.iconst (-1), 1) := dcr zo_dX10_areTold_0 3 rfl
theorem dX10_areTold_6 : decode cX10_areTold 6 = .ok (.ixor, 1) := dcr zo_dX10_areTold_0 4 rfl
theorem dX10_areTold_7 : decode cX10_areTold 7 = .ok (.iand, 1) := dcr zo_dX10_areTold_0 5 rfl
theorem dX10_areTold_8 : decode cX10_areTold 8 = .ok (.ifCond .ne 7, 3) := dcr zo_dX10_areTold_0 6 rfl
theorem dX10_areTold_11 : decode cX10_areTold 11 = .ok (.iconst 1, 1) := dcr zo_dX10_areTold_0 7 rfl
theorem dX10_areTold_12 : decode cX10_areTold 12 = .ok (.goto 4, 3) := dcr zo_dX10_areTold_0 8 rfl
theorem dX10_areTold_15 : decode cX10_areTold 15 = .ok (.iconst 0, 1) := dcr zo_dX10_areTold_0 9 rfl
theorem dX10_areTold_16 : decode cX10_areTold 16 = .ok (.ireturn, 1) := dcr zo_dX10_areTold_0 10 rfl
def zt_wsX10_findOffs : List (List Cond) := [[.code yX10_findOffs cX10_findOffs 5 none], wsX10_findOffs_r1, wsX10_findOffs_r2, wsX100]
theorem zt_wsX10_findOffs_in : ∀ c ∈ zt_wsX10_findOffs, ∀ w ∈ c, w ∈ wsX10_findOffs := List.forall_mem_cons.mpr ⟨fun _ h => List.mem_cons.mpr (Or.inl (List.mem_singleton.mp h)), List.forall_mem_cons.mpr ⟨fun _ h => List.mem_cons_of_mem _ (List.mem_append_left _ (List.mem_append_left _ h)), List.forall_mem_cons.mpr ⟨fun _ h => List.mem_cons_of_mem _ (List.mem_append_left _ (List.mem_append_right _ (h))), List.forall_mem_cons.mpr ⟨fun _ h => List.mem_cons_of_mem _ (List.mem_append_right _ h), (fun _ h => absurd h List.not_mem_nil)⟩⟩⟩⟩
set_option maxRecDepth 20000 in
theorem ggX10_findOffs_X10_goFrom : GoodIn wsX10_findOffs wsX10_goFrom := goodIn_c zt_wsX10_findOffs_in _ [(1, 8), (1, 3), (1, 9), (1, 10), (1, 11), (1, 12), (1, 13), (1, 14), (1, 15), (1, 7), (1, 16), (1, 17), (1, 18), (1, 19), (1, 20), (1, 21), (1, 22), (1, 23), (2, 0), (2, 1), (2, 2), (2, 3), (2, 4), (2, 5), (2, 6), (2, 7), (2, 8), (2, 9), (2, 10), (2, 11), (2, 12), (2, 13), (2, 14), (2, 15), (2, 16), (2, 17), (3, 0), (3, 1), (3, 2), (3, 3), (3, 4), (3, 5), (3, 6), (3, 7), (3, 8), (3, 9), (3, 10), (3, 11), (3, 12), (3, 13), (3, 14), (3, 15), (3, 16), (3, 17), (3, 18), (3, 19), (3, 20), (3, 21), (3, 22), (3, 23), (3, 24), (3, 25), (3, 26), (3, 27)] rfl zw_wsX10_goFrom
set_option maxRecDepth 20000 in
theorem gX10_findOffs_X10_goFrom : GoodIn wsX10_findOffs (wsV RX10 171 RX10 yX10_goFrom wsX10_goFrom) := goodIn_app (goodIn_of _ (by decide +kernel)) ggX10_findOffs_X10_goFrom
theorem zo_dX10_findOffs_0 : ([(0, .iconst 0, 1), (1, .istore_n 3, 1), (2, .iload_n 3, 1), (3, .bipush 6, 2), (5, .if_icmp .ge 89, 3), (8, .iload_n 1, 1), (9, .iload_n 3, 1), (10, .ishr, 1), (11, .iconst 1, 1), (12, .iand, 1), (13, .iconst 1, 1), (14, .if_icmp .ne 74, 3), (17, .aload_n 0, 1), (18, .aload_n 0, 1), (19, .getfield 7, 3), (22, .iload_n 3, 1)] : List (Nat × Instr × Nat)).all (dOk (decode cX10_findOffs)) = true := by decide +kernel
theorem dX10_findOffs_0 : decode cX10_findOffs 0 = .ok (.iconst 0, 1) := dcr zo_dX10_findOffs_0 0 rfl
theorem dX10_findOffs_1 : decode cX10_findOffs 1 = .ok (.istore_n 3, 1) := dcr zo_dX10_findOffs_0 1 rfl
theorem dX10_findOffs_2 : decode cX10_findOffs 2 = .ok (.iload_n 3, 1) := dcr zo_dX10_findOffs_0 2 rfl
theorem dX10_findOffs_3 : decode cX10_findOffs 3 = .ok (.bipush 6, 2) := dcr zo_dX10_findOffs_0 3 rfl
theorem dX10_findOffs_5 : decode cX10_findOffs 5 = .ok (.if_icmp .ge 89, 3) := dcr zo_dX10_findOffs_0 4 rfl
theorem dX10_findOffs_8 : decode cX10_findOffs 8 = .ok (.iload_n 1, 1) := dcr zo_dX10_findOffs_0 5 rfl
theorem dX10_findOffs_9 : decode cX10_findOffs 9 = .ok (.iload_n 3, 1) := dcr zo_dX10_findOffs_0 6 rfl
theorem dX10_findOffs_10 : decode cX10_findOffs 10 = .ok (.ishr, 1) := dcr zo_dX10_findOffs_0 7 rfl
theorem dX10_findOffs_11 : decode cX10_findOffs 11 = .ok (.iconst 1, 1) := dcr zo_dX10_findOffs_0 8 rfl
theorem dX10_findOffs_12 : decode cX10_findOffs 12 = .ok (.iand, 1) := dcr zo_dX10_findOffs_0 9 rfl
theorem dX10_findOffs_13 : decode cX10_findOffs 13 = .ok (.iconst 1, 1) := dcr zo_dX10_findOffs_0 10 rfl
theorem dX10_findOffs_14 : decode cX10_findOffs 14 = .ok (.if_icmp .ne 74, 3) := dcr zo_dX10_findOffs_0 11 rfl
theorem dX10_findOffs_17 : decode cX10_findOffs 17 = .ok (.aload_n 0, 1) := dcr zo_dX10_findOffs_0 12 rfl
theorem dX10_findOffs_18 : decode cX10_findOffs 18 = .ok (.aload_n 0, 1) := dcr zo_dX10_findOffs_0 13 rfl
theorem dX10_findOffs_19 : decode cX10_findOffs 19 = .ok (.getfield 7, 3) := dcr zo_dX10_findOffs_0 14 rfl
theorem dX10_findOffs_22 : decode cX10_findOffs 22 = .ok (.iload_n 3, 1) := dcr zo_dX10_findOffs_0 15 rfl
theorem zo_dX10_findOffs_23 : ([(23, .iaload, 1), (24, .aload_n 0, 1), (25, .getfield 13, 3), (28, .iload_n 2, 1), (29, .iaload, 1), (30, .invokevirtual 171, 3), (33, .iconst 0, 1), (34, .istore 4, 2), (36, .iload 4, 2), (38, .bipush 6, 2), (40, .if_icmp .ge 48, 3), (43, .aload_n 0, 1), (44, .getfield 37, 3), (47, .bipush 6, 2), (49, .iload_n 3, 1), (50, .imul, 1)] : List (Nat × Instr × Nat)).all (dOk (decode cX10_findOffs)) = true := by decide +kernel
theorem dX10_findOffs_23 : decode cX10_findOffs 23 = .ok (.iaload, 1) := dcr zo_dX10_findOffs_23 0 rfl
theorem dX10_findOffs_24 : decode cX10_findOffs 24 = .ok (.aload_n 0, 1) := dcr zo_dX10_findOffs_23 1 rfl
theorem dX10_findOffs_25 : decode cX10_findOffs 25 = .ok (.getfield 13, 3) := dcr zo_dX10_findOffs_23 2 rfl
theorem dX10_findOffs_28 : decode cX10_findOffs 28 = .ok (.iload_n 2, 1) := dcr zo_dX10_findOffs_23 3 rfl
theorem dX10_findOffs_29 : decode cX10_findOffs 29 = .ok (.iaload, 1) := dcr zo_dX10_findOffs_23 4 rfl
theorem dX10_findOffs_30 : decode cX10_findOffs 30 = .ok (.invokevirtual 171, 3) := dcr zo_dX10_findOffs_23 5 rfl
theorem dX10_findOffs_33 : decode cX10_findOffs 33 = .ok (.iconst 0, 1) := dcr zo_dX10_findOffs_23 6 rfl
theorem dX10_findOffs_34 : decode cX10_findOffs 34 = .ok (.istore 4, 2) := dcr zo_dX10_findOffs_23 7 rfl
theorem dX10_findOffs_36 : decode cX10_findOffs 36 = .ok (.iload 4, 2) := dcr zo_dX10_findOffs_23 8 rfl
theorem dX10_findOffs_38 : decode cX10_findOffs 38 = .ok (.bipush 6, 2) := dcr zo_dX10_findOffs_23 9 rfl
theorem dX10_findOffs_40 : decode cX10_findOffs 40 = .ok (.if_icmp .ge 48, 3) := dcr zo_dX10_findOffs_23 10 rfl
theorem dX10_findOffs_43 : decode cX10_findOffs 43 = .ok (.aload_n 0, 1) := dcr zo_dX10_findOffs_23 11 rfl
theorem dX10_findOffs_44 : decode cX10_findOffs 44 = .ok (.getfield 37, 3) := dcr zo_dX10_findOffs_23 12 rfl
theorem dX10_findOffs_47 : decode cX10_findOffs 47 = .ok (.bipush 6, 2) := dcr zo_dX10_findOffs_23 13 rfl
theorem dX10_findOffs_49 : decode cX10_findOffs 49 = .ok (.iload_n 3, 1) := dcr zo_dX10_findOffs_23 14 rfl
theorem dX10_findOffs_50 : decode cX10_findOffs 50 = .ok (.imul, 1) := dcr zo_dX10_findOffs_23 15 rfl
theorem zo_dX10_findOffs_51 : ([(51, .iload 4, 2), (53, .iadd, 1), (54, .iload_n 1, 1), (55, .iload 4, 2), (57, .ishr, 1), (58, .iconst 1, 1), (59, .iand, 1), (60, .iconst 1, 1), (61, .if_icmp .ne 18, 3), (64, .aload_n 0, 1), (65, .getfield 28, 3), (68, .aload_n 0, 1), (69, .getfield 7, 3), (72, .iload 4, 2), (74, .iaload, 1), (75, .iaload, 1)] : List (Nat × Instr × Nat)).all (dOk (decode cX10_findOffs)) = true := by decide +kernel
theorem dX10_findOffs_51 : decode cX10_findOffs 51 = .ok (.iload 4, 2) := dcr zo_dX10_findOffs_51 0 rfl
theorem dX10_findOffs_53 : decode cX10_findOffs 53 = .ok (.iadd, 1) := dcr zo_dX10_findOffs_51 1 rfl
theorem dX10_findOffs_54 : decode cX10_findOffs 54 = .ok (.iload_n 1, 1) := dcr zo_dX10_findOffs_51 2 rfl
theorem dX10_findOffs_55 : decode cX10_findOffs 55 = .ok (.iload 4, 2) := dcr zo_dX10_findOffs_51 3 rfl
theorem dX10_findOffs_57 : decode cX10_findOffs 57 = .ok (.ishr, 1) := dcr zo_dX10_findOffs_51 4 rfl
theorem dX10_findOffs_58 : decode cX10_findOffs 58 = .ok (.iconst 1, 1) := dcr zo_dX10_findOffs_51 5 rfl
theorem dX10_findOffs_59 : decode cX10_findOffs 59 = .ok (.iand, 1) := dcr zo_dX10_findOffs_51 6 rfl
theorem dX10_findOffs_60 : decode cX10_findOffs 60 = .ok (.iconst 1, 1) := dcr zo_dX10_findOffs_51 7 rfl
theorem dX10_findOffs_61 : decode cX10_findOffs 61 = .ok (.if_icmp .ne 18, 3) := dcr zo_dX10_findOffs_51 8 rfl
theorem dX10_findOffs_64 : decode cX10_findOffs 64 = .ok (.aload_n 0, 1) := dcr zo_dX10_findOffs_51 9 rfl
theorem dX10_findOffs_65 : decode cX10_findOffs 65 = .ok (.getfield 28, 3) := dcr zo_dX10_findOffs_51 10 rfl
theorem dX10_findOffs_68 : decode cX10_findOffs 68 = .ok (.aload_n 0, 1) := dcr zo_dX10_findOffs_51 11 rfl
theorem dX10_findOffs_69 : decode cX10_findOffs 69 = .ok (.getfield 7, 3) := dcr zo_dX10_findOffs_51 12 rfl
theorem dX10_findOffs_72 : decode cX10_findOffs 72 = .ok (.iload 4, 2) := dcr zo_dX10_findOffs_51 13 rfl
theorem dX10_findOffs_74 : decode cX10_findOffs 74 = .ok (.iaload, 1) := dcr zo_dX10_findOffs_51 14 rfl
theorem dX10_findOffs_75 : decode cX10_findOffs 75 = .ok (.iaload, 1) := dcr zo_dX10_findOffs_51 15 rfl
theorem zo_dX10_findOffs_76 : ([(76, .goto 5, 3), (79, .bipush (-6), 2), (81, .iastore, 1), (82, .iinc 4 1, 3), (85, .goto (-49), 3), (88, .iinc 3 1, 3), (91, .goto (-89), 3), (94, .return_, 1)] : List (Nat × Instr × Nat)).all (dOk (decode cX10_findOffs)) = true := by decide +kernel
theorem dX10_findOffs_76 : decode cX10_findOffs 76 = .ok (.goto 5, 3) := dcr zo_dX10_findOffs_76 0 rfl
theorem dX10_findOffs_79 : decode cX10_findOffs 79 = .ok (.bipush (-6), 2) := dcr zo_dX10_findOffs_76 1 rfl
theorem dX10_findOffs_81 : decode cX10_findOffs 81 = .ok (.iastore, 1) := dcr zo_dX10_findOffs_76 2 rfl
theorem dX10_findOffs_82 : decode cX10_findOffs 82 = .ok (.iinc 4 1, 3) := dcr zo_dX10_findOffs_76 3 rfl
theorem dX10_findOffs_85 : decode cX10_findOffs 85 = .ok (.goto (-49), 3) := dcr zo_dX10_findOffs_76 4 rfl
theorem dX10_findOffs_88 : decode cX10_findOffs 88 = .ok (.iinc 3 1, 3) := dcr zo_dX10_findOffs_76 5 rfl
theorem dX10_findOffs_91 : decode cX10_findOffs 91 = .ok (.goto (-89), 3) := dcr zo_dX10_findOffs_76 6 rfl
theorem dX10_findOffs_94 : decode cX10_findOffs 94 = .ok (.return_, 1) := dcr zo_dX10_findOffs_76 7 rfl
def zt_wsX10_layTree : List (List Cond) := [[.code yX10_layTree cX10_layTree 8 (some .boolean)], [.fieldLink RX10 40 "LastMapModel" "parent" "[I", .fieldLink RX10 37 "LastMapModel" "offOf" "[I", .methodLink RX10 185 yX10_noRounds, .instanceMethod yX10_noRounds, .selects RX10 yX10_noRounds yX10_noRounds, .initialized RX10, .code yX10_noRounds cX10_noRounds 6 (some .boolean)], wsX100]
theorem zt_wsX10_layTree_in : ∀ c ∈ zt_wsX10_layTree, ∀ w ∈ c, w ∈ wsX10_layTree := List.forall_mem_cons.mpr ⟨fun _ h => List.mem_cons.mpr (Or.inl (List.mem_singleton.mp h)), List.forall_mem_cons.mpr ⟨fun _ h => List.mem_cons_of_mem _ (List.mem_append_left _ (h)), List.forall_mem_cons.mpr ⟨fun _ h => List.mem_cons_of_mem _ (List.mem_append_right _ h), (fun _ h => absurd h List.not_mem_nil)⟩⟩⟩
set_option maxRecDepth 20000 in
theorem zw_wsX10_noRounds : wsX10_noRounds.all goodWord = true := by decide +kernel
set_option maxRecDepth 20000 in
theorem ggX10_layTree_X10_noRounds : GoodIn wsX10_layTree wsX10_noRounds := goodIn_c zt_wsX10_layTree_in _ [(1, 6), (1, 0), (2, 0), (2, 1), (2, 2), (2, 3), (2, 4), (2, 5), (2, 6), (2, 7), (2, 8), (2, 9), (2, 10), (2, 11), (2, 12), (2, 13), (2, 14), (2, 15), (2, 16), (2, 17), (2, 18), (2, 19), (2, 20), (2, 21), (2, 22), (2, 23), (2, 24), (2, 25), (2, 26), (2, 27)] rfl zw_wsX10_noRounds
set_option maxRecDepth 20000 in
theorem gX10_layTree_X10_noRounds : GoodIn wsX10_layTree (wsV RX10 185 RX10 yX10_noRounds wsX10_noRounds) := goodIn_app (goodIn_of _ (by decide +kernel)) ggX10_layTree_X10_noRounds
theorem zo_dX10_layTree_0 : ([(0, .iload_n 2, 1), (1, .istore_n 3, 1), (2, .iconst 0, 1), (3, .istore 4, 2), (5, .iconst 1, 1), (6, .istore 5, 2), (8, .iconst 5, 1), (9, .istore 6, 2), (11, .iload 6, 2), (13, .ifCond .lt 117, 3), (16, .aload_n 0, 1), (17, .getfield 40, 3), (20, .iload 6, 2), (22, .bipush 6, 2), (24, .iastore, 1), (25, .iload_n 1, 1)] : List (Nat × Instr × Nat)).all (dOk (decode cX10_layTree)) = true := by decide +kernel
theorem dX10_layTree_0 : decode cX10_layTree 0 = .ok (.iload_n 2, 1) := dcr zo_dX10_layTree_0 0 rfl
theorem dX10_layTree_1 : decode cX10_layTree 1 = .ok (.istore_n 3, 1) := dcr zo_dX10_layTree_0 1 rfl
theorem dX10_layTree_2 : decode cX10_layTree 2 = .ok (.iconst 0, 1) := dcr zo_dX10_layTree_0 2 rfl
theorem dX10_layTree_3 : decode cX10_layTree 3 = .ok (.istore 4, 2) := dcr zo_dX10_layTree_0 3 rfl
theorem dX10_layTree_5 : decode cX10_layTree 5 = .ok (.iconst 1, 1) := dcr zo_dX10_layTree_0 4 rfl
theorem dX10_layTree_6 : decode cX10_layTree 6 = .ok (.istore 5, 2) := dcr zo_dX10_layTree_0 5 rfl
theorem dX10_layTree_8 : decode cX10_layTree 8 = .ok (.iconst 5, 1) := dcr zo_dX10_layTree_0 6 rfl
theorem dX10_layTree_9 : decode cX10_layTree 9 = .ok (.istore 6, 2) := dcr zo_dX10_layTree_0 7 rfl
theorem dX10_layTree_11 : decode cX10_layTree 11 = .ok (.iload 6, 2) := dcr zo_dX10_layTree_0 8 rfl
theorem dX10_layTree_13 : decode cX10_layTree 13 = .ok (.ifCond .lt 117, 3) := dcr zo_dX10_layTree_0 9 rfl
theorem dX10_layTree_16 : decode cX10_layTree 16 = .ok (.aload_n 0, 1) := dcr zo_dX10_layTree_0 10 rfl
theorem dX10_layTree_17 : decode cX10_layTree 17 = .ok (.getfield 40, 3) := dcr zo_dX10_layTree_0 11 rfl
theorem dX10_layTree_20 : decode cX10_layTree 20 = .ok (.iload 6, 2) := dcr zo_dX10_layTree_0 12 rfl
theorem dX10_layTree_22 : decode cX10_layTree 22 = .ok (.bipush 6, 2) := dcr zo_dX10_layTree_0 13 rfl
theorem dX10_layTree_24 : decode cX10_layTree 24 = .ok (.iastore, 1) := dcr zo_dX10_layTree_0 14 rfl
theorem dX10_layTree_25 : decode cX10_layTree 25 = .ok (.iload_n 1, 1) := dcr zo_dX10_layTree_0 15 rfl
theorem zo_dX10_layTree_26 : ([(26, .iload 6, 2), (28, .ishr, 1), (29, .iconst 1, 1), (30, .iand, 1), (31, .iconst 1, 1), (32, .if_icmp .ne 92, 3), (35, .iload_n 3, 1), (36, .bipush 7, 2), (38, .irem, 1), (39, .istore 7, 2), (41, .iload_n 3, 1), (42, .bipush 7, 2), (44, .idiv, 1), (45, .istore_n 3, 1), (46, .aload_n 0, 1), (47, .getfield 40, 3)] : List (Nat × Instr × Nat)).all (dOk (decode cX10_layTree)) = true := by decide +kernel
theorem dX10_layTree_26 : decode cX10_layTree 26 = .ok (.iload 6, 2) := dcr zo_dX10_layTree_26 0 rfl
theorem dX10_layTree_28 : decode cX10_layTree 28 = .ok (.ishr, 1) := dcr zo_dX10_layTree_26 1 rfl
theorem dX10_layTree_29 : decode cX10_layTree 29 = .ok (.iconst 1, 1) := dcr zo_dX10_layTree_26 2 rfl
theorem dX10_layTree_30 : decode cX10_layTree 30 = .ok (.iand, 1) := dcr zo_dX10_layTree_26 3 rfl
theorem dX10_layTree_31 : decode cX10_layTree 31 = .ok (.iconst 1, 1) := dcr zo_dX10_layTree_26 4 rfl
theorem dX10_layTree_32 : decode cX10_layTree 32 = .ok (.if_icmp .ne 92, 3) := dcr zo_dX10_layTree_26 5 rfl
theorem dX10_layTree_35 : decode cX10_layTree 35 = .ok (.iload_n 3, 1) := dcr zo_dX10_layTree_26 6 rfl
theorem dX10_layTree_36 : decode cX10_layTree 36 = .ok (.bipush 7, 2) := dcr zo_dX10_layTree_26 7 rfl
theorem dX10_layTree_38 : decode cX10_layTree 38 = .ok (.irem, 1) := dcr zo_dX10_layTree_26 8 rfl
theorem dX10_layTree_39 : decode cX10_layTree 39 = .ok (.istore 7, 2) := dcr zo_dX10_layTree_26 9 rfl
theorem dX10_layTree_41 : decode cX10_layTree 41 = .ok (.iload_n 3, 1) := dcr zo_dX10_layTree_26 10 rfl
theorem dX10_layTree_42 : decode cX10_layTree 42 = .ok (.bipush 7, 2) := dcr zo_dX10_layTree_26 11 rfl
theorem dX10_layTree_44 : decode cX10_layTree 44 = .ok (.idiv, 1) := dcr zo_dX10_layTree_26 12 rfl
theorem dX10_layTree_45 : decode cX10_layTree 45 = .ok (.istore_n 3, 1) := dcr zo_dX10_layTree_26 13 rfl
theorem dX10_layTree_46 : decode cX10_layTree 46 = .ok (.aload_n 0, 1) := dcr zo_dX10_layTree_26 14 rfl
theorem dX10_layTree_47 : decode cX10_layTree 47 = .ok (.getfield 40, 3) := dcr zo_dX10_layTree_26 15 rfl
theorem zo_dX10_layTree_50 : ([(50, .iload 6, 2), (52, .iload 7, 2), (54, .iastore, 1), (55, .iload 4, 2), (57, .iload 7, 2), (59, .bipush 6, 2), (61, .if_icmp .ne 7, 3), (64, .iconst 1, 1), (65, .goto 4, 3), (68, .iconst 0, 1), (69, .iadd, 1), (70, .istore 4, 2), (72, .iload 5, 2), (74, .ifCond .eq 47, 3), (77, .iload 7, 2), (79, .bipush 6, 2)] : List (Nat × Instr × Nat)).all (dOk (decode cX10_layTree)) = true := by decide +kernel
theorem dX10_layTree_50 : decode cX10_layTree 50 = .ok (.iload 6, 2) := dcr zo_dX10_layTree_50 0 rfl
theorem dX10_layTree_52 : decode cX10_layTree 52 = .ok (.iload 7, 2) := dcr zo_dX10_layTree_50 1 rfl
theorem dX10_layTree_54 : decode cX10_layTree 54 = .ok (.iastore, 1) := dcr zo_dX10_layTree_50 2 rfl
theorem dX10_layTree_55 : decode cX10_layTree 55 = .ok (.iload 4, 2) := dcr zo_dX10_layTree_50 3 rfl
theorem dX10_layTree_57 : decode cX10_layTree 57 = .ok (.iload 7, 2) := dcr zo_dX10_layTree_50 4 rfl
theorem dX10_layTree_59 : decode cX10_layTree 59 = .ok (.bipush 6, 2) := dcr zo_dX10_layTree_50 5 rfl
theorem dX10_layTree_61 : decode cX10_layTree 61 = .ok (.if_icmp .ne 7, 3) := dcr zo_dX10_layTree_50 6 rfl
theorem dX10_layTree_64 : decode cX10_layTree 64 = .ok (.iconst 1, 1) := dcr zo_dX10_layTree_50 7 rfl
theorem dX10_layTree_65 : decode cX10_layTree 65 = .ok (.goto 4, 3) := dcr zo_dX10_layTree_50 8 rfl
theorem dX10_layTree_68 : decode cX10_layTree 68 = .ok (.iconst 0, 1) := dcr zo_dX10_layTree_50 9 rfl
theorem dX10_layTree_69 : decode cX10_layTree 69 = .ok (.iadd, 1) := dcr zo_dX10_layTree_50 10 rfl
theorem dX10_layTree_70 : decode cX10_layTree 70 = .ok (.istore 4, 2) := dcr zo_dX10_layTree_50 11 rfl
theorem dX10_layTree_72 : decode cX10_layTree 72 = .ok (.iload 5, 2) := dcr zo_dX10_layTree_50 12 rfl
theorem dX10_layTree_74 : decode cX10_layTree 74 = .ok (.ifCond .eq 47, 3) := dcr zo_dX10_layTree_50 13 rfl
theorem dX10_layTree_77 : decode cX10_layTree 77 = .ok (.iload 7, 2) := dcr zo_dX10_layTree_50 14 rfl
theorem dX10_layTree_79 : decode cX10_layTree 79 = .ok (.bipush 6, 2) := dcr zo_dX10_layTree_50 15 rfl
theorem zo_dX10_layTree_81 : ([(81, .if_icmp .eq 36, 3), (84, .iload 7, 2), (86, .iload 6, 2), (88, .if_icmp .eq 33, 3), (91, .iload_n 1, 1), (92, .iload 7, 2), (94, .ishr, 1), (95, .iconst 1, 1), (96, .iand, 1), (97, .iconst 1, 1), (98, .if_icmp .ne 23, 3), (101, .aload_n 0, 1), (102, .getfield 37, 3), (105, .bipush 6, 2), (107, .iload 7, 2), (109, .imul, 1)] : List (Nat × Instr × Nat)).all (dOk (decode cX10_layTree)) = true := by decide +kernel
theorem dX10_layTree_81 : decode cX10_layTree 81 = .ok (.if_icmp .eq 36, 3) := dcr zo_dX10_layTree_81 0 rfl
theorem dX10_layTree_84 : decode cX10_layTree 84 = .ok (.iload 7, 2) := dcr zo_dX10_layTree_81 1 rfl
theorem dX10_layTree_86 : decode cX10_layTree 86 = .ok (.iload 6, 2) := dcr zo_dX10_layTree_81 2 rfl
theorem dX10_layTree_88 : decode cX10_layTree 88 = .ok (.if_icmp .eq 33, 3) := dcr zo_dX10_layTree_81 3 rfl
theorem dX10_layTree_91 : decode cX10_layTree 91 = .ok (.iload_n 1, 1) := dcr zo_dX10_layTree_81 4 rfl
theorem dX10_layTree_92 : decode cX10_layTree 92 = .ok (.iload 7, 2) := dcr zo_dX10_layTree_81 5 rfl
theorem dX10_layTree_94 : decode cX10_layTree 94 = .ok (.ishr, 1) := dcr zo_dX10_layTree_81 6 rfl
theorem dX10_layTree_95 : decode cX10_layTree 95 = .ok (.iconst 1, 1) := dcr zo_dX10_layTree_81 7 rfl
theorem dX10_layTree_96 : decode cX10_layTree 96 = .ok (.iand, 1) := dcr zo_dX10_layTree_81 8 rfl
theorem dX10_layTree_97 : decode cX10_layTree 97 = .ok (.iconst 1, 1) := dcr zo_dX10_layTree_81 9 rfl
theorem dX10_layTree_98 : decode cX10_layTree 98 = .ok (.if_icmp .ne 23, 3) := dcr zo_dX10_layTree_81 10 rfl
theorem dX10_layTree_101 : decode cX10_layTree 101 = .ok (.aload_n 0, 1) := dcr zo_dX10_layTree_81 11 rfl
theorem dX10_layTree_102 : decode cX10_layTree 102 = .ok (.getfield 37, 3) := dcr zo_dX10_layTree_81 12 rfl
theorem dX10_layTree_105 : decode cX10_layTree 105 = .ok (.bipush 6, 2) := dcr zo_dX10_layTree_81 13 rfl
theorem dX10_layTree_107 : decode cX10_layTree 107 = .ok (.iload 7, 2) := dcr zo_dX10_layTree_81 14 rfl
theorem dX10_layTree_109 : decode cX10_layTree 109 = .ok (.imul, 1) := dcr zo_dX10_layTree_81 15 rfl
theorem zo_dX10_layTree_110 : ([(110, .iload 6, 2), (112, .iadd, 1), (113, .iaload, 1), (114, .ifCond .lt 7, 3), (117, .iconst 1, 1), (118, .goto 4, 3), (121, .iconst 0, 1), (122, .istore 5, 2), (124, .iinc 6 (-1), 3), (127, .goto (-116), 3), (130, .iload 5, 2), (132, .ifCond .eq 21, 3), (135, .iload 4, 2), (137, .iconst 1, 1), (138, .if_icmp .ne 15, 3), (141, .aload_n 0, 1)] : List (Nat × Instr × Nat)).all (dOk (decode cX10_layTree)) = true := by decide +kernel
theorem dX10_layTree_110 : decode cX10_layTree 110 = .ok (.iload 6, 2) := dcr zo_dX10_layTree_110 0 rfl
theorem dX10_layTree_112 : decode cX10_layTree 112 = .ok (.iadd, 1) := dcr zo_dX10_layTree_110 1 rfl
theorem dX10_layTree_113 : decode cX10_layTree 113 = .ok (.iaload, 1) := dcr zo_dX10_layTree_110 2 rfl
theorem dX10_layTree_114 : decode cX10_layTree 114 = .ok (.ifCond .lt 7, 3) := dcr zo_dX10_layTree_110 3 rfl
theorem dX10_layTree_117 : decode cX10_layTree 117 = .ok (.iconst 1, 1) := dcr zo_dX10_layTree_110 4 rfl
theorem dX10_layTree_118 : decode cX10_layTree 118 = .ok (.goto 4, 3) := dcr zo_dX10_layTree_110 5 rfl
theorem dX10_layTree_121 : decode cX10_layTree 121 = .ok (.iconst 0, 1) := dcr zo_dX10_layTree_110 6 rfl
theorem dX10_layTree_122 : decode cX10_layTree 122 = .ok (.istore 5, 2) := dcr zo_dX10_layTree_110 7 rfl
theorem dX10_layTree_124 : decode cX10_layTree 124 = .ok (.iinc 6 (-1), 3) := dcr zo_dX10_layTree_110 8 rfl
theorem dX10_layTree_127 : decode cX10_layTree 127 = .ok (.goto (-116), 3) := dcr zo_dX10_layTree_110 9 rfl
theorem dX10_layTree_130 : decode cX10_layTree 130 = .ok (.iload 5, 2) := dcr zo_dX10_layTree_110 10 rfl
theorem dX10_layTree_132 : decode cX10_layTree 132 = .ok (.ifCond .eq 21, 3) := dcr zo_dX10_layTree_110 11 rfl
theorem dX10_layTree_135 : decode cX10_layTree 135 = .ok (.iload 4, 2) := dcr zo_dX10_layTree_110 12 rfl
theorem dX10_layTree_137 : decode cX10_layTree 137 = .ok (.iconst 1, 1) := dcr zo_dX10_layTree_110 13 rfl
theorem dX10_layTree_138 : decode cX10_layTree 138 = .ok (.if_icmp .ne 15, 3) := dcr zo_dX10_layTree_110 14 rfl
theorem dX10_layTree_141 : decode cX10_layTree 141 = .ok (.aload_n 0, 1) := dcr zo_dX10_layTree_110 15 rfl
theorem zo_dX10_layTree_142 : ([(142, .iload_n 1, 1), (143, .invokevirtual 185, 3), (146, .ifCond .eq 7, 3), (149, .iconst 1, 1), (150, .goto 4, 3), (153, .iconst 0, 1), (154, .ireturn, 1)] : List (Nat × Instr × Nat)).all (dOk (decode cX10_layTree)) = true := by decide +kernel
theorem dX10_layTree_142 : decode cX10_layTree 142 = .ok (.iload_n 1, 1) := dcr zo_dX10_layTree_142 0 rfl
theorem dX10_layTree_143 : decode cX10_layTree 143 = .ok (.invokevirtual 185, 3) := dcr zo_dX10_layTree_142 1 rfl
theorem dX10_layTree_146 : decode cX10_layTree 146 = .ok (.ifCond .eq 7, 3) := dcr zo_dX10_layTree_142 2 rfl
theorem dX10_layTree_149 : decode cX10_layTree 149 = .ok (.iconst 1, 1) := dcr zo_dX10_layTree_142 3 rfl
theorem dX10_layTree_150 : decode cX10_layTree 150 = .ok (.goto 4, 3) := dcr zo_dX10_layTree_142 4 rfl
theorem dX10_layTree_153 : decode cX10_layTree 153 = .ok (.iconst 0, 1) := dcr zo_dX10_layTree_142 5 rfl
theorem dX10_layTree_154 : decode cX10_layTree 154 = .ok (.ireturn, 1) := dcr zo_dX10_layTree_142 6 rfl
theorem zo_dX10_noRounds_0 : ([(0, .iconst 1, 1), (1, .istore_n 2, 1), (2, .iconst 0, 1), (3, .istore_n 3, 1), (4, .iload_n 3, 1), (5, .bipush 6, 2), (7, .if_icmp .ge 69, 3), (10, .iload_n 3, 1), (11, .istore 4, 2), (13, .iconst 0, 1), (14, .istore 5, 2), (16, .iload 5, 2), (18, .bipush 6, 2), (20, .if_icmp .ge 25, 3), (23, .iload 4, 2), (25, .bipush 6, 2)] : List (Nat × Instr × Nat)).all (dOk (decode cX10_noRounds)) = true := by decide +kernel
theorem dX10_noRounds_0 : decode cX10_noRounds 0 = .ok (.iconst 1, 1) := dcr zo_dX10_noRounds_0 0 rfl
theorem dX10_noRounds_1 : decode cX10_noRounds 1 = .ok (.istore_n 2, 1) := dcr zo_dX10_noRounds_0 1 rfl
theorem dX10_noRounds_2 : decode cX10_noRounds 2 = .ok (.iconst 0, 1) := dcr zo_dX10_noRounds_0 2 rfl
theorem dX10_noRounds_3 : decode cX10_noRounds 3 = .ok (.istore_n 3, 1) := dcr zo_dX10_noRounds_0 3 rfl
theorem dX10_noRounds_4 : decode cX10_noRounds 4 = .ok (.iload_n 3, 1) := dcr zo_dX10_noRounds_0 4 rfl
theorem dX10_noRounds_5 : decode cX10_noRounds 5 = .ok (.bipush 6, 2) := dcr zo_dX10_noRounds_0 5 rfl
theorem dX10_noRounds_7 : decode cX10_noRounds 7 = .ok (.if_icmp .ge 69, 3) := dcr zo_dX10_noRounds_0 6 rfl
theorem dX10_noRounds_10 : decode cX10_noRounds 10 = .ok (.iload_n 3, 1) := dcr zo_dX10_noRounds_0 7 rfl
theorem dX10_noRounds_11 : decode cX10_noRounds 11 = .ok (.istore 4, 2) := dcr zo_dX10_noRounds_0 8 rfl
theorem dX10_noRounds_13 : decode cX10_noRounds 13 = .ok (.iconst 0, 1) := dcr zo_dX10_noRounds_0 9 rfl
theorem dX10_noRounds_14 : decode cX10_noRounds 14 = .ok (.istore 5, 2) := dcr zo_dX10_noRounds_0 10 rfl
theorem dX10_noRounds_16 : decode cX10_noRounds 16 = .ok (.iload 5, 2) := dcr zo_dX10_noRounds_0 11 rfl
theorem dX10_noRounds_18 : decode cX10_noRounds 18 = .ok (.bipush 6, 2) := dcr zo_dX10_noRounds_0 12 rfl
theorem dX10_noRounds_20 : decode cX10_noRounds 20 = .ok (.if_icmp .ge 25, 3) := dcr zo_dX10_noRounds_0 13 rfl
theorem dX10_noRounds_23 : decode cX10_noRounds 23 = .ok (.iload 4, 2) := dcr zo_dX10_noRounds_0 14 rfl
theorem dX10_noRounds_25 : decode cX10_noRounds 25 = .ok (.bipush 6, 2) := dcr zo_dX10_noRounds_0 15 rfl
theorem zo_dX10_noRounds_27 : ([(27, .if_icmp .ge 18, 3), (30, .aload_n 0, 1), (31, .getfield 40, 3), (34, .iload 4, 2), (36, .iaload, 1), (37, .istore 4, 2), (39, .iinc 5 1, 3), (42, .goto (-26), 3), (45, .iload_n 2, 1), (46, .ifCond .eq 22, 3), (49, .iload_n 1, 1), (50, .iload_n 3, 1), (51, .ishr, 1), (52, .iconst 1, 1), (53, .iand, 1), (54, .ifCond .eq 10, 3)] : List (Nat × Instr × Nat)).all (dOk (decode cX10_noRounds)) = true := by decide +kernel
theorem dX10_noRounds_27 : decode cX10_noRounds 27 = .ok (.if_icmp .ge 18, 3) := dcr zo_dX10_noRounds_27 0 rfl
theorem dX10_noRounds_30 : decode cX10_noRounds 30 = .ok (.aload_n 0, 1) := dcr zo_dX10_noRounds_27 1 rfl
theorem dX10_noRounds_31 : decode cX10_noRounds 31 = .ok (.getfield 40, 3) := dcr zo_dX10_noRounds_27 2 rfl
theorem dX10_noRounds_34 : decode cX10_noRounds 34 = .ok (.iload 4, 2) := dcr zo_dX10_noRounds_27 3 rfl
theorem dX10_noRounds_36 : decode cX10_noRounds 36 = .ok (.iaload, 1) := dcr zo_dX10_noRounds_27 4 rfl
theorem dX10_noRounds_37 : decode cX10_noRounds 37 = .ok (.istore 4, 2) := dcr zo_dX10_noRounds_27 5 rfl
theorem dX10_noRounds_39 : decode cX10_noRounds 39 = .ok (.iinc 5 1, 3) := dcr zo_dX10_noRounds_27 6 rfl
theorem dX10_noRounds_42 : decode cX10_noRounds 42 = .ok (.goto (-26), 3) := dcr zo_dX10_noRounds_27 7 rfl
theorem dX10_noRounds_45 : decode cX10_noRounds 45 = .ok (.iload_n 2, 1) := dcr zo_dX10_noRounds_27 8 rfl
theorem dX10_noRounds_46 : decode cX10_noRounds 46 = .ok (.ifCond .eq 22, 3) := dcr zo_dX10_noRounds_27 9 rfl
theorem dX10_noRounds_49 : decode cX10_noRounds 49 = .ok (.iload_n 1, 1) := dcr zo_dX10_noRounds_27 10 rfl
theorem dX10_noRounds_50 : decode cX10_noRounds 50 = .ok (.iload_n 3, 1) := dcr zo_dX10_noRounds_27 11 rfl
theorem dX10_noRounds_51 : decode cX10_noRounds 51 = .ok (.ishr, 1) := dcr zo_dX10_noRounds_27 12 rfl
theorem dX10_noRounds_52 : decode cX10_noRounds 52 = .ok (.iconst 1, 1) := dcr zo_dX10_noRounds_27 13 rfl
theorem dX10_noRounds_53 : decode cX10_noRounds 53 = .ok (.iand, 1) := dcr zo_dX10_noRounds_27 14 rfl
theorem dX10_noRounds_54 : decode cX10_noRounds 54 = .ok (.ifCond .eq 10, 3) := dcr zo_dX10_noRounds_27 15 rfl
theorem zo_dX10_noRounds_57 : ([(57, .iload 4, 2), (59, .bipush 6, 2), (61, .if_icmp .ne 7, 3), (64, .iconst 1, 1), (65, .goto 4, 3), (68, .iconst 0, 1), (69, .istore_n 2, 1), (70, .iinc 3 1, 3), (73, .goto (-69), 3), (76, .iload_n 2, 1), (77, .ireturn, 1)] : List (Nat × Instr × Nat)).all (dOk (decode cX10_noRounds)) = true := by decide +kernel
theorem dX10_noRounds_57 : decode cX10_noRounds 57 = .ok (.iload 4, 2) := dcr zo_dX10_noRounds_57 0 rfl
theorem dX10_noRounds_59 : decode cX10_noRounds 59 = .ok (.bipush 6, 2) := dcr zo_dX10_noRounds_57 1 rfl
theorem dX10_noRounds_61 : decode cX10_noRounds 61 = .ok (.if_icmp .ne 7, 3) := dcr zo_dX10_noRounds_57 2 rfl
theorem dX10_noRounds_64 : decode cX10_noRounds 64 = .ok (.iconst 1, 1) := dcr zo_dX10_noRounds_57 3 rfl
theorem dX10_noRounds_65 : decode cX10_noRounds 65 = .ok (.goto 4, 3) := dcr zo_dX10_noRounds_57 4 rfl
theorem dX10_noRounds_68 : decode cX10_noRounds 68 = .ok (.iconst 0, 1) := dcr zo_dX10_noRounds_57 5 rfl
theorem dX10_noRounds_69 : decode cX10_noRounds 69 = .ok (.istore_n 2, 1) := dcr zo_dX10_noRounds_57 6 rfl
theorem dX10_noRounds_70 : decode cX10_noRounds 70 = .ok (.iinc 3 1, 3) := dcr zo_dX10_noRounds_57 7 rfl
theorem dX10_noRounds_73 : decode cX10_noRounds 73 = .ok (.goto (-69), 3) := dcr zo_dX10_noRounds_57 8 rfl
theorem dX10_noRounds_76 : decode cX10_noRounds 76 = .ok (.iload_n 2, 1) := dcr zo_dX10_noRounds_57 9 rfl
theorem dX10_noRounds_77 : decode cX10_noRounds 77 = .ok (.ireturn, 1) := dcr zo_dX10_noRounds_57 10 rfl
theorem zo_dX10_sumOfTree_0 : ([(0, .iconst 0, 1), (1, .istore_n 2, 1), (2, .iconst 0, 1), (3, .istore_n 3, 1), (4, .iload_n 3, 1), (5, .bipush 6, 2), (7, .if_icmp .ge 52, 3), (10, .iload_n 2, 1), (11, .iload_n 1, 1), (12, .iload_n 3, 1), (13, .ishr, 1), (14, .iconst 1, 1), (15, .iand, 1), (16, .iconst 1, 1), (17, .if_icmp .ne 33, 3), (20, .aload_n 0, 1)] : List (Nat × Instr × Nat)).all (dOk (decode cX10_sumOfTree)) = true := by decide +kernel
theorem dX10_sumOfTree_0 : decode cX10_sumOfTree 0 = .ok (.iconst 0, 1) := dcr zo_dX10_sumOfTree_0 0 rfl
theorem dX10_sumOfTree_1 : decode cX10_sumOfTree 1 = .ok (.istore_n 2, 1) := dcr zo_dX10_sumOfTree_0 1 rfl
theorem dX10_sumOfTree_2 : decode cX10_sumOfTree 2 = .ok (.iconst 0, 1) := dcr zo_dX10_sumOfTree_0 2 rfl
theorem dX10_sumOfTree_3 : decode cX10_sumOfTree 3 = .ok (.istore_n 3, 1) := dcr zo_dX10_sumOfTree_0 3 rfl
theorem dX10_sumOfTree_4 : decode cX10_sumOfTree 4 = .ok (.iload_n 3, 1) := dcr zo_dX10_sumOfTree_0 4 rfl
theorem dX10_sumOfTree_5 : decode cX10_sumOfTree 5 = .ok (.bipush 6, 2) := dcr zo_dX10_sumOfTree_0 5 rfl
theorem dX10_sumOfTree_7 : decode cX10_sumOfTree 7 = .ok (.if_icmp .ge 52, 3) := dcr zo_dX10_sumOfTree_0 6 rfl
theorem dX10_sumOfTree_10 : decode cX10_sumOfTree 10 = .ok (.iload_n 2, 1) := dcr zo_dX10_sumOfTree_0 7 rfl
theorem dX10_sumOfTree_11 : decode cX10_sumOfTree 11 = .ok (.iload_n 1, 1) := dcr zo_dX10_sumOfTree_0 8 rfl
theorem dX10_sumOfTree_12 : decode cX10_sumOfTree 12 = .ok (.iload_n 3, 1) := dcr zo_dX10_sumOfTree_0 9 rfl
theorem dX10_sumOfTree_13 : decode cX10_sumOfTree 13 = .ok (.ishr, 1) := dcr zo_dX10_sumOfTree_0 10 rfl
theorem dX10_sumOfTree_14 : decode cX10_sumOfTree 14 = .ok (.iconst 1, 1) := dcr zo_dX10_sumOfTree_0 11 rfl
theorem dX10_sumOfTree_15 : decode cX10_sumOfTree 15 = .ok (.iand, 1) := dcr zo_dX10_sumOfTree_0 12 rfl
theorem dX10_sumOfTree_16 : decode cX10_sumOfTree 16 = .ok (.iconst 1, 1) := dcr zo_dX10_sumOfTree_0 13 rfl
theorem dX10_sumOfTree_17 : decode cX10_sumOfTree 17 = .ok (.if_icmp .ne 33, 3) := dcr zo_dX10_sumOfTree_0 14 rfl
theorem dX10_sumOfTree_20 : decode cX10_sumOfTree 20 = .ok (.aload_n 0, 1) := dcr zo_dX10_sumOfTree_0 15 rfl
theorem zo_dX10_sumOfTree_21 : ([(21, .getfield 40, 3), (24, .iload_n 3, 1), (25, .iaload, 1), (26, .bipush 6, 2), (28, .if_icmp .ge 22, 3), (31, .aload_n 0, 1), (32, .getfield 37, 3), (35, .bipush 6, 2), (37, .aload_n 0, 1), (38, .getfield 40, 3), (41, .iload_n 3, 1), (42, .iaload, 1), (43, .imul, 1), (44, .iload_n 3, 1), (45, .iadd, 1), (46, .iaload, 1)] : List (Nat × Instr × Nat)).all (dOk (decode cX10_sumOfTree)) = true := by decide +kernel
theorem dX10_sumOfTree_21 : decode cX10_sumOfTree 21 = .ok (.getfield 40, 3) := dcr zo_dX10_sumOfTree_21 0 rfl
theorem dX10_sumOfTree_24 : decode cX10_sumOfTree 24 = .ok (.iload_n 3, 1) := dcr zo_dX10_sumOfTree_21 1 rfl
theorem dX10_sumOfTree_25 : decode cX10_sumOfTree 25 = .ok (.iaload, 1) := dcr zo_dX10_sumOfTree_21 2 rfl
theorem dX10_sumOfTree_26 : decode cX10_sumOfTree 26 = .ok (.bipush 6, 2) := dcr zo_dX10_sumOfTree_21 3 rfl
theorem dX10_sumOfTree_28 : decode cX10_sumOfTree 28 = .ok (.if_icmp .ge 22, 3) := dcr zo_dX10_sumOfTree_21 4 rfl
theorem dX10_sumOfTree_31 : decode cX10_sumOfTree 31 = .ok (.aload_n 0, 1) := dcr zo_dX10_sumOfTree_21 5 rfl
theorem dX10_sumOfTree_32 : decode cX10_sumOfTree 32 = .ok (.getfield 37, 3) := dcr zo_dX10_sumOfTree_21 6 rfl
theorem dX10_sumOfTree_35 : decode cX10_sumOfTree 35 = .ok (.bipush 6, 2) := dcr zo_dX10_sumOfTree_21 7 rfl
theorem dX10_sumOfTree_37 : decode cX10_sumOfTree 37 = .ok (.aload_n 0, 1) := dcr zo_dX10_sumOfTree_21 8 rfl
theorem dX10_sumOfTree_38 : decode cX10_sumOfTree 38 = .ok (.getfield 40, 3) := dcr zo_dX10_sumOfTree_21 9 rfl
theorem dX10_sumOfTree_41 : decode cX10_sumOfTree 41 = .ok (.iload_n 3, 1) := dcr zo_dX10_sumOfTree_21 10 rfl
theorem dX10_sumOfTree_42 : decode cX10_sumOfTree 42 = .ok (.iaload, 1) := dcr zo_dX10_sumOfTree_21 11 rfl
theorem dX10_sumOfTree_43 : decode cX10_sumOfTree 43 = .ok (.imul, 1) := dcr zo_dX10_sumOfTree_21 12 rfl
theorem dX10_sumOfTree_44 : decode cX10_sumOfTree 44 = .ok (.iload_n 3, 1) := dcr zo_dX10_sumOfTree_21 13 rfl
theorem dX10_sumOfTree_45 : decode cX10_sumOfTree 45 = .ok (.iadd, 1) := dcr zo_dX10_sumOfTree_21 14 rfl
theorem dX10_sumOfTree_46 : decode cX10_sumOfTree 46 = .ok (.iaload, 1) := dcr zo_dX10_sumOfTree_21 15 rfl
theorem zo_dX10_sumOfTree_47 : ([(47, .goto 4, 3), (50, .iconst 0, 1), (51, .iadd, 1), (52, .istore_n 2, 1), (53, .iinc 3 1, 3), (56, .goto (-52), 3), (59, .iload_n 2, 1), (60, .ireturn, 1)] : List (Nat × Instr × Nat)).all (dOk (decode cX10_sumOfTree)) = true := by decide +kernel
theorem dX10_sumOfTree_47 : decode cX10_sumOfTree 47 = .ok (.goto 4, 3) := dcr zo_dX10_sumOfTree_47 0 rfl
theorem dX10_sumOfTree_50 : decode cX10_sumOfTree 50 = .ok (.iconst 0, 1) := dcr zo_dX10_sumOfTree_47 1 rfl
theorem dX10_sumOfTree_51 : decode cX10_sumOfTree 51 = .ok (.iadd, 1) := dcr zo_dX10_sumOfTree_47 2 rfl
theorem dX10_sumOfTree_52 : decode cX10_sumOfTree 52 = .ok (.istore_n 2, 1) := dcr zo_dX10_sumOfTree_47 3 rfl
theorem dX10_sumOfTree_53 : decode cX10_sumOfTree 53 = .ok (.iinc 3 1, 3) := dcr zo_dX10_sumOfTree_47 4 rfl
theorem dX10_sumOfTree_56 : decode cX10_sumOfTree 56 = .ok (.goto (-52), 3) := dcr zo_dX10_sumOfTree_47 5 rfl
theorem dX10_sumOfTree_59 : decode cX10_sumOfTree 59 = .ok (.iload_n 2, 1) := dcr zo_dX10_sumOfTree_47 6 rfl
theorem dX10_sumOfTree_60 : decode cX10_sumOfTree 60 = .ok (.ireturn, 1) := dcr zo_dX10_sumOfTree_47 7 rfl
def zt_wsX10_findTrees : List (List Cond) := [[.code yX10_findTrees cX10_findTrees 7 none], wsX10_findTrees_r1, wsX10_findTrees_r2, wsX10_findTrees_r3, wsX100]
theorem zt_wsX10_findTrees_in : ∀ c ∈ zt_wsX10_findTrees, ∀ w ∈ c, w ∈ wsX10_findTrees := List.forall_mem_cons.mpr ⟨fun _ h => List.mem_cons.mpr (Or.inl (List.mem_singleton.mp h)), List.forall_mem_cons.mpr ⟨fun _ h => List.mem_cons_of_mem _ (List.mem_append_left _ (List.mem_append_left _ h)), List.forall_mem_cons.mpr ⟨fun _ h => List.mem_cons_of_mem _ (List.mem_append_left _ (List.mem_append_right _ (List.mem_append_left _ h))), List.forall_mem_cons.mpr ⟨fun _ h => List.mem_cons_of_mem _ (List.mem_append_left _ (List.mem_append_right _ (List.mem_append_right _ (h)))), List.forall_mem_cons.mpr ⟨fun _ h => List.mem_cons_of_mem _ (List.mem_append_right _ h), (fun _ h => absurd h List.not_mem_nil)⟩⟩⟩⟩⟩
set_option maxRecDepth 20000 in
theorem zw_wsX10_findOffs : wsX10_findOffs.all goodWord = true := by decide +kernel
set_option maxRecDepth 20000 in
theorem ggX10_findTrees_X10_findOffs : GoodIn wsX10_findTrees wsX10_findOffs := goodIn_c zt_wsX10_findTrees_in _ [(1, 8), (1, 9), (1, 10), (1, 11), (1, 12), (1, 13), (1, 14), (1, 15), (1, 7), (1, 16), (1, 17), (1, 18), (1, 19), (1, 20), (1, 21), (1, 22), (1, 23), (2, 0), (2, 1), (2, 2), (2, 3), (2, 4), (2, 5), (2, 6), (2, 7), (2, 8), (2, 9), (2, 10), (2, 11), (2, 12), (2, 13), (2, 14), (2, 15), (2, 16), (2, 17), (2, 18), (2, 19), (2, 20), (2, 21), (2, 22), (2, 23), (3, 0), (3, 1), (4, 0), (4, 1), (4, 2), (4, 3), (4, 4), (4, 5), (4, 6), (4, 7), (4, 8), (4, 9), (4, 10), (4, 11), (4, 12), (4, 13), (4, 14), (4, 15), (4, 16), (4, 17), (4, 18), (4, 19), (4, 20), (4, 21), (4, 22), (4, 23), (4, 24), (4, 25), (4, 26), (4, 27)] rfl zw_wsX10_findOffs
set_option maxRecDepth 20000 in
theorem gX10_findTrees_X10_findOffs : GoodIn wsX10_findTrees (wsV RX10 188 RX10 yX10_findOffs wsX10_findOffs) := goodIn_app (goodIn_of _ (by decide +kernel)) ggX10_findTrees_X10_findOffs
set_option maxRecDepth 20000 in
theorem zw_wsX10_layTree : wsX10_layTree.all goodWord = true := by decide +kernel
set_option maxRecDepth 20000 in
theorem ggX10_findTrees_X10_layTree : GoodIn wsX10_findTrees wsX10_layTree := goodIn_c zt_wsX10_findTrees_in _ [(3, 5), (1, 3), (1, 11), (3, 6), (3, 7), (3, 8), (1, 7), (3, 9), (4, 0), (4, 1), (4, 2), (4, 3), (4, 4), (4, 5), (4, 6), (4, 7), (4, 8), (4, 9), (4, 10), (4, 11), (4, 12), (4, 13), (4, 14), (4, 15), (4, 16), (4, 17), (4, 18), (4, 19), (4, 20), (4, 21), (4, 22), (4, 23), (4, 24), (4, 25), (4, 26), (4, 27)] rfl zw_wsX10_layTree
set_option maxRecDepth 20000 in
theorem gX10_findTrees_X10_layTree : GoodIn wsX10_findTrees (wsV RX10 197 RX10 yX10_layTree wsX10_layTree) := goodIn_app (goodIn_of _ (by decide +kernel)) ggX10_findTrees_X10_layTree
set_option maxRecDepth 20000 in
theorem zw_wsX10_sumOfTree : wsX10_sumOfTree.all goodWord = true := by decide +kernel
set_option maxRecDepth 20000 in
theorem ggX10_findTrees_X10_sumOfTree : GoodIn wsX10_findTrees wsX10_sumOfTree := goodIn_c zt_wsX10_findTrees_in _ [(3, 13), (1, 3), (1, 11), (4, 0), (4, 1), (4, 2), (4, 3), (4, 4), (4, 5), (4, 6), (4, 7), (4, 8), (4, 9), (4, 10), (4, 11), (4, 12), (4, 13), (4, 14), (4, 15), (4, 16), (4, 17), (4, 18), (4, 19), (4, 20), (4, 21), (4, 22), (4, 23), (4, 24), (4, 25), (4, 26), (4, 27)] rfl zw_wsX10_sumOfTree
set_option maxRecDepth 20000 in
theorem gX10_findTrees_X10_sumOfTree : GoodIn wsX10_findTrees (wsV RX10 200 RX10 yX10_sumOfTree wsX10_sumOfTree) := goodIn_app (goodIn_of _ (by decide +kernel)) ggX10_findTrees_X10_sumOfTree
theorem zo_dX10_findTrees_0 : ([(0, .aload_n 0, 1), (1, .iload_n 1, 1), (2, .iload_n 2, 1), (3, .invokevirtual 188, 3), (6, .aload_n 0, 1), (7, .iconst 0, 1), (8, .putfield 191, 3), (11, .aload_n 0, 1), (12, .bipush (-6), 2), (14, .putfield 194, 3), (17, .iconst 1, 1), (18, .istore_n 3, 1), (19, .iconst 0, 1), (20, .istore 4, 2), (22, .iload 4, 2), (24, .bipush 6, 2)] : List (Nat × Instr × Nat)).all (dOk (decode cX10_findTrees)) = true := by decide +kernel
theorem dX10_findTrees_0 : decode cX10_findTrees 0 = .ok (.aload_n 0, 1) := dcr zo_dX10_findTrees_0 0 rfl
theorem dX10_findTrees_1 : decode cX10_findTrees 1 = .ok (.iload_n 1, 1) := dcr zo_dX10_findTrees_0 1 rfl
theorem dX10_findTrees_2 : decode cX10_findTrees 2 = .ok (.iload_n 2, 1) := dcr zo_dX10_findTrees_0 2 rfl
theorem dX10_findTrees_3 : decode cX10_findTrees 3 = .ok (.invokevirtual 188, 3) := dcr zo_dX10_findTrees_0 3 rfl
theorem dX10_findTrees_6 : decode cX10_findTrees 6 = .ok (.aload_n 0, 1) := dcr zo_dX10_findTrees_0 4 rfl
theorem dX10_findTrees_7 : decode cX10_findTrees 7 = .ok (.iconst 0, 1) := dcr zo_dX10_findTrees_0 5 rfl
theorem dX10_findTrees_8 : decode cX10_findTrees 8 = .ok (.putfield 191, 3) := dcr zo_dX10_findTrees_0 6 rfl
theorem dX10_findTrees_11 : decode cX10_findTrees 11 = .ok (.aload_n 0, 1) := dcr zo_dX10_findTrees_0 7 rfl
theorem dX10_findTrees_12 : decode cX10_findTrees 12 = .ok (.bipush (-6), 2) := dcr zo_dX10_findTrees_0 8 rfl
theorem dX10_findTrees_14 : decode cX10_findTrees 14 = .ok (.putfield 194, 3) := dcr zo_dX10_findTrees_0 9 rfl
theorem dX10_findTrees_17 : decode cX10_findTrees 17 = .ok (.iconst 1, 1) := dcr zo_dX10_findTrees_0 10 rfl
theorem dX10_findTrees_18 : decode cX10_findTrees 18 = .ok (.istore_n 3, 1) := dcr zo_dX10_findTrees_0 11 rfl
theorem dX10_findTrees_19 : decode cX10_findTrees 19 = .ok (.iconst 0, 1) := dcr zo_dX10_findTrees_0 12 rfl
theorem dX10_findTrees_20 : decode cX10_findTrees 20 = .ok (.istore 4, 2) := dcr zo_dX10_findTrees_0 13 rfl
theorem dX10_findTrees_22 : decode cX10_findTrees 22 = .ok (.iload 4, 2) := dcr zo_dX10_findTrees_0 14 rfl
theorem dX10_findTrees_24 : decode cX10_findTrees 24 = .ok (.bipush 6, 2) := dcr zo_dX10_findTrees_0 15 rfl
theorem zo_dX10_findTrees_26 : ([(26, .if_icmp .ge 28, 3), (29, .iload_n 3, 1), (30, .iload_n 1, 1), (31, .iload 4, 2), (33, .ishr, 1), (34, .iconst 1, 1), (35, .iand, 1), (36, .iconst 1, 1), (37, .if_icmp .ne 8, 3), (40, .bipush 7, 2), (42, .goto 4, 3), (45, .iconst 1, 1), (46, .imul, 1), (47, .istore_n 3, 1), (48, .iinc 4 1, 3), (51, .goto (-29), 3)] : List (Nat × Instr × Nat)).all (dOk (decode cX10_findTrees)) = true := by decide +kernel
theorem dX10_findTrees_26 : decode cX10_findTrees 26 = .ok (.if_icmp .ge 28, 3) := dcr zo_dX10_findTrees_26 0 rfl
theorem dX10_findTrees_29 : decode cX10_findTrees 29 = .ok (.iload_n 3, 1) := dcr zo_dX10_findTrees_26 1 rfl
theorem dX10_findTrees_30 : decode cX10_findTrees 30 = .ok (.iload_n 1, 1) := dcr zo_dX10_findTrees_26 2 rfl
theorem dX10_findTrees_31 : decode cX10_findTrees 31 = .ok (.iload 4, 2) := dcr zo_dX10_findTrees_26 3 rfl
theorem dX10_findTrees_33 : decode cX10_findTrees 33 = .ok (.ishr, 1) := dcr zo_dX10_findTrees_26 4 rfl
theorem dX10_findTrees_34 : decode cX10_findTrees 34 = .ok (.iconst 1, 1) := dcr zo_dX10_findTrees_26 5 rfl
theorem dX10_findTrees_35 : decode cX10_findTrees 35 = .ok (.iand, 1) := dcr zo_dX10_findTrees_26 6 rfl
theorem dX10_findTrees_36 : decode cX10_findTrees 36 = .ok (.iconst 1, 1) := dcr zo_dX10_findTrees_26 7 rfl
theorem dX10_findTrees_37 : decode cX10_findTrees 37 = .ok (.if_icmp .ne 8, 3) := dcr zo_dX10_findTrees_26 8 rfl
theorem dX10_findTrees_40 : decode cX10_findTrees 40 = .ok (.bipush 7, 2) := dcr zo_dX10_findTrees_26 9 rfl
theorem dX10_findTrees_42 : decode cX10_findTrees 42 = .ok (.goto 4, 3) := dcr zo_dX10_findTrees_26 10 rfl
theorem dX10_findTrees_45 : decode cX10_findTrees 45 = .ok (.iconst 1, 1) := dcr zo_dX10_findTrees_26 11 rfl
theorem dX10_findTrees_46 : decode cX10_findTrees 46 = .ok (.imul, 1) := dcr zo_dX10_findTrees_26 12 rfl
theorem dX10_findTrees_47 : decode cX10_findTrees 47 = .ok (.istore_n 3, 1) := dcr zo_dX10_findTrees_26 13 rfl
theorem dX10_findTrees_48 : decode cX10_findTrees 48 = .ok (.iinc 4 1, 3) := dcr zo_dX10_findTrees_26 14 rfl
theorem dX10_findTrees_51 : decode cX10_findTrees 51 = .ok (.goto (-29), 3) := dcr zo_dX10_findTrees_26 15 rfl
theorem zo_dX10_findTrees_54 : ([(54, .iconst 0, 1), (55, .istore 4, 2), (57, .iload 4, 2), (59, .iload_n 3, 1), (60, .if_icmp .ge 106, 3), (63, .aload_n 0, 1), (64, .iload_n 1, 1), (65, .iload 4, 2), (67, .invokevirtual 197, 3), (70, .ifCond .eq 90, 3), (73, .aload_n 0, 1), (74, .iload_n 1, 1), (75, .invokevirtual 200, 3), (78, .istore 5, 2), (80, .aload_n 0, 1), (81, .getfield 194, 3)] : List (Nat × Instr × Nat)).all (dOk (decode cX10_findTrees)) = true := by decide +kernel
theorem dX10_findTrees_54 : decode cX10_findTrees 54 = .ok (.iconst 0, 1) := dcr zo_dX10_findTrees_54 0 rfl
theorem dX10_findTrees_55 : decode cX10_findTrees 55 = .ok (.istore 4, 2) := dcr zo_dX10_findTrees_54 1 rfl
theorem dX10_findTrees_57 : decode cX10_findTrees 57 = .ok (.iload 4, 2) := dcr zo_dX10_findTrees_54 2 rfl
theorem dX10_findTrees_59 : decode cX10_findTrees 59 = .ok (.iload_n 3, 1) := dcr zo_dX10_findTrees_54 3 rfl
theorem dX10_findTrees_60 : decode cX10_findTrees 60 = .ok (.if_icmp .ge 106, 3) := dcr zo_dX10_findTrees_54 4 rfl
theorem dX10_findTrees_63 : decode cX10_findTrees 63 = .ok (.aload_n 0, 1) := dcr zo_dX10_findTrees_54 5 rfl
theorem dX10_findTrees_64 : decode cX10_findTrees 64 = .ok (.iload_n 1, 1) := dcr zo_dX10_findTrees_54 6 rfl
theorem dX10_findTrees_65 : decode cX10_findTrees 65 = .ok (.iload 4, 2) := dcr zo_dX10_findTrees_54 7 rfl
theorem dX10_findTrees_67 : decode cX10_findTrees 67 = .ok (.invokevirtual 197, 3) := dcr zo_dX10_findTrees_54 8 rfl
theorem dX10_findTrees_70 : decode cX10_findTrees 70 = .ok (.ifCond .eq 90, 3) := dcr zo_dX10_findTrees_54 9 rfl
theorem dX10_findTrees_73 : decode cX10_findTrees 73 = .ok (.aload_n 0, 1) := dcr zo_dX10_findTrees_54 10 rfl
theorem dX10_findTrees_74 : decode cX10_findTrees 74 = .ok (.iload_n 1, 1) := dcr zo_dX10_findTrees_54 11 rfl
theorem dX10_findTrees_75 : decode cX10_findTrees 75 = .ok (.invokevirtual 200, 3) := dcr zo_dX10_findTrees_54 12 rfl
theorem dX10_findTrees_78 : decode cX10_findTrees 78 = .ok (.istore 5, 2) := dcr zo_dX10_findTrees_54 13 rfl
theorem dX10_findTrees_80 : decode cX10_findTrees 80 = .ok (.aload_n 0, 1) := dcr zo_dX10_findTrees_54 14 rfl
theorem dX10_findTrees_81 : decode cX10_findTrees 81 = .ok (.getfield 194, 3) := dcr zo_dX10_findTrees_54 15 rfl
theorem zo_dX10_findTrees_84 : ([(84, .ifCond .lt 12, 3), (87, .iload 5, 2), (89, .aload_n 0, 1), (90, .getfield 194, 3), (93, .if_icmp .ge 44, 3), (96, .aload_n 0, 1), (97, .iload 5, 2), (99, .putfield 194, 3), (102, .aload_n 0, 1), (103, .iconst 0, 1), (104, .putfield 191, 3), (107, .iconst 0, 1), (108, .istore 6, 2), (110, .iload 6, 2), (112, .bipush 6, 2), (114, .if_icmp .ge 23, 3)] : List (Nat × Instr × Nat)).all (dOk (decode cX10_findTrees)) = true := by decide +kernel
theorem dX10_findTrees_84 : decode cX10_findTrees 84 = .ok (.ifCond .lt 12, 3) := dcr zo_dX10_findTrees_84 0 rfl
theorem dX10_findTrees_87 : decode cX10_findTrees 87 = .ok (.iload 5, 2) := dcr zo_dX10_findTrees_84 1 rfl
theorem dX10_findTrees_89 : decode cX10_findTrees 89 = .ok (.aload_n 0, 1) := dcr zo_dX10_findTrees_84 2 rfl
theorem dX10_findTrees_90 : decode cX10_findTrees 90 = .ok (.getfield 194, 3) := dcr zo_dX10_findTrees_84 3 rfl
theorem dX10_findTrees_93 : decode cX10_findTrees 93 = .ok (.if_icmp .ge 44, 3) := dcr zo_dX10_findTrees_84 4 rfl
theorem dX10_findTrees_96 : decode cX10_findTrees 96 = .ok (.aload_n 0, 1) := dcr zo_dX10_findTrees_84 5 rfl
theorem dX10_findTrees_97 : decode cX10_findTrees 97 = .ok (.iload 5, 2) := dcr zo_dX10_findTrees_84 6 rfl
theorem dX10_findTrees_99 : decode cX10_findTrees 99 = .ok (.putfield 194, 3) := dcr zo_dX10_findTrees_84 7 rfl
theorem dX10_findTrees_102 : decode cX10_findTrees 102 = .ok (.aload_n 0, 1) := dcr zo_dX10_findTrees_84 8 rfl
theorem dX10_findTrees_103 : decode cX10_findTrees 103 = .ok (.iconst 0, 1) := dcr zo_dX10_findTrees_84 9 rfl
theorem dX10_findTrees_104 : decode cX10_findTrees 104 = .ok (.putfield 191, 3) := dcr zo_dX10_findTrees_84 10 rfl
theorem dX10_findTrees_107 : decode cX10_findTrees 107 = .ok (.iconst 0, 1) := dcr zo_dX10_findTrees_84 11 rfl
theorem dX10_findTrees_108 : decode cX10_findTrees 108 = .ok (.istore 6, 2) := dcr zo_dX10_findTrees_84 12 rfl
theorem dX10_findTrees_110 : decode cX10_findTrees 110 = .ok (.iload 6, 2) := dcr zo_dX10_findTrees_84 13 rfl
theorem dX10_findTrees_112 : decode cX10_findTrees 112 = .ok (.bipush 6, 2) := dcr zo_dX10_findTrees_84 14 rfl
theorem dX10_findTrees_114 : decode cX10_findTrees 114 = .ok (.if_icmp .ge 23, 3) := dcr zo_dX10_findTrees_84 15 rfl
theorem zo_dX10_findTrees_117 : ([(117, .aload_n 0, 1), (118, .getfield 43, 3), (121, .iload 6, 2), (123, .aload_n 0, 1), (124, .getfield 40, 3), (127, .iload 6, 2), (129, .iaload, 1), (130, .iastore, 1), (131, .iinc 6 1, 3), (134, .goto (-24), 3), (137, .aload_n 0, 1), (138, .dup, 1), (139, .getfield 191, 3), (142, .iload 5, 2), (144, .aload_n 0, 1), (145, .getfield 194, 3)] : List (Nat × Instr × Nat)).all (dOk (decode cX10_findTrees)) = true := by decide +kernel
theorem dX10_findTrees_117 : decode cX10_findTrees 117 = .ok (.aload_n 0, 1) := dcr zo_dX10_findTrees_117 0 rfl
theorem dX10_findTrees_118 : decode cX10_findTrees 118 = .ok (.getfield 43, 3) := dcr zo_dX10_findTrees_117 1 rfl
theorem dX10_findTrees_121 : decode cX10_findTrees 121 = .ok (.iload 6, 2) := dcr zo_dX10_findTrees_117 2 rfl
theorem dX10_findTrees_123 : decode cX10_findTrees 123 = .ok (.aload_n 0, 1) := dcr zo_dX10_findTrees_117 3 rfl
theorem dX10_findTrees_124 : decode cX10_findTrees 124 = .ok (.getfield 40, 3) := dcr zo_dX10_findTrees_117 4 rfl
theorem dX10_findTrees_127 : decode cX10_findTrees 127 = .ok (.iload 6, 2) := dcr zo_dX10_findTrees_117 5 rfl
theorem dX10_findTrees_129 : decode cX10_findTrees 129 = .ok (.iaload, 1) := dcr zo_dX10_findTrees_117 6 rfl
theorem dX10_findTrees_130 : decode cX10_findTrees 130 = .ok (.iastore, 1) := dcr zo_dX10_findTrees_117 7 rfl
theorem dX10_findTrees_131 : decode cX10_findTrees 131 = .ok (.iinc 6 1, 3) := dcr zo_dX10_findTrees_117 8 rfl
theorem dX10_findTrees_134 : decode cX10_findTrees 134 = .ok (.goto (-24), 3) := dcr zo_dX10_findTrees_117 9 rfl
theorem dX10_findTrees_137 : decode cX10_findTrees 137 = .ok (.aload_n 0, 1) := dcr zo_dX10_findTrees_117 10 rfl
theorem dX10_findTrees_138 : decode cX10_findTrees 138 = .ok (.dup, 1) := dcr zo_dX10_findTrees_117 11 rfl
theorem dX10_findTrees_139 : decode cX10_findTrees 139 = .ok (.getfield 191, 3) := dcr zo_dX10_findTrees_117 12 rfl
theorem dX10_findTrees_142 : decode cX10_findTrees 142 = .ok (.iload 5, 2) := dcr zo_dX10_findTrees_117 13 rfl
theorem dX10_findTrees_144 : decode cX10_findTrees 144 = .ok (.aload_n 0, 1) := dcr zo_dX10_findTrees_117 14 rfl
theorem dX10_findTrees_145 : decode cX10_findTrees 145 = .ok (.getfield 194, 3) := dcr zo_dX10_findTrees_117 15 rfl
theorem zo_dX10_findTrees_148 : ([(148, .if_icmp .ne 7, 3), (151, .iconst 1, 1), (152, .goto 4, 3), (155, .iconst 0, 1), (156, .iadd, 1), (157, .putfield 191, 3), (160, .iinc 4 1, 3), (163, .goto (-106), 3), (166, .return_, 1)] : List (Nat × Instr × Nat)).all (dOk (decode cX10_findTrees)) = true := by decide +kernel
theorem dX10_findTrees_148 : decode cX10_findTrees 148 = .ok (.if_icmp .ne 7, 3) := dcr zo_dX10_findTrees_148 0 rfl
theorem dX10_findTrees_151 : decode cX10_findTrees 151 = .ok (.iconst 1, 1) := dcr zo_dX10_findTrees_148 1 rfl
theorem dX10_findTrees_152 : decode cX10_findTrees 152 = .ok (.goto 4, 3) := dcr zo_dX10_findTrees_148 2 rfl
theorem dX10_findTrees_155 : decode cX10_findTrees 155 = .ok (.iconst 0, 1) := dcr zo_dX10_findTrees_148 3 rfl
theorem dX10_findTrees_156 : decode cX10_findTrees 156 = .ok (.iadd, 1) := dcr zo_dX10_findTrees_148 4 rfl
theorem dX10_findTrees_157 : decode cX10_findTrees 157 = .ok (.putfield 191, 3) := dcr zo_dX10_findTrees_148 5 rfl
theorem dX10_findTrees_160 : decode cX10_findTrees 160 = .ok (.iinc 4 1, 3) := dcr zo_dX10_findTrees_148 6 rfl
theorem dX10_findTrees_163 : decode cX10_findTrees 163 = .ok (.goto (-106), 3) := dcr zo_dX10_findTrees_148 7 rfl
theorem dX10_findTrees_166 : decode cX10_findTrees 166 = .ok (.return_, 1) := dcr zo_dX10_findTrees_148 8 rfl
def zt_wsX10_tree : List (List Cond) := [[.code yX10_tree cX10_tree 5 (some .int)], wsX10_tree_r1, wsX10_tree_r2, wsX10_tree_r3, wsX10_tree_r4, wsX100]
theorem zt_wsX10_tree_in : ∀ c ∈ zt_wsX10_tree, ∀ w ∈ c, w ∈ wsX10_tree := List.forall_mem_cons.mpr ⟨fun _ h => List.mem_cons.mpr (Or.inl (List.mem_singleton.mp h)), List.forall_mem_cons.mpr ⟨fun _ h => List.mem_cons_of_mem _ (List.mem_append_left _ (List.mem_append_left _ h)), List.forall_mem_cons.mpr ⟨fun _ h => List.mem_cons_of_mem _ (List.mem_append_left _ (List.mem_append_right _ (List.mem_append_left _ h))), List.forall_mem_cons.mpr ⟨fun _ h => List.mem_cons_of_mem _ (List.mem_append_left _ (List.mem_append_right _ (List.mem_append_right _ (List.mem_append_left _ h)))), List.forall_mem_cons.mpr ⟨fun _ h => List.mem_cons_of_mem _ (List.mem_append_left _ (List.mem_append_right _ (List.mem_append_right _ (List.mem_append_right _ (h))))), List.forall_mem_cons.mpr ⟨fun _ h => List.mem_cons_of_mem _ (List.mem_append_right _ h), (fun _ h => absurd h List.not_mem_nil)⟩⟩⟩⟩⟩⟩
set_option maxRecDepth 20000 in
theorem ggX10_tree_X10_isHand : GoodIn wsX10_tree wsX10_isHand := goodIn_c zt_wsX10_tree_in _ [(1, 7), (1, 8), (1, 9), (1, 10), (1, 6), (1, 11)] rfl zw_wsX10_isHand
set_option maxRecDepth 20000 in
theorem gX10_tree_X10_isHand : GoodIn wsX10_tree (va_wsS RX10 137 yX10_isHand wsX10_isHand) := goodIn_app (goodIn_of _ (by decide +kernel)) ggX10_tree_X10_isHand
set_option maxRecDepth 20000 in
theorem ggX10_tree_X10_isMap : GoodIn wsX10_tree wsX10_isMap := goodIn_c zt_wsX10_tree_in _ [(1, 14), (1, 15), (1, 9), (1, 10), (1, 6), (1, 11)] rfl zw_wsX10_isMap
set_option maxRecDepth 20000 in
theorem gX10_tree_X10_isMap : GoodIn wsX10_tree (va_wsS RX10 124 yX10_isMap wsX10_isMap) := goodIn_app (goodIn_of _ (by decide +kernel)) ggX10_tree_X10_isMap
set_option maxRecDepth 20000 in
theorem ggX10_tree_X10_in : GoodIn wsX10_tree wsX10_in := goodIn_c zt_wsX10_tree_in _ [(1, 11)] rfl zw_wsX10_in
set_option maxRecDepth 20000 in
theorem gX10_tree_X10_in : GoodIn wsX10_tree (va_wsS RX10 79 yX10_in wsX10_in) := goodIn_app (goodIn_of _ (by decide +kernel)) ggX10_tree_X10_in
set_option maxRecDepth 20000 in
theorem zw_wsX10_areTold : wsX10_areTold.all goodWord = true := by decide +kernel
set_option maxRecDepth 20000 in
theorem ggX10_tree_X10_areTold : GoodIn wsX10_tree wsX10_areTold := goodIn_c zt_wsX10_tree_in _ [(1, 19), (1, 20), (5, 0), (5, 1), (5, 2), (5, 3), (5, 4), (5, 5), (5, 6), (5, 7), (5, 8), (5, 9), (5, 10), (5, 11), (5, 12), (5, 13), (5, 14), (5, 15), (5, 16), (5, 17), (5, 18), (5, 19), (5, 20), (5, 21), (5, 22), (5, 23), (5, 24), (5, 25), (5, 26), (5, 27)] rfl zw_wsX10_areTold
set_option maxRecDepth 20000 in
theorem gX10_tree_X10_areTold : GoodIn wsX10_tree (wsV RX10 205 RX10 yX10_areTold wsX10_areTold) := goodIn_app (goodIn_of _ (by decide +kernel)) ggX10_tree_X10_areTold
set_option maxRecDepth 20000 in
theorem zw_wsX10_findTrees : wsX10_findTrees.all goodWord = true := by decide +kernel
set_option maxRecDepth 20000 in
theorem ggX10_tree_X10_findTrees : GoodIn wsX10_tree wsX10_findTrees := goodIn_c zt_wsX10_tree_in _ [(2, 0), (1, 1), (1, 2), (1, 3), (2, 1), (2, 2), (2, 3), (2, 4), (1, 6), (2, 5), (2, 6), (2, 7), (2, 8), (2, 9), (2, 10), (2, 11), (2, 12), (2, 13), (2, 14), (2, 15), (2, 16), (2, 17), (2, 18), (2, 19), (2, 20), (2, 21), (2, 22), (2, 23), (3, 0), (3, 1), (3, 2), (3, 3), (3, 4), (3, 5), (3, 6), (3, 7), (3, 8), (3, 9), (3, 10), (3, 11), (3, 12), (3, 13), (3, 14), (3, 15), (3, 16), (3, 17), (3, 18), (3, 19), (3, 20), (3, 21), (3, 22), (3, 23), (4, 0), (4, 1), (4, 2), (4, 3), (4, 4), (4, 5), (4, 6), (4, 7), (4, 8), (4, 9), (4, 10), (5, 0), (5, 1), (5, 2), (5, 3), (5, 4), (5, 5), (5, 6), (5, 7), (5, 8), (5, 9), (5, 10), (5, 11), (5, 12), (5, 13), (5, 14), (5, 15), (5, 16), (5, 17), (5, 18), (5, 19), (5, 20), (5, 21), (5, 22), (5, 23), (5, 24), (5, 25), (5, 26), (5, 27)] rfl zw_wsX10_findTrees
set_option maxRecDepth 20000 in
theorem gX10_tree_X10_findTrees : GoodIn wsX10_tree (wsV RX10 208 RX10 yX10_findTrees wsX10_findTrees) := goodIn_app (goodIn_of _ (by decide +kernel)) ggX10_tree_X10_findTrees
theorem zo_dX10_tree_0 : ([(0, .iload_n 2, 1), (1, .invokestatic 137, 3), (4, .ifCond .ne 5, 3), (7, .iconst (-1), 1), (8, .ireturn, 1), (9, .iload_n 3, 1), (10, .bipush 10, 2), (12, .if_icmp .lt 17, 3), (15, .iload_n 3, 1), (16, .bipush 10, 2), (18, .isub, 1), (19, .invokestatic 124, 3), (22, .ifCond .eq 7, 3), (25, .iconst 1, 1), (26, .goto 4, 3), (29, .iconst 0, 1)] : List (Nat × Instr × Nat)).all (dOk (decode cX10_tree)) = true := by decide +kernel
theorem dX10_tree_0 : decode cX10_tree 0 = .ok (.iload_n 2, 1) := dcr zo_dX10_tree_0 0 rfl
theorem dX10_tree_1 : decode cX10_tree 1 = .ok (.invokestatic 137, 3) := dcr zo_dX10_tree_0 1 rfl
theorem dX10_tree_4 : decode cX10_tree 4 = .ok (.ifCond .ne 5, 3) := dcr zo_dX10_tree_0 2 rfl
theorem dX10_tree_7 : decode cX10_tree 7 = .ok (.iconst (-1), 1) := dcr zo_dX10_tree_0 3 rfl
theorem dX10_tree_8 : decode cX10_tree 8 = .ok (.ireturn, 1) := dcr zo_dX10_tree_0 4 rfl
theorem dX10_tree_9 : decode cX10_tree 9 = .ok (.iload_n 3, 1) := dcr zo_dX10_tree_0 5 rfl
theorem dX10_tree_10 : decode cX10_tree 10 = .ok (.bipush 10, 2) := dcr zo_dX10_tree_0 6 rfl
theorem dX10_tree_12 : decode cX10_tree 12 = .ok (.if_icmp .lt 17, 3) := dcr zo_dX10_tree_0 7 rfl
theorem dX10_tree_15 : decode cX10_tree 15 = .ok (.iload_n 3, 1) := dcr zo_dX10_tree_0 8 rfl
theorem dX10_tree_16 : decode cX10_tree 16 = .ok (.bipush 10, 2) := dcr zo_dX10_tree_0 9 rfl
theorem dX10_tree_18 : decode cX10_tree 18 = .ok (.isub, 1) := dcr zo_dX10_tree_0 10 rfl
theorem dX10_tree_19 : decode cX10_tree 19 = .ok (.invokestatic 124, 3) := dcr zo_dX10_tree_0 11 rfl
theorem dX10_tree_22 : decode cX10_tree 22 = .ok (.ifCond .eq 7, 3) := dcr zo_dX10_tree_0 12 rfl
theorem dX10_tree_25 : decode cX10_tree 25 = .ok (.iconst 1, 1) := dcr zo_dX10_tree_0 13 rfl
theorem dX10_tree_26 : decode cX10_tree 26 = .ok (.goto 4, 3) := dcr zo_dX10_tree_0 14 rfl
theorem dX10_tree_29 : decode cX10_tree 29 = .ok (.iconst 0, 1) := dcr zo_dX10_tree_0 15 rfl
theorem zo_dX10_tree_30 : ([(30, .istore 4, 2), (32, .iload_n 1, 1), (33, .i2l, 1), (34, .lconst 1, 1), (35, .ldc2_w 203, 3), (38, .invokestatic 79, 3), (41, .ifCond .eq 29, 3), (44, .iload_n 3, 1), (45, .i2l, 1), (46, .lconst 0, 1), (47, .lconst 1, 1), (48, .invokestatic 79, 3), (51, .ifCond .ne 22, 3), (54, .iload 4, 2), (56, .ifCond .eq 14, 3), (59, .iload_n 1, 1)] : List (Nat × Instr × Nat)).all (dOk (decode cX10_tree)) = true := by decide +kernel
theorem dX10_tree_30 : decode cX10_tree 30 = .ok (.istore 4, 2) := dcr zo_dX10_tree_30 0 rfl
theorem dX10_tree_32 : decode cX10_tree 32 = .ok (.iload_n 1, 1) := dcr zo_dX10_tree_30 1 rfl
theorem dX10_tree_33 : decode cX10_tree 33 = .ok (.i2l, 1) := dcr zo_dX10_tree_30 2 rfl
theorem dX10_tree_34 : decode cX10_tree 34 = .ok (.lconst 1, 1) := dcr zo_dX10_tree_30 3 rfl
theorem dX10_tree_35 : decode cX10_tree 35 = .ok (.ldc2_w 203, 3) := dcr zo_dX10_tree_30 4 rfl
theorem dX10_tree_38 : decode cX10_tree 38 = .ok (.invokestatic 79, 3) := dcr zo_dX10_tree_30 5 rfl
theorem dX10_tree_41 : decode cX10_tree 41 = .ok (.ifCond .eq 29, 3) := dcr zo_dX10_tree_30 6 rfl
theorem dX10_tree_44 : decode cX10_tree 44 = .ok (.iload_n 3, 1) := dcr zo_dX10_tree_30 7 rfl
theorem dX10_tree_45 : decode cX10_tree 45 = .ok (.i2l, 1) := dcr zo_dX10_tree_30 8 rfl
theorem dX10_tree_46 : decode cX10_tree 46 = .ok (.lconst 0, 1) := dcr zo_dX10_tree_30 9 rfl
theorem dX10_tree_47 : decode cX10_tree 47 = .ok (.lconst 1, 1) := dcr zo_dX10_tree_30 10 rfl
theorem dX10_tree_48 : decode cX10_tree 48 = .ok (.invokestatic 79, 3) := dcr zo_dX10_tree_30 11 rfl
theorem dX10_tree_51 : decode cX10_tree 51 = .ok (.ifCond .ne 22, 3) := dcr zo_dX10_tree_30 12 rfl
theorem dX10_tree_54 : decode cX10_tree 54 = .ok (.iload 4, 2) := dcr zo_dX10_tree_30 13 rfl
theorem dX10_tree_56 : decode cX10_tree 56 = .ok (.ifCond .eq 14, 3) := dcr zo_dX10_tree_30 14 rfl
theorem dX10_tree_59 : decode cX10_tree 59 = .ok (.iload_n 1, 1) := dcr zo_dX10_tree_30 15 rfl
theorem zo_dX10_tree_60 : ([(60, .iload_n 3, 1), (61, .bipush 10, 2), (63, .isub, 1), (64, .ishr, 1), (65, .iconst 1, 1), (66, .iand, 1), (67, .ifCond .ne 6, 3), (70, .bipush (-2), 2), (72, .ireturn, 1), (73, .aload_n 0, 1), (74, .iload_n 1, 1), (75, .invokevirtual 205, 3), (78, .ifCond .ne 6, 3), (81, .bipush (-3), 2), (83, .ireturn, 1), (84, .aload_n 0, 1)] : List (Nat × Instr × Nat)).all (dOk (decode cX10_tree)) = true := by decide +kernel
theorem dX10_tree_60 : decode cX10_tree 60 = .ok (.iload_n 3, 1) := dcr zo_dX10_tree_60 0 rfl
theorem dX10_tree_61 : decode cX10_tree 61 = .ok (.bipush 10, 2) := dcr zo_dX10_tree_60 1 rfl
theorem dX10_tree_63 : decode cX10_tree 63 = .ok (.isub, 1) := dcr zo_dX10_tree_60 2 rfl
theorem dX10_tree_64 : decode cX10_tree 64 = .ok (.ishr, 1) := dcr zo_dX10_tree_60 3 rfl
theorem dX10_tree_65 : decode cX10_tree 65 = .ok (.iconst 1, 1) := dcr zo_dX10_tree_60 4 rfl
theorem dX10_tree_66 : decode cX10_tree 66 = .ok (.iand, 1) := dcr zo_dX10_tree_60 5 rfl
theorem dX10_tree_67 : decode cX10_tree 67 = .ok (.ifCond .ne 6, 3) := dcr zo_dX10_tree_60 6 rfl
theorem dX10_tree_70 : decode cX10_tree 70 = .ok (.bipush (-2), 2) := dcr zo_dX10_tree_60 7 rfl
theorem dX10_tree_72 : decode cX10_tree 72 = .ok (.ireturn, 1) := dcr zo_dX10_tree_60 8 rfl
theorem dX10_tree_73 : decode cX10_tree 73 = .ok (.aload_n 0, 1) := dcr zo_dX10_tree_60 9 rfl
theorem dX10_tree_74 : decode cX10_tree 74 = .ok (.iload_n 1, 1) := dcr zo_dX10_tree_60 10 rfl
theorem dX10_tree_75 : decode cX10_tree 75 = .ok (.invokevirtual 205, 3) := dcr zo_dX10_tree_60 11 rfl
theorem dX10_tree_78 : decode cX10_tree 78 = .ok (.ifCond .ne 6, 3) := dcr zo_dX10_tree_60 12 rfl
theorem dX10_tree_81 : decode cX10_tree 81 = .ok (.bipush (-3), 2) := dcr zo_dX10_tree_60 13 rfl
theorem dX10_tree_83 : decode cX10_tree 83 = .ok (.ireturn, 1) := dcr zo_dX10_tree_60 14 rfl
theorem dX10_tree_84 : decode cX10_tree 84 = .ok (.aload_n 0, 1) := dcr zo_dX10_tree_60 15 rfl
theorem zo_dX10_tree_85 : ([(85, .iload_n 1, 1), (86, .iload_n 2, 1), (87, .invokevirtual 208, 3), (90, .iload 4, 2), (92, .ifCond .ne 20, 3), (95, .iload_n 3, 1), (96, .iconst 1, 1), (97, .if_icmp .ne 10, 3), (100, .aload_n 0, 1), (101, .getfield 191, 3), (104, .goto 7, 3), (107, .aload_n 0, 1), (108, .getfield 194, 3), (111, .ireturn, 1), (112, .aload_n 0, 1), (113, .getfield 194, 3)] : List (Nat × Instr × Nat)).all (dOk (decode cX10_tree)) = true := by decide +kernel
theorem dX10_tree_85 : decode cX10_tree 85 = .ok (.iload_n 1, 1) := dcr zo_dX10_tree_85 0 rfl
theorem dX10_tree_86 : decode cX10_tree 86 = .ok (.iload_n 2, 1) := dcr zo_dX10_tree_85 1 rfl
theorem dX10_tree_87 : decode cX10_tree 87 = .ok (.invokevirtual 208, 3) := dcr zo_dX10_tree_85 2 rfl
theorem dX10_tree_90 : decode cX10_tree 90 = .ok (.iload 4, 2) := dcr zo_dX10_tree_85 3 rfl
theorem dX10_tree_92 : decode cX10_tree 92 = .ok (.ifCond .ne 20, 3) := dcr zo_dX10_tree_85 4 rfl
theorem dX10_tree_95 : decode cX10_tree 95 = .ok (.iload_n 3, 1) := dcr zo_dX10_tree_85 5 rfl
theorem dX10_tree_96 : decode cX10_tree 96 = .ok (.iconst 1, 1) := dcr zo_dX10_tree_85 6 rfl
theorem dX10_tree_97 : decode cX10_tree 97 = .ok (.if_icmp .ne 10, 3) := dcr zo_dX10_tree_85 7 rfl
theorem dX10_tree_100 : decode cX10_tree 100 = .ok (.aload_n 0, 1) := dcr zo_dX10_tree_85 8 rfl
theorem dX10_tree_101 : decode cX10_tree 101 = .ok (.getfield 191, 3) := dcr zo_dX10_tree_85 9 rfl
theorem dX10_tree_104 : decode cX10_tree 104 = .ok (.goto 7, 3) := dcr zo_dX10_tree_85 10 rfl
theorem dX10_tree_107 : decode cX10_tree 107 = .ok (.aload_n 0, 1) := dcr zo_dX10_tree_85 11 rfl
theorem dX10_tree_108 : decode cX10_tree 108 = .ok (.getfield 194, 3) := dcr zo_dX10_tree_85 12 rfl
theorem dX10_tree_111 : decode cX10_tree 111 = .ok (.ireturn, 1) := dcr zo_dX10_tree_85 13 rfl
theorem dX10_tree_112 : decode cX10_tree 112 = .ok (.aload_n 0, 1) := dcr zo_dX10_tree_85 14 rfl
theorem dX10_tree_113 : decode cX10_tree 113 = .ok (.getfield 194, 3) := dcr zo_dX10_tree_85 15 rfl
theorem zo_dX10_tree_116 : ([(116, .ifCond .lt 17, 3), (119, .aload_n 0, 1), (120, .getfield 43, 3), (123, .iload_n 3, 1), (124, .bipush 10, 2), (126, .isub, 1), (127, .iaload, 1), (128, .bipush 6, 2), (130, .if_icmp .ne 8, 3), (133, .bipush (-6), 2), (135, .goto 12, 3), (138, .aload_n 0, 1), (139, .getfield 43, 3), (142, .iload_n 3, 1), (143, .bipush 10, 2), (145, .isub, 1)] : List (Nat × Instr × Nat)).all (dOk (decode cX10_tree)) = true := by decide +kernel
theorem dX10_tree_116 : decode cX10_tree 116 = .ok (.ifCond .lt 17, 3) := dcr zo_dX10_tree_116 0 rfl
theorem dX10_tree_119 : decode cX10_tree 119 = .ok (.aload_n 0, 1) := dcr zo_dX10_tree_116 1 rfl
theorem dX10_tree_120 : decode cX10_tree 120 = .ok (.getfield 43, 3) := dcr zo_dX10_tree_116 2 rfl
theorem dX10_tree_123 : decode cX10_tree 123 = .ok (.iload_n 3, 1) := dcr zo_dX10_tree_116 3 rfl
theorem dX10_tree_124 : decode cX10_tree 124 = .ok (.bipush 10, 2) := dcr zo_dX10_tree_116 4 rfl
theorem dX10_tree_126 : decode cX10_tree 126 = .ok (.isub, 1) := dcr zo_dX10_tree_116 5 rfl
theorem dX10_tree_127 : decode cX10_tree 127 = .ok (.iaload, 1) := dcr zo_dX10_tree_116 6 rfl
theorem dX10_tree_128 : decode cX10_tree 128 = .ok (.bipush 6, 2) := dcr zo_dX10_tree_116 7 rfl
theorem dX10_tree_130 : decode cX10_tree 130 = .ok (.if_icmp .ne 8, 3) := dcr zo_dX10_tree_116 8 rfl
theorem dX10_tree_133 : decode cX10_tree 133 = .ok (.bipush (-6), 2) := dcr zo_dX10_tree_116 9 rfl
theorem dX10_tree_135 : decode cX10_tree 135 = .ok (.goto 12, 3) := dcr zo_dX10_tree_116 10 rfl
theorem dX10_tree_138 : decode cX10_tree 138 = .ok (.aload_n 0, 1) := dcr zo_dX10_tree_116 11 rfl
theorem dX10_tree_139 : decode cX10_tree 139 = .ok (.getfield 43, 3) := dcr zo_dX10_tree_116 12 rfl
theorem dX10_tree_142 : decode cX10_tree 142 = .ok (.iload_n 3, 1) := dcr zo_dX10_tree_116 13 rfl
theorem dX10_tree_143 : decode cX10_tree 143 = .ok (.bipush 10, 2) := dcr zo_dX10_tree_116 14 rfl
theorem dX10_tree_145 : decode cX10_tree 145 = .ok (.isub, 1) := dcr zo_dX10_tree_116 15 rfl
theorem zo_dX10_tree_146 : ([(146, .iaload, 1), (147, .ireturn, 1)] : List (Nat × Instr × Nat)).all (dOk (decode cX10_tree)) = true := by decide +kernel
theorem dX10_tree_146 : decode cX10_tree 146 = .ok (.iaload, 1) := dcr zo_dX10_tree_146 0 rfl
theorem dX10_tree_147 : decode cX10_tree 147 = .ok (.ireturn, 1) := dcr zo_dX10_tree_146 1 rfl
def zt_wsX10_leadsTo : List (List Cond) := [[.code yX10_leadsTo cX10_leadsTo 7 (some .boolean)], wsX10_leadsTo_r1, wsX10_leadsTo_r2, wsX100]
theorem zt_wsX10_leadsTo_in : ∀ c ∈ zt_wsX10_leadsTo, ∀ w ∈ c, w ∈ wsX10_leadsTo := List.forall_mem_cons.mpr ⟨fun _ h => List.mem_cons.mpr (Or.inl (List.mem_singleton.mp h)), List.forall_mem_cons.mpr ⟨fun _ h => List.mem_cons_of_mem _ (List.mem_append_left _ (List.mem_append_left _ h)), List.forall_mem_cons.mpr ⟨fun _ h => List.mem_cons_of_mem _ (List.mem_append_left _ (List.mem_append_right _ (h))), List.forall_mem_cons.mpr ⟨fun _ h => List.mem_cons_of_mem _ (List.mem_append_right _ h), (fun _ h => absurd h List.not_mem_nil)⟩⟩⟩⟩
set_option maxRecDepth 20000 in
theorem ggX10_leadsTo_X10_slipsThere : GoodIn wsX10_leadsTo wsX10_slipsThere := goodIn_c zt_wsX10_leadsTo_in _ [(1, 5), (1, 6), (3, 0), (3, 1), (3, 2), (3, 3), (3, 4), (3, 5), (3, 6), (3, 7), (3, 8), (3, 9), (3, 10), (3, 11), (3, 12), (3, 13), (3, 14), (3, 15), (3, 16), (3, 17), (3, 18), (3, 19), (3, 20), (3, 21), (3, 22), (3, 23), (3, 24), (3, 25), (3, 26), (3, 27)] rfl zw_wsX10_slipsThere
set_option maxRecDepth 20000 in
theorem gX10_leadsTo_X10_slipsThere : GoodIn wsX10_leadsTo (wsV RX10 161 RX10 yX10_slipsThere wsX10_slipsThere) := goodIn_app (goodIn_of _ (by decide +kernel)) ggX10_leadsTo_X10_slipsThere
set_option maxRecDepth 20000 in
theorem ggX10_leadsTo_X10_slipAt : GoodIn wsX10_leadsTo wsX10_slipAt := goodIn_c zt_wsX10_leadsTo_in _ [(1, 10), (1, 6), (3, 0), (3, 1), (3, 2), (3, 3), (3, 4), (3, 5), (3, 6), (3, 7), (3, 8), (3, 9), (3, 10), (3, 11), (3, 12), (3, 13), (3, 14), (3, 15), (3, 16), (3, 17), (3, 18), (3, 19), (3, 20), (3, 21), (3, 22), (3, 23), (3, 24), (3, 25), (3, 26), (3, 27)] rfl zw_wsX10_slipAt
set_option maxRecDepth 20000 in
theorem gX10_leadsTo_X10_slipAt : GoodIn wsX10_leadsTo (wsV RX10 164 RX10 yX10_slipAt wsX10_slipAt) := goodIn_app (goodIn_of _ (by decide +kernel)) ggX10_leadsTo_X10_slipAt
set_option maxRecDepth 20000 in
theorem ggX10_leadsTo_X10_makes : GoodIn wsX10_leadsTo wsX10_makes := goodIn_c zt_wsX10_leadsTo_in _ [(1, 13)] rfl zw_wsX10_makes
set_option maxRecDepth 20000 in
theorem gX10_leadsTo_X10_makes : GoodIn wsX10_leadsTo (va_wsS RX10 167 yX10_makes wsX10_makes) := goodIn_app (goodIn_of _ (by decide +kernel)) ggX10_leadsTo_X10_makes
set_option maxRecDepth 20000 in
theorem ggX10_leadsTo_X10_slipped : GoodIn wsX10_leadsTo wsX10_slipped := goodIn_c zt_wsX10_leadsTo_in _ [(1, 17), (1, 18), (1, 19), (1, 20), (1, 4), (1, 21), (1, 22), (1, 23), (2, 0), (2, 1), (2, 2), (3, 0), (3, 1), (3, 2), (3, 3), (3, 4), (3, 5), (3, 6), (3, 7), (3, 8), (3, 9), (3, 10), (3, 11), (3, 12), (3, 13), (3, 14), (3, 15), (3, 16), (3, 17), (3, 18), (3, 19), (3, 20), (3, 21), (3, 22), (3, 23), (3, 24), (3, 25), (3, 26), (3, 27)] rfl zw_wsX10_slipped
set_option maxRecDepth 20000 in
theorem gX10_leadsTo_X10_slipped : GoodIn wsX10_leadsTo (wsV RX10 152 RX10 yX10_slipped wsX10_slipped) := goodIn_app (goodIn_of _ (by decide +kernel)) ggX10_leadsTo_X10_slipped
theorem zo_dX10_leadsTo_0 : ([(0, .aload_n 0, 1), (1, .invokevirtual 161, 3), (4, .istore 4, 2), (6, .iconst 0, 1), (7, .istore 5, 2), (9, .iload 5, 2), (11, .iload 4, 2), (13, .if_icmp .ge 44, 3), (16, .aload_n 0, 1), (17, .iload 5, 2), (19, .invokevirtual 164, 3), (22, .istore 6, 2), (24, .iload_n 2, 1), (25, .iload 6, 2), (27, .invokestatic 167, 3), (30, .ifCond .eq 21, 3)] : List (Nat × Instr × Nat)).all (dOk (decode cX10_leadsTo)) = true := by decide +kernel
theorem dX10_leadsTo_0 : decode cX10_leadsTo 0 = .ok (.aload_n 0, 1) := dcr zo_dX10_leadsTo_0 0 rfl
theorem dX10_leadsTo_1 : decode cX10_leadsTo 1 = .ok (.invokevirtual 161, 3) := dcr zo_dX10_leadsTo_0 1 rfl
theorem dX10_leadsTo_4 : decode cX10_leadsTo 4 = .ok (.istore 4, 2) := dcr zo_dX10_leadsTo_0 2 rfl
theorem dX10_leadsTo_6 : decode cX10_leadsTo 6 = .ok (.iconst 0, 1) := dcr zo_dX10_leadsTo_0 3 rfl
theorem dX10_leadsTo_7 : decode cX10_leadsTo 7 = .ok (.istore 5, 2) := dcr zo_dX10_leadsTo_0 4 rfl
theorem dX10_leadsTo_9 : decode cX10_leadsTo 9 = .ok (.iload 5, 2) := dcr zo_dX10_leadsTo_0 5 rfl
theorem dX10_leadsTo_11 : decode cX10_leadsTo 11 = .ok (.iload 4, 2) := dcr zo_dX10_leadsTo_0 6 rfl
theorem dX10_leadsTo_13 : decode cX10_leadsTo 13 = .ok (.if_icmp .ge 44, 3) := dcr zo_dX10_leadsTo_0 7 rfl
theorem dX10_leadsTo_16 : decode cX10_leadsTo 16 = .ok (.aload_n 0, 1) := dcr zo_dX10_leadsTo_0 8 rfl
theorem dX10_leadsTo_17 : decode cX10_leadsTo 17 = .ok (.iload 5, 2) := dcr zo_dX10_leadsTo_0 9 rfl
theorem dX10_leadsTo_19 : decode cX10_leadsTo 19 = .ok (.invokevirtual 164, 3) := dcr zo_dX10_leadsTo_0 10 rfl
theorem dX10_leadsTo_22 : decode cX10_leadsTo 22 = .ok (.istore 6, 2) := dcr zo_dX10_leadsTo_0 11 rfl
theorem dX10_leadsTo_24 : decode cX10_leadsTo 24 = .ok (.iload_n 2, 1) := dcr zo_dX10_leadsTo_0 12 rfl
theorem dX10_leadsTo_25 : decode cX10_leadsTo 25 = .ok (.iload 6, 2) := dcr zo_dX10_leadsTo_0 13 rfl
theorem dX10_leadsTo_27 : decode cX10_leadsTo 27 = .ok (.invokestatic 167, 3) := dcr zo_dX10_leadsTo_0 14 rfl
theorem dX10_leadsTo_30 : decode cX10_leadsTo 30 = .ok (.ifCond .eq 21, 3) := dcr zo_dX10_leadsTo_0 15 rfl
theorem zo_dX10_leadsTo_33 : ([(33, .aload_n 0, 1), (34, .getfield 49, 3), (37, .aload_n 0, 1), (38, .iload_n 1, 1), (39, .iload 6, 2), (41, .invokevirtual 152, 3), (44, .iaload, 1), (45, .iload_n 3, 1), (46, .if_icmp .ne 5, 3), (49, .iconst 1, 1), (50, .ireturn, 1), (51, .iinc 5 1, 3), (54, .goto (-45), 3), (57, .iconst 0, 1), (58, .ireturn, 1)] : List (Nat × Instr × Nat)).all (dOk (decode cX10_leadsTo)) = true := by decide +kernel
theorem dX10_leadsTo_33 : decode cX10_leadsTo 33 = .ok (.aload_n 0, 1) := dcr zo_dX10_leadsTo_33 0 rfl
theorem dX10_leadsTo_34 : decode cX10_leadsTo 34 = .ok (.getfield 49, 3) := dcr zo_dX10_leadsTo_33 1 rfl
theorem dX10_leadsTo_37 : decode cX10_leadsTo 37 = .ok (.aload_n 0, 1) := dcr zo_dX10_leadsTo_33 2 rfl
theorem dX10_leadsTo_38 : decode cX10_leadsTo 38 = .ok (.iload_n 1, 1) := dcr zo_dX10_leadsTo_33 3 rfl
theorem dX10_leadsTo_39 : decode cX10_leadsTo 39 = .ok (.iload 6, 2) := dcr zo_dX10_leadsTo_33 4 rfl
theorem dX10_leadsTo_41 : decode cX10_leadsTo 41 = .ok (.invokevirtual 152, 3) := dcr zo_dX10_leadsTo_33 5 rfl
theorem dX10_leadsTo_44 : decode cX10_leadsTo 44 = .ok (.iaload, 1) := dcr zo_dX10_leadsTo_33 6 rfl
theorem dX10_leadsTo_45 : decode cX10_leadsTo 45 = .ok (.iload_n 3, 1) := dcr zo_dX10_leadsTo_33 7 rfl
theorem dX10_leadsTo_46 : decode cX10_leadsTo 46 = .ok (.if_icmp .ne 5, 3) := dcr zo_dX10_leadsTo_33 8 rfl
theorem dX10_leadsTo_49 : decode cX10_leadsTo 49 = .ok (.iconst 1, 1) := dcr zo_dX10_leadsTo_33 9 rfl
theorem dX10_leadsTo_50 : decode cX10_leadsTo 50 = .ok (.ireturn, 1) := dcr zo_dX10_leadsTo_33 10 rfl
theorem dX10_leadsTo_51 : decode cX10_leadsTo 51 = .ok (.iinc 5 1, 3) := dcr zo_dX10_leadsTo_33 11 rfl
theorem dX10_leadsTo_54 : decode cX10_leadsTo 54 = .ok (.goto (-45), 3) := dcr zo_dX10_leadsTo_33 12 rfl
theorem dX10_leadsTo_57 : decode cX10_leadsTo 57 = .ok (.iconst 0, 1) := dcr zo_dX10_leadsTo_33 13 rfl
theorem dX10_leadsTo_58 : decode cX10_leadsTo 58 = .ok (.ireturn, 1) := dcr zo_dX10_leadsTo_33 14 rfl
def zt_wsX10_findToward : List (List Cond) := [[.code yX10_findToward cX10_findToward 7 none], wsX10_findToward_r1, wsX10_findToward_r2, wsX100]
theorem zt_wsX10_findToward_in : ∀ c ∈ zt_wsX10_findToward, ∀ w ∈ c, w ∈ wsX10_findToward := List.forall_mem_cons.mpr ⟨fun _ h => List.mem_cons.mpr (Or.inl (List.mem_singleton.mp h)), List.forall_mem_cons.mpr ⟨fun _ h => List.mem_cons_of_mem _ (List.mem_append_left _ (List.mem_append_left _ h)), List.forall_mem_cons.mpr ⟨fun _ h => List.mem_cons_of_mem _ (List.mem_append_left _ (List.mem_append_right _ (h))), List.forall_mem_cons.mpr ⟨fun _ h => List.mem_cons_of_mem _ (List.mem_append_right _ h), (fun _ h => absurd h List.not_mem_nil)⟩⟩⟩⟩
set_option maxRecDepth 20000 in
theorem ggX10_findToward_X10_all : GoodIn wsX10_findToward wsX10_all := goodIn_c zt_wsX10_findToward_in _ [(1, 5), (1, 6), (3, 0), (3, 1), (3, 2), (3, 3), (3, 4), (3, 5), (3, 6), (3, 7), (3, 8), (3, 9), (3, 10), (3, 11), (3, 12), (3, 13), (3, 14), (3, 15), (3, 16), (3, 17), (3, 18), (3, 19), (3, 20), (3, 21), (3, 22), (3, 23), (3, 24), (3, 25), (3, 26), (3, 27)] rfl zw_wsX10_all
set_option maxRecDepth 20000 in
theorem gX10_findToward_X10_all : GoodIn wsX10_findToward (wsV RX10 155 RX10 yX10_all wsX10_all) := goodIn_app (goodIn_of _ (by decide +kernel)) ggX10_findToward_X10_all
set_option maxRecDepth 20000 in
theorem zw_wsX10_leadsTo : wsX10_leadsTo.all goodWord = true := by decide +kernel
set_option maxRecDepth 20000 in
theorem ggX10_findToward_X10_leadsTo : GoodIn wsX10_findToward wsX10_leadsTo := goodIn_c zt_wsX10_findToward_in _ [(1, 10), (1, 0), (1, 11), (1, 12), (1, 13), (1, 4), (1, 14), (1, 15), (1, 16), (1, 17), (1, 18), (1, 19), (1, 20), (1, 21), (1, 22), (1, 23), (2, 0), (2, 1), (2, 2), (2, 3), (2, 4), (2, 5), (2, 6), (1, 6), (2, 7), (2, 8), (2, 9), (2, 10), (3, 0), (3, 1), (3, 2), (3, 3), (3, 4), (3, 5), (3, 6), (3, 7), (3, 8), (3, 9), (3, 10), (3, 11), (3, 12), (3, 13), (3, 14), (3, 15), (3, 16), (3, 17), (3, 18), (3, 19), (3, 20), (3, 21), (3, 22), (3, 23), (3, 24), (3, 25), (3, 26), (3, 27)] rfl zw_wsX10_leadsTo
set_option maxRecDepth 20000 in
theorem gX10_findToward_X10_leadsTo : GoodIn wsX10_findToward (wsV RX10 211 RX10 yX10_leadsTo wsX10_leadsTo) := goodIn_app (goodIn_of _ (by decide +kernel)) ggX10_findToward_X10_leadsTo
theorem zo_dX10_findToward_0 : ([(0, .aload_n 0, 1), (1, .invokevirtual 155, 3), (4, .istore_n 3, 1), (5, .iconst 0, 1), (6, .istore 4, 2), (8, .iload 4, 2), (10, .iload_n 3, 1), (11, .if_icmp .ge 29, 3), (14, .aload_n 0, 1), (15, .getfield 49, 3), (18, .iload 4, 2), (20, .iload 4, 2), (22, .iload_n 1, 1), (23, .if_icmp .ne 7, 3), (26, .iconst 0, 1), (27, .goto 6, 3)] : List (Nat × Instr × Nat)).all (dOk (decode cX10_findToward)) = true := by decide +kernel
theorem dX10_findToward_0 : decode cX10_findToward 0 = .ok (.aload_n 0, 1) := dcr zo_dX10_findToward_0 0 rfl
theorem dX10_findToward_1 : decode cX10_findToward 1 = .ok (.invokevirtual 155, 3) := dcr zo_dX10_findToward_0 1 rfl
theorem dX10_findToward_4 : decode cX10_findToward 4 = .ok (.istore_n 3, 1) := dcr zo_dX10_findToward_0 2 rfl
theorem dX10_findToward_5 : decode cX10_findToward 5 = .ok (.iconst 0, 1) := dcr zo_dX10_findToward_0 3 rfl
theorem dX10_findToward_6 : decode cX10_findToward 6 = .ok (.istore 4, 2) := dcr zo_dX10_findToward_0 4 rfl
theorem dX10_findToward_8 : decode cX10_findToward 8 = .ok (.iload 4, 2) := dcr zo_dX10_findToward_0 5 rfl
theorem dX10_findToward_10 : decode cX10_findToward 10 = .ok (.iload_n 3, 1) := dcr zo_dX10_findToward_0 6 rfl
theorem dX10_findToward_11 : decode cX10_findToward 11 = .ok (.if_icmp .ge 29, 3) := dcr zo_dX10_findToward_0 7 rfl
theorem dX10_findToward_14 : decode cX10_findToward 14 = .ok (.aload_n 0, 1) := dcr zo_dX10_findToward_0 8 rfl
theorem dX10_findToward_15 : decode cX10_findToward 15 = .ok (.getfield 49, 3) := dcr zo_dX10_findToward_0 9 rfl
theorem dX10_findToward_18 : decode cX10_findToward 18 = .ok (.iload 4, 2) := dcr zo_dX10_findToward_0 10 rfl
theorem dX10_findToward_20 : decode cX10_findToward 20 = .ok (.iload 4, 2) := dcr zo_dX10_findToward_0 11 rfl
theorem dX10_findToward_22 : decode cX10_findToward 22 = .ok (.iload_n 1, 1) := dcr zo_dX10_findToward_0 12 rfl
theorem dX10_findToward_23 : decode cX10_findToward 23 = .ok (.if_icmp .ne 7, 3) := dcr zo_dX10_findToward_0 13 rfl
theorem dX10_findToward_26 : decode cX10_findToward 26 = .ok (.iconst 0, 1) := dcr zo_dX10_findToward_0 14 rfl
theorem dX10_findToward_27 : decode cX10_findToward 27 = .ok (.goto 6, 3) := dcr zo_dX10_findToward_0 15 rfl
theorem zo_dX10_findToward_30 : ([(30, .sipush 1000, 3), (33, .iastore, 1), (34, .iinc 4 1, 3), (37, .goto (-29), 3), (40, .iconst 1, 1), (41, .istore 4, 2), (43, .iconst 0, 1), (44, .istore 5, 2), (46, .iload 4, 2), (48, .ifCond .eq 66, 3), (51, .iconst 0, 1), (52, .istore 4, 2), (54, .iconst 0, 1), (55, .istore 6, 2), (57, .iload 6, 2), (59, .iload_n 3, 1)] : List (Nat × Instr × Nat)).all (dOk (decode cX10_findToward)) = true := by decide +kernel
theorem dX10_findToward_30 : decode cX10_findToward 30 = .ok (.sipush 1000, 3) := dcr zo_dX10_findToward_30 0 rfl
theorem dX10_findToward_33 : decode cX10_findToward 33 = .ok (.iastore, 1) := dcr zo_dX10_findToward_30 1 rfl
theorem dX10_findToward_34 : decode cX10_findToward 34 = .ok (.iinc 4 1, 3) := dcr zo_dX10_findToward_30 2 rfl
theorem dX10_findToward_37 : decode cX10_findToward 37 = .ok (.goto (-29), 3) := dcr zo_dX10_findToward_30 3 rfl
theorem dX10_findToward_40 : decode cX10_findToward 40 = .ok (.iconst 1, 1) := dcr zo_dX10_findToward_30 4 rfl
theorem dX10_findToward_41 : decode cX10_findToward 41 = .ok (.istore 4, 2) := dcr zo_dX10_findToward_30 5 rfl
theorem dX10_findToward_43 : decode cX10_findToward 43 = .ok (.iconst 0, 1) := dcr zo_dX10_findToward_30 6 rfl
theorem dX10_findToward_44 : decode cX10_findToward 44 = .ok (.istore 5, 2) := dcr zo_dX10_findToward_30 7 rfl
theorem dX10_findToward_46 : decode cX10_findToward 46 = .ok (.iload 4, 2) := dcr zo_dX10_findToward_30 8 rfl
theorem dX10_findToward_48 : decode cX10_findToward 48 = .ok (.ifCond .eq 66, 3) := dcr zo_dX10_findToward_30 9 rfl
theorem dX10_findToward_51 : decode cX10_findToward 51 = .ok (.iconst 0, 1) := dcr zo_dX10_findToward_30 10 rfl
theorem dX10_findToward_52 : decode cX10_findToward 52 = .ok (.istore 4, 2) := dcr zo_dX10_findToward_30 11 rfl
theorem dX10_findToward_54 : decode cX10_findToward 54 = .ok (.iconst 0, 1) := dcr zo_dX10_findToward_30 12 rfl
theorem dX10_findToward_55 : decode cX10_findToward 55 = .ok (.istore 6, 2) := dcr zo_dX10_findToward_30 13 rfl
theorem dX10_findToward_57 : decode cX10_findToward 57 = .ok (.iload 6, 2) := dcr zo_dX10_findToward_30 14 rfl
theorem dX10_findToward_59 : decode cX10_findToward 59 = .ok (.iload_n 3, 1) := dcr zo_dX10_findToward_30 15 rfl
theorem zo_dX10_findToward_60 : ([(60, .if_icmp .ge 48, 3), (63, .aload_n 0, 1), (64, .getfield 49, 3), (67, .iload 6, 2), (69, .iaload, 1), (70, .sipush 1000, 3), (73, .if_icmp .ne 29, 3), (76, .aload_n 0, 1), (77, .iload 6, 2), (79, .iload_n 2, 1), (80, .iload 5, 2), (82, .invokevirtual 211, 3), (85, .ifCond .eq 17, 3), (88, .aload_n 0, 1), (89, .getfield 49, 3), (92, .iload 6, 2)] : List (Nat × Instr × Nat)).all (dOk (decode cX10_findToward)) = true := by decide +kernel
theorem dX10_findToward_60 : decode cX10_findToward 60 = .ok (.if_icmp .ge 48, 3) := dcr zo_dX10_findToward_60 0 rfl
theorem dX10_findToward_63 : decode cX10_findToward 63 = .ok (.aload_n 0, 1) := dcr zo_dX10_findToward_60 1 rfl
theorem dX10_findToward_64 : decode cX10_findToward 64 = .ok (.getfield 49, 3) := dcr zo_dX10_findToward_60 2 rfl
theorem dX10_findToward_67 : decode cX10_findToward 67 = .ok (.iload 6, 2) := dcr zo_dX10_findToward_60 3 rfl
theorem dX10_findToward_69 : decode cX10_findToward 69 = .ok (.iaload, 1) := dcr zo_dX10_findToward_60 4 rfl
theorem dX10_findToward_70 : decode cX10_findToward 70 = .ok (.sipush 1000, 3) := dcr zo_dX10_findToward_60 5 rfl
theorem dX10_findToward_73 : decode cX10_findToward 73 = .ok (.if_icmp .ne 29, 3) := dcr zo_dX10_findToward_60 6 rfl
theorem dX10_findToward_76 : decode cX10_findToward 76 = .ok (.aload_n 0, 1) := dcr zo_dX10_findToward_60 7 rfl
theorem dX10_findToward_77 : decode cX10_findToward 77 = .ok (.iload 6, 2) := dcr zo_dX10_findToward_60 8 rfl
theorem dX10_findToward_79 : decode cX10_findToward 79 = .ok (.iload_n 2, 1) := dcr zo_dX10_findToward_60 9 rfl
theorem dX10_findToward_80 : decode cX10_findToward 80 = .ok (.iload 5, 2) := dcr zo_dX10_findToward_60 10 rfl
theorem dX10_findToward_82 : decode cX10_findToward 82 = .ok (.invokevirtual 211, 3) := dcr zo_dX10_findToward_60 11 rfl
theorem dX10_findToward_85 : decode cX10_findToward 85 = .ok (.ifCond .eq 17, 3) := dcr zo_dX10_findToward_60 12 rfl
theorem dX10_findToward_88 : decode cX10_findToward 88 = .ok (.aload_n 0, 1) := dcr zo_dX10_findToward_60 13 rfl
theorem dX10_findToward_89 : decode cX10_findToward 89 = .ok (.getfield 49, 3) := dcr zo_dX10_findToward_60 14 rfl
theorem dX10_findToward_92 : decode cX10_findToward 92 = .ok (.iload 6, 2) := dcr zo_dX10_findToward_60 15 rfl
theorem zo_dX10_findToward_94 : ([(94, .iload 5, 2), (96, .iconst 1, 1), (97, .iadd, 1), (98, .iastore, 1), (99, .iconst 1, 1), (100, .istore 4, 2), (102, .iinc 6 1, 3), (105, .goto (-48), 3), (108, .iinc 5 1, 3), (111, .goto (-65), 3), (114, .return_, 1)] : List (Nat × Instr × Nat)).all (dOk (decode cX10_findToward)) = true := by decide +kernel
theorem dX10_findToward_94 : decode cX10_findToward 94 = .ok (.iload 5, 2) := dcr zo_dX10_findToward_94 0 rfl
theorem dX10_findToward_96 : decode cX10_findToward 96 = .ok (.iconst 1, 1) := dcr zo_dX10_findToward_94 1 rfl
theorem dX10_findToward_97 : decode cX10_findToward 97 = .ok (.iadd, 1) := dcr zo_dX10_findToward_94 2 rfl
theorem dX10_findToward_98 : decode cX10_findToward 98 = .ok (.iastore, 1) := dcr zo_dX10_findToward_94 3 rfl
theorem dX10_findToward_99 : decode cX10_findToward 99 = .ok (.iconst 1, 1) := dcr zo_dX10_findToward_94 4 rfl
theorem dX10_findToward_100 : decode cX10_findToward 100 = .ok (.istore 4, 2) := dcr zo_dX10_findToward_94 5 rfl
theorem dX10_findToward_102 : decode cX10_findToward 102 = .ok (.iinc 6 1, 3) := dcr zo_dX10_findToward_94 6 rfl
theorem dX10_findToward_105 : decode cX10_findToward 105 = .ok (.goto (-48), 3) := dcr zo_dX10_findToward_94 7 rfl
theorem dX10_findToward_108 : decode cX10_findToward 108 = .ok (.iinc 5 1, 3) := dcr zo_dX10_findToward_94 8 rfl
theorem dX10_findToward_111 : decode cX10_findToward 111 = .ok (.goto (-65), 3) := dcr zo_dX10_findToward_94 9 rfl
theorem dX10_findToward_114 : decode cX10_findToward 114 = .ok (.return_, 1) := dcr zo_dX10_findToward_94 10 rfl
def zt_wsX10_lost : List (List Cond) := [[.code yX10_lost cX10_lost 7 (some .int)], wsX10_lost_r1, wsX10_lost_r2, wsX10_lost_r3, wsX100]
theorem zt_wsX10_lost_in : ∀ c ∈ zt_wsX10_lost, ∀ w ∈ c, w ∈ wsX10_lost := List.forall_mem_cons.mpr ⟨fun _ h => List.mem_cons.mpr (Or.inl (List.mem_singleton.mp h)), List.forall_mem_cons.mpr ⟨fun _ h => List.mem_cons_of_mem _ (List.mem_append_left _ (List.mem_append_left _ h)), List.forall_mem_cons.mpr ⟨fun _ h => List.mem_cons_of_mem _ (List.mem_append_left _ (List.mem_append_right _ (List.mem_append_left _ h))), List.forall_mem_cons.mpr ⟨fun _ h => List.mem_cons_of_mem _ (List.mem_append_left _ (List.mem_append_right _ (List.mem_append_right _ (h)))), List.forall_mem_cons.mpr ⟨fun _ h => List.mem_cons_of_mem _ (List.mem_append_right _ h), (fun _ h => absurd h List.not_mem_nil)⟩⟩⟩⟩⟩
set_option maxRecDepth 20000 in
theorem ggX10_lost_X10_isHand : GoodIn wsX10_lost wsX10_isHand := goodIn_c zt_wsX10_lost_in _ [(1, 8), (1, 9), (1, 10), (1, 11), (1, 7), (1, 12)] rfl zw_wsX10_isHand
set_option maxRecDepth 20000 in
theorem gX10_lost_X10_isHand : GoodIn wsX10_lost (va_wsS RX10 137 yX10_isHand wsX10_isHand) := goodIn_app (goodIn_of _ (by decide +kernel)) ggX10_lost_X10_isHand
set_option maxRecDepth 20000 in
theorem ggX10_lost_X10_in : GoodIn wsX10_lost wsX10_in := goodIn_c zt_wsX10_lost_in _ [(1, 12)] rfl zw_wsX10_in
set_option maxRecDepth 20000 in
theorem gX10_lost_X10_in : GoodIn wsX10_lost (va_wsS RX10 79 yX10_in wsX10_in) := goodIn_app (goodIn_of _ (by decide +kernel)) ggX10_lost_X10_in
set_option maxRecDepth 20000 in
theorem ggX10_lost_X10_areTold : GoodIn wsX10_lost wsX10_areTold := goodIn_c zt_wsX10_lost_in _ [(1, 16), (1, 17), (4, 0), (4, 1), (4, 2), (4, 3), (4, 4), (4, 5), (4, 6), (4, 7), (4, 8), (4, 9), (4, 10), (4, 11), (4, 12), (4, 13), (4, 14), (4, 15), (4, 16), (4, 17), (4, 18), (4, 19), (4, 20), (4, 21), (4, 22), (4, 23), (4, 24), (4, 25), (4, 26), (4, 27)] rfl zw_wsX10_areTold
set_option maxRecDepth 20000 in
theorem gX10_lost_X10_areTold : GoodIn wsX10_lost (wsV RX10 205 RX10 yX10_areTold wsX10_areTold) := goodIn_app (goodIn_of _ (by decide +kernel)) ggX10_lost_X10_areTold
set_option maxRecDepth 20000 in
theorem ggX10_lost_X10_all : GoodIn wsX10_lost wsX10_all := goodIn_c zt_wsX10_lost_in _ [(1, 21), (1, 22), (4, 0), (4, 1), (4, 2), (4, 3), (4, 4), (4, 5), (4, 6), (4, 7), (4, 8), (4, 9), (4, 10), (4, 11), (4, 12), (4, 13), (4, 14), (4, 15), (4, 16), (4, 17), (4, 18), (4, 19), (4, 20), (4, 21), (4, 22), (4, 23), (4, 24), (4, 25), (4, 26), (4, 27)] rfl zw_wsX10_all
set_option maxRecDepth 20000 in
theorem gX10_lost_X10_all : GoodIn wsX10_lost (wsV RX10 155 RX10 yX10_all wsX10_all) := goodIn_app (goodIn_of _ (by decide +kernel)) ggX10_lost_X10_all
set_option maxRecDepth 20000 in
theorem zw_wsX10_findToward : wsX10_findToward.all goodWord = true := by decide +kernel
set_option maxRecDepth 20000 in
theorem ggX10_lost_X10_findToward : GoodIn wsX10_lost wsX10_findToward := goodIn_c zt_wsX10_lost_in _ [(2, 2), (1, 4), (1, 18), (1, 19), (1, 20), (1, 7), (1, 21), (1, 22), (2, 3), (2, 4), (2, 5), (2, 6), (2, 7), (2, 8), (2, 9), (2, 10), (2, 11), (2, 12), (2, 13), (2, 14), (2, 15), (2, 16), (2, 17), (2, 18), (2, 19), (2, 20), (2, 21), (2, 22), (2, 23), (3, 0), (3, 1), (3, 2), (3, 3), (3, 4), (3, 5), (3, 6), (4, 0), (4, 1), (4, 2), (4, 3), (4, 4), (4, 5), (4, 6), (4, 7), (4, 8), (4, 9), (4, 10), (4, 11), (4, 12), (4, 13), (4, 14), (4, 15), (4, 16), (4, 17), (4, 18), (4, 19), (4, 20), (4, 21), (4, 22), (4, 23), (4, 24), (4, 25), (4, 26), (4, 27)] rfl zw_wsX10_findToward
set_option maxRecDepth 20000 in
theorem gX10_lost_X10_findToward : GoodIn wsX10_lost (wsV RX10 215 RX10 yX10_findToward wsX10_findToward) := goodIn_app (goodIn_of _ (by decide +kernel)) ggX10_lost_X10_findToward
set_option maxRecDepth 20000 in
theorem ggX10_lost_X10_isSite : GoodIn wsX10_lost wsX10_isSite := goodIn_c zt_wsX10_lost_in _ [(3, 10), (2, 11), (1, 10), (1, 11), (1, 7), (1, 12), (4, 0), (4, 1), (4, 2), (4, 3), (4, 4), (4, 5), (4, 6), (4, 7), (4, 8), (4, 9), (4, 10), (4, 11), (4, 12), (4, 13), (4, 14), (4, 15), (4, 16), (4, 17), (4, 18), (4, 19), (4, 20), (4, 21), (4, 22), (4, 23), (4, 24), (4, 25), (4, 26), (4, 27)] rfl zw_wsX10_isSite
set_option maxRecDepth 20000 in
theorem gX10_lost_X10_isSite : GoodIn wsX10_lost (wsV RX10 128 RX10 yX10_isSite wsX10_isSite) := goodIn_app (goodIn_of _ (by decide +kernel)) ggX10_lost_X10_isSite
set_option maxRecDepth 20000 in
theorem ggX10_lost_X10_signAt : GoodIn wsX10_lost wsX10_signAt := goodIn_c zt_wsX10_lost_in _ [(3, 2), (1, 22), (4, 0), (4, 1), (4, 2), (4, 3), (4, 4), (4, 5), (4, 6), (4, 7), (4, 8), (4, 9), (4, 10), (4, 11), (4, 12), (4, 13), (4, 14), (4, 15), (4, 16), (4, 17), (4, 18), (4, 19), (4, 20), (4, 21), (4, 22), (4, 23), (4, 24), (4, 25), (4, 26), (4, 27)] rfl zw_wsX10_signAt
set_option maxRecDepth 20000 in
theorem gX10_lost_X10_signAt : GoodIn wsX10_lost (wsV RX10 91 RX10 yX10_signAt wsX10_signAt) := goodIn_app (goodIn_of _ (by decide +kernel)) ggX10_lost_X10_signAt
set_option maxRecDepth 20000 in
theorem ggX10_lost_X10_codeOf : GoodIn wsX10_lost wsX10_codeOf := goodIn_c zt_wsX10_lost_in _ [(3, 13)] rfl zw_wsX10_codeOf
set_option maxRecDepth 20000 in
theorem gX10_lost_X10_codeOf : GoodIn wsX10_lost (va_wsS RX10 134 yX10_codeOf wsX10_codeOf) := goodIn_app (goodIn_of _ (by decide +kernel)) ggX10_lost_X10_codeOf
theorem zo_dX10_lost_0 : ([(0, .iload_n 2, 1), (1, .invokestatic 137, 3), (4, .ifCond .ne 5, 3), (7, .iconst (-1), 1), (8, .ireturn, 1), (9, .iload_n 1, 1), (10, .i2l, 1), (11, .lconst 1, 1), (12, .ldc2_w 203, 3), (15, .invokestatic 79, 3), (18, .ifCond .ne 6, 3), (21, .bipush (-2), 2), (23, .ireturn, 1), (24, .aload_n 0, 1), (25, .iload_n 1, 1), (26, .invokevirtual 205, 3)] : List (Nat × Instr × Nat)).all (dOk (decode cX10_lost)) = true := by decide +kernel
theorem dX10_lost_0 : decode cX10_lost 0 = .ok (.iload_n 2, 1) := dcr zo_dX10_lost_0 0 rfl
theorem dX10_lost_1 : decode cX10_lost 1 = .ok (.invokestatic 137, 3) := dcr zo_dX10_lost_0 1 rfl
theorem dX10_lost_4 : decode cX10_lost 4 = .ok (.ifCond .ne 5, 3) := dcr zo_dX10_lost_0 2 rfl
theorem dX10_lost_7 : decode cX10_lost 7 = .ok (.iconst (-1), 1) := dcr zo_dX10_lost_0 3 rfl
theorem dX10_lost_8 : decode cX10_lost 8 = .ok (.ireturn, 1) := dcr zo_dX10_lost_0 4 rfl
theorem dX10_lost_9 : decode cX10_lost 9 = .ok (.iload_n 1, 1) := dcr zo_dX10_lost_0 5 rfl
theorem dX10_lost_10 : decode cX10_lost 10 = .ok (.i2l, 1) := dcr zo_dX10_lost_0 6 rfl
theorem dX10_lost_11 : decode cX10_lost 11 = .ok (.lconst 1, 1) := dcr zo_dX10_lost_0 7 rfl
theorem dX10_lost_12 : decode cX10_lost 12 = .ok (.ldc2_w 203, 3) := dcr zo_dX10_lost_0 8 rfl
theorem dX10_lost_15 : decode cX10_lost 15 = .ok (.invokestatic 79, 3) := dcr zo_dX10_lost_0 9 rfl
theorem dX10_lost_18 : decode cX10_lost 18 = .ok (.ifCond .ne 6, 3) := dcr zo_dX10_lost_0 10 rfl
theorem dX10_lost_21 : decode cX10_lost 21 = .ok (.bipush (-2), 2) := dcr zo_dX10_lost_0 11 rfl
theorem dX10_lost_23 : decode cX10_lost 23 = .ok (.ireturn, 1) := dcr zo_dX10_lost_0 12 rfl
theorem dX10_lost_24 : decode cX10_lost 24 = .ok (.aload_n 0, 1) := dcr zo_dX10_lost_0 13 rfl
theorem dX10_lost_25 : decode cX10_lost 25 = .ok (.iload_n 1, 1) := dcr zo_dX10_lost_0 14 rfl
theorem dX10_lost_26 : decode cX10_lost 26 = .ok (.invokevirtual 205, 3) := dcr zo_dX10_lost_0 15 rfl
theorem zo_dX10_lost_29 : ([(29, .ifCond .ne 6, 3), (32, .bipush (-3), 2), (34, .ireturn, 1), (35, .aload_n 0, 1), (36, .invokevirtual 155, 3), (39, .istore 4, 2), (41, .iconst 0, 1), (42, .istore 5, 2), (44, .iload 5, 2), (46, .iload 4, 2), (48, .if_icmp .ge 17, 3), (51, .aload_n 0, 1), (52, .getfield 46, 3), (55, .iload 5, 2), (57, .iconst 0, 1), (58, .iastore, 1)] : List (Nat × Instr × Nat)).all (dOk (decode cX10_lost)) = true := by decide +kernel
theorem dX10_lost_29 : decode cX10_lost 29 = .ok (.ifCond .ne 6, 3) := dcr zo_dX10_lost_29 0 rfl
theorem dX10_lost_32 : decode cX10_lost 32 = .ok (.bipush (-3), 2) := dcr zo_dX10_lost_29 1 rfl
theorem dX10_lost_34 : decode cX10_lost 34 = .ok (.ireturn, 1) := dcr zo_dX10_lost_29 2 rfl
theorem dX10_lost_35 : decode cX10_lost 35 = .ok (.aload_n 0, 1) := dcr zo_dX10_lost_29 3 rfl
theorem dX10_lost_36 : decode cX10_lost 36 = .ok (.invokevirtual 155, 3) := dcr zo_dX10_lost_29 4 rfl
theorem dX10_lost_39 : decode cX10_lost 39 = .ok (.istore 4, 2) := dcr zo_dX10_lost_29 5 rfl
theorem dX10_lost_41 : decode cX10_lost 41 = .ok (.iconst 0, 1) := dcr zo_dX10_lost_29 6 rfl
theorem dX10_lost_42 : decode cX10_lost 42 = .ok (.istore 5, 2) := dcr zo_dX10_lost_29 7 rfl
theorem dX10_lost_44 : decode cX10_lost 44 = .ok (.iload 5, 2) := dcr zo_dX10_lost_29 8 rfl
theorem dX10_lost_46 : decode cX10_lost 46 = .ok (.iload 4, 2) := dcr zo_dX10_lost_29 9 rfl
theorem dX10_lost_48 : decode cX10_lost 48 = .ok (.if_icmp .ge 17, 3) := dcr zo_dX10_lost_29 10 rfl
theorem dX10_lost_51 : decode cX10_lost 51 = .ok (.aload_n 0, 1) := dcr zo_dX10_lost_29 11 rfl
theorem dX10_lost_52 : decode cX10_lost 52 = .ok (.getfield 46, 3) := dcr zo_dX10_lost_29 12 rfl
theorem dX10_lost_55 : decode cX10_lost 55 = .ok (.iload 5, 2) := dcr zo_dX10_lost_29 13 rfl
theorem dX10_lost_57 : decode cX10_lost 57 = .ok (.iconst 0, 1) := dcr zo_dX10_lost_29 14 rfl
theorem dX10_lost_58 : decode cX10_lost 58 = .ok (.iastore, 1) := dcr zo_dX10_lost_29 15 rfl
theorem zo_dX10_lost_59 : ([(59, .iinc 5 1, 3), (62, .goto (-18), 3), (65, .iconst 0, 1), (66, .istore 5, 2), (68, .iload 5, 2), (70, .bipush 6, 2), (72, .if_icmp .ge 69, 3), (75, .iload_n 1, 1), (76, .iload 5, 2), (78, .ishr, 1), (79, .iconst 1, 1), (80, .iand, 1), (81, .iconst 1, 1), (82, .if_icmp .ne 53, 3), (85, .aload_n 0, 1), (86, .aload_n 0, 1)] : List (Nat × Instr × Nat)).all (dOk (decode cX10_lost)) = true := by decide +kernel
theorem dX10_lost_59 : decode cX10_lost 59 = .ok (.iinc 5 1, 3) := dcr zo_dX10_lost_59 0 rfl
theorem dX10_lost_62 : decode cX10_lost 62 = .ok (.goto (-18), 3) := dcr zo_dX10_lost_59 1 rfl
theorem dX10_lost_65 : decode cX10_lost 65 = .ok (.iconst 0, 1) := dcr zo_dX10_lost_59 2 rfl
theorem dX10_lost_66 : decode cX10_lost 66 = .ok (.istore 5, 2) := dcr zo_dX10_lost_59 3 rfl
theorem dX10_lost_68 : decode cX10_lost 68 = .ok (.iload 5, 2) := dcr zo_dX10_lost_59 4 rfl
theorem dX10_lost_70 : decode cX10_lost 70 = .ok (.bipush 6, 2) := dcr zo_dX10_lost_59 5 rfl
theorem dX10_lost_72 : decode cX10_lost 72 = .ok (.if_icmp .ge 69, 3) := dcr zo_dX10_lost_59 6 rfl
theorem dX10_lost_75 : decode cX10_lost 75 = .ok (.iload_n 1, 1) := dcr zo_dX10_lost_59 7 rfl
theorem dX10_lost_76 : decode cX10_lost 76 = .ok (.iload 5, 2) := dcr zo_dX10_lost_59 8 rfl
theorem dX10_lost_78 : decode cX10_lost 78 = .ok (.ishr, 1) := dcr zo_dX10_lost_59 9 rfl
theorem dX10_lost_79 : decode cX10_lost 79 = .ok (.iconst 1, 1) := dcr zo_dX10_lost_59 10 rfl
theorem dX10_lost_80 : decode cX10_lost 80 = .ok (.iand, 1) := dcr zo_dX10_lost_59 11 rfl
theorem dX10_lost_81 : decode cX10_lost 81 = .ok (.iconst 1, 1) := dcr zo_dX10_lost_59 12 rfl
theorem dX10_lost_82 : decode cX10_lost 82 = .ok (.if_icmp .ne 53, 3) := dcr zo_dX10_lost_59 13 rfl
theorem dX10_lost_85 : decode cX10_lost 85 = .ok (.aload_n 0, 1) := dcr zo_dX10_lost_59 14 rfl
theorem dX10_lost_86 : decode cX10_lost 86 = .ok (.aload_n 0, 1) := dcr zo_dX10_lost_59 15 rfl
theorem zo_dX10_lost_87 : ([(87, .getfield 7, 3), (90, .iload 5, 2), (92, .iaload, 1), (93, .aload_n 0, 1), (94, .getfield 13, 3), (97, .iload_n 2, 1), (98, .iaload, 1), (99, .invokevirtual 215, 3), (102, .iconst 0, 1), (103, .istore 6, 2), (105, .iload 6, 2), (107, .iload 4, 2), (109, .if_icmp .ge 26, 3), (112, .aload_n 0, 1), (113, .getfield 46, 3), (116, .iload 6, 2)] : List (Nat × Instr × Nat)).all (dOk (decode cX10_lost)) = true := by decide +kernel
theorem dX10_lost_87 : decode cX10_lost 87 = .ok (.getfield 7, 3) := dcr zo_dX10_lost_87 0 rfl
theorem dX10_lost_90 : decode cX10_lost 90 = .ok (.iload 5, 2) := dcr zo_dX10_lost_87 1 rfl
theorem dX10_lost_92 : decode cX10_lost 92 = .ok (.iaload, 1) := dcr zo_dX10_lost_87 2 rfl
theorem dX10_lost_93 : decode cX10_lost 93 = .ok (.aload_n 0, 1) := dcr zo_dX10_lost_87 3 rfl
theorem dX10_lost_94 : decode cX10_lost 94 = .ok (.getfield 13, 3) := dcr zo_dX10_lost_87 4 rfl
theorem dX10_lost_97 : decode cX10_lost 97 = .ok (.iload_n 2, 1) := dcr zo_dX10_lost_87 5 rfl
theorem dX10_lost_98 : decode cX10_lost 98 = .ok (.iaload, 1) := dcr zo_dX10_lost_87 6 rfl
theorem dX10_lost_99 : decode cX10_lost 99 = .ok (.invokevirtual 215, 3) := dcr zo_dX10_lost_87 7 rfl
theorem dX10_lost_102 : decode cX10_lost 102 = .ok (.iconst 0, 1) := dcr zo_dX10_lost_87 8 rfl
theorem dX10_lost_103 : decode cX10_lost 103 = .ok (.istore 6, 2) := dcr zo_dX10_lost_87 9 rfl
theorem dX10_lost_105 : decode cX10_lost 105 = .ok (.iload 6, 2) := dcr zo_dX10_lost_87 10 rfl
theorem dX10_lost_107 : decode cX10_lost 107 = .ok (.iload 4, 2) := dcr zo_dX10_lost_87 11 rfl
theorem dX10_lost_109 : decode cX10_lost 109 = .ok (.if_icmp .ge 26, 3) := dcr zo_dX10_lost_87 12 rfl
theorem dX10_lost_112 : decode cX10_lost 112 = .ok (.aload_n 0, 1) := dcr zo_dX10_lost_87 13 rfl
theorem dX10_lost_113 : decode cX10_lost 113 = .ok (.getfield 46, 3) := dcr zo_dX10_lost_87 14 rfl
theorem dX10_lost_116 : decode cX10_lost 116 = .ok (.iload 6, 2) := dcr zo_dX10_lost_87 15 rfl
theorem zo_dX10_lost_118 : ([(118, .dup2, 1), (119, .iaload, 1), (120, .aload_n 0, 1), (121, .getfield 49, 3), (124, .iload 6, 2), (126, .iaload, 1), (127, .iadd, 1), (128, .iastore, 1), (129, .iinc 6 1, 3), (132, .goto (-27), 3), (135, .iinc 5 1, 3), (138, .goto (-70), 3), (141, .iconst 0, 1), (142, .istore 5, 2), (144, .iconst 0, 1), (145, .istore 6, 2)] : List (Nat × Instr × Nat)).all (dOk (decode cX10_lost)) = true := by decide +kernel
theorem dX10_lost_118 : decode cX10_lost 118 = .ok (.dup2, 1) := dcr zo_dX10_lost_118 0 rfl
theorem dX10_lost_119 : decode cX10_lost 119 = .ok (.iaload, 1) := dcr zo_dX10_lost_118 1 rfl
theorem dX10_lost_120 : decode cX10_lost 120 = .ok (.aload_n 0, 1) := dcr zo_dX10_lost_118 2 rfl
theorem dX10_lost_121 : decode cX10_lost 121 = .ok (.getfield 49, 3) := dcr zo_dX10_lost_118 3 rfl
theorem dX10_lost_124 : decode cX10_lost 124 = .ok (.iload 6, 2) := dcr zo_dX10_lost_118 4 rfl
theorem dX10_lost_126 : decode cX10_lost 126 = .ok (.iaload, 1) := dcr zo_dX10_lost_118 5 rfl
theorem dX10_lost_127 : decode cX10_lost 127 = .ok (.iadd, 1) := dcr zo_dX10_lost_118 6 rfl
theorem dX10_lost_128 : decode cX10_lost 128 = .ok (.iastore, 1) := dcr zo_dX10_lost_118 7 rfl
theorem dX10_lost_129 : decode cX10_lost 129 = .ok (.iinc 6 1, 3) := dcr zo_dX10_lost_118 8 rfl
theorem dX10_lost_132 : decode cX10_lost 132 = .ok (.goto (-27), 3) := dcr zo_dX10_lost_118 9 rfl
theorem dX10_lost_135 : decode cX10_lost 135 = .ok (.iinc 5 1, 3) := dcr zo_dX10_lost_118 10 rfl
theorem dX10_lost_138 : decode cX10_lost 138 = .ok (.goto (-70), 3) := dcr zo_dX10_lost_118 11 rfl
theorem dX10_lost_141 : decode cX10_lost 141 = .ok (.iconst 0, 1) := dcr zo_dX10_lost_118 12 rfl
theorem dX10_lost_142 : decode cX10_lost 142 = .ok (.istore 5, 2) := dcr zo_dX10_lost_118 13 rfl
theorem dX10_lost_144 : decode cX10_lost 144 = .ok (.iconst 0, 1) := dcr zo_dX10_lost_118 14 rfl
theorem dX10_lost_145 : decode cX10_lost 145 = .ok (.istore 6, 2) := dcr zo_dX10_lost_118 15 rfl
theorem zo_dX10_lost_147 : ([(147, .iload 6, 2), (149, .iload 4, 2), (151, .if_icmp .ge 35, 3), (154, .aload_n 0, 1), (155, .getfield 46, 3), (158, .iload 6, 2), (160, .iaload, 1), (161, .aload_n 0, 1), (162, .getfield 46, 3), (165, .iload 5, 2), (167, .iaload, 1), (168, .if_icmp .ge 8, 3), (171, .iload 6, 2), (173, .goto 5, 3), (176, .iload 5, 2), (178, .istore 5, 2)] : List (Nat × Instr × Nat)).all (dOk (decode cX10_lost)) = true := by decide +kernel
theorem dX10_lost_147 : decode cX10_lost 147 = .ok (.iload 6, 2) := dcr zo_dX10_lost_147 0 rfl
theorem dX10_lost_149 : decode cX10_lost 149 = .ok (.iload 4, 2) := dcr zo_dX10_lost_147 1 rfl
theorem dX10_lost_151 : decode cX10_lost 151 = .ok (.if_icmp .ge 35, 3) := dcr zo_dX10_lost_147 2 rfl
theorem dX10_lost_154 : decode cX10_lost 154 = .ok (.aload_n 0, 1) := dcr zo_dX10_lost_147 3 rfl
theorem dX10_lost_155 : decode cX10_lost 155 = .ok (.getfield 46, 3) := dcr zo_dX10_lost_147 4 rfl
theorem dX10_lost_158 : decode cX10_lost 158 = .ok (.iload 6, 2) := dcr zo_dX10_lost_147 5 rfl
theorem dX10_lost_160 : decode cX10_lost 160 = .ok (.iaload, 1) := dcr zo_dX10_lost_147 6 rfl
theorem dX10_lost_161 : decode cX10_lost 161 = .ok (.aload_n 0, 1) := dcr zo_dX10_lost_147 7 rfl
theorem dX10_lost_162 : decode cX10_lost 162 = .ok (.getfield 46, 3) := dcr zo_dX10_lost_147 8 rfl
theorem dX10_lost_165 : decode cX10_lost 165 = .ok (.iload 5, 2) := dcr zo_dX10_lost_147 9 rfl
theorem dX10_lost_167 : decode cX10_lost 167 = .ok (.iaload, 1) := dcr zo_dX10_lost_147 10 rfl
theorem dX10_lost_168 : decode cX10_lost 168 = .ok (.if_icmp .ge 8, 3) := dcr zo_dX10_lost_147 11 rfl
theorem dX10_lost_171 : decode cX10_lost 171 = .ok (.iload 6, 2) := dcr zo_dX10_lost_147 12 rfl
theorem dX10_lost_173 : decode cX10_lost 173 = .ok (.goto 5, 3) := dcr zo_dX10_lost_147 13 rfl
theorem dX10_lost_176 : decode cX10_lost 176 = .ok (.iload 5, 2) := dcr zo_dX10_lost_147 14 rfl
theorem dX10_lost_178 : decode cX10_lost 178 = .ok (.istore 5, 2) := dcr zo_dX10_lost_147 15 rfl
theorem zo_dX10_lost_180 : ([(180, .iinc 6 1, 3), (183, .goto (-36), 3), (186, .aload_n 0, 1), (187, .getfield 46, 3), (190, .iload 5, 2), (192, .iaload, 1), (193, .sipush 1000, 3), (196, .if_icmp .lt 6, 3), (199, .bipush (-6), 2), (201, .ireturn, 1), (202, .iload_n 3, 1), (203, .iconst (-1), 1), (204, .if_icmp .ne 13, 3), (207, .aload_n 0, 1), (208, .getfield 46, 3), (211, .iload 5, 2)] : List (Nat × Instr × Nat)).all (dOk (decode cX10_lost)) = true := by decide +kernel
theorem dX10_lost_180 : decode cX10_lost 180 = .ok (.iinc 6 1, 3) := dcr zo_dX10_lost_180 0 rfl
theorem dX10_lost_183 : decode cX10_lost 183 = .ok (.goto (-36), 3) := dcr zo_dX10_lost_180 1 rfl
theorem dX10_lost_186 : decode cX10_lost 186 = .ok (.aload_n 0, 1) := dcr zo_dX10_lost_180 2 rfl
theorem dX10_lost_187 : decode cX10_lost 187 = .ok (.getfield 46, 3) := dcr zo_dX10_lost_180 3 rfl
theorem dX10_lost_190 : decode cX10_lost 190 = .ok (.iload 5, 2) := dcr zo_dX10_lost_180 4 rfl
theorem dX10_lost_192 : decode cX10_lost 192 = .ok (.iaload, 1) := dcr zo_dX10_lost_180 5 rfl
theorem dX10_lost_193 : decode cX10_lost 193 = .ok (.sipush 1000, 3) := dcr zo_dX10_lost_180 6 rfl
theorem dX10_lost_196 : decode cX10_lost 196 = .ok (.if_icmp .lt 6, 3) := dcr zo_dX10_lost_180 7 rfl
theorem dX10_lost_199 : decode cX10_lost 199 = .ok (.bipush (-6), 2) := dcr zo_dX10_lost_180 8 rfl
theorem dX10_lost_201 : decode cX10_lost 201 = .ok (.ireturn, 1) := dcr zo_dX10_lost_180 9 rfl
theorem dX10_lost_202 : decode cX10_lost 202 = .ok (.iload_n 3, 1) := dcr zo_dX10_lost_180 10 rfl
theorem dX10_lost_203 : decode cX10_lost 203 = .ok (.iconst (-1), 1) := dcr zo_dX10_lost_180 11 rfl
theorem dX10_lost_204 : decode cX10_lost 204 = .ok (.if_icmp .ne 13, 3) := dcr zo_dX10_lost_180 12 rfl
theorem dX10_lost_207 : decode cX10_lost 207 = .ok (.aload_n 0, 1) := dcr zo_dX10_lost_180 13 rfl
theorem dX10_lost_208 : decode cX10_lost 208 = .ok (.getfield 46, 3) := dcr zo_dX10_lost_180 14 rfl
theorem dX10_lost_211 : decode cX10_lost 211 = .ok (.iload 5, 2) := dcr zo_dX10_lost_180 15 rfl
theorem zo_dX10_lost_213 : ([(213, .iaload, 1), (214, .goto 26, 3), (217, .aload_n 0, 1), (218, .iload_n 3, 1), (219, .invokevirtual 128, 3), (222, .ifCond .eq 16, 3), (225, .aload_n 0, 1), (226, .iload 5, 2), (228, .iload_n 3, 1), (229, .invokevirtual 91, 3), (232, .invokestatic 134, 3), (235, .goto 5, 3), (238, .bipush (-6), 2), (240, .ireturn, 1)] : List (Nat × Instr × Nat)).all (dOk (decode cX10_lost)) = true := by decide +kernel
theorem dX10_lost_213 : decode cX10_lost 213 = .ok (.iaload, 1) := dcr zo_dX10_lost_213 0 rfl
theorem dX10_lost_214 : decode cX10_lost 214 = .ok (.goto 26, 3) := dcr zo_dX10_lost_213 1 rfl
theorem dX10_lost_217 : decode cX10_lost 217 = .ok (.aload_n 0, 1) := dcr zo_dX10_lost_213 2 rfl
theorem dX10_lost_218 : decode cX10_lost 218 = .ok (.iload_n 3, 1) := dcr zo_dX10_lost_213 3 rfl
theorem dX10_lost_219 : decode cX10_lost 219 = .ok (.invokevirtual 128, 3) := dcr zo_dX10_lost_213 4 rfl
theorem dX10_lost_222 : decode cX10_lost 222 = .ok (.ifCond .eq 16, 3) := dcr zo_dX10_lost_213 5 rfl
theorem dX10_lost_225 : decode cX10_lost 225 = .ok (.aload_n 0, 1) := dcr zo_dX10_lost_213 6 rfl
theorem dX10_lost_226 : decode cX10_lost 226 = .ok (.iload 5, 2) := dcr zo_dX10_lost_213 7 rfl
theorem dX10_lost_228 : decode cX10_lost 228 = .ok (.iload_n 3, 1) := dcr zo_dX10_lost_213 8 rfl
theorem dX10_lost_229 : decode cX10_lost 229 = .ok (.invokevirtual 91, 3) := dcr zo_dX10_lost_213 9 rfl
theorem dX10_lost_232 : decode cX10_lost 232 = .ok (.invokestatic 134, 3) := dcr zo_dX10_lost_213 10 rfl
theorem dX10_lost_235 : decode cX10_lost 235 = .ok (.goto 5, 3) := dcr zo_dX10_lost_213 11 rfl
theorem dX10_lost_238 : decode cX10_lost 238 = .ok (.bipush (-6), 2) := dcr zo_dX10_lost_213 12 rfl
theorem dX10_lost_240 : decode cX10_lost 240 = .ok (.ireturn, 1) := dcr zo_dX10_lost_213 13 rfl
def zt_wsX10_isWished : List (List Cond) := [[.code yX10_isWished cX10_isWished 7 (some .boolean)], [.fieldLink RX10 67 "LastMapModel" "sites" "I", .fieldLink RX10 19 "LastMapModel" "pad" "[I", .methodLink RX10 91 yX10_signAt, .instanceMethod yX10_signAt, .selects RX10 yX10_signAt yX10_signAt, .initialized RX10, .code yX10_signAt cX10_signAt 3 (some .int), .fieldLink RX10 16 "LastMapModel" "part" "[I", .methodLink RX10 106 yX10_signOf, .static yX10_signOf, .code yX10_signOf cX10_signOf 1 (some .int), .constantLong RX10 95 (97), .constantLong RX10 97 (100), .methodLink RX10 79 yX10_in, .static yX10_in, .code yX10_in cX10_in 6 (some .boolean)], wsX100]
theorem zt_wsX10_isWished_in : ∀ c ∈ zt_wsX10_isWished, ∀ w ∈ c, w ∈ wsX10_isWished := List.forall_mem_cons.mpr ⟨fun _ h => List.mem_cons.mpr (Or.inl (List.mem_singleton.mp h)), List.forall_mem_cons.mpr ⟨fun _ h => List.mem_cons_of_mem _ (List.mem_append_left _ (h)), List.forall_mem_cons.mpr ⟨fun _ h => List.mem_cons_of_mem _ (List.mem_append_right _ h), (fun _ h => absurd h List.not_mem_nil)⟩⟩⟩
set_option maxRecDepth 20000 in
theorem ggX10_isWished_X10_signAt : GoodIn wsX10_isWished wsX10_signAt := goodIn_c zt_wsX10_isWished_in _ [(1, 6), (1, 7), (2, 0), (2, 1), (2, 2), (2, 3), (2, 4), (2, 5), (2, 6), (2, 7), (2, 8), (2, 9), (2, 10), (2, 11), (2, 12), (2, 13), (2, 14), (2, 15), (2, 16), (2, 17), (2, 18), (2, 19), (2, 20), (2, 21), (2, 22), (2, 23), (2, 24), (2, 25), (2, 26), (2, 27)] rfl zw_wsX10_signAt
set_option maxRecDepth 20000 in
theorem gX10_isWished_X10_signAt : GoodIn wsX10_isWished (wsV RX10 91 RX10 yX10_signAt wsX10_signAt) := goodIn_app (goodIn_of _ (by decide +kernel)) ggX10_isWished_X10_signAt
set_option maxRecDepth 20000 in
theorem ggX10_isWished_X10_signOf : GoodIn wsX10_isWished wsX10_signOf := goodIn_c zt_wsX10_isWished_in _ [(1, 10), (1, 11), (1, 12), (1, 13), (1, 14), (1, 5), (1, 15)] rfl zw_wsX10_signOf
set_option maxRecDepth 20000 in
theorem gX10_isWished_X10_signOf : GoodIn wsX10_isWished (va_wsS RX10 106 yX10_signOf wsX10_signOf) := goodIn_app (goodIn_of _ (by decide +kernel)) ggX10_isWished_X10_signOf
theorem zo_dX10_isWished_0 : ([(0, .iconst 1, 1), (1, .istore 4, 2), (3, .iconst 0, 1), (4, .istore 5, 2), (6, .iload 5, 2), (8, .aload_n 0, 1), (9, .getfield 67, 3), (12, .if_icmp .ge 78, 3), (15, .aload_n 0, 1), (16, .iload_n 1, 1), (17, .iload 5, 2), (19, .invokevirtual 91, 3), (22, .istore 6, 2), (24, .iload 4, 2), (26, .ifCond .eq 55, 3), (29, .aload_n 0, 1)] : List (Nat × Instr × Nat)).all (dOk (decode cX10_isWished)) = true := by decide +kernel
theorem dX10_isWished_0 : decode cX10_isWished 0 = .ok (.iconst 1, 1) := dcr zo_dX10_isWished_0 0 rfl
theorem dX10_isWished_1 : decode cX10_isWished 1 = .ok (.istore 4, 2) := dcr zo_dX10_isWished_0 1 rfl
theorem dX10_isWished_3 : decode cX10_isWished 3 = .ok (.iconst 0, 1) := dcr zo_dX10_isWished_0 2 rfl
theorem dX10_isWished_4 : decode cX10_isWished 4 = .ok (.istore 5, 2) := dcr zo_dX10_isWished_0 3 rfl
theorem dX10_isWished_6 : decode cX10_isWished 6 = .ok (.iload 5, 2) := dcr zo_dX10_isWished_0 4 rfl
theorem dX10_isWished_8 : decode cX10_isWished 8 = .ok (.aload_n 0, 1) := dcr zo_dX10_isWished_0 5 rfl
theorem dX10_isWished_9 : decode cX10_isWished 9 = .ok (.getfield 67, 3) := dcr zo_dX10_isWished_0 6 rfl
theorem dX10_isWished_12 : decode cX10_isWished 12 = .ok (.if_icmp .ge 78, 3) := dcr zo_dX10_isWished_0 7 rfl
theorem dX10_isWished_15 : decode cX10_isWished 15 = .ok (.aload_n 0, 1) := dcr zo_dX10_isWished_0 8 rfl
theorem dX10_isWished_16 : decode cX10_isWished 16 = .ok (.iload_n 1, 1) := dcr zo_dX10_isWished_0 9 rfl
theorem dX10_isWished_17 : decode cX10_isWished 17 = .ok (.iload 5, 2) := dcr zo_dX10_isWished_0 10 rfl
theorem dX10_isWished_19 : decode cX10_isWished 19 = .ok (.invokevirtual 91, 3) := dcr zo_dX10_isWished_0 11 rfl
theorem dX10_isWished_22 : decode cX10_isWished 22 = .ok (.istore 6, 2) := dcr zo_dX10_isWished_0 12 rfl
theorem dX10_isWished_24 : decode cX10_isWished 24 = .ok (.iload 4, 2) := dcr zo_dX10_isWished_0 13 rfl
theorem dX10_isWished_26 : decode cX10_isWished 26 = .ok (.ifCond .eq 55, 3) := dcr zo_dX10_isWished_0 14 rfl
theorem dX10_isWished_29 : decode cX10_isWished 29 = .ok (.aload_n 0, 1) := dcr zo_dX10_isWished_0 15 rfl
theorem zo_dX10_isWished_30 : ([(30, .getfield 19, 3), (33, .iload 5, 2), (35, .iaload, 1), (36, .bipush 63, 2), (38, .if_icmp .eq 18, 3), (41, .aload_n 0, 1), (42, .getfield 19, 3), (45, .iload 5, 2), (47, .iaload, 1), (48, .invokestatic 106, 3), (51, .iload 6, 2), (53, .if_icmp .ne 28, 3), (56, .iload_n 3, 1), (57, .iload 5, 2), (59, .ishr, 1), (60, .iconst 1, 1)] : List (Nat × Instr × Nat)).all (dOk (decode cX10_isWished)) = true := by decide +kernel
theorem dX10_isWished_30 : decode cX10_isWished 30 = .ok (.getfield 19, 3) := dcr zo_dX10_isWished_30 0 rfl
theorem dX10_isWished_33 : decode cX10_isWished 33 = .ok (.iload 5, 2) := dcr zo_dX10_isWished_30 1 rfl
theorem dX10_isWished_35 : decode cX10_isWished 35 = .ok (.iaload, 1) := dcr zo_dX10_isWished_30 2 rfl
theorem dX10_isWished_36 : decode cX10_isWished 36 = .ok (.bipush 63, 2) := dcr zo_dX10_isWished_30 3 rfl
theorem dX10_isWished_38 : decode cX10_isWished 38 = .ok (.if_icmp .eq 18, 3) := dcr zo_dX10_isWished_30 4 rfl
theorem dX10_isWished_41 : decode cX10_isWished 41 = .ok (.aload_n 0, 1) := dcr zo_dX10_isWished_30 5 rfl
theorem dX10_isWished_42 : decode cX10_isWished 42 = .ok (.getfield 19, 3) := dcr zo_dX10_isWished_30 6 rfl
theorem dX10_isWished_45 : decode cX10_isWished 45 = .ok (.iload 5, 2) := dcr zo_dX10_isWished_30 7 rfl
theorem dX10_isWished_47 : decode cX10_isWished 47 = .ok (.iaload, 1) := dcr zo_dX10_isWished_30 8 rfl
theorem dX10_isWished_48 : decode cX10_isWished 48 = .ok (.invokestatic 106, 3) := dcr zo_dX10_isWished_30 9 rfl
theorem dX10_isWished_51 : decode cX10_isWished 51 = .ok (.iload 6, 2) := dcr zo_dX10_isWished_30 10 rfl
theorem dX10_isWished_53 : decode cX10_isWished 53 = .ok (.if_icmp .ne 28, 3) := dcr zo_dX10_isWished_30 11 rfl
theorem dX10_isWished_56 : decode cX10_isWished 56 = .ok (.iload_n 3, 1) := dcr zo_dX10_isWished_30 12 rfl
theorem dX10_isWished_57 : decode cX10_isWished 57 = .ok (.iload 5, 2) := dcr zo_dX10_isWished_30 13 rfl
theorem dX10_isWished_59 : decode cX10_isWished 59 = .ok (.ishr, 1) := dcr zo_dX10_isWished_30 14 rfl
theorem dX10_isWished_60 : decode cX10_isWished 60 = .ok (.iconst 1, 1) := dcr zo_dX10_isWished_30 15 rfl
theorem zo_dX10_isWished_61 : ([(61, .iand, 1), (62, .ifCond .eq 15, 3), (65, .iload 6, 2), (67, .aload_n 0, 1), (68, .iload_n 2, 1), (69, .iload 5, 2), (71, .invokevirtual 91, 3), (74, .if_icmp .ne 7, 3), (77, .iconst 1, 1), (78, .goto 4, 3), (81, .iconst 0, 1), (82, .istore 4, 2), (84, .iinc 5 1, 3), (87, .goto (-81), 3), (90, .iload 4, 2), (92, .ireturn, 1)] : List (Nat × Instr × Nat)).all (dOk (decode cX10_isWished)) = true := by decide +kernel
theorem dX10_isWished_61 : decode cX10_isWished 61 = .ok (.iand, 1) := dcr zo_dX10_isWished_61 0 rfl
theorem dX10_isWished_62 : decode cX10_isWished 62 = .ok (.ifCond .eq 15, 3) := dcr zo_dX10_isWished_61 1 rfl
theorem dX10_isWished_65 : decode cX10_isWished 65 = .ok (.iload 6, 2) := dcr zo_dX10_isWished_61 2 rfl
theorem dX10_isWished_67 : decode cX10_isWished 67 = .ok (.aload_n 0, 1) := dcr zo_dX10_isWished_61 3 rfl
theorem dX10_isWished_68 : decode cX10_isWished 68 = .ok (.iload_n 2, 1) := dcr zo_dX10_isWished_61 4 rfl
theorem dX10_isWished_69 : decode cX10_isWished 69 = .ok (.iload 5, 2) := dcr zo_dX10_isWished_61 5 rfl
theorem dX10_isWished_71 : decode cX10_isWished 71 = .ok (.invokevirtual 91, 3) := dcr zo_dX10_isWished_61 6 rfl
theorem dX10_isWished_74 : decode cX10_isWished 74 = .ok (.if_icmp .ne 7, 3) := dcr zo_dX10_isWished_61 7 rfl
theorem dX10_isWished_77 : decode cX10_isWished 77 = .ok (.iconst 1, 1) := dcr zo_dX10_isWished_61 8 rfl
theorem dX10_isWished_78 : decode cX10_isWished 78 = .ok (.goto 4, 3) := dcr zo_dX10_isWished_61 9 rfl
theorem dX10_isWished_81 : decode cX10_isWished 81 = .ok (.iconst 0, 1) := dcr zo_dX10_isWished_61 10 rfl
theorem dX10_isWished_82 : decode cX10_isWished 82 = .ok (.istore 4, 2) := dcr zo_dX10_isWished_61 11 rfl
theorem dX10_isWished_84 : decode cX10_isWished 84 = .ok (.iinc 5 1, 3) := dcr zo_dX10_isWished_61 12 rfl
theorem dX10_isWished_87 : decode cX10_isWished 87 = .ok (.goto (-81), 3) := dcr zo_dX10_isWished_61 13 rfl
theorem dX10_isWished_90 : decode cX10_isWished 90 = .ok (.iload 4, 2) := dcr zo_dX10_isWished_61 14 rfl
theorem dX10_isWished_92 : decode cX10_isWished 92 = .ok (.ireturn, 1) := dcr zo_dX10_isWished_61 15 rfl
def zt_wsX10_wished : List (List Cond) := [[.code yX10_wished cX10_wished 6 (some .int)], wsX10_wished_r1, wsX10_wished_r2, wsX10_wished_r3, wsX10_wished_r4, wsX100]
theorem zt_wsX10_wished_in : ∀ c ∈ zt_wsX10_wished, ∀ w ∈ c, w ∈ wsX10_wished := List.forall_mem_cons.mpr ⟨fun _ h => List.mem_cons.mpr (Or.inl (List.mem_singleton.mp h)), List.forall_mem_cons.mpr ⟨fun _ h => List.mem_cons_of_mem _ (List.mem_append_left _ (List.mem_append_left _ h)), List.forall_mem_cons.mpr ⟨fun _ h => List.mem_cons_of_mem _ (List.mem_append_left _ (List.mem_append_right _ (List.mem_append_left _ h))), List.forall_mem_cons.mpr ⟨fun _ h => List.mem_cons_of_mem _ (List.mem_append_left _ (List.mem_append_right _ (List.mem_append_right _ (List.mem_append_left _ h)))), List.forall_mem_cons.mpr ⟨fun _ h => List.mem_cons_of_mem _ (List.mem_append_left _ (List.mem_append_right _ (List.mem_append_right _ (List.mem_append_right _ (h))))), List.forall_mem_cons.mpr ⟨fun _ h => List.mem_cons_of_mem _ (List.mem_append_right _ h), (fun _ h => absurd h List.not_mem_nil)⟩⟩⟩⟩⟩⟩
set_option maxRecDepth 20000 in
theorem ggX10_wished_X10_isMap : GoodIn wsX10_wished wsX10_isMap := goodIn_c zt_wsX10_wished_in _ [(1, 9), (1, 10), (1, 11), (1, 12), (1, 8), (1, 13)] rfl zw_wsX10_isMap
set_option maxRecDepth 20000 in
theorem gX10_wished_X10_isMap : GoodIn wsX10_wished (va_wsS RX10 124 yX10_isMap wsX10_isMap) := goodIn_app (goodIn_of _ (by decide +kernel)) ggX10_wished_X10_isMap
set_option maxRecDepth 20000 in
theorem ggX10_wished_X10_isHand : GoodIn wsX10_wished wsX10_isHand := goodIn_c zt_wsX10_wished_in _ [(1, 16), (1, 17), (1, 11), (1, 12), (1, 8), (1, 13)] rfl zw_wsX10_isHand
set_option maxRecDepth 20000 in
theorem gX10_wished_X10_isHand : GoodIn wsX10_wished (va_wsS RX10 137 yX10_isHand wsX10_isHand) := goodIn_app (goodIn_of _ (by decide +kernel)) ggX10_wished_X10_isHand
set_option maxRecDepth 20000 in
theorem ggX10_wished_X10_in : GoodIn wsX10_wished wsX10_in := goodIn_c zt_wsX10_wished_in _ [(1, 13)] rfl zw_wsX10_in
set_option maxRecDepth 20000 in
theorem gX10_wished_X10_in : GoodIn wsX10_wished (va_wsS RX10 79 yX10_in wsX10_in) := goodIn_app (goodIn_of _ (by decide +kernel)) ggX10_wished_X10_in
set_option maxRecDepth 20000 in
theorem ggX10_wished_X10_isTold : GoodIn wsX10_wished wsX10_isTold := goodIn_c zt_wsX10_wished_in _ [(1, 21), (1, 22), (5, 0), (5, 1), (5, 2), (5, 3), (5, 4), (5, 5), (5, 6), (5, 7), (5, 8), (5, 9), (5, 10), (5, 11), (5, 12), (5, 13), (5, 14), (5, 15), (5, 16), (5, 17), (5, 18), (5, 19), (5, 20), (5, 21), (5, 22), (5, 23), (5, 24), (5, 25), (5, 26), (5, 27)] rfl zw_wsX10_isTold
set_option maxRecDepth 20000 in
theorem gX10_wished_X10_isTold : GoodIn wsX10_wished (wsV RX10 131 RX10 yX10_isTold wsX10_isTold) := goodIn_app (goodIn_of _ (by decide +kernel)) ggX10_wished_X10_isTold
set_option maxRecDepth 20000 in
theorem ggX10_wished_X10_faultOfMap : GoodIn wsX10_wished wsX10_faultOfMap := goodIn_c zt_wsX10_wished_in _ [(2, 2), (2, 3), (2, 4), (1, 0), (2, 5), (2, 6), (1, 8), (2, 7), (2, 8), (2, 9), (1, 11), (1, 12), (1, 13), (5, 0), (5, 1), (5, 2), (5, 3), (5, 4), (5, 5), (5, 6), (5, 7), (5, 8), (5, 9), (5, 10), (5, 11), (5, 12), (5, 13), (5, 14), (5, 15), (5, 16), (5, 17), (5, 18), (5, 19), (5, 20), (5, 21), (5, 22), (5, 23), (5, 24), (5, 25), (5, 26), (5, 27)] rfl zw_wsX10_faultOfMap
set_option maxRecDepth 20000 in
theorem gX10_wished_X10_faultOfMap : GoodIn wsX10_wished (wsV RX10 116 RX10 yX10_faultOfMap wsX10_faultOfMap) := goodIn_app (goodIn_of _ (by decide +kernel)) ggX10_wished_X10_faultOfMap
set_option maxRecDepth 20000 in
theorem ggX10_wished_X10_goFrom : GoodIn wsX10_wished wsX10_goFrom := goodIn_c zt_wsX10_wished_in _ [(2, 13), (1, 5), (1, 4), (1, 3), (2, 14), (2, 15), (2, 16), (2, 17), (2, 18), (1, 8), (2, 19), (2, 20), (2, 21), (2, 22), (2, 23), (3, 0), (1, 0), (3, 1), (3, 2), (3, 3), (3, 4), (3, 5), (3, 6), (3, 7), (3, 8), (3, 9), (3, 10), (3, 11), (3, 12), (3, 13), (3, 14), (3, 15), (3, 16), (3, 17), (3, 18), (3, 19), (5, 0), (5, 1), (5, 2), (5, 3), (5, 4), (5, 5), (5, 6), (5, 7), (5, 8), (5, 9), (5, 10), (5, 11), (5, 12), (5, 13), (5, 14), (5, 15), (5, 16), (5, 17), (5, 18), (5, 19), (5, 20), (5, 21), (5, 22), (5, 23), (5, 24), (5, 25), (5, 26), (5, 27)] rfl zw_wsX10_goFrom
set_option maxRecDepth 20000 in
theorem gX10_wished_X10_goFrom : GoodIn wsX10_wished (wsV RX10 171 RX10 yX10_goFrom wsX10_goFrom) := goodIn_app (goodIn_of _ (by decide +kernel)) ggX10_wished_X10_goFrom
set_option maxRecDepth 20000 in
theorem zw_wsX10_isWished : wsX10_isWished.all goodWord = true := by decide +kernel
set_option maxRecDepth 20000 in
theorem ggX10_wished_X10_isWished : GoodIn wsX10_wished wsX10_isWished := goodIn_c zt_wsX10_wished_in _ [(3, 23), (1, 0), (2, 4), (3, 12), (3, 13), (3, 14), (1, 8), (3, 15), (2, 20), (2, 5), (2, 6), (2, 7), (2, 8), (2, 9), (1, 11), (1, 12), (1, 13), (5, 0), (5, 1), (5, 2), (5, 3), (5, 4), (5, 5), (5, 6), (5, 7), (5, 8), (5, 9), (5, 10), (5, 11), (5, 12), (5, 13), (5, 14), (5, 15), (5, 16), (5, 17), (5, 18), (5, 19), (5, 20), (5, 21), (5, 22), (5, 23), (5, 24), (5, 25), (5, 26), (5, 27)] rfl zw_wsX10_isWished
set_option maxRecDepth 20000 in
theorem gX10_wished_X10_isWished : GoodIn wsX10_wished (wsV RX10 218 RX10 yX10_isWished wsX10_isWished) := goodIn_app (goodIn_of _ (by decide +kernel)) ggX10_wished_X10_isWished
set_option maxRecDepth 20000 in
theorem ggX10_wished_X10_slipTo : GoodIn wsX10_wished wsX10_slipTo := goodIn_c zt_wsX10_wished_in _ [(4, 3), (1, 5), (2, 15), (2, 14), (1, 11), (1, 12), (1, 8), (1, 13), (5, 0), (5, 1), (5, 2), (5, 3), (5, 4), (5, 5), (5, 6), (5, 7), (5, 8), (5, 9), (5, 10), (5, 11), (5, 12), (5, 13), (5, 14), (5, 15), (5, 16), (5, 17), (5, 18), (5, 19), (5, 20), (5, 21), (5, 22), (5, 23), (5, 24), (5, 25), (5, 26), (5, 27)] rfl zw_wsX10_slipTo
set_option maxRecDepth 20000 in
theorem gX10_wished_X10_slipTo : GoodIn wsX10_wished (wsV RX10 178 RX10 yX10_slipTo wsX10_slipTo) := goodIn_app (goodIn_of _ (by decide +kernel)) ggX10_wished_X10_slipTo
theorem zo_dX10_wished_0 : ([(0, .iload_n 1, 1), (1, .invokestatic 124, 3), (4, .ifCond .eq 10, 3), (7, .iload_n 2, 1), (8, .invokestatic 137, 3), (11, .ifCond .ne 5, 3), (14, .iconst (-1), 1), (15, .ireturn, 1), (16, .iload_n 3, 1), (17, .i2l, 1), (18, .lconst 0, 1), (19, .iconst 1, 1), (20, .aload_n 0, 1), (21, .getfield 67, 3), (24, .ishl, 1), (25, .iconst 1, 1)] : List (Nat × Instr × Nat)).all (dOk (decode cX10_wished)) = true := by decide +kernel
theorem dX10_wished_0 : decode cX10_wished 0 = .ok (.iload_n 1, 1) := dcr zo_dX10_wished_0 0 rfl
theorem dX10_wished_1 : decode cX10_wished 1 = .ok (.invokestatic 124, 3) := dcr zo_dX10_wished_0 1 rfl
theorem dX10_wished_4 : decode cX10_wished 4 = .ok (.ifCond .eq 10, 3) := dcr zo_dX10_wished_0 2 rfl
theorem dX10_wished_7 : decode cX10_wished 7 = .ok (.iload_n 2, 1) := dcr zo_dX10_wished_0 3 rfl
theorem dX10_wished_8 : decode cX10_wished 8 = .ok (.invokestatic 137, 3) := dcr zo_dX10_wished_0 4 rfl
theorem dX10_wished_11 : decode cX10_wished 11 = .ok (.ifCond .ne 5, 3) := dcr zo_dX10_wished_0 5 rfl
theorem dX10_wished_14 : decode cX10_wished 14 = .ok (.iconst (-1), 1) := dcr zo_dX10_wished_0 6 rfl
theorem dX10_wished_15 : decode cX10_wished 15 = .ok (.ireturn, 1) := dcr zo_dX10_wished_0 7 rfl
theorem dX10_wished_16 : decode cX10_wished 16 = .ok (.iload_n 3, 1) := dcr zo_dX10_wished_0 8 rfl
theorem dX10_wished_17 : decode cX10_wished 17 = .ok (.i2l, 1) := dcr zo_dX10_wished_0 9 rfl
theorem dX10_wished_18 : decode cX10_wished 18 = .ok (.lconst 0, 1) := dcr zo_dX10_wished_0 10 rfl
theorem dX10_wished_19 : decode cX10_wished 19 = .ok (.iconst 1, 1) := dcr zo_dX10_wished_0 11 rfl
theorem dX10_wished_20 : decode cX10_wished 20 = .ok (.aload_n 0, 1) := dcr zo_dX10_wished_0 12 rfl
theorem dX10_wished_21 : decode cX10_wished 21 = .ok (.getfield 67, 3) := dcr zo_dX10_wished_0 13 rfl
theorem dX10_wished_24 : decode cX10_wished 24 = .ok (.ishl, 1) := dcr zo_dX10_wished_0 14 rfl
theorem dX10_wished_25 : decode cX10_wished 25 = .ok (.iconst 1, 1) := dcr zo_dX10_wished_0 15 rfl
theorem zo_dX10_wished_26 : ([(26, .isub, 1), (27, .i2l, 1), (28, .invokestatic 79, 3), (31, .ifCond .ne 6, 3), (34, .bipush (-2), 2), (36, .ireturn, 1), (37, .aload_n 0, 1), (38, .iload_n 1, 1), (39, .invokevirtual 131, 3), (42, .ifCond .ne 6, 3), (45, .bipush (-3), 2), (47, .ireturn, 1), (48, .aload_n 0, 1), (49, .iconst 1, 1), (50, .invokevirtual 116, 3), (53, .ifCond .lt 6, 3)] : List (Nat × Instr × Nat)).all (dOk (decode cX10_wished)) = true := by decide +kernel
theorem dX10_wished_26 : decode cX10_wished 26 = .ok (.isub, 1) := dcr zo_dX10_wished_26 0 rfl
theorem dX10_wished_27 : decode cX10_wished 27 = .ok (.i2l, 1) := dcr zo_dX10_wished_26 1 rfl
theorem dX10_wished_28 : decode cX10_wished 28 = .ok (.invokestatic 79, 3) := dcr zo_dX10_wished_26 2 rfl
theorem dX10_wished_31 : decode cX10_wished 31 = .ok (.ifCond .ne 6, 3) := dcr zo_dX10_wished_26 3 rfl
theorem dX10_wished_34 : decode cX10_wished 34 = .ok (.bipush (-2), 2) := dcr zo_dX10_wished_26 4 rfl
theorem dX10_wished_36 : decode cX10_wished 36 = .ok (.ireturn, 1) := dcr zo_dX10_wished_26 5 rfl
theorem dX10_wished_37 : decode cX10_wished 37 = .ok (.aload_n 0, 1) := dcr zo_dX10_wished_26 6 rfl
theorem dX10_wished_38 : decode cX10_wished 38 = .ok (.iload_n 1, 1) := dcr zo_dX10_wished_26 7 rfl
theorem dX10_wished_39 : decode cX10_wished 39 = .ok (.invokevirtual 131, 3) := dcr zo_dX10_wished_26 8 rfl
theorem dX10_wished_42 : decode cX10_wished 42 = .ok (.ifCond .ne 6, 3) := dcr zo_dX10_wished_26 9 rfl
theorem dX10_wished_45 : decode cX10_wished 45 = .ok (.bipush (-3), 2) := dcr zo_dX10_wished_26 10 rfl
theorem dX10_wished_47 : decode cX10_wished 47 = .ok (.ireturn, 1) := dcr zo_dX10_wished_26 11 rfl
theorem dX10_wished_48 : decode cX10_wished 48 = .ok (.aload_n 0, 1) := dcr zo_dX10_wished_26 12 rfl
theorem dX10_wished_49 : decode cX10_wished 49 = .ok (.iconst 1, 1) := dcr zo_dX10_wished_26 13 rfl
theorem dX10_wished_50 : decode cX10_wished 50 = .ok (.invokevirtual 116, 3) := dcr zo_dX10_wished_26 14 rfl
theorem dX10_wished_53 : decode cX10_wished 53 = .ok (.ifCond .lt 6, 3) := dcr zo_dX10_wished_26 15 rfl
theorem zo_dX10_wished_56 : ([(56, .bipush (-5), 2), (58, .ireturn, 1), (59, .aload_n 0, 1), (60, .aload_n 0, 1), (61, .getfield 7, 3), (64, .iload_n 1, 1), (65, .iaload, 1), (66, .aload_n 0, 1), (67, .getfield 13, 3), (70, .iload_n 2, 1), (71, .iaload, 1), (72, .invokevirtual 171, 3), (75, .iconst 0, 1), (76, .istore 5, 2), (78, .iload 5, 2), (80, .aload_n 0, 1)] : List (Nat × Instr × Nat)).all (dOk (decode cX10_wished)) = true := by decide +kernel
theorem dX10_wished_56 : decode cX10_wished 56 = .ok (.bipush (-5), 2) := dcr zo_dX10_wished_56 0 rfl
theorem dX10_wished_58 : decode cX10_wished 58 = .ok (.ireturn, 1) := dcr zo_dX10_wished_56 1 rfl
theorem dX10_wished_59 : decode cX10_wished 59 = .ok (.aload_n 0, 1) := dcr zo_dX10_wished_56 2 rfl
theorem dX10_wished_60 : decode cX10_wished 60 = .ok (.aload_n 0, 1) := dcr zo_dX10_wished_56 3 rfl
theorem dX10_wished_61 : decode cX10_wished 61 = .ok (.getfield 7, 3) := dcr zo_dX10_wished_56 4 rfl
theorem dX10_wished_64 : decode cX10_wished 64 = .ok (.iload_n 1, 1) := dcr zo_dX10_wished_56 5 rfl
theorem dX10_wished_65 : decode cX10_wished 65 = .ok (.iaload, 1) := dcr zo_dX10_wished_56 6 rfl
theorem dX10_wished_66 : decode cX10_wished 66 = .ok (.aload_n 0, 1) := dcr zo_dX10_wished_56 7 rfl
theorem dX10_wished_67 : decode cX10_wished 67 = .ok (.getfield 13, 3) := dcr zo_dX10_wished_56 8 rfl
theorem dX10_wished_70 : decode cX10_wished 70 = .ok (.iload_n 2, 1) := dcr zo_dX10_wished_56 9 rfl
theorem dX10_wished_71 : decode cX10_wished 71 = .ok (.iaload, 1) := dcr zo_dX10_wished_56 10 rfl
theorem dX10_wished_72 : decode cX10_wished 72 = .ok (.invokevirtual 171, 3) := dcr zo_dX10_wished_56 11 rfl
theorem dX10_wished_75 : decode cX10_wished 75 = .ok (.iconst 0, 1) := dcr zo_dX10_wished_56 12 rfl
theorem dX10_wished_76 : decode cX10_wished 76 = .ok (.istore 5, 2) := dcr zo_dX10_wished_56 13 rfl
theorem dX10_wished_78 : decode cX10_wished 78 = .ok (.iload 5, 2) := dcr zo_dX10_wished_56 14 rfl
theorem dX10_wished_80 : decode cX10_wished 80 = .ok (.aload_n 0, 1) := dcr zo_dX10_wished_56 15 rfl
theorem zo_dX10_wished_81 : ([(81, .getfield 158, 3), (84, .if_icmp .ge 65, 3), (87, .aload_n 0, 1), (88, .aload_n 0, 1), (89, .getfield 25, 3), (92, .iload 5, 2), (94, .iaload, 1), (95, .aload_n 0, 1), (96, .getfield 7, 3), (99, .iload_n 1, 1), (100, .iaload, 1), (101, .iload_n 3, 1), (102, .invokevirtual 218, 3), (105, .ifCond .eq 38, 3), (108, .iload 4, 2), (110, .iconst (-1), 1)] : List (Nat × Instr × Nat)).all (dOk (decode cX10_wished)) = true := by decide +kernel
theorem dX10_wished_81 : decode cX10_wished 81 = .ok (.getfield 158, 3) := dcr zo_dX10_wished_81 0 rfl
theorem dX10_wished_84 : decode cX10_wished 84 = .ok (.if_icmp .ge 65, 3) := dcr zo_dX10_wished_81 1 rfl
theorem dX10_wished_87 : decode cX10_wished 87 = .ok (.aload_n 0, 1) := dcr zo_dX10_wished_81 2 rfl
theorem dX10_wished_88 : decode cX10_wished 88 = .ok (.aload_n 0, 1) := dcr zo_dX10_wished_81 3 rfl
theorem dX10_wished_89 : decode cX10_wished 89 = .ok (.getfield 25, 3) := dcr zo_dX10_wished_81 4 rfl
theorem dX10_wished_92 : decode cX10_wished 92 = .ok (.iload 5, 2) := dcr zo_dX10_wished_81 5 rfl
theorem dX10_wished_94 : decode cX10_wished 94 = .ok (.iaload, 1) := dcr zo_dX10_wished_81 6 rfl
theorem dX10_wished_95 : decode cX10_wished 95 = .ok (.aload_n 0, 1) := dcr zo_dX10_wished_81 7 rfl
theorem dX10_wished_96 : decode cX10_wished 96 = .ok (.getfield 7, 3) := dcr zo_dX10_wished_81 8 rfl
theorem dX10_wished_99 : decode cX10_wished 99 = .ok (.iload_n 1, 1) := dcr zo_dX10_wished_81 9 rfl
theorem dX10_wished_100 : decode cX10_wished 100 = .ok (.iaload, 1) := dcr zo_dX10_wished_81 10 rfl
theorem dX10_wished_101 : decode cX10_wished 101 = .ok (.iload_n 3, 1) := dcr zo_dX10_wished_81 11 rfl
theorem dX10_wished_102 : decode cX10_wished 102 = .ok (.invokevirtual 218, 3) := dcr zo_dX10_wished_81 12 rfl
theorem dX10_wished_105 : decode cX10_wished 105 = .ok (.ifCond .eq 38, 3) := dcr zo_dX10_wished_81 13 rfl
theorem dX10_wished_108 : decode cX10_wished 108 = .ok (.iload 4, 2) := dcr zo_dX10_wished_81 14 rfl
theorem dX10_wished_110 : decode cX10_wished 110 = .ok (.iconst (-1), 1) := dcr zo_dX10_wished_81 15 rfl
theorem zo_dX10_wished_111 : ([(111, .if_icmp .ne 18, 3), (114, .aload_n 0, 1), (115, .getfield 28, 3), (118, .aload_n 0, 1), (119, .getfield 25, 3), (122, .iload 5, 2), (124, .iaload, 1), (125, .iaload, 1), (126, .goto 16, 3), (129, .aload_n 0, 1), (130, .aload_n 0, 1), (131, .getfield 25, 3), (134, .iload 5, 2), (136, .iaload, 1), (137, .iload 4, 2), (139, .invokevirtual 178, 3)] : List (Nat × Instr × Nat)).all (dOk (decode cX10_wished)) = true := by decide +kernel
theorem dX10_wished_111 : decode cX10_wished 111 = .ok (.if_icmp .ne 18, 3) := dcr zo_dX10_wished_111 0 rfl
theorem dX10_wished_114 : decode cX10_wished 114 = .ok (.aload_n 0, 1) := dcr zo_dX10_wished_111 1 rfl
theorem dX10_wished_115 : decode cX10_wished 115 = .ok (.getfield 28, 3) := dcr zo_dX10_wished_111 2 rfl
theorem dX10_wished_118 : decode cX10_wished 118 = .ok (.aload_n 0, 1) := dcr zo_dX10_wished_111 3 rfl
theorem dX10_wished_119 : decode cX10_wished 119 = .ok (.getfield 25, 3) := dcr zo_dX10_wished_111 4 rfl
theorem dX10_wished_122 : decode cX10_wished 122 = .ok (.iload 5, 2) := dcr zo_dX10_wished_111 5 rfl
theorem dX10_wished_124 : decode cX10_wished 124 = .ok (.iaload, 1) := dcr zo_dX10_wished_111 6 rfl
theorem dX10_wished_125 : decode cX10_wished 125 = .ok (.iaload, 1) := dcr zo_dX10_wished_111 7 rfl
theorem dX10_wished_126 : decode cX10_wished 126 = .ok (.goto 16, 3) := dcr zo_dX10_wished_111 8 rfl
theorem dX10_wished_129 : decode cX10_wished 129 = .ok (.aload_n 0, 1) := dcr zo_dX10_wished_111 9 rfl
theorem dX10_wished_130 : decode cX10_wished 130 = .ok (.aload_n 0, 1) := dcr zo_dX10_wished_111 10 rfl
theorem dX10_wished_131 : decode cX10_wished 131 = .ok (.getfield 25, 3) := dcr zo_dX10_wished_111 11 rfl
theorem dX10_wished_134 : decode cX10_wished 134 = .ok (.iload 5, 2) := dcr zo_dX10_wished_111 12 rfl
theorem dX10_wished_136 : decode cX10_wished 136 = .ok (.iaload, 1) := dcr zo_dX10_wished_111 13 rfl
theorem dX10_wished_137 : decode cX10_wished 137 = .ok (.iload 4, 2) := dcr zo_dX10_wished_111 14 rfl
theorem dX10_wished_139 : decode cX10_wished 139 = .ok (.invokevirtual 178, 3) := dcr zo_dX10_wished_111 15 rfl
theorem zo_dX10_wished_142 : ([(142, .ireturn, 1), (143, .iinc 5 1, 3), (146, .goto (-68), 3), (149, .bipush (-6), 2), (151, .ireturn, 1)] : List (Nat × Instr × Nat)).all (dOk (decode cX10_wished)) = true := by decide +kernel
theorem dX10_wished_142 : decode cX10_wished 142 = .ok (.ireturn, 1) := dcr zo_dX10_wished_142 0 rfl
theorem dX10_wished_143 : decode cX10_wished 143 = .ok (.iinc 5 1, 3) := dcr zo_dX10_wished_142 1 rfl
theorem dX10_wished_146 : decode cX10_wished 146 = .ok (.goto (-68), 3) := dcr zo_dX10_wished_142 2 rfl
theorem dX10_wished_149 : decode cX10_wished 149 = .ok (.bipush (-6), 2) := dcr zo_dX10_wished_142 3 rfl
theorem dX10_wished_151 : decode cX10_wished 151 = .ok (.ireturn, 1) := dcr zo_dX10_wished_142 4 rfl
def zt_wsX10_mostAt : List (List Cond) := [[.code yX10_mostAt cX10_mostAt 8 (some .int)], [.fieldLink RX10 7 "LastMapModel" "maps" "[I", .methodLink RX10 91 yX10_signAt, .instanceMethod yX10_signAt, .selects RX10 yX10_signAt yX10_signAt, .initialized RX10, .code yX10_signAt cX10_signAt 3 (some .int), .fieldLink RX10 16 "LastMapModel" "part" "[I"], wsX100]
theorem zt_wsX10_mostAt_in : ∀ c ∈ zt_wsX10_mostAt, ∀ w ∈ c, w ∈ wsX10_mostAt := List.forall_mem_cons.mpr ⟨fun _ h => List.mem_cons.mpr (Or.inl (List.mem_singleton.mp h)), List.forall_mem_cons.mpr ⟨fun _ h => List.mem_cons_of_mem _ (List.mem_append_left _ (h)), List.forall_mem_cons.mpr ⟨fun _ h => List.mem_cons_of_mem _ (List.mem_append_right _ h), (fun _ h => absurd h List.not_mem_nil)⟩⟩⟩
set_option maxRecDepth 20000 in
theorem ggX10_mostAt_X10_signAt : GoodIn wsX10_mostAt wsX10_signAt := goodIn_c zt_wsX10_mostAt_in _ [(1, 5), (1, 6), (2, 0), (2, 1), (2, 2), (2, 3), (2, 4), (2, 5), (2, 6), (2, 7), (2, 8), (2, 9), (2, 10), (2, 11), (2, 12), (2, 13), (2, 14), (2, 15), (2, 16), (2, 17), (2, 18), (2, 19), (2, 20), (2, 21), (2, 22), (2, 23), (2, 24), (2, 25), (2, 26), (2, 27)] rfl zw_wsX10_signAt
set_option maxRecDepth 20000 in
theorem gX10_mostAt_X10_signAt : GoodIn wsX10_mostAt (wsV RX10 91 RX10 yX10_signAt wsX10_signAt) := goodIn_app (goodIn_of _ (by decide +kernel)) ggX10_mostAt_X10_signAt
theorem zo_dX10_mostAt_0 : ([(0, .iconst 0, 1), (1, .istore_n 3, 1), (2, .iconst 0, 1), (3, .istore 4, 2), (5, .iconst 0, 1), (6, .istore 5, 2), (8, .iload 5, 2), (10, .iconst 5, 1), (11, .if_icmp .ge 95, 3), (14, .iconst 0, 1), (15, .istore 6, 2), (17, .iconst 0, 1), (18, .istore 7, 2), (20, .iload 7, 2), (22, .bipush 6, 2), (24, .if_icmp .ge 46, 3)] : List (Nat × Instr × Nat)).all (dOk (decode cX10_mostAt)) = true := by decide +kernel
theorem dX10_mostAt_0 : decode cX10_mostAt 0 = .ok (.iconst 0, 1) := dcr zo_dX10_mostAt_0 0 rfl
theorem dX10_mostAt_1 : decode cX10_mostAt 1 = .ok (.istore_n 3, 1) := dcr zo_dX10_mostAt_0 1 rfl
theorem dX10_mostAt_2 : decode cX10_mostAt 2 = .ok (.iconst 0, 1) := dcr zo_dX10_mostAt_0 2 rfl
theorem dX10_mostAt_3 : decode cX10_mostAt 3 = .ok (.istore 4, 2) := dcr zo_dX10_mostAt_0 3 rfl
theorem dX10_mostAt_5 : decode cX10_mostAt 5 = .ok (.iconst 0, 1) := dcr zo_dX10_mostAt_0 4 rfl
theorem dX10_mostAt_6 : decode cX10_mostAt 6 = .ok (.istore 5, 2) := dcr zo_dX10_mostAt_0 5 rfl
theorem dX10_mostAt_8 : decode cX10_mostAt 8 = .ok (.iload 5, 2) := dcr zo_dX10_mostAt_0 6 rfl
theorem dX10_mostAt_10 : decode cX10_mostAt 10 = .ok (.iconst 5, 1) := dcr zo_dX10_mostAt_0 7 rfl
theorem dX10_mostAt_11 : decode cX10_mostAt 11 = .ok (.if_icmp .ge 95, 3) := dcr zo_dX10_mostAt_0 8 rfl
theorem dX10_mostAt_14 : decode cX10_mostAt 14 = .ok (.iconst 0, 1) := dcr zo_dX10_mostAt_0 9 rfl
theorem dX10_mostAt_15 : decode cX10_mostAt 15 = .ok (.istore 6, 2) := dcr zo_dX10_mostAt_0 10 rfl
theorem dX10_mostAt_17 : decode cX10_mostAt 17 = .ok (.iconst 0, 1) := dcr zo_dX10_mostAt_0 11 rfl
theorem dX10_mostAt_18 : decode cX10_mostAt 18 = .ok (.istore 7, 2) := dcr zo_dX10_mostAt_0 12 rfl
theorem dX10_mostAt_20 : decode cX10_mostAt 20 = .ok (.iload 7, 2) := dcr zo_dX10_mostAt_0 13 rfl
theorem dX10_mostAt_22 : decode cX10_mostAt 22 = .ok (.bipush 6, 2) := dcr zo_dX10_mostAt_0 14 rfl
theorem dX10_mostAt_24 : decode cX10_mostAt 24 = .ok (.if_icmp .ge 46, 3) := dcr zo_dX10_mostAt_0 15 rfl
theorem zo_dX10_mostAt_27 : ([(27, .iload 6, 2), (29, .iload_n 1, 1), (30, .iload 7, 2), (32, .ishr, 1), (33, .iconst 1, 1), (34, .iand, 1), (35, .iconst 1, 1), (36, .if_icmp .ne 24, 3), (39, .aload_n 0, 1), (40, .aload_n 0, 1), (41, .getfield 7, 3), (44, .iload 7, 2), (46, .iaload, 1), (47, .iload_n 2, 1), (48, .invokevirtual 91, 3), (51, .iload 5, 2)] : List (Nat × Instr × Nat)).all (dOk (decode cX10_mostAt)) = true := by decide +kernel
theorem dX10_mostAt_27 : decode cX10_mostAt 27 = .ok (.iload 6, 2) := dcr zo_dX10_mostAt_27 0 rfl
theorem dX10_mostAt_29 : decode cX10_mostAt 29 = .ok (.iload_n 1, 1) := dcr zo_dX10_mostAt_27 1 rfl
theorem dX10_mostAt_30 : decode cX10_mostAt 30 = .ok (.iload 7, 2) := dcr zo_dX10_mostAt_27 2 rfl
theorem dX10_mostAt_32 : decode cX10_mostAt 32 = .ok (.ishr, 1) := dcr zo_dX10_mostAt_27 3 rfl
theorem dX10_mostAt_33 : decode cX10_mostAt 33 = .ok (.iconst 1, 1) := dcr zo_dX10_mostAt_27 4 rfl
theorem dX10_mostAt_34 : decode cX10_mostAt 34 = .ok (.iand, 1) := dcr zo_dX10_mostAt_27 5 rfl
theorem dX10_mostAt_35 : decode cX10_mostAt 35 = .ok (.iconst 1, 1) := dcr zo_dX10_mostAt_27 6 rfl
theorem dX10_mostAt_36 : decode cX10_mostAt 36 = .ok (.if_icmp .ne 24, 3) := dcr zo_dX10_mostAt_27 7 rfl
theorem dX10_mostAt_39 : decode cX10_mostAt 39 = .ok (.aload_n 0, 1) := dcr zo_dX10_mostAt_27 8 rfl
theorem dX10_mostAt_40 : decode cX10_mostAt 40 = .ok (.aload_n 0, 1) := dcr zo_dX10_mostAt_27 9 rfl
theorem dX10_mostAt_41 : decode cX10_mostAt 41 = .ok (.getfield 7, 3) := dcr zo_dX10_mostAt_27 10 rfl
theorem dX10_mostAt_44 : decode cX10_mostAt 44 = .ok (.iload 7, 2) := dcr zo_dX10_mostAt_27 11 rfl
theorem dX10_mostAt_46 : decode cX10_mostAt 46 = .ok (.iaload, 1) := dcr zo_dX10_mostAt_27 12 rfl
theorem dX10_mostAt_47 : decode cX10_mostAt 47 = .ok (.iload_n 2, 1) := dcr zo_dX10_mostAt_27 13 rfl
theorem dX10_mostAt_48 : decode cX10_mostAt 48 = .ok (.invokevirtual 91, 3) := dcr zo_dX10_mostAt_27 14 rfl
theorem dX10_mostAt_51 : decode cX10_mostAt 51 = .ok (.iload 5, 2) := dcr zo_dX10_mostAt_27 15 rfl
theorem zo_dX10_mostAt_53 : ([(53, .if_icmp .ne 7, 3), (56, .iconst 1, 1), (57, .goto 4, 3), (60, .iconst 0, 1), (61, .iadd, 1), (62, .istore 6, 2), (64, .iinc 7 1, 3), (67, .goto (-47), 3), (70, .iload 6, 2), (72, .iload 4, 2), (74, .if_icmp .le 8, 3), (77, .iload 5, 2), (79, .goto 4, 3), (82, .iload_n 3, 1), (83, .istore_n 3, 1), (84, .iload 6, 2)] : List (Nat × Instr × Nat)).all (dOk (decode cX10_mostAt)) = true := by decide +kernel
theorem dX10_mostAt_53 : decode cX10_mostAt 53 = .ok (.if_icmp .ne 7, 3) := dcr zo_dX10_mostAt_53 0 rfl
theorem dX10_mostAt_56 : decode cX10_mostAt 56 = .ok (.iconst 1, 1) := dcr zo_dX10_mostAt_53 1 rfl
theorem dX10_mostAt_57 : decode cX10_mostAt 57 = .ok (.goto 4, 3) := dcr zo_dX10_mostAt_53 2 rfl
theorem dX10_mostAt_60 : decode cX10_mostAt 60 = .ok (.iconst 0, 1) := dcr zo_dX10_mostAt_53 3 rfl
theorem dX10_mostAt_61 : decode cX10_mostAt 61 = .ok (.iadd, 1) := dcr zo_dX10_mostAt_53 4 rfl
theorem dX10_mostAt_62 : decode cX10_mostAt 62 = .ok (.istore 6, 2) := dcr zo_dX10_mostAt_53 5 rfl
theorem dX10_mostAt_64 : decode cX10_mostAt 64 = .ok (.iinc 7 1, 3) := dcr zo_dX10_mostAt_53 6 rfl
theorem dX10_mostAt_67 : decode cX10_mostAt 67 = .ok (.goto (-47), 3) := dcr zo_dX10_mostAt_53 7 rfl
theorem dX10_mostAt_70 : decode cX10_mostAt 70 = .ok (.iload 6, 2) := dcr zo_dX10_mostAt_53 8 rfl
theorem dX10_mostAt_72 : decode cX10_mostAt 72 = .ok (.iload 4, 2) := dcr zo_dX10_mostAt_53 9 rfl
theorem dX10_mostAt_74 : decode cX10_mostAt 74 = .ok (.if_icmp .le 8, 3) := dcr zo_dX10_mostAt_53 10 rfl
theorem dX10_mostAt_77 : decode cX10_mostAt 77 = .ok (.iload 5, 2) := dcr zo_dX10_mostAt_53 11 rfl
theorem dX10_mostAt_79 : decode cX10_mostAt 79 = .ok (.goto 4, 3) := dcr zo_dX10_mostAt_53 12 rfl
theorem dX10_mostAt_82 : decode cX10_mostAt 82 = .ok (.iload_n 3, 1) := dcr zo_dX10_mostAt_53 13 rfl
theorem dX10_mostAt_83 : decode cX10_mostAt 83 = .ok (.istore_n 3, 1) := dcr zo_dX10_mostAt_53 14 rfl
theorem dX10_mostAt_84 : decode cX10_mostAt 84 = .ok (.iload 6, 2) := dcr zo_dX10_mostAt_53 15 rfl
theorem zo_dX10_mostAt_86 : ([(86, .iload 4, 2), (88, .if_icmp .le 8, 3), (91, .iload 6, 2), (93, .goto 5, 3), (96, .iload 4, 2), (98, .istore 4, 2), (100, .iinc 5 1, 3), (103, .goto (-95), 3), (106, .iload_n 3, 1), (107, .ireturn, 1)] : List (Nat × Instr × Nat)).all (dOk (decode cX10_mostAt)) = true := by decide +kernel
theorem dX10_mostAt_86 : decode cX10_mostAt 86 = .ok (.iload 4, 2) := dcr zo_dX10_mostAt_86 0 rfl
theorem dX10_mostAt_88 : decode cX10_mostAt 88 = .ok (.if_icmp .le 8, 3) := dcr zo_dX10_mostAt_86 1 rfl
theorem dX10_mostAt_91 : decode cX10_mostAt 91 = .ok (.iload 6, 2) := dcr zo_dX10_mostAt_86 2 rfl
theorem dX10_mostAt_93 : decode cX10_mostAt 93 = .ok (.goto 5, 3) := dcr zo_dX10_mostAt_86 3 rfl
theorem dX10_mostAt_96 : decode cX10_mostAt 96 = .ok (.iload 4, 2) := dcr zo_dX10_mostAt_86 4 rfl
theorem dX10_mostAt_98 : decode cX10_mostAt 98 = .ok (.istore 4, 2) := dcr zo_dX10_mostAt_86 5 rfl
theorem dX10_mostAt_100 : decode cX10_mostAt 100 = .ok (.iinc 5 1, 3) := dcr zo_dX10_mostAt_86 6 rfl
theorem dX10_mostAt_103 : decode cX10_mostAt 103 = .ok (.goto (-95), 3) := dcr zo_dX10_mostAt_86 7 rfl
theorem dX10_mostAt_106 : decode cX10_mostAt 106 = .ok (.iload_n 3, 1) := dcr zo_dX10_mostAt_86 8 rfl
theorem dX10_mostAt_107 : decode cX10_mostAt 107 = .ok (.ireturn, 1) := dcr zo_dX10_mostAt_86 9 rfl
def zt_wsX10_holdsAt : List (List Cond) := [[.code yX10_holdsAt cX10_holdsAt 6 (some .boolean)], [.fieldLink RX10 7 "LastMapModel" "maps" "[I", .methodLink RX10 221 yX10_mostAt, .instanceMethod yX10_mostAt, .selects RX10 yX10_mostAt yX10_mostAt, .initialized RX10, .code yX10_mostAt cX10_mostAt 8 (some .int), .methodLink RX10 91 yX10_signAt, .instanceMethod yX10_signAt, .selects RX10 yX10_signAt yX10_signAt, .code yX10_signAt cX10_signAt 3 (some .int), .fieldLink RX10 16 "LastMapModel" "part" "[I"], wsX100]
theorem zt_wsX10_holdsAt_in : ∀ c ∈ zt_wsX10_holdsAt, ∀ w ∈ c, w ∈ wsX10_holdsAt := List.forall_mem_cons.mpr ⟨fun _ h => List.mem_cons.mpr (Or.inl (List.mem_singleton.mp h)), List.forall_mem_cons.mpr ⟨fun _ h => List.mem_cons_of_mem _ (List.mem_append_left _ (h)), List.forall_mem_cons.mpr ⟨fun _ h => List.mem_cons_of_mem _ (List.mem_append_right _ h), (fun _ h => absurd h List.not_mem_nil)⟩⟩⟩
set_option maxRecDepth 20000 in
theorem zw_wsX10_mostAt : wsX10_mostAt.all goodWord = true := by decide +kernel
set_option maxRecDepth 20000 in
theorem ggX10_holdsAt_X10_mostAt : GoodIn wsX10_holdsAt wsX10_mostAt := goodIn_c zt_wsX10_holdsAt_in _ [(1, 5), (1, 0), (1, 6), (1, 7), (1, 8), (1, 4), (1, 9), (1, 10), (2, 0), (2, 1), (2, 2), (2, 3), (2, 4), (2, 5), (2, 6), (2, 7), (2, 8), (2, 9), (2, 10), (2, 11), (2, 12), (2, 13), (2, 14), (2, 15), (2, 16), (2, 17), (2, 18), (2, 19), (2, 20), (2, 21), (2, 22), (2, 23), (2, 24), (2, 25), (2, 26), (2, 27)] rfl zw_wsX10_mostAt
set_option maxRecDepth 20000 in
theorem gX10_holdsAt_X10_mostAt : GoodIn wsX10_holdsAt (wsV RX10 221 RX10 yX10_mostAt wsX10_mostAt) := goodIn_app (goodIn_of _ (by decide +kernel)) ggX10_holdsAt_X10_mostAt
set_option maxRecDepth 20000 in
theorem ggX10_holdsAt_X10_signAt : GoodIn wsX10_holdsAt wsX10_signAt := goodIn_c zt_wsX10_holdsAt_in _ [(1, 9), (1, 10), (2, 0), (2, 1), (2, 2), (2, 3), (2, 4), (2, 5), (2, 6), (2, 7), (2, 8), (2, 9), (2, 10), (2, 11), (2, 12), (2, 13), (2, 14), (2, 15), (2, 16), (2, 17), (2, 18), (2, 19), (2, 20), (2, 21), (2, 22), (2, 23), (2, 24), (2, 25), (2, 26), (2, 27)] rfl zw_wsX10_signAt
set_option maxRecDepth 20000 in
theorem gX10_holdsAt_X10_signAt : GoodIn wsX10_holdsAt (wsV RX10 91 RX10 yX10_signAt wsX10_signAt) := goodIn_app (goodIn_of _ (by decide +kernel)) ggX10_holdsAt_X10_signAt
theorem zo_dX10_holdsAt_0 : ([(0, .aload_n 0, 1), (1, .iload_n 1, 1), (2, .iload_n 2, 1), (3, .invokevirtual 221, 3), (6, .istore_n 3, 1), (7, .iconst 1, 1), (8, .istore 4, 2), (10, .iconst 0, 1), (11, .istore 5, 2), (13, .iload 5, 2), (15, .bipush 6, 2), (17, .if_icmp .ge 46, 3), (20, .iload 4, 2), (22, .ifCond .eq 32, 3), (25, .iload_n 1, 1), (26, .iload 5, 2)] : List (Nat × Instr × Nat)).all (dOk (decode cX10_holdsAt)) = true := by decide +kernel
theorem dX10_holdsAt_0 : decode cX10_holdsAt 0 = .ok (.aload_n 0, 1) := dcr zo_dX10_holdsAt_0 0 rfl
theorem dX10_holdsAt_1 : decode cX10_holdsAt 1 = .ok (.iload_n 1, 1) := dcr zo_dX10_holdsAt_0 1 rfl
theorem dX10_holdsAt_2 : decode cX10_holdsAt 2 = .ok (.iload_n 2, 1) := dcr zo_dX10_holdsAt_0 2 rfl
theorem dX10_holdsAt_3 : decode cX10_holdsAt 3 = .ok (.invokevirtual 221, 3) := dcr zo_dX10_holdsAt_0 3 rfl
theorem dX10_holdsAt_6 : decode cX10_holdsAt 6 = .ok (.istore_n 3, 1) := dcr zo_dX10_holdsAt_0 4 rfl
theorem dX10_holdsAt_7 : decode cX10_holdsAt 7 = .ok (.iconst 1, 1) := dcr zo_dX10_holdsAt_0 5 rfl
theorem dX10_holdsAt_8 : decode cX10_holdsAt 8 = .ok (.istore 4, 2) := dcr zo_dX10_holdsAt_0 6 rfl
theorem dX10_holdsAt_10 : decode cX10_holdsAt 10 = .ok (.iconst 0, 1) := dcr zo_dX10_holdsAt_0 7 rfl
theorem dX10_holdsAt_11 : decode cX10_holdsAt 11 = .ok (.istore 5, 2) := dcr zo_dX10_holdsAt_0 8 rfl
theorem dX10_holdsAt_13 : decode cX10_holdsAt 13 = .ok (.iload 5, 2) := dcr zo_dX10_holdsAt_0 9 rfl
theorem dX10_holdsAt_15 : decode cX10_holdsAt 15 = .ok (.bipush 6, 2) := dcr zo_dX10_holdsAt_0 10 rfl
theorem dX10_holdsAt_17 : decode cX10_holdsAt 17 = .ok (.if_icmp .ge 46, 3) := dcr zo_dX10_holdsAt_0 11 rfl
theorem dX10_holdsAt_20 : decode cX10_holdsAt 20 = .ok (.iload 4, 2) := dcr zo_dX10_holdsAt_0 12 rfl
theorem dX10_holdsAt_22 : decode cX10_holdsAt 22 = .ok (.ifCond .eq 32, 3) := dcr zo_dX10_holdsAt_0 13 rfl
theorem dX10_holdsAt_25 : decode cX10_holdsAt 25 = .ok (.iload_n 1, 1) := dcr zo_dX10_holdsAt_0 14 rfl
theorem dX10_holdsAt_26 : decode cX10_holdsAt 26 = .ok (.iload 5, 2) := dcr zo_dX10_holdsAt_0 15 rfl
theorem zo_dX10_holdsAt_28 : ([(28, .ishr, 1), (29, .iconst 1, 1), (30, .iand, 1), (31, .ifCond .eq 19, 3), (34, .aload_n 0, 1), (35, .aload_n 0, 1), (36, .getfield 7, 3), (39, .iload 5, 2), (41, .iaload, 1), (42, .iload_n 2, 1), (43, .invokevirtual 91, 3), (46, .iload_n 3, 1), (47, .if_icmp .ne 7, 3), (50, .iconst 1, 1), (51, .goto 4, 3), (54, .iconst 0, 1)] : List (Nat × Instr × Nat)).all (dOk (decode cX10_holdsAt)) = true := by decide +kernel
theorem dX10_holdsAt_28 : decode cX10_holdsAt 28 = .ok (.ishr, 1) := dcr zo_dX10_holdsAt_28 0 rfl
theorem dX10_holdsAt_29 : decode cX10_holdsAt 29 = .ok (.iconst 1, 1) := dcr zo_dX10_holdsAt_28 1 rfl
theorem dX10_holdsAt_30 : decode cX10_holdsAt 30 = .ok (.iand, 1) := dcr zo_dX10_holdsAt_28 2 rfl
theorem dX10_holdsAt_31 : decode cX10_holdsAt 31 = .ok (.ifCond .eq 19, 3) := dcr zo_dX10_holdsAt_28 3 rfl
theorem dX10_holdsAt_34 : decode cX10_holdsAt 34 = .ok (.aload_n 0, 1) := dcr zo_dX10_holdsAt_28 4 rfl
theorem dX10_holdsAt_35 : decode cX10_holdsAt 35 = .ok (.aload_n 0, 1) := dcr zo_dX10_holdsAt_28 5 rfl
theorem dX10_holdsAt_36 : decode cX10_holdsAt 36 = .ok (.getfield 7, 3) := dcr zo_dX10_holdsAt_28 6 rfl
theorem dX10_holdsAt_39 : decode cX10_holdsAt 39 = .ok (.iload 5, 2) := dcr zo_dX10_holdsAt_28 7 rfl
theorem dX10_holdsAt_41 : decode cX10_holdsAt 41 = .ok (.iaload, 1) := dcr zo_dX10_holdsAt_28 8 rfl
theorem dX10_holdsAt_42 : decode cX10_holdsAt 42 = .ok (.iload_n 2, 1) := dcr zo_dX10_holdsAt_28 9 rfl
theorem dX10_holdsAt_43 : decode cX10_holdsAt 43 = .ok (.invokevirtual 91, 3) := dcr zo_dX10_holdsAt_28 10 rfl
theorem dX10_holdsAt_46 : decode cX10_holdsAt 46 = .ok (.iload_n 3, 1) := dcr zo_dX10_holdsAt_28 11 rfl
theorem dX10_holdsAt_47 : decode cX10_holdsAt 47 = .ok (.if_icmp .ne 7, 3) := dcr zo_dX10_holdsAt_28 12 rfl
theorem dX10_holdsAt_50 : decode cX10_holdsAt 50 = .ok (.iconst 1, 1) := dcr zo_dX10_holdsAt_28 13 rfl
theorem dX10_holdsAt_51 : decode cX10_holdsAt 51 = .ok (.goto 4, 3) := dcr zo_dX10_holdsAt_28 14 rfl
theorem dX10_holdsAt_54 : decode cX10_holdsAt 54 = .ok (.iconst 0, 1) := dcr zo_dX10_holdsAt_28 15 rfl
theorem zo_dX10_holdsAt_55 : ([(55, .istore 4, 2), (57, .iinc 5 1, 3), (60, .goto (-47), 3), (63, .iload 4, 2), (65, .ireturn, 1)] : List (Nat × Instr × Nat)).all (dOk (decode cX10_holdsAt)) = true := by decide +kernel
theorem dX10_holdsAt_55 : decode cX10_holdsAt 55 = .ok (.istore 4, 2) := dcr zo_dX10_holdsAt_55 0 rfl
theorem dX10_holdsAt_57 : decode cX10_holdsAt 57 = .ok (.iinc 5 1, 3) := dcr zo_dX10_holdsAt_55 1 rfl
theorem dX10_holdsAt_60 : decode cX10_holdsAt 60 = .ok (.goto (-47), 3) := dcr zo_dX10_holdsAt_55 2 rfl
theorem dX10_holdsAt_63 : decode cX10_holdsAt 63 = .ok (.iload 4, 2) := dcr zo_dX10_holdsAt_55 3 rfl
theorem dX10_holdsAt_65 : decode cX10_holdsAt 65 = .ok (.ireturn, 1) := dcr zo_dX10_holdsAt_55 4 rfl
def zt_wsX10_holds : List (List Cond) := [[.code yX10_holds cX10_holds 5 (some .int)], wsX10_holds_r1, wsX10_holds_r2, wsX100]
theorem zt_wsX10_holds_in : ∀ c ∈ zt_wsX10_holds, ∀ w ∈ c, w ∈ wsX10_holds := List.forall_mem_cons.mpr ⟨fun _ h => List.mem_cons.mpr (Or.inl (List.mem_singleton.mp h)), List.forall_mem_cons.mpr ⟨fun _ h => List.mem_cons_of_mem _ (List.mem_append_left _ (List.mem_append_left _ h)), List.forall_mem_cons.mpr ⟨fun _ h => List.mem_cons_of_mem _ (List.mem_append_left _ (List.mem_append_right _ (h))), List.forall_mem_cons.mpr ⟨fun _ h => List.mem_cons_of_mem _ (List.mem_append_right _ h), (fun _ h => absurd h List.not_mem_nil)⟩⟩⟩⟩
set_option maxRecDepth 20000 in
theorem ggX10_holds_X10_isSite : GoodIn wsX10_holds wsX10_isSite := goodIn_c zt_wsX10_holds_in _ [(1, 6), (1, 1), (1, 7), (1, 8), (1, 5), (1, 9), (3, 0), (3, 1), (3, 2), (3, 3), (3, 4), (3, 5), (3, 6), (3, 7), (3, 8), (3, 9), (3, 10), (3, 11), (3, 12), (3, 13), (3, 14), (3, 15), (3, 16), (3, 17), (3, 18), (3, 19), (3, 20), (3, 21), (3, 22), (3, 23), (3, 24), (3, 25), (3, 26), (3, 27)] rfl zw_wsX10_isSite
set_option maxRecDepth 20000 in
theorem gX10_holds_X10_isSite : GoodIn wsX10_holds (wsV RX10 128 RX10 yX10_isSite wsX10_isSite) := goodIn_app (goodIn_of _ (by decide +kernel)) ggX10_holds_X10_isSite
set_option maxRecDepth 20000 in
theorem ggX10_holds_X10_in : GoodIn wsX10_holds wsX10_in := goodIn_c zt_wsX10_holds_in _ [(1, 9)] rfl zw_wsX10_in
set_option maxRecDepth 20000 in
theorem gX10_holds_X10_in : GoodIn wsX10_holds (va_wsS RX10 79 yX10_in wsX10_in) := goodIn_app (goodIn_of _ (by decide +kernel)) ggX10_holds_X10_in
set_option maxRecDepth 20000 in
theorem ggX10_holds_X10_areTold : GoodIn wsX10_holds wsX10_areTold := goodIn_c zt_wsX10_holds_in _ [(1, 13), (1, 14), (3, 0), (3, 1), (3, 2), (3, 3), (3, 4), (3, 5), (3, 6), (3, 7), (3, 8), (3, 9), (3, 10), (3, 11), (3, 12), (3, 13), (3, 14), (3, 15), (3, 16), (3, 17), (3, 18), (3, 19), (3, 20), (3, 21), (3, 22), (3, 23), (3, 24), (3, 25), (3, 26), (3, 27)] rfl zw_wsX10_areTold
set_option maxRecDepth 20000 in
theorem gX10_holds_X10_areTold : GoodIn wsX10_holds (wsV RX10 205 RX10 yX10_areTold wsX10_areTold) := goodIn_app (goodIn_of _ (by decide +kernel)) ggX10_holds_X10_areTold
set_option maxRecDepth 20000 in
theorem ggX10_holds_X10_mostAt : GoodIn wsX10_holds wsX10_mostAt := goodIn_c zt_wsX10_holds_in _ [(1, 18), (1, 19), (1, 20), (1, 21), (1, 22), (1, 5), (1, 23), (2, 0), (3, 0), (3, 1), (3, 2), (3, 3), (3, 4), (3, 5), (3, 6), (3, 7), (3, 8), (3, 9), (3, 10), (3, 11), (3, 12), (3, 13), (3, 14), (3, 15), (3, 16), (3, 17), (3, 18), (3, 19), (3, 20), (3, 21), (3, 22), (3, 23), (3, 24), (3, 25), (3, 26), (3, 27)] rfl zw_wsX10_mostAt
set_option maxRecDepth 20000 in
theorem gX10_holds_X10_mostAt : GoodIn wsX10_holds (wsV RX10 221 RX10 yX10_mostAt wsX10_mostAt) := goodIn_app (goodIn_of _ (by decide +kernel)) ggX10_holds_X10_mostAt
set_option maxRecDepth 20000 in
theorem ggX10_holds_X10_codeOf : GoodIn wsX10_holds wsX10_codeOf := goodIn_c zt_wsX10_holds_in _ [(2, 3)] rfl zw_wsX10_codeOf
set_option maxRecDepth 20000 in
theorem gX10_holds_X10_codeOf : GoodIn wsX10_holds (va_wsS RX10 134 yX10_codeOf wsX10_codeOf) := goodIn_app (goodIn_of _ (by decide +kernel)) ggX10_holds_X10_codeOf
set_option maxRecDepth 20000 in
theorem zw_wsX10_holdsAt : wsX10_holdsAt.all goodWord = true := by decide +kernel
set_option maxRecDepth 20000 in
theorem ggX10_holds_X10_holdsAt : GoodIn wsX10_holds wsX10_holdsAt := goodIn_c zt_wsX10_holds_in _ [(2, 7), (1, 19), (1, 15), (1, 16), (1, 17), (1, 5), (1, 18), (1, 20), (1, 21), (1, 22), (1, 23), (2, 0), (3, 0), (3, 1), (3, 2), (3, 3), (3, 4), (3, 5), (3, 6), (3, 7), (3, 8), (3, 9), (3, 10), (3, 11), (3, 12), (3, 13), (3, 14), (3, 15), (3, 16), (3, 17), (3, 18), (3, 19), (3, 20), (3, 21), (3, 22), (3, 23), (3, 24), (3, 25), (3, 26), (3, 27)] rfl zw_wsX10_holdsAt
set_option maxRecDepth 20000 in
theorem gX10_holds_X10_holdsAt : GoodIn wsX10_holds (wsV RX10 224 RX10 yX10_holdsAt wsX10_holdsAt) := goodIn_app (goodIn_of _ (by decide +kernel)) ggX10_holds_X10_holdsAt
theorem zo_dX10_holds_0 : ([(0, .iload_n 2, 1), (1, .iconst (-1), 1), (2, .if_icmp .eq 13, 3), (5, .aload_n 0, 1), (6, .iload_n 2, 1), (7, .invokevirtual 128, 3), (10, .ifCond .ne 5, 3), (13, .iconst (-1), 1), (14, .ireturn, 1), (15, .iload_n 1, 1), (16, .i2l, 1), (17, .lconst 1, 1), (18, .ldc2_w 203, 3), (21, .invokestatic 79, 3), (24, .ifCond .ne 6, 3), (27, .bipush (-2), 2)] : List (Nat × Instr × Nat)).all (dOk (decode cX10_holds)) = true := by decide +kernel
theorem dX10_holds_0 : decode cX10_holds 0 = .ok (.iload_n 2, 1) := dcr zo_dX10_holds_0 0 rfl
theorem dX10_holds_1 : decode cX10_holds 1 = .ok (.iconst (-1), 1) := dcr zo_dX10_holds_0 1 rfl
theorem dX10_holds_2 : decode cX10_holds 2 = .ok (.if_icmp .eq 13, 3) := dcr zo_dX10_holds_0 2 rfl
theorem dX10_holds_5 : decode cX10_holds 5 = .ok (.aload_n 0, 1) := dcr zo_dX10_holds_0 3 rfl
theorem dX10_holds_6 : decode cX10_holds 6 = .ok (.iload_n 2, 1) := dcr zo_dX10_holds_0 4 rfl
theorem dX10_holds_7 : decode cX10_holds 7 = .ok (.invokevirtual 128, 3) := dcr zo_dX10_holds_0 5 rfl
theorem dX10_holds_10 : decode cX10_holds 10 = .ok (.ifCond .ne 5, 3) := dcr zo_dX10_holds_0 6 rfl
theorem dX10_holds_13 : decode cX10_holds 13 = .ok (.iconst (-1), 1) := dcr zo_dX10_holds_0 7 rfl
theorem dX10_holds_14 : decode cX10_holds 14 = .ok (.ireturn, 1) := dcr zo_dX10_holds_0 8 rfl
theorem dX10_holds_15 : decode cX10_holds 15 = .ok (.iload_n 1, 1) := dcr zo_dX10_holds_0 9 rfl
theorem dX10_holds_16 : decode cX10_holds 16 = .ok (.i2l, 1) := dcr zo_dX10_holds_0 10 rfl
theorem dX10_holds_17 : decode cX10_holds 17 = .ok (.lconst 1, 1) := dcr zo_dX10_holds_0 11 rfl
theorem dX10_holds_18 : decode cX10_holds 18 = .ok (.ldc2_w 203, 3) := dcr zo_dX10_holds_0 12 rfl
theorem dX10_holds_21 : decode cX10_holds 21 = .ok (.invokestatic 79, 3) := dcr zo_dX10_holds_0 13 rfl
theorem dX10_holds_24 : decode cX10_holds 24 = .ok (.ifCond .ne 6, 3) := dcr zo_dX10_holds_0 14 rfl
theorem dX10_holds_27 : decode cX10_holds 27 = .ok (.bipush (-2), 2) := dcr zo_dX10_holds_0 15 rfl
theorem zo_dX10_holds_29 : ([(29, .ireturn, 1), (30, .aload_n 0, 1), (31, .iload_n 1, 1), (32, .invokevirtual 205, 3), (35, .ifCond .ne 6, 3), (38, .bipush (-3), 2), (40, .ireturn, 1), (41, .iload_n 2, 1), (42, .ifCond .lt 13, 3), (45, .aload_n 0, 1), (46, .iload_n 1, 1), (47, .iload_n 2, 1), (48, .invokevirtual 221, 3), (51, .invokestatic 134, 3), (54, .ireturn, 1), (55, .iconst 0, 1)] : List (Nat × Instr × Nat)).all (dOk (decode cX10_holds)) = true := by decide +kernel
theorem dX10_holds_29 : decode cX10_holds 29 = .ok (.ireturn, 1) := dcr zo_dX10_holds_29 0 rfl
theorem dX10_holds_30 : decode cX10_holds 30 = .ok (.aload_n 0, 1) := dcr zo_dX10_holds_29 1 rfl
theorem dX10_holds_31 : decode cX10_holds 31 = .ok (.iload_n 1, 1) := dcr zo_dX10_holds_29 2 rfl
theorem dX10_holds_32 : decode cX10_holds 32 = .ok (.invokevirtual 205, 3) := dcr zo_dX10_holds_29 3 rfl
theorem dX10_holds_35 : decode cX10_holds 35 = .ok (.ifCond .ne 6, 3) := dcr zo_dX10_holds_29 4 rfl
theorem dX10_holds_38 : decode cX10_holds 38 = .ok (.bipush (-3), 2) := dcr zo_dX10_holds_29 5 rfl
theorem dX10_holds_40 : decode cX10_holds 40 = .ok (.ireturn, 1) := dcr zo_dX10_holds_29 6 rfl
theorem dX10_holds_41 : decode cX10_holds 41 = .ok (.iload_n 2, 1) := dcr zo_dX10_holds_29 7 rfl
theorem dX10_holds_42 : decode cX10_holds 42 = .ok (.ifCond .lt 13, 3) := dcr zo_dX10_holds_29 8 rfl
theorem dX10_holds_45 : decode cX10_holds 45 = .ok (.aload_n 0, 1) := dcr zo_dX10_holds_29 9 rfl
theorem dX10_holds_46 : decode cX10_holds 46 = .ok (.iload_n 1, 1) := dcr zo_dX10_holds_29 10 rfl
theorem dX10_holds_47 : decode cX10_holds 47 = .ok (.iload_n 2, 1) := dcr zo_dX10_holds_29 11 rfl
theorem dX10_holds_48 : decode cX10_holds 48 = .ok (.invokevirtual 221, 3) := dcr zo_dX10_holds_29 12 rfl
theorem dX10_holds_51 : decode cX10_holds 51 = .ok (.invokestatic 134, 3) := dcr zo_dX10_holds_29 13 rfl
theorem dX10_holds_54 : decode cX10_holds 54 = .ok (.ireturn, 1) := dcr zo_dX10_holds_29 14 rfl
theorem dX10_holds_55 : decode cX10_holds 55 = .ok (.iconst 0, 1) := dcr zo_dX10_holds_29 15 rfl
theorem zo_dX10_holds_56 : ([(56, .istore_n 3, 1), (57, .iconst 0, 1), (58, .istore 4, 2), (60, .iload 4, 2), (62, .aload_n 0, 1), (63, .getfield 67, 3), (66, .if_icmp .ge 30, 3), (69, .iload_n 3, 1), (70, .aload_n 0, 1), (71, .iload_n 1, 1), (72, .iload 4, 2), (74, .invokevirtual 224, 3), (77, .ifCond .eq 10, 3), (80, .iconst 1, 1), (81, .iload 4, 2), (83, .ishl, 1)] : List (Nat × Instr × Nat)).all (dOk (decode cX10_holds)) = true := by decide +kernel
theorem dX10_holds_56 : decode cX10_holds 56 = .ok (.istore_n 3, 1) := dcr zo_dX10_holds_56 0 rfl
theorem dX10_holds_57 : decode cX10_holds 57 = .ok (.iconst 0, 1) := dcr zo_dX10_holds_56 1 rfl
theorem dX10_holds_58 : decode cX10_holds 58 = .ok (.istore 4, 2) := dcr zo_dX10_holds_56 2 rfl
theorem dX10_holds_60 : decode cX10_holds 60 = .ok (.iload 4, 2) := dcr zo_dX10_holds_56 3 rfl
theorem dX10_holds_62 : decode cX10_holds 62 = .ok (.aload_n 0, 1) := dcr zo_dX10_holds_56 4 rfl
theorem dX10_holds_63 : decode cX10_holds 63 = .ok (.getfield 67, 3) := dcr zo_dX10_holds_56 5 rfl
theorem dX10_holds_66 : decode cX10_holds 66 = .ok (.if_icmp .ge 30, 3) := dcr zo_dX10_holds_56 6 rfl
theorem dX10_holds_69 : decode cX10_holds 69 = .ok (.iload_n 3, 1) := dcr zo_dX10_holds_56 7 rfl
theorem dX10_holds_70 : decode cX10_holds 70 = .ok (.aload_n 0, 1) := dcr zo_dX10_holds_56 8 rfl
theorem dX10_holds_71 : decode cX10_holds 71 = .ok (.iload_n 1, 1) := dcr zo_dX10_holds_56 9 rfl
theorem dX10_holds_72 : decode cX10_holds 72 = .ok (.iload 4, 2) := dcr zo_dX10_holds_56 10 rfl
theorem dX10_holds_74 : decode cX10_holds 74 = .ok (.invokevirtual 224, 3) := dcr zo_dX10_holds_56 11 rfl
theorem dX10_holds_77 : decode cX10_holds 77 = .ok (.ifCond .eq 10, 3) := dcr zo_dX10_holds_56 12 rfl
theorem dX10_holds_80 : decode cX10_holds 80 = .ok (.iconst 1, 1) := dcr zo_dX10_holds_56 13 rfl
theorem dX10_holds_81 : decode cX10_holds 81 = .ok (.iload 4, 2) := dcr zo_dX10_holds_56 14 rfl
theorem dX10_holds_83 : decode cX10_holds 83 = .ok (.ishl, 1) := dcr zo_dX10_holds_56 15 rfl
theorem zo_dX10_holds_84 : ([(84, .goto 4, 3), (87, .iconst 0, 1), (88, .ior, 1), (89, .istore_n 3, 1), (90, .iinc 4 1, 3), (93, .goto (-33), 3), (96, .iload_n 3, 1), (97, .ireturn, 1)] : List (Nat × Instr × Nat)).all (dOk (decode cX10_holds)) = true := by decide +kernel
theorem dX10_holds_84 : decode cX10_holds 84 = .ok (.goto 4, 3) := dcr zo_dX10_holds_84 0 rfl
theorem dX10_holds_87 : decode cX10_holds 87 = .ok (.iconst 0, 1) := dcr zo_dX10_holds_84 1 rfl
theorem dX10_holds_88 : decode cX10_holds 88 = .ok (.ior, 1) := dcr zo_dX10_holds_84 2 rfl
theorem dX10_holds_89 : decode cX10_holds 89 = .ok (.istore_n 3, 1) := dcr zo_dX10_holds_84 3 rfl
theorem dX10_holds_90 : decode cX10_holds 90 = .ok (.iinc 4 1, 3) := dcr zo_dX10_holds_84 4 rfl
theorem dX10_holds_93 : decode cX10_holds 93 = .ok (.goto (-33), 3) := dcr zo_dX10_holds_84 5 rfl
theorem dX10_holds_96 : decode cX10_holds 96 = .ok (.iload_n 3, 1) := dcr zo_dX10_holds_84 6 rfl
theorem dX10_holds_97 : decode cX10_holds 97 = .ok (.ireturn, 1) := dcr zo_dX10_holds_84 7 rfl
def zt_wsX10_spades : List (List Cond) := [[.code yX10_spades cX10_spades 3 (some .int)], [.constantLong RX10 89 (6), .fieldLink RX10 59 "LastMapModel" "spades" "I", .methodLink RX10 79 yX10_in, .static yX10_in, .initialized RX10, .code yX10_in cX10_in 6 (some .boolean)], wsX100]
theorem zt_wsX10_spades_in : ∀ c ∈ zt_wsX10_spades, ∀ w ∈ c, w ∈ wsX10_spades := List.forall_mem_cons.mpr ⟨fun _ h => List.mem_cons.mpr (Or.inl (List.mem_singleton.mp h)), List.forall_mem_cons.mpr ⟨fun _ h => List.mem_cons_of_mem _ (List.mem_append_left _ (h)), List.forall_mem_cons.mpr ⟨fun _ h => List.mem_cons_of_mem _ (List.mem_append_right _ h), (fun _ h => absurd h List.not_mem_nil)⟩⟩⟩
set_option maxRecDepth 20000 in
theorem ggX10_spades_X10_in : GoodIn wsX10_spades wsX10_in := goodIn_c zt_wsX10_spades_in _ [(1, 5)] rfl zw_wsX10_in
set_option maxRecDepth 20000 in
theorem gX10_spades_X10_in : GoodIn wsX10_spades (va_wsS RX10 79 yX10_in wsX10_in) := goodIn_app (goodIn_of _ (by decide +kernel)) ggX10_spades_X10_in
theorem zo_dX10_spades_0 : ([(0, .iload_n 1, 1), (1, .i2l, 1), (2, .lconst 1, 1), (3, .ldc2_w 89, 3), (6, .invokestatic 79, 3), (9, .ifCond .ne 6, 3), (12, .bipush (-2), 2), (14, .ireturn, 1), (15, .aload_n 0, 1), (16, .getfield 59, 3), (19, .istore_n 2, 1), (20, .aload_n 0, 1), (21, .iload_n 1, 1), (22, .putfield 59, 3), (25, .iload_n 2, 1), (26, .ireturn, 1)] : List (Nat × Instr × Nat)).all (dOk (decode cX10_spades)) = true := by decide +kernel
theorem dX10_spades_0 : decode cX10_spades 0 = .ok (.iload_n 1, 1) := dcr zo_dX10_spades_0 0 rfl
theorem dX10_spades_1 : decode cX10_spades 1 = .ok (.i2l, 1) := dcr zo_dX10_spades_0 1 rfl
theorem dX10_spades_2 : decode cX10_spades 2 = .ok (.lconst 1, 1) := dcr zo_dX10_spades_0 2 rfl
theorem dX10_spades_3 : decode cX10_spades 3 = .ok (.ldc2_w 89, 3) := dcr zo_dX10_spades_0 3 rfl
theorem dX10_spades_6 : decode cX10_spades 6 = .ok (.invokestatic 79, 3) := dcr zo_dX10_spades_0 4 rfl
theorem dX10_spades_9 : decode cX10_spades 9 = .ok (.ifCond .ne 6, 3) := dcr zo_dX10_spades_0 5 rfl
theorem dX10_spades_12 : decode cX10_spades 12 = .ok (.bipush (-2), 2) := dcr zo_dX10_spades_0 6 rfl
theorem dX10_spades_14 : decode cX10_spades 14 = .ok (.ireturn, 1) := dcr zo_dX10_spades_0 7 rfl
theorem dX10_spades_15 : decode cX10_spades 15 = .ok (.aload_n 0, 1) := dcr zo_dX10_spades_0 8 rfl
theorem dX10_spades_16 : decode cX10_spades 16 = .ok (.getfield 59, 3) := dcr zo_dX10_spades_0 9 rfl
theorem dX10_spades_19 : decode cX10_spades 19 = .ok (.istore_n 2, 1) := dcr zo_dX10_spades_0 10 rfl
theorem dX10_spades_20 : decode cX10_spades 20 = .ok (.aload_n 0, 1) := dcr zo_dX10_spades_0 11 rfl
theorem dX10_spades_21 : decode cX10_spades 21 = .ok (.iload_n 1, 1) := dcr zo_dX10_spades_0 12 rfl
theorem dX10_spades_22 : decode cX10_spades 22 = .ok (.putfield 59, 3) := dcr zo_dX10_spades_0 13 rfl
theorem dX10_spades_25 : decode cX10_spades 25 = .ok (.iload_n 2, 1) := dcr zo_dX10_spades_0 14 rfl
theorem dX10_spades_26 : decode cX10_spades 26 = .ok (.ireturn, 1) := dcr zo_dX10_spades_0 15 rfl
def zt_wsX10_land : List (List Cond) := [[.code yX10_land cX10_land 2 (some .int)], [.fieldLink RX10 73 "LastMapModel" "land" "I", .methodLink RX10 128 yX10_isSite, .instanceMethod yX10_isSite, .selects RX10 yX10_isSite yX10_isSite, .initialized RX10, .code yX10_isSite cX10_isSite 2 (some .boolean), .fieldLink RX10 67 "LastMapModel" "sites" "I", .methodLink RX10 79 yX10_in, .static yX10_in, .code yX10_in cX10_in 6 (some .boolean), .methodLink RX10 91 yX10_signAt, .instanceMethod yX10_signAt, .selects RX10 yX10_signAt yX10_signAt, .code yX10_signAt cX10_signAt 3 (some .int), .fieldLink RX10 16 "LastMapModel" "part" "[I", .methodLink RX10 134 yX10_codeOf, .static yX10_codeOf, .code yX10_codeOf cX10_codeOf 1 (some .int)], wsX100]
theorem zt_wsX10_land_in : ∀ c ∈ zt_wsX10_land, ∀ w ∈ c, w ∈ wsX10_land := List.forall_mem_cons.mpr ⟨fun _ h => List.mem_cons.mpr (Or.inl (List.mem_singleton.mp h)), List.forall_mem_cons.mpr ⟨fun _ h => List.mem_cons_of_mem _ (List.mem_append_left _ (h)), List.forall_mem_cons.mpr ⟨fun _ h => List.mem_cons_of_mem _ (List.mem_append_right _ h), (fun _ h => absurd h List.not_mem_nil)⟩⟩⟩
set_option maxRecDepth 20000 in
theorem ggX10_land_X10_isSite : GoodIn wsX10_land wsX10_isSite := goodIn_c zt_wsX10_land_in _ [(1, 5), (1, 6), (1, 7), (1, 8), (1, 4), (1, 9), (2, 0), (2, 1), (2, 2), (2, 3), (2, 4), (2, 5), (2, 6), (2, 7), (2, 8), (2, 9), (2, 10), (2, 11), (2, 12), (2, 13), (2, 14), (2, 15), (2, 16), (2, 17), (2, 18), (2, 19), (2, 20), (2, 21), (2, 22), (2, 23), (2, 24), (2, 25), (2, 26), (2, 27)] rfl zw_wsX10_isSite
set_option maxRecDepth 20000 in
theorem gX10_land_X10_isSite : GoodIn wsX10_land (wsV RX10 128 RX10 yX10_isSite wsX10_isSite) := goodIn_app (goodIn_of _ (by decide +kernel)) ggX10_land_X10_isSite
set_option maxRecDepth 20000 in
theorem ggX10_land_X10_signAt : GoodIn wsX10_land wsX10_signAt := goodIn_c zt_wsX10_land_in _ [(1, 13), (1, 14), (2, 0), (2, 1), (2, 2), (2, 3), (2, 4), (2, 5), (2, 6), (2, 7), (2, 8), (2, 9), (2, 10), (2, 11), (2, 12), (2, 13), (2, 14), (2, 15), (2, 16), (2, 17), (2, 18), (2, 19), (2, 20), (2, 21), (2, 22), (2, 23), (2, 24), (2, 25), (2, 26), (2, 27)] rfl zw_wsX10_signAt
set_option maxRecDepth 20000 in
theorem gX10_land_X10_signAt : GoodIn wsX10_land (wsV RX10 91 RX10 yX10_signAt wsX10_signAt) := goodIn_app (goodIn_of _ (by decide +kernel)) ggX10_land_X10_signAt
set_option maxRecDepth 20000 in
theorem ggX10_land_X10_codeOf : GoodIn wsX10_land wsX10_codeOf := goodIn_c zt_wsX10_land_in _ [(1, 17)] rfl zw_wsX10_codeOf
set_option maxRecDepth 20000 in
theorem gX10_land_X10_codeOf : GoodIn wsX10_land (va_wsS RX10 134 yX10_codeOf wsX10_codeOf) := goodIn_app (goodIn_of _ (by decide +kernel)) ggX10_land_X10_codeOf
theorem zo_dX10_land_0 : ([(0, .aload_n 0, 1), (1, .iload_n 1, 1), (2, .invokevirtual 128, 3), (5, .ifCond .eq 18, 3), (8, .aload_n 0, 1), (9, .aload_n 0, 1), (10, .getfield 73, 3), (13, .iload_n 1, 1), (14, .invokevirtual 91, 3), (17, .invokestatic 134, 3), (20, .goto 4, 3), (23, .iconst (-1), 1), (24, .ireturn, 1)] : List (Nat × Instr × Nat)).all (dOk (decode cX10_land)) = true := by decide +kernel
theorem dX10_land_0 : decode cX10_land 0 = .ok (.aload_n 0, 1) := dcr zo_dX10_land_0 0 rfl
theorem dX10_land_1 : decode cX10_land 1 = .ok (.iload_n 1, 1) := dcr zo_dX10_land_0 1 rfl
theorem dX10_land_2 : decode cX10_land 2 = .ok (.invokevirtual 128, 3) := dcr zo_dX10_land_0 2 rfl
theorem dX10_land_5 : decode cX10_land 5 = .ok (.ifCond .eq 18, 3) := dcr zo_dX10_land_0 3 rfl
theorem dX10_land_8 : decode cX10_land 8 = .ok (.aload_n 0, 1) := dcr zo_dX10_land_0 4 rfl
theorem dX10_land_9 : decode cX10_land 9 = .ok (.aload_n 0, 1) := dcr zo_dX10_land_0 5 rfl
theorem dX10_land_10 : decode cX10_land 10 = .ok (.getfield 73, 3) := dcr zo_dX10_land_0 6 rfl
theorem dX10_land_13 : decode cX10_land 13 = .ok (.iload_n 1, 1) := dcr zo_dX10_land_0 7 rfl
theorem dX10_land_14 : decode cX10_land 14 = .ok (.invokevirtual 91, 3) := dcr zo_dX10_land_0 8 rfl
theorem dX10_land_17 : decode cX10_land 17 = .ok (.invokestatic 134, 3) := dcr zo_dX10_land_0 9 rfl
theorem dX10_land_20 : decode cX10_land 20 = .ok (.goto 4, 3) := dcr zo_dX10_land_0 10 rfl
theorem dX10_land_23 : decode cX10_land 23 = .ok (.iconst (-1), 1) := dcr zo_dX10_land_0 11 rfl
theorem dX10_land_24 : decode cX10_land 24 = .ok (.ireturn, 1) := dcr zo_dX10_land_0 12 rfl
def zt_wsX10_otherThan : List (List Cond) := [[.code yX10_otherThan cX10_otherThan 5 (some .int)], [.fieldLink RX10 67 "LastMapModel" "sites" "I", .methodLink RX10 91 yX10_signAt, .instanceMethod yX10_signAt, .selects RX10 yX10_signAt yX10_signAt, .initialized RX10, .code yX10_signAt cX10_signAt 3 (some .int), .fieldLink RX10 16 "LastMapModel" "part" "[I"], wsX100]
theorem zt_wsX10_otherThan_in : ∀ c ∈ zt_wsX10_otherThan, ∀ w ∈ c, w ∈ wsX10_otherThan := List.forall_mem_cons.mpr ⟨fun _ h => List.mem_cons.mpr (Or.inl (List.mem_singleton.mp h)), List.forall_mem_cons.mpr ⟨fun _ h => List.mem_cons_of_mem _ (List.mem_append_left _ (h)), List.forall_mem_cons.mpr ⟨fun _ h => List.mem_cons_of_mem _ (List.mem_append_right _ h), (fun _ h => absurd h List.not_mem_nil)⟩⟩⟩
set_option maxRecDepth 20000 in
theorem ggX10_otherThan_X10_signAt : GoodIn wsX10_otherThan wsX10_signAt := goodIn_c zt_wsX10_otherThan_in _ [(1, 5), (1, 6), (2, 0), (2, 1), (2, 2), (2, 3), (2, 4), (2, 5), (2, 6), (2, 7), (2, 8), (2, 9), (2, 10), (2, 11), (2, 12), (2, 13), (2, 14), (2, 15), (2, 16), (2, 17), (2, 18), (2, 19), (2, 20), (2, 21), (2, 22), (2, 23), (2, 24), (2, 25), (2, 26), (2, 27)] rfl zw_wsX10_signAt
set_option maxRecDepth 20000 in
theorem gX10_otherThan_X10_signAt : GoodIn wsX10_otherThan (wsV RX10 91 RX10 yX10_signAt wsX10_signAt) := goodIn_app (goodIn_of _ (by decide +kernel)) ggX10_otherThan_X10_signAt
theorem zo_dX10_otherThan_0 : ([(0, .iconst 0, 1), (1, .istore_n 3, 1), (2, .iconst 0, 1), (3, .istore 4, 2), (5, .iload 4, 2), (7, .aload_n 0, 1), (8, .getfield 67, 3), (11, .if_icmp .ge 34, 3), (14, .iload_n 3, 1), (15, .aload_n 0, 1), (16, .iload_n 1, 1), (17, .iload 4, 2), (19, .invokevirtual 91, 3), (22, .aload_n 0, 1), (23, .iload_n 2, 1), (24, .iload 4, 2)] : List (Nat × Instr × Nat)).all (dOk (decode cX10_otherThan)) = true := by decide +kernel
theorem dX10_otherThan_0 : decode cX10_otherThan 0 = .ok (.iconst 0, 1) := dcr zo_dX10_otherThan_0 0 rfl
theorem dX10_otherThan_1 : decode cX10_otherThan 1 = .ok (.istore_n 3, 1) := dcr zo_dX10_otherThan_0 1 rfl
theorem dX10_otherThan_2 : decode cX10_otherThan 2 = .ok (.iconst 0, 1) := dcr zo_dX10_otherThan_0 2 rfl
theorem dX10_otherThan_3 : decode cX10_otherThan 3 = .ok (.istore 4, 2) := dcr zo_dX10_otherThan_0 3 rfl
theorem dX10_otherThan_5 : decode cX10_otherThan 5 = .ok (.iload 4, 2) := dcr zo_dX10_otherThan_0 4 rfl
theorem dX10_otherThan_7 : decode cX10_otherThan 7 = .ok (.aload_n 0, 1) := dcr zo_dX10_otherThan_0 5 rfl
theorem dX10_otherThan_8 : decode cX10_otherThan 8 = .ok (.getfield 67, 3) := dcr zo_dX10_otherThan_0 6 rfl
theorem dX10_otherThan_11 : decode cX10_otherThan 11 = .ok (.if_icmp .ge 34, 3) := dcr zo_dX10_otherThan_0 7 rfl
theorem dX10_otherThan_14 : decode cX10_otherThan 14 = .ok (.iload_n 3, 1) := dcr zo_dX10_otherThan_0 8 rfl
theorem dX10_otherThan_15 : decode cX10_otherThan 15 = .ok (.aload_n 0, 1) := dcr zo_dX10_otherThan_0 9 rfl
theorem dX10_otherThan_16 : decode cX10_otherThan 16 = .ok (.iload_n 1, 1) := dcr zo_dX10_otherThan_0 10 rfl
theorem dX10_otherThan_17 : decode cX10_otherThan 17 = .ok (.iload 4, 2) := dcr zo_dX10_otherThan_0 11 rfl
theorem dX10_otherThan_19 : decode cX10_otherThan 19 = .ok (.invokevirtual 91, 3) := dcr zo_dX10_otherThan_0 12 rfl
theorem dX10_otherThan_22 : decode cX10_otherThan 22 = .ok (.aload_n 0, 1) := dcr zo_dX10_otherThan_0 13 rfl
theorem dX10_otherThan_23 : decode cX10_otherThan 23 = .ok (.iload_n 2, 1) := dcr zo_dX10_otherThan_0 14 rfl
theorem dX10_otherThan_24 : decode cX10_otherThan 24 = .ok (.iload 4, 2) := dcr zo_dX10_otherThan_0 15 rfl
theorem zo_dX10_otherThan_26 : ([(26, .invokevirtual 91, 3), (29, .if_icmp .ne 7, 3), (32, .iconst 0, 1), (33, .goto 4, 3), (36, .iconst 1, 1), (37, .iadd, 1), (38, .istore_n 3, 1), (39, .iinc 4 1, 3), (42, .goto (-37), 3), (45, .iload_n 3, 1), (46, .ireturn, 1)] : List (Nat × Instr × Nat)).all (dOk (decode cX10_otherThan)) = true := by decide +kernel
theorem dX10_otherThan_26 : decode cX10_otherThan 26 = .ok (.invokevirtual 91, 3) := dcr zo_dX10_otherThan_26 0 rfl
theorem dX10_otherThan_29 : decode cX10_otherThan 29 = .ok (.if_icmp .ne 7, 3) := dcr zo_dX10_otherThan_26 1 rfl
theorem dX10_otherThan_32 : decode cX10_otherThan 32 = .ok (.iconst 0, 1) := dcr zo_dX10_otherThan_26 2 rfl
theorem dX10_otherThan_33 : decode cX10_otherThan 33 = .ok (.goto 4, 3) := dcr zo_dX10_otherThan_26 3 rfl
theorem dX10_otherThan_36 : decode cX10_otherThan 36 = .ok (.iconst 1, 1) := dcr zo_dX10_otherThan_26 4 rfl
theorem dX10_otherThan_37 : decode cX10_otherThan 37 = .ok (.iadd, 1) := dcr zo_dX10_otherThan_26 5 rfl
theorem dX10_otherThan_38 : decode cX10_otherThan 38 = .ok (.istore_n 3, 1) := dcr zo_dX10_otherThan_26 6 rfl
theorem dX10_otherThan_39 : decode cX10_otherThan 39 = .ok (.iinc 4 1, 3) := dcr zo_dX10_otherThan_26 7 rfl
theorem dX10_otherThan_42 : decode cX10_otherThan 42 = .ok (.goto (-37), 3) := dcr zo_dX10_otherThan_26 8 rfl
theorem dX10_otherThan_45 : decode cX10_otherThan 45 = .ok (.iload_n 3, 1) := dcr zo_dX10_otherThan_26 9 rfl
theorem dX10_otherThan_46 : decode cX10_otherThan 46 = .ok (.ireturn, 1) := dcr zo_dX10_otherThan_26 10 rfl
def zt_wsX10_years : List (List Cond) := [[.code yX10_years cX10_years 2 (some .int)], wsX10_years_r1, wsX10_years_r2, wsX100]
theorem zt_wsX10_years_in : ∀ c ∈ zt_wsX10_years, ∀ w ∈ c, w ∈ wsX10_years := List.forall_mem_cons.mpr ⟨fun _ h => List.mem_cons.mpr (Or.inl (List.mem_singleton.mp h)), List.forall_mem_cons.mpr ⟨fun _ h => List.mem_cons_of_mem _ (List.mem_append_left _ (List.mem_append_left _ h)), List.forall_mem_cons.mpr ⟨fun _ h => List.mem_cons_of_mem _ (List.mem_append_left _ (List.mem_append_right _ (h))), List.forall_mem_cons.mpr ⟨fun _ h => List.mem_cons_of_mem _ (List.mem_append_right _ h), (fun _ h => absurd h List.not_mem_nil)⟩⟩⟩⟩
set_option maxRecDepth 20000 in
theorem ggX10_years_X10_isMap : GoodIn wsX10_years wsX10_isMap := goodIn_c zt_wsX10_years_in _ [(1, 6), (1, 7), (1, 8), (1, 9), (1, 5), (1, 10)] rfl zw_wsX10_isMap
set_option maxRecDepth 20000 in
theorem gX10_years_X10_isMap : GoodIn wsX10_years (va_wsS RX10 124 yX10_isMap wsX10_isMap) := goodIn_app (goodIn_of _ (by decide +kernel)) ggX10_years_X10_isMap
set_option maxRecDepth 20000 in
theorem ggX10_years_X10_isTold : GoodIn wsX10_years wsX10_isTold := goodIn_c zt_wsX10_years_in _ [(1, 14), (1, 15), (3, 0), (3, 1), (3, 2), (3, 3), (3, 4), (3, 5), (3, 6), (3, 7), (3, 8), (3, 9), (3, 10), (3, 11), (3, 12), (3, 13), (3, 14), (3, 15), (3, 16), (3, 17), (3, 18), (3, 19), (3, 20), (3, 21), (3, 22), (3, 23), (3, 24), (3, 25), (3, 26), (3, 27)] rfl zw_wsX10_isTold
set_option maxRecDepth 20000 in
theorem gX10_years_X10_isTold : GoodIn wsX10_years (wsV RX10 131 RX10 yX10_isTold wsX10_isTold) := goodIn_app (goodIn_of _ (by decide +kernel)) ggX10_years_X10_isTold
set_option maxRecDepth 20000 in
theorem zw_wsX10_otherThan : wsX10_otherThan.all goodWord = true := by decide +kernel
set_option maxRecDepth 20000 in
theorem ggX10_years_X10_otherThan : GoodIn wsX10_years wsX10_otherThan := goodIn_c zt_wsX10_years_in _ [(1, 19), (1, 20), (1, 21), (1, 22), (1, 23), (1, 5), (2, 0), (2, 1), (3, 0), (3, 1), (3, 2), (3, 3), (3, 4), (3, 5), (3, 6), (3, 7), (3, 8), (3, 9), (3, 10), (3, 11), (3, 12), (3, 13), (3, 14), (3, 15), (3, 16), (3, 17), (3, 18), (3, 19), (3, 20), (3, 21), (3, 22), (3, 23), (3, 24), (3, 25), (3, 26), (3, 27)] rfl zw_wsX10_otherThan
set_option maxRecDepth 20000 in
theorem gX10_years_X10_otherThan : GoodIn wsX10_years (wsV RX10 227 RX10 yX10_otherThan wsX10_otherThan) := goodIn_app (goodIn_of _ (by decide +kernel)) ggX10_years_X10_otherThan
theorem zo_dX10_years_0 : ([(0, .iload_n 1, 1), (1, .invokestatic 124, 3), (4, .ifCond .ne 5, 3), (7, .iconst (-1), 1), (8, .ireturn, 1), (9, .aload_n 0, 1), (10, .iload_n 1, 1), (11, .invokevirtual 131, 3), (14, .ifCond .eq 32, 3), (17, .aload_n 0, 1), (18, .aload_n 0, 1), (19, .getfield 73, 3), (22, .aload_n 0, 1), (23, .getfield 7, 3), (26, .iload_n 1, 1), (27, .iaload, 1)] : List (Nat × Instr × Nat)).all (dOk (decode cX10_years)) = true := by decide +kernel
theorem dX10_years_0 : decode cX10_years 0 = .ok (.iload_n 1, 1) := dcr zo_dX10_years_0 0 rfl
theorem dX10_years_1 : decode cX10_years 1 = .ok (.invokestatic 124, 3) := dcr zo_dX10_years_0 1 rfl
theorem dX10_years_4 : decode cX10_years 4 = .ok (.ifCond .ne 5, 3) := dcr zo_dX10_years_0 2 rfl
theorem dX10_years_7 : decode cX10_years 7 = .ok (.iconst (-1), 1) := dcr zo_dX10_years_0 3 rfl
theorem dX10_years_8 : decode cX10_years 8 = .ok (.ireturn, 1) := dcr zo_dX10_years_0 4 rfl
theorem dX10_years_9 : decode cX10_years 9 = .ok (.aload_n 0, 1) := dcr zo_dX10_years_0 5 rfl
theorem dX10_years_10 : decode cX10_years 10 = .ok (.iload_n 1, 1) := dcr zo_dX10_years_0 6 rfl
theorem dX10_years_11 : decode cX10_years 11 = .ok (.invokevirtual 131, 3) := dcr zo_dX10_years_0 7 rfl
theorem dX10_years_14 : decode cX10_years 14 = .ok (.ifCond .eq 32, 3) := dcr zo_dX10_years_0 8 rfl
theorem dX10_years_17 : decode cX10_years 17 = .ok (.aload_n 0, 1) := dcr zo_dX10_years_0 9 rfl
theorem dX10_years_18 : decode cX10_years 18 = .ok (.aload_n 0, 1) := dcr zo_dX10_years_0 10 rfl
theorem dX10_years_19 : decode cX10_years 19 = .ok (.getfield 73, 3) := dcr zo_dX10_years_0 11 rfl
theorem dX10_years_22 : decode cX10_years 22 = .ok (.aload_n 0, 1) := dcr zo_dX10_years_0 12 rfl
theorem dX10_years_23 : decode cX10_years 23 = .ok (.getfield 7, 3) := dcr zo_dX10_years_0 13 rfl
theorem dX10_years_26 : decode cX10_years 26 = .ok (.iload_n 1, 1) := dcr zo_dX10_years_0 14 rfl
theorem dX10_years_27 : decode cX10_years 27 = .ok (.iaload, 1) := dcr zo_dX10_years_0 15 rfl
theorem zo_dX10_years_28 : ([(28, .invokevirtual 227, 3), (31, .aload_n 0, 1), (32, .getfield 59, 3), (35, .iadd, 1), (36, .iconst 1, 1), (37, .isub, 1), (38, .aload_n 0, 1), (39, .getfield 59, 3), (42, .idiv, 1), (43, .goto 5, 3), (46, .bipush (-3), 2), (48, .ireturn, 1)] : List (Nat × Instr × Nat)).all (dOk (decode cX10_years)) = true := by decide +kernel
theorem dX10_years_28 : decode cX10_years 28 = .ok (.invokevirtual 227, 3) := dcr zo_dX10_years_28 0 rfl
theorem dX10_years_31 : decode cX10_years 31 = .ok (.aload_n 0, 1) := dcr zo_dX10_years_28 1 rfl
theorem dX10_years_32 : decode cX10_years 32 = .ok (.getfield 59, 3) := dcr zo_dX10_years_28 2 rfl
theorem dX10_years_35 : decode cX10_years 35 = .ok (.iadd, 1) := dcr zo_dX10_years_28 3 rfl
theorem dX10_years_36 : decode cX10_years 36 = .ok (.iconst 1, 1) := dcr zo_dX10_years_28 4 rfl
theorem dX10_years_37 : decode cX10_years 37 = .ok (.isub, 1) := dcr zo_dX10_years_28 5 rfl
theorem dX10_years_38 : decode cX10_years 38 = .ok (.aload_n 0, 1) := dcr zo_dX10_years_28 6 rfl
theorem dX10_years_39 : decode cX10_years 39 = .ok (.getfield 59, 3) := dcr zo_dX10_years_28 7 rfl
theorem dX10_years_42 : decode cX10_years 42 = .ok (.idiv, 1) := dcr zo_dX10_years_28 8 rfl
theorem dX10_years_43 : decode cX10_years 43 = .ok (.goto 5, 3) := dcr zo_dX10_years_28 9 rfl
theorem dX10_years_46 : decode cX10_years 46 = .ok (.bipush (-3), 2) := dcr zo_dX10_years_28 10 rfl
theorem dX10_years_48 : decode cX10_years 48 = .ok (.ireturn, 1) := dcr zo_dX10_years_28 11 rfl
def zt_wsX10_follow : List (List Cond) := [[.code yX10_follow cX10_follow 6 (some .int)], wsX10_follow_r1, wsX10_follow_r2, wsX100]
theorem zt_wsX10_follow_in : ∀ c ∈ zt_wsX10_follow, ∀ w ∈ c, w ∈ wsX10_follow := List.forall_mem_cons.mpr ⟨fun _ h => List.mem_cons.mpr (Or.inl (List.mem_singleton.mp h)), List.forall_mem_cons.mpr ⟨fun _ h => List.mem_cons_of_mem _ (List.mem_append_left _ (List.mem_append_left _ h)), List.forall_mem_cons.mpr ⟨fun _ h => List.mem_cons_of_mem _ (List.mem_append_left _ (List.mem_append_right _ (h))), List.forall_mem_cons.mpr ⟨fun _ h => List.mem_cons_of_mem _ (List.mem_append_right _ h), (fun _ h => absurd h List.not_mem_nil)⟩⟩⟩⟩
set_option maxRecDepth 20000 in
theorem ggX10_follow_X10_isMap : GoodIn wsX10_follow wsX10_isMap := goodIn_c zt_wsX10_follow_in _ [(1, 8), (1, 9), (1, 10), (1, 11), (1, 7), (1, 12)] rfl zw_wsX10_isMap
set_option maxRecDepth 20000 in
theorem gX10_follow_X10_isMap : GoodIn wsX10_follow (va_wsS RX10 124 yX10_isMap wsX10_isMap) := goodIn_app (goodIn_of _ (by decide +kernel)) ggX10_follow_X10_isMap
set_option maxRecDepth 20000 in
theorem ggX10_follow_X10_in : GoodIn wsX10_follow wsX10_in := goodIn_c zt_wsX10_follow_in _ [(1, 12)] rfl zw_wsX10_in
set_option maxRecDepth 20000 in
theorem gX10_follow_X10_in : GoodIn wsX10_follow (va_wsS RX10 79 yX10_in wsX10_in) := goodIn_app (goodIn_of _ (by decide +kernel)) ggX10_follow_X10_in
set_option maxRecDepth 20000 in
theorem ggX10_follow_X10_isTold : GoodIn wsX10_follow wsX10_isTold := goodIn_c zt_wsX10_follow_in _ [(1, 16), (1, 17), (3, 0), (3, 1), (3, 2), (3, 3), (3, 4), (3, 5), (3, 6), (3, 7), (3, 8), (3, 9), (3, 10), (3, 11), (3, 12), (3, 13), (3, 14), (3, 15), (3, 16), (3, 17), (3, 18), (3, 19), (3, 20), (3, 21), (3, 22), (3, 23), (3, 24), (3, 25), (3, 26), (3, 27)] rfl zw_wsX10_isTold
set_option maxRecDepth 20000 in
theorem gX10_follow_X10_isTold : GoodIn wsX10_follow (wsV RX10 131 RX10 yX10_isTold wsX10_isTold) := goodIn_app (goodIn_of _ (by decide +kernel)) ggX10_follow_X10_isTold
set_option maxRecDepth 20000 in
theorem ggX10_follow_X10_signAt : GoodIn wsX10_follow wsX10_signAt := goodIn_c zt_wsX10_follow_in _ [(1, 21), (1, 22), (3, 0), (3, 1), (3, 2), (3, 3), (3, 4), (3, 5), (3, 6), (3, 7), (3, 8), (3, 9), (3, 10), (3, 11), (3, 12), (3, 13), (3, 14), (3, 15), (3, 16), (3, 17), (3, 18), (3, 19), (3, 20), (3, 21), (3, 22), (3, 23), (3, 24), (3, 25), (3, 26), (3, 27)] rfl zw_wsX10_signAt
set_option maxRecDepth 20000 in
theorem gX10_follow_X10_signAt : GoodIn wsX10_follow (wsV RX10 91 RX10 yX10_signAt wsX10_signAt) := goodIn_app (goodIn_of _ (by decide +kernel)) ggX10_follow_X10_signAt
set_option maxRecDepth 20000 in
theorem ggX10_follow_X10_with : GoodIn wsX10_follow wsX10_with := goodIn_c zt_wsX10_follow_in _ [(2, 2), (1, 22), (1, 18), (1, 19), (1, 20), (1, 7), (1, 21), (3, 0), (3, 1), (3, 2), (3, 3), (3, 4), (3, 5), (3, 6), (3, 7), (3, 8), (3, 9), (3, 10), (3, 11), (3, 12), (3, 13), (3, 14), (3, 15), (3, 16), (3, 17), (3, 18), (3, 19), (3, 20), (3, 21), (3, 22), (3, 23), (3, 24), (3, 25), (3, 26), (3, 27)] rfl zw_wsX10_with
set_option maxRecDepth 20000 in
theorem gX10_follow_X10_with : GoodIn wsX10_follow (wsV RX10 142 RX10 yX10_with wsX10_with) := goodIn_app (goodIn_of _ (by decide +kernel)) ggX10_follow_X10_with
set_option maxRecDepth 20000 in
theorem ggX10_follow_X10_otherThan : GoodIn wsX10_follow wsX10_otherThan := goodIn_c zt_wsX10_follow_in _ [(2, 6), (1, 2), (1, 18), (1, 19), (1, 20), (1, 7), (1, 21), (1, 22), (3, 0), (3, 1), (3, 2), (3, 3), (3, 4), (3, 5), (3, 6), (3, 7), (3, 8), (3, 9), (3, 10), (3, 11), (3, 12), (3, 13), (3, 14), (3, 15), (3, 16), (3, 17), (3, 18), (3, 19), (3, 20), (3, 21), (3, 22), (3, 23), (3, 24), (3, 25), (3, 26), (3, 27)] rfl zw_wsX10_otherThan
set_option maxRecDepth 20000 in
theorem gX10_follow_X10_otherThan : GoodIn wsX10_follow (wsV RX10 227 RX10 yX10_otherThan wsX10_otherThan) := goodIn_app (goodIn_of _ (by decide +kernel)) ggX10_follow_X10_otherThan
theorem zo_dX10_follow_0 : ([(0, .iload_n 1, 1), (1, .invokestatic 124, 3), (4, .ifCond .ne 5, 3), (7, .iconst (-1), 1), (8, .ireturn, 1), (9, .iload_n 2, 1), (10, .i2l, 1), (11, .lconst 0, 1), (12, .ldc2_w 183, 3), (15, .invokestatic 79, 3), (18, .ifCond .ne 6, 3), (21, .bipush (-2), 2), (23, .ireturn, 1), (24, .aload_n 0, 1), (25, .iload_n 1, 1), (26, .invokevirtual 131, 3)] : List (Nat × Instr × Nat)).all (dOk (decode cX10_follow)) = true := by decide +kernel
theorem dX10_follow_0 : decode cX10_follow 0 = .ok (.iload_n 1, 1) := dcr zo_dX10_follow_0 0 rfl
theorem dX10_follow_1 : decode cX10_follow 1 = .ok (.invokestatic 124, 3) := dcr zo_dX10_follow_0 1 rfl
theorem dX10_follow_4 : decode cX10_follow 4 = .ok (.ifCond .ne 5, 3) := dcr zo_dX10_follow_0 2 rfl
theorem dX10_follow_7 : decode cX10_follow 7 = .ok (.iconst (-1), 1) := dcr zo_dX10_follow_0 3 rfl
theorem dX10_follow_8 : decode cX10_follow 8 = .ok (.ireturn, 1) := dcr zo_dX10_follow_0 4 rfl
theorem dX10_follow_9 : decode cX10_follow 9 = .ok (.iload_n 2, 1) := dcr zo_dX10_follow_0 5 rfl
theorem dX10_follow_10 : decode cX10_follow 10 = .ok (.i2l, 1) := dcr zo_dX10_follow_0 6 rfl
theorem dX10_follow_11 : decode cX10_follow 11 = .ok (.lconst 0, 1) := dcr zo_dX10_follow_0 7 rfl
theorem dX10_follow_12 : decode cX10_follow 12 = .ok (.ldc2_w 183, 3) := dcr zo_dX10_follow_0 8 rfl
theorem dX10_follow_15 : decode cX10_follow 15 = .ok (.invokestatic 79, 3) := dcr zo_dX10_follow_0 9 rfl
theorem dX10_follow_18 : decode cX10_follow 18 = .ok (.ifCond .ne 6, 3) := dcr zo_dX10_follow_0 10 rfl
theorem dX10_follow_21 : decode cX10_follow 21 = .ok (.bipush (-2), 2) := dcr zo_dX10_follow_0 11 rfl
theorem dX10_follow_23 : decode cX10_follow 23 = .ok (.ireturn, 1) := dcr zo_dX10_follow_0 12 rfl
theorem dX10_follow_24 : decode cX10_follow 24 = .ok (.aload_n 0, 1) := dcr zo_dX10_follow_0 13 rfl
theorem dX10_follow_25 : decode cX10_follow 25 = .ok (.iload_n 1, 1) := dcr zo_dX10_follow_0 14 rfl
theorem dX10_follow_26 : decode cX10_follow 26 = .ok (.invokevirtual 131, 3) := dcr zo_dX10_follow_0 15 rfl
theorem zo_dX10_follow_29 : ([(29, .ifCond .ne 6, 3), (32, .bipush (-3), 2), (34, .ireturn, 1), (35, .iload_n 2, 1), (36, .aload_n 0, 1), (37, .getfield 59, 3), (40, .imul, 1), (41, .istore_n 3, 1), (42, .iconst 0, 1), (43, .istore 4, 2), (45, .iload 4, 2), (47, .aload_n 0, 1), (48, .getfield 67, 3), (51, .if_icmp .ge 61, 3), (54, .aload_n 0, 1), (55, .aload_n 0, 1)] : List (Nat × Instr × Nat)).all (dOk (decode cX10_follow)) = true := by decide +kernel
theorem dX10_follow_29 : decode cX10_follow 29 = .ok (.ifCond .ne 6, 3) := dcr zo_dX10_follow_29 0 rfl
theorem dX10_follow_32 : decode cX10_follow 32 = .ok (.bipush (-3), 2) := dcr zo_dX10_follow_29 1 rfl
theorem dX10_follow_34 : decode cX10_follow 34 = .ok (.ireturn, 1) := dcr zo_dX10_follow_29 2 rfl
theorem dX10_follow_35 : decode cX10_follow 35 = .ok (.iload_n 2, 1) := dcr zo_dX10_follow_29 3 rfl
theorem dX10_follow_36 : decode cX10_follow 36 = .ok (.aload_n 0, 1) := dcr zo_dX10_follow_29 4 rfl
theorem dX10_follow_37 : decode cX10_follow 37 = .ok (.getfield 59, 3) := dcr zo_dX10_follow_29 5 rfl
theorem dX10_follow_40 : decode cX10_follow 40 = .ok (.imul, 1) := dcr zo_dX10_follow_29 6 rfl
theorem dX10_follow_41 : decode cX10_follow 41 = .ok (.istore_n 3, 1) := dcr zo_dX10_follow_29 7 rfl
theorem dX10_follow_42 : decode cX10_follow 42 = .ok (.iconst 0, 1) := dcr zo_dX10_follow_29 8 rfl
theorem dX10_follow_43 : decode cX10_follow 43 = .ok (.istore 4, 2) := dcr zo_dX10_follow_29 9 rfl
theorem dX10_follow_45 : decode cX10_follow 45 = .ok (.iload 4, 2) := dcr zo_dX10_follow_29 10 rfl
theorem dX10_follow_47 : decode cX10_follow 47 = .ok (.aload_n 0, 1) := dcr zo_dX10_follow_29 11 rfl
theorem dX10_follow_48 : decode cX10_follow 48 = .ok (.getfield 67, 3) := dcr zo_dX10_follow_29 12 rfl
theorem dX10_follow_51 : decode cX10_follow 51 = .ok (.if_icmp .ge 61, 3) := dcr zo_dX10_follow_29 13 rfl
theorem dX10_follow_54 : decode cX10_follow 54 = .ok (.aload_n 0, 1) := dcr zo_dX10_follow_29 14 rfl
theorem dX10_follow_55 : decode cX10_follow 55 = .ok (.aload_n 0, 1) := dcr zo_dX10_follow_29 15 rfl
theorem zo_dX10_follow_56 : ([(56, .getfield 7, 3), (59, .iload_n 1, 1), (60, .iaload, 1), (61, .iload 4, 2), (63, .invokevirtual 91, 3), (66, .istore 5, 2), (68, .iload_n 3, 1), (69, .ifCond .le 37, 3), (72, .aload_n 0, 1), (73, .aload_n 0, 1), (74, .getfield 73, 3), (77, .iload 4, 2), (79, .invokevirtual 91, 3), (82, .iload 5, 2), (84, .if_icmp .eq 22, 3), (87, .aload_n 0, 1)] : List (Nat × Instr × Nat)).all (dOk (decode cX10_follow)) = true := by decide +kernel
theorem dX10_follow_56 : decode cX10_follow 56 = .ok (.getfield 7, 3) := dcr zo_dX10_follow_56 0 rfl
theorem dX10_follow_59 : decode cX10_follow 59 = .ok (.iload_n 1, 1) := dcr zo_dX10_follow_56 1 rfl
theorem dX10_follow_60 : decode cX10_follow 60 = .ok (.iaload, 1) := dcr zo_dX10_follow_56 2 rfl
theorem dX10_follow_61 : decode cX10_follow 61 = .ok (.iload 4, 2) := dcr zo_dX10_follow_56 3 rfl
theorem dX10_follow_63 : decode cX10_follow 63 = .ok (.invokevirtual 91, 3) := dcr zo_dX10_follow_56 4 rfl
theorem dX10_follow_66 : decode cX10_follow 66 = .ok (.istore 5, 2) := dcr zo_dX10_follow_56 5 rfl
theorem dX10_follow_68 : decode cX10_follow 68 = .ok (.iload_n 3, 1) := dcr zo_dX10_follow_56 6 rfl
theorem dX10_follow_69 : decode cX10_follow 69 = .ok (.ifCond .le 37, 3) := dcr zo_dX10_follow_56 7 rfl
theorem dX10_follow_72 : decode cX10_follow 72 = .ok (.aload_n 0, 1) := dcr zo_dX10_follow_56 8 rfl
theorem dX10_follow_73 : decode cX10_follow 73 = .ok (.aload_n 0, 1) := dcr zo_dX10_follow_56 9 rfl
theorem dX10_follow_74 : decode cX10_follow 74 = .ok (.getfield 73, 3) := dcr zo_dX10_follow_56 10 rfl
theorem dX10_follow_77 : decode cX10_follow 77 = .ok (.iload 4, 2) := dcr zo_dX10_follow_56 11 rfl
theorem dX10_follow_79 : decode cX10_follow 79 = .ok (.invokevirtual 91, 3) := dcr zo_dX10_follow_56 12 rfl
theorem dX10_follow_82 : decode cX10_follow 82 = .ok (.iload 5, 2) := dcr zo_dX10_follow_56 13 rfl
theorem dX10_follow_84 : decode cX10_follow 84 = .ok (.if_icmp .eq 22, 3) := dcr zo_dX10_follow_56 14 rfl
theorem dX10_follow_87 : decode cX10_follow 87 = .ok (.aload_n 0, 1) := dcr zo_dX10_follow_56 15 rfl
theorem zo_dX10_follow_88 : ([(88, .aload_n 0, 1), (89, .aload_n 0, 1), (90, .getfield 73, 3), (93, .iload 4, 2), (95, .iload 5, 2), (97, .invokevirtual 142, 3), (100, .putfield 73, 3), (103, .iinc 3 (-1), 3), (106, .iinc 4 1, 3), (109, .goto (-64), 3), (112, .aload_n 0, 1), (113, .aload_n 0, 1), (114, .getfield 73, 3), (117, .aload_n 0, 1), (118, .getfield 7, 3), (121, .iload_n 1, 1)] : List (Nat × Instr × Nat)).all (dOk (decode cX10_follow)) = true := by decide +kernel
theorem dX10_follow_88 : decode cX10_follow 88 = .ok (.aload_n 0, 1) := dcr zo_dX10_follow_88 0 rfl
theorem dX10_follow_89 : decode cX10_follow 89 = .ok (.aload_n 0, 1) := dcr zo_dX10_follow_88 1 rfl
theorem dX10_follow_90 : decode cX10_follow 90 = .ok (.getfield 73, 3) := dcr zo_dX10_follow_88 2 rfl
theorem dX10_follow_93 : decode cX10_follow 93 = .ok (.iload 4, 2) := dcr zo_dX10_follow_88 3 rfl
theorem dX10_follow_95 : decode cX10_follow 95 = .ok (.iload 5, 2) := dcr zo_dX10_follow_88 4 rfl
theorem dX10_follow_97 : decode cX10_follow 97 = .ok (.invokevirtual 142, 3) := dcr zo_dX10_follow_88 5 rfl
theorem dX10_follow_100 : decode cX10_follow 100 = .ok (.putfield 73, 3) := dcr zo_dX10_follow_88 6 rfl
theorem dX10_follow_103 : decode cX10_follow 103 = .ok (.iinc 3 (-1), 3) := dcr zo_dX10_follow_88 7 rfl
theorem dX10_follow_106 : decode cX10_follow 106 = .ok (.iinc 4 1, 3) := dcr zo_dX10_follow_88 8 rfl
theorem dX10_follow_109 : decode cX10_follow 109 = .ok (.goto (-64), 3) := dcr zo_dX10_follow_88 9 rfl
theorem dX10_follow_112 : decode cX10_follow 112 = .ok (.aload_n 0, 1) := dcr zo_dX10_follow_88 10 rfl
theorem dX10_follow_113 : decode cX10_follow 113 = .ok (.aload_n 0, 1) := dcr zo_dX10_follow_88 11 rfl
theorem dX10_follow_114 : decode cX10_follow 114 = .ok (.getfield 73, 3) := dcr zo_dX10_follow_88 12 rfl
theorem dX10_follow_117 : decode cX10_follow 117 = .ok (.aload_n 0, 1) := dcr zo_dX10_follow_88 13 rfl
theorem dX10_follow_118 : decode cX10_follow 118 = .ok (.getfield 7, 3) := dcr zo_dX10_follow_88 14 rfl
theorem dX10_follow_121 : decode cX10_follow 121 = .ok (.iload_n 1, 1) := dcr zo_dX10_follow_88 15 rfl
theorem zo_dX10_follow_122 : ([(122, .iaload, 1), (123, .invokevirtual 227, 3), (126, .ireturn, 1)] : List (Nat × Instr × Nat)).all (dOk (decode cX10_follow)) = true := by decide +kernel
theorem dX10_follow_122 : decode cX10_follow 122 = .ok (.iaload, 1) := dcr zo_dX10_follow_122 0 rfl
theorem dX10_follow_123 : decode cX10_follow 123 = .ok (.invokevirtual 227, 3) := dcr zo_dX10_follow_122 1 rfl
theorem dX10_follow_126 : decode cX10_follow 126 = .ok (.ireturn, 1) := dcr zo_dX10_follow_122 2 rfl
def zt_wsX10_slipsFrom : List (List Cond) := [[.code yX10_slipsFrom cX10_slipsFrom 8 (some .int)], wsX10_slipsFrom_r1, wsX10_slipsFrom_r2, wsX100]
theorem zt_wsX10_slipsFrom_in : ∀ c ∈ zt_wsX10_slipsFrom, ∀ w ∈ c, w ∈ wsX10_slipsFrom := List.forall_mem_cons.mpr ⟨fun _ h => List.mem_cons.mpr (Or.inl (List.mem_singleton.mp h)), List.forall_mem_cons.mpr ⟨fun _ h => List.mem_cons_of_mem _ (List.mem_append_left _ (List.mem_append_left _ h)), List.forall_mem_cons.mpr ⟨fun _ h => List.mem_cons_of_mem _ (List.mem_append_left _ (List.mem_append_right _ (h))), List.forall_mem_cons.mpr ⟨fun _ h => List.mem_cons_of_mem _ (List.mem_append_right _ h), (fun _ h => absurd h List.not_mem_nil)⟩⟩⟩⟩
set_option maxRecDepth 20000 in
theorem ggX10_slipsFrom_X10_slipsThere : GoodIn wsX10_slipsFrom wsX10_slipsThere := goodIn_c zt_wsX10_slipsFrom_in _ [(1, 5), (1, 6), (3, 0), (3, 1), (3, 2), (3, 3), (3, 4), (3, 5), (3, 6), (3, 7), (3, 8), (3, 9), (3, 10), (3, 11), (3, 12), (3, 13), (3, 14), (3, 15), (3, 16), (3, 17), (3, 18), (3, 19), (3, 20), (3, 21), (3, 22), (3, 23), (3, 24), (3, 25), (3, 26), (3, 27)] rfl zw_wsX10_slipsThere
set_option maxRecDepth 20000 in
theorem gX10_slipsFrom_X10_slipsThere : GoodIn wsX10_slipsFrom (wsV RX10 161 RX10 yX10_slipsThere wsX10_slipsThere) := goodIn_app (goodIn_of _ (by decide +kernel)) ggX10_slipsFrom_X10_slipsThere
set_option maxRecDepth 20000 in
theorem ggX10_slipsFrom_X10_slipAt : GoodIn wsX10_slipsFrom wsX10_slipAt := goodIn_c zt_wsX10_slipsFrom_in _ [(1, 10), (1, 6), (3, 0), (3, 1), (3, 2), (3, 3), (3, 4), (3, 5), (3, 6), (3, 7), (3, 8), (3, 9), (3, 10), (3, 11), (3, 12), (3, 13), (3, 14), (3, 15), (3, 16), (3, 17), (3, 18), (3, 19), (3, 20), (3, 21), (3, 22), (3, 23), (3, 24), (3, 25), (3, 26), (3, 27)] rfl zw_wsX10_slipAt
set_option maxRecDepth 20000 in
theorem gX10_slipsFrom_X10_slipAt : GoodIn wsX10_slipsFrom (wsV RX10 164 RX10 yX10_slipAt wsX10_slipAt) := goodIn_app (goodIn_of _ (by decide +kernel)) ggX10_slipsFrom_X10_slipAt
set_option maxRecDepth 20000 in
theorem ggX10_slipsFrom_X10_makes : GoodIn wsX10_slipsFrom wsX10_makes := goodIn_c zt_wsX10_slipsFrom_in _ [(1, 13)] rfl zw_wsX10_makes
set_option maxRecDepth 20000 in
theorem gX10_slipsFrom_X10_makes : GoodIn wsX10_slipsFrom (va_wsS RX10 167 yX10_makes wsX10_makes) := goodIn_app (goodIn_of _ (by decide +kernel)) ggX10_slipsFrom_X10_makes
set_option maxRecDepth 20000 in
theorem ggX10_slipsFrom_X10_slipped : GoodIn wsX10_slipsFrom wsX10_slipped := goodIn_c zt_wsX10_slipsFrom_in _ [(1, 17), (1, 18), (1, 19), (1, 20), (1, 4), (1, 21), (1, 22), (1, 23), (2, 0), (2, 1), (2, 2), (3, 0), (3, 1), (3, 2), (3, 3), (3, 4), (3, 5), (3, 6), (3, 7), (3, 8), (3, 9), (3, 10), (3, 11), (3, 12), (3, 13), (3, 14), (3, 15), (3, 16), (3, 17), (3, 18), (3, 19), (3, 20), (3, 21), (3, 22), (3, 23), (3, 24), (3, 25), (3, 26), (3, 27)] rfl zw_wsX10_slipped
set_option maxRecDepth 20000 in
theorem gX10_slipsFrom_X10_slipped : GoodIn wsX10_slipsFrom (wsV RX10 152 RX10 yX10_slipped wsX10_slipped) := goodIn_app (goodIn_of _ (by decide +kernel)) ggX10_slipsFrom_X10_slipped
theorem zo_dX10_slipsFrom_0 : ([(0, .iconst 0, 1), (1, .istore 4, 2), (3, .aload_n 0, 1), (4, .invokevirtual 161, 3), (7, .istore 5, 2), (9, .iconst 0, 1), (10, .istore 6, 2), (12, .iload 6, 2), (14, .iload 5, 2), (16, .if_icmp .ge 64, 3), (19, .aload_n 0, 1), (20, .iload 6, 2), (22, .invokevirtual 164, 3), (25, .istore 7, 2), (27, .iload_n 2, 1), (28, .iload 7, 2)] : List (Nat × Instr × Nat)).all (dOk (decode cX10_slipsFrom)) = true := by decide +kernel
theorem dX10_slipsFrom_0 : decode cX10_slipsFrom 0 = .ok (.iconst 0, 1) := dcr zo_dX10_slipsFrom_0 0 rfl
theorem dX10_slipsFrom_1 : decode cX10_slipsFrom 1 = .ok (.istore 4, 2) := dcr zo_dX10_slipsFrom_0 1 rfl
theorem dX10_slipsFrom_3 : decode cX10_slipsFrom 3 = .ok (.aload_n 0, 1) := dcr zo_dX10_slipsFrom_0 2 rfl
theorem dX10_slipsFrom_4 : decode cX10_slipsFrom 4 = .ok (.invokevirtual 161, 3) := dcr zo_dX10_slipsFrom_0 3 rfl
theorem dX10_slipsFrom_7 : decode cX10_slipsFrom 7 = .ok (.istore 5, 2) := dcr zo_dX10_slipsFrom_0 4 rfl
theorem dX10_slipsFrom_9 : decode cX10_slipsFrom 9 = .ok (.iconst 0, 1) := dcr zo_dX10_slipsFrom_0 5 rfl
theorem dX10_slipsFrom_10 : decode cX10_slipsFrom 10 = .ok (.istore 6, 2) := dcr zo_dX10_slipsFrom_0 6 rfl
theorem dX10_slipsFrom_12 : decode cX10_slipsFrom 12 = .ok (.iload 6, 2) := dcr zo_dX10_slipsFrom_0 7 rfl
theorem dX10_slipsFrom_14 : decode cX10_slipsFrom 14 = .ok (.iload 5, 2) := dcr zo_dX10_slipsFrom_0 8 rfl
theorem dX10_slipsFrom_16 : decode cX10_slipsFrom 16 = .ok (.if_icmp .ge 64, 3) := dcr zo_dX10_slipsFrom_0 9 rfl
theorem dX10_slipsFrom_19 : decode cX10_slipsFrom 19 = .ok (.aload_n 0, 1) := dcr zo_dX10_slipsFrom_0 10 rfl
theorem dX10_slipsFrom_20 : decode cX10_slipsFrom 20 = .ok (.iload 6, 2) := dcr zo_dX10_slipsFrom_0 11 rfl
theorem dX10_slipsFrom_22 : decode cX10_slipsFrom 22 = .ok (.invokevirtual 164, 3) := dcr zo_dX10_slipsFrom_0 12 rfl
theorem dX10_slipsFrom_25 : decode cX10_slipsFrom 25 = .ok (.istore 7, 2) := dcr zo_dX10_slipsFrom_0 13 rfl
theorem dX10_slipsFrom_27 : decode cX10_slipsFrom 27 = .ok (.iload_n 2, 1) := dcr zo_dX10_slipsFrom_0 14 rfl
theorem dX10_slipsFrom_28 : decode cX10_slipsFrom 28 = .ok (.iload 7, 2) := dcr zo_dX10_slipsFrom_0 15 rfl
theorem zo_dX10_slipsFrom_30 : ([(30, .invokestatic 167, 3), (33, .ifCond .eq 41, 3), (36, .aload_n 0, 1), (37, .iload_n 1, 1), (38, .iload 7, 2), (40, .invokevirtual 152, 3), (43, .iload_n 1, 1), (44, .if_icmp .eq 30, 3), (47, .aload_n 0, 1), (48, .iload 4, 2), (50, .iload_n 3, 1), (51, .if_icmp .ne 13, 3), (54, .aload_n 0, 1), (55, .iload_n 1, 1), (56, .iload 7, 2), (58, .invokevirtual 152, 3)] : List (Nat × Instr × Nat)).all (dOk (decode cX10_slipsFrom)) = true := by decide +kernel
theorem dX10_slipsFrom_30 : decode cX10_slipsFrom 30 = .ok (.invokestatic 167, 3) := dcr zo_dX10_slipsFrom_30 0 rfl
theorem dX10_slipsFrom_33 : decode cX10_slipsFrom 33 = .ok (.ifCond .eq 41, 3) := dcr zo_dX10_slipsFrom_30 1 rfl
theorem dX10_slipsFrom_36 : decode cX10_slipsFrom 36 = .ok (.aload_n 0, 1) := dcr zo_dX10_slipsFrom_30 2 rfl
theorem dX10_slipsFrom_37 : decode cX10_slipsFrom 37 = .ok (.iload_n 1, 1) := dcr zo_dX10_slipsFrom_30 3 rfl
theorem dX10_slipsFrom_38 : decode cX10_slipsFrom 38 = .ok (.iload 7, 2) := dcr zo_dX10_slipsFrom_30 4 rfl
theorem dX10_slipsFrom_40 : decode cX10_slipsFrom 40 = .ok (.invokevirtual 152, 3) := dcr zo_dX10_slipsFrom_30 5 rfl
theorem dX10_slipsFrom_43 : decode cX10_slipsFrom 43 = .ok (.iload_n 1, 1) := dcr zo_dX10_slipsFrom_30 6 rfl
theorem dX10_slipsFrom_44 : decode cX10_slipsFrom 44 = .ok (.if_icmp .eq 30, 3) := dcr zo_dX10_slipsFrom_30 7 rfl
theorem dX10_slipsFrom_47 : decode cX10_slipsFrom 47 = .ok (.aload_n 0, 1) := dcr zo_dX10_slipsFrom_30 8 rfl
theorem dX10_slipsFrom_48 : decode cX10_slipsFrom 48 = .ok (.iload 4, 2) := dcr zo_dX10_slipsFrom_30 9 rfl
theorem dX10_slipsFrom_50 : decode cX10_slipsFrom 50 = .ok (.iload_n 3, 1) := dcr zo_dX10_slipsFrom_30 10 rfl
theorem dX10_slipsFrom_51 : decode cX10_slipsFrom 51 = .ok (.if_icmp .ne 13, 3) := dcr zo_dX10_slipsFrom_30 11 rfl
theorem dX10_slipsFrom_54 : decode cX10_slipsFrom 54 = .ok (.aload_n 0, 1) := dcr zo_dX10_slipsFrom_30 12 rfl
theorem dX10_slipsFrom_55 : decode cX10_slipsFrom 55 = .ok (.iload_n 1, 1) := dcr zo_dX10_slipsFrom_30 13 rfl
theorem dX10_slipsFrom_56 : decode cX10_slipsFrom 56 = .ok (.iload 7, 2) := dcr zo_dX10_slipsFrom_30 14 rfl
theorem dX10_slipsFrom_58 : decode cX10_slipsFrom 58 = .ok (.invokevirtual 152, 3) := dcr zo_dX10_slipsFrom_30 15 rfl
theorem zo_dX10_slipsFrom_61 : ([(61, .goto 7, 3), (64, .aload_n 0, 1), (65, .getfield 149, 3), (68, .putfield 149, 3), (71, .iinc 4 1, 3), (74, .iinc 6 1, 3), (77, .goto (-65), 3), (80, .iload 4, 2), (82, .ireturn, 1)] : List (Nat × Instr × Nat)).all (dOk (decode cX10_slipsFrom)) = true := by decide +kernel
theorem dX10_slipsFrom_61 : decode cX10_slipsFrom 61 = .ok (.goto 7, 3) := dcr zo_dX10_slipsFrom_61 0 rfl
theorem dX10_slipsFrom_64 : decode cX10_slipsFrom 64 = .ok (.aload_n 0, 1) := dcr zo_dX10_slipsFrom_61 1 rfl
theorem dX10_slipsFrom_65 : decode cX10_slipsFrom 65 = .ok (.getfield 149, 3) := dcr zo_dX10_slipsFrom_61 2 rfl
theorem dX10_slipsFrom_68 : decode cX10_slipsFrom 68 = .ok (.putfield 149, 3) := dcr zo_dX10_slipsFrom_61 3 rfl
theorem dX10_slipsFrom_71 : decode cX10_slipsFrom 71 = .ok (.iinc 4 1, 3) := dcr zo_dX10_slipsFrom_61 4 rfl
theorem dX10_slipsFrom_74 : decode cX10_slipsFrom 74 = .ok (.iinc 6 1, 3) := dcr zo_dX10_slipsFrom_61 5 rfl
theorem dX10_slipsFrom_77 : decode cX10_slipsFrom 77 = .ok (.goto (-65), 3) := dcr zo_dX10_slipsFrom_61 6 rfl
theorem dX10_slipsFrom_80 : decode cX10_slipsFrom 80 = .ok (.iload 4, 2) := dcr zo_dX10_slipsFrom_61 7 rfl
theorem dX10_slipsFrom_82 : decode cX10_slipsFrom 82 = .ok (.ireturn, 1) := dcr zo_dX10_slipsFrom_61 8 rfl
def zt_wsX10_drawn : List (List Cond) := [[.code yX10_drawn cX10_drawn 10 (some .int)], wsX10_drawn_r1, wsX10_drawn_r2, wsX10_drawn_r3, wsX100]
theorem zt_wsX10_drawn_in : ∀ c ∈ zt_wsX10_drawn, ∀ w ∈ c, w ∈ wsX10_drawn := List.forall_mem_cons.mpr ⟨fun _ h => List.mem_cons.mpr (Or.inl (List.mem_singleton.mp h)), List.forall_mem_cons.mpr ⟨fun _ h => List.mem_cons_of_mem _ (List.mem_append_left _ (List.mem_append_left _ h)), List.forall_mem_cons.mpr ⟨fun _ h => List.mem_cons_of_mem _ (List.mem_append_left _ (List.mem_append_right _ (List.mem_append_left _ h))), List.forall_mem_cons.mpr ⟨fun _ h => List.mem_cons_of_mem _ (List.mem_append_left _ (List.mem_append_right _ (List.mem_append_right _ (h)))), List.forall_mem_cons.mpr ⟨fun _ h => List.mem_cons_of_mem _ (List.mem_append_right _ h), (fun _ h => absurd h List.not_mem_nil)⟩⟩⟩⟩⟩
set_option maxRecDepth 20000 in
theorem ggX10_drawn_X10_isMap : GoodIn wsX10_drawn wsX10_isMap := goodIn_c zt_wsX10_drawn_in _ [(1, 11), (1, 12), (1, 13), (1, 14), (1, 10), (1, 15)] rfl zw_wsX10_isMap
set_option maxRecDepth 20000 in
theorem gX10_drawn_X10_isMap : GoodIn wsX10_drawn (va_wsS RX10 124 yX10_isMap wsX10_isMap) := goodIn_app (goodIn_of _ (by decide +kernel)) ggX10_drawn_X10_isMap
set_option maxRecDepth 20000 in
theorem ggX10_drawn_X10_isHand : GoodIn wsX10_drawn wsX10_isHand := goodIn_c zt_wsX10_drawn_in _ [(1, 18), (1, 19), (1, 13), (1, 14), (1, 10), (1, 15)] rfl zw_wsX10_isHand
set_option maxRecDepth 20000 in
theorem gX10_drawn_X10_isHand : GoodIn wsX10_drawn (va_wsS RX10 137 yX10_isHand wsX10_isHand) := goodIn_app (goodIn_of _ (by decide +kernel)) ggX10_drawn_X10_isHand
set_option maxRecDepth 20000 in
theorem ggX10_drawn_X10_isSite : GoodIn wsX10_drawn wsX10_isSite := goodIn_c zt_wsX10_drawn_in _ [(1, 23), (2, 0), (1, 13), (1, 14), (1, 10), (1, 15), (4, 0), (4, 1), (4, 2), (4, 3), (4, 4), (4, 5), (4, 6), (4, 7), (4, 8), (4, 9), (4, 10), (4, 11), (4, 12), (4, 13), (4, 14), (4, 15), (4, 16), (4, 17), (4, 18), (4, 19), (4, 20), (4, 21), (4, 22), (4, 23), (4, 24), (4, 25), (4, 26), (4, 27)] rfl zw_wsX10_isSite
set_option maxRecDepth 20000 in
theorem gX10_drawn_X10_isSite : GoodIn wsX10_drawn (wsV RX10 128 RX10 yX10_isSite wsX10_isSite) := goodIn_app (goodIn_of _ (by decide +kernel)) ggX10_drawn_X10_isSite
set_option maxRecDepth 20000 in
theorem ggX10_drawn_X10_in : GoodIn wsX10_drawn wsX10_in := goodIn_c zt_wsX10_drawn_in _ [(1, 15)] rfl zw_wsX10_in
set_option maxRecDepth 20000 in
theorem gX10_drawn_X10_in : GoodIn wsX10_drawn (va_wsS RX10 79 yX10_in wsX10_in) := goodIn_app (goodIn_of _ (by decide +kernel)) ggX10_drawn_X10_in
set_option maxRecDepth 20000 in
theorem ggX10_drawn_X10_isTold : GoodIn wsX10_drawn wsX10_isTold := goodIn_c zt_wsX10_drawn_in _ [(2, 4), (2, 5), (4, 0), (4, 1), (4, 2), (4, 3), (4, 4), (4, 5), (4, 6), (4, 7), (4, 8), (4, 9), (4, 10), (4, 11), (4, 12), (4, 13), (4, 14), (4, 15), (4, 16), (4, 17), (4, 18), (4, 19), (4, 20), (4, 21), (4, 22), (4, 23), (4, 24), (4, 25), (4, 26), (4, 27)] rfl zw_wsX10_isTold
set_option maxRecDepth 20000 in
theorem gX10_drawn_X10_isTold : GoodIn wsX10_drawn (wsV RX10 131 RX10 yX10_isTold wsX10_isTold) := goodIn_app (goodIn_of _ (by decide +kernel)) ggX10_drawn_X10_isTold
set_option maxRecDepth 20000 in
theorem zw_wsX10_slipsFrom : wsX10_slipsFrom.all goodWord = true := by decide +kernel
set_option maxRecDepth 20000 in
theorem ggX10_drawn_X10_slipsFrom : GoodIn wsX10_drawn wsX10_slipsFrom := goodIn_c zt_wsX10_drawn_in _ [(2, 9), (1, 7), (2, 10), (2, 11), (2, 12), (1, 10), (2, 13), (2, 0), (2, 14), (2, 15), (2, 16), (2, 17), (2, 18), (2, 19), (2, 20), (2, 21), (2, 22), (2, 23), (3, 0), (3, 1), (3, 2), (3, 3), (3, 4), (3, 5), (3, 6), (3, 7), (3, 8), (3, 9), (4, 0), (4, 1), (4, 2), (4, 3), (4, 4), (4, 5), (4, 6), (4, 7), (4, 8), (4, 9), (4, 10), (4, 11), (4, 12), (4, 13), (4, 14), (4, 15), (4, 16), (4, 17), (4, 18), (4, 19), (4, 20), (4, 21), (4, 22), (4, 23), (4, 24), (4, 25), (4, 26), (4, 27)] rfl zw_wsX10_slipsFrom
set_option maxRecDepth 20000 in
theorem gX10_drawn_X10_slipsFrom : GoodIn wsX10_drawn (wsV RX10 240 RX10 yX10_slipsFrom wsX10_slipsFrom) := goodIn_app (goodIn_of _ (by decide +kernel)) ggX10_drawn_X10_slipsFrom
set_option maxRecDepth 20000 in
theorem ggX10_drawn_X10_otherThan : GoodIn wsX10_drawn wsX10_otherThan := goodIn_c zt_wsX10_drawn_in _ [(3, 13), (2, 0), (3, 1), (3, 2), (3, 3), (1, 10), (3, 4), (3, 5), (4, 0), (4, 1), (4, 2), (4, 3), (4, 4), (4, 5), (4, 6), (4, 7), (4, 8), (4, 9), (4, 10), (4, 11), (4, 12), (4, 13), (4, 14), (4, 15), (4, 16), (4, 17), (4, 18), (4, 19), (4, 20), (4, 21), (4, 22), (4, 23), (4, 24), (4, 25), (4, 26), (4, 27)] rfl zw_wsX10_otherThan
set_option maxRecDepth 20000 in
theorem gX10_drawn_X10_otherThan : GoodIn wsX10_drawn (wsV RX10 227 RX10 yX10_otherThan wsX10_otherThan) := goodIn_app (goodIn_of _ (by decide +kernel)) ggX10_drawn_X10_otherThan
set_option maxRecDepth 20000 in
theorem ggX10_drawn_X10_signAt : GoodIn wsX10_drawn wsX10_signAt := goodIn_c zt_wsX10_drawn_in _ [(3, 4), (3, 5), (4, 0), (4, 1), (4, 2), (4, 3), (4, 4), (4, 5), (4, 6), (4, 7), (4, 8), (4, 9), (4, 10), (4, 11), (4, 12), (4, 13), (4, 14), (4, 15), (4, 16), (4, 17), (4, 18), (4, 19), (4, 20), (4, 21), (4, 22), (4, 23), (4, 24), (4, 25), (4, 26), (4, 27)] rfl zw_wsX10_signAt
set_option maxRecDepth 20000 in
theorem gX10_drawn_X10_signAt : GoodIn wsX10_drawn (wsV RX10 91 RX10 yX10_signAt wsX10_signAt) := goodIn_app (goodIn_of _ (by decide +kernel)) ggX10_drawn_X10_signAt
set_option maxRecDepth 20000 in
theorem ggX10_drawn_X10_codeOf : GoodIn wsX10_drawn wsX10_codeOf := goodIn_c zt_wsX10_drawn_in _ [(3, 16)] rfl zw_wsX10_codeOf
set_option maxRecDepth 20000 in
theorem gX10_drawn_X10_codeOf : GoodIn wsX10_drawn (va_wsS RX10 134 yX10_codeOf wsX10_codeOf) := goodIn_app (goodIn_of _ (by decide +kernel)) ggX10_drawn_X10_codeOf
theorem zo_dX10_drawn_0 : ([(0, .iload_n 2, 1), (1, .invokestatic 124, 3), (4, .ifCond .eq 25, 3), (7, .iload_n 3, 1), (8, .invokestatic 137, 3), (11, .ifCond .eq 18, 3), (14, .iload 5, 2), (16, .iconst (-1), 1), (17, .if_icmp .eq 14, 3), (20, .aload_n 0, 1), (21, .iload 5, 2), (23, .invokevirtual 128, 3), (26, .ifCond .ne 5, 3), (29, .iconst (-1), 1), (30, .ireturn, 1), (31, .iload_n 1, 1)] : List (Nat × Instr × Nat)).all (dOk (decode cX10_drawn)) = true := by decide +kernel
theorem dX10_drawn_0 : decode cX10_drawn 0 = .ok (.iload_n 2, 1) := dcr zo_dX10_drawn_0 0 rfl
theorem dX10_drawn_1 : decode cX10_drawn 1 = .ok (.invokestatic 124, 3) := dcr zo_dX10_drawn_0 1 rfl
theorem dX10_drawn_4 : decode cX10_drawn 4 = .ok (.ifCond .eq 25, 3) := dcr zo_dX10_drawn_0 2 rfl
theorem dX10_drawn_7 : decode cX10_drawn 7 = .ok (.iload_n 3, 1) := dcr zo_dX10_drawn_0 3 rfl
theorem dX10_drawn_8 : decode cX10_drawn 8 = .ok (.invokestatic 137, 3) := dcr zo_dX10_drawn_0 4 rfl
theorem dX10_drawn_11 : decode cX10_drawn 11 = .ok (.ifCond .eq 18, 3) := dcr zo_dX10_drawn_0 5 rfl
theorem dX10_drawn_14 : decode cX10_drawn 14 = .ok (.iload 5, 2) := dcr zo_dX10_drawn_0 6 rfl
theorem dX10_drawn_16 : decode cX10_drawn 16 = .ok (.iconst (-1), 1) := dcr zo_dX10_drawn_0 7 rfl
theorem dX10_drawn_17 : decode cX10_drawn 17 = .ok (.if_icmp .eq 14, 3) := dcr zo_dX10_drawn_0 8 rfl
theorem dX10_drawn_20 : decode cX10_drawn 20 = .ok (.aload_n 0, 1) := dcr zo_dX10_drawn_0 9 rfl
theorem dX10_drawn_21 : decode cX10_drawn 21 = .ok (.iload 5, 2) := dcr zo_dX10_drawn_0 10 rfl
theorem dX10_drawn_23 : decode cX10_drawn 23 = .ok (.invokevirtual 128, 3) := dcr zo_dX10_drawn_0 11 rfl
theorem dX10_drawn_26 : decode cX10_drawn 26 = .ok (.ifCond .ne 5, 3) := dcr zo_dX10_drawn_0 12 rfl
theorem dX10_drawn_29 : decode cX10_drawn 29 = .ok (.iconst (-1), 1) := dcr zo_dX10_drawn_0 13 rfl
theorem dX10_drawn_30 : decode cX10_drawn 30 = .ok (.ireturn, 1) := dcr zo_dX10_drawn_0 14 rfl
theorem dX10_drawn_31 : decode cX10_drawn 31 = .ok (.iload_n 1, 1) := dcr zo_dX10_drawn_0 15 rfl
theorem zo_dX10_drawn_32 : ([(32, .i2l, 1), (33, .lconst 0, 1), (34, .ldc2_w 230, 3), (37, .invokestatic 79, 3), (40, .ifCond .eq 16, 3), (43, .iload 4, 2), (45, .i2l, 1), (46, .lconst 0, 1), (47, .ldc2_w 232, 3), (50, .invokestatic 79, 3), (53, .ifCond .ne 6, 3), (56, .bipush (-2), 2), (58, .ireturn, 1), (59, .aload_n 0, 1), (60, .iload_n 2, 1), (61, .invokevirtual 131, 3)] : List (Nat × Instr × Nat)).all (dOk (decode cX10_drawn)) = true := by decide +kernel
theorem dX10_drawn_32 : decode cX10_drawn 32 = .ok (.i2l, 1) := dcr zo_dX10_drawn_32 0 rfl
theorem dX10_drawn_33 : decode cX10_drawn 33 = .ok (.lconst 0, 1) := dcr zo_dX10_drawn_32 1 rfl
theorem dX10_drawn_34 : decode cX10_drawn 34 = .ok (.ldc2_w 230, 3) := dcr zo_dX10_drawn_32 2 rfl
theorem dX10_drawn_37 : decode cX10_drawn 37 = .ok (.invokestatic 79, 3) := dcr zo_dX10_drawn_32 3 rfl
theorem dX10_drawn_40 : decode cX10_drawn 40 = .ok (.ifCond .eq 16, 3) := dcr zo_dX10_drawn_32 4 rfl
theorem dX10_drawn_43 : decode cX10_drawn 43 = .ok (.iload 4, 2) := dcr zo_dX10_drawn_32 5 rfl
theorem dX10_drawn_45 : decode cX10_drawn 45 = .ok (.i2l, 1) := dcr zo_dX10_drawn_32 6 rfl
theorem dX10_drawn_46 : decode cX10_drawn 46 = .ok (.lconst 0, 1) := dcr zo_dX10_drawn_32 7 rfl
theorem dX10_drawn_47 : decode cX10_drawn 47 = .ok (.ldc2_w 232, 3) := dcr zo_dX10_drawn_32 8 rfl
theorem dX10_drawn_50 : decode cX10_drawn 50 = .ok (.invokestatic 79, 3) := dcr zo_dX10_drawn_32 9 rfl
theorem dX10_drawn_53 : decode cX10_drawn 53 = .ok (.ifCond .ne 6, 3) := dcr zo_dX10_drawn_32 10 rfl
theorem dX10_drawn_56 : decode cX10_drawn 56 = .ok (.bipush (-2), 2) := dcr zo_dX10_drawn_32 11 rfl
theorem dX10_drawn_58 : decode cX10_drawn 58 = .ok (.ireturn, 1) := dcr zo_dX10_drawn_32 12 rfl
theorem dX10_drawn_59 : decode cX10_drawn 59 = .ok (.aload_n 0, 1) := dcr zo_dX10_drawn_32 13 rfl
theorem dX10_drawn_60 : decode cX10_drawn 60 = .ok (.iload_n 2, 1) := dcr zo_dX10_drawn_32 14 rfl
theorem dX10_drawn_61 : decode cX10_drawn 61 = .ok (.invokevirtual 131, 3) := dcr zo_dX10_drawn_32 15 rfl
theorem zo_dX10_drawn_64 : ([(64, .ifCond .ne 6, 3), (67, .bipush (-3), 2), (69, .ireturn, 1), (70, .aload_n 0, 1), (71, .getfield 7, 3), (74, .iload_n 2, 1), (75, .iaload, 1), (76, .istore 6, 2), (78, .iload_n 1, 1), (79, .istore 7, 2), (81, .iconst 0, 1), (82, .istore 8, 2), (84, .iload 8, 2), (86, .iload 4, 2), (88, .if_icmp .ge 72, 3), (91, .ldc2_w 234, 3)] : List (Nat × Instr × Nat)).all (dOk (decode cX10_drawn)) = true := by decide +kernel
theorem dX10_drawn_64 : decode cX10_drawn 64 = .ok (.ifCond .ne 6, 3) := dcr zo_dX10_drawn_64 0 rfl
theorem dX10_drawn_67 : decode cX10_drawn 67 = .ok (.bipush (-3), 2) := dcr zo_dX10_drawn_64 1 rfl
theorem dX10_drawn_69 : decode cX10_drawn 69 = .ok (.ireturn, 1) := dcr zo_dX10_drawn_64 2 rfl
theorem dX10_drawn_70 : decode cX10_drawn 70 = .ok (.aload_n 0, 1) := dcr zo_dX10_drawn_64 3 rfl
theorem dX10_drawn_71 : decode cX10_drawn 71 = .ok (.getfield 7, 3) := dcr zo_dX10_drawn_64 4 rfl
theorem dX10_drawn_74 : decode cX10_drawn 74 = .ok (.iload_n 2, 1) := dcr zo_dX10_drawn_64 5 rfl
theorem dX10_drawn_75 : decode cX10_drawn 75 = .ok (.iaload, 1) := dcr zo_dX10_drawn_64 6 rfl
theorem dX10_drawn_76 : decode cX10_drawn 76 = .ok (.istore 6, 2) := dcr zo_dX10_drawn_64 7 rfl
theorem dX10_drawn_78 : decode cX10_drawn 78 = .ok (.iload_n 1, 1) := dcr zo_dX10_drawn_64 8 rfl
theorem dX10_drawn_79 : decode cX10_drawn 79 = .ok (.istore 7, 2) := dcr zo_dX10_drawn_64 9 rfl
theorem dX10_drawn_81 : decode cX10_drawn 81 = .ok (.iconst 0, 1) := dcr zo_dX10_drawn_64 10 rfl
theorem dX10_drawn_82 : decode cX10_drawn 82 = .ok (.istore 8, 2) := dcr zo_dX10_drawn_64 11 rfl
theorem dX10_drawn_84 : decode cX10_drawn 84 = .ok (.iload 8, 2) := dcr zo_dX10_drawn_64 12 rfl
theorem dX10_drawn_86 : decode cX10_drawn 86 = .ok (.iload 4, 2) := dcr zo_dX10_drawn_64 13 rfl
theorem dX10_drawn_88 : decode cX10_drawn 88 = .ok (.if_icmp .ge 72, 3) := dcr zo_dX10_drawn_64 14 rfl
theorem dX10_drawn_91 : decode cX10_drawn 91 = .ok (.ldc2_w 234, 3) := dcr zo_dX10_drawn_64 15 rfl
theorem zo_dX10_drawn_94 : ([(94, .iload 7, 2), (96, .i2l, 1), (97, .lmul, 1), (98, .ldc2_w 236, 3), (101, .ladd, 1), (102, .ldc2_w 238, 3), (105, .lrem, 1), (106, .l2i, 1), (107, .istore 7, 2), (109, .aload_n 0, 1), (110, .iload 6, 2), (112, .aload_n 0, 1), (113, .getfield 13, 3), (116, .iload_n 3, 1), (117, .iaload, 1), (118, .bipush (-6), 2)] : List (Nat × Instr × Nat)).all (dOk (decode cX10_drawn)) = true := by decide +kernel
theorem dX10_drawn_94 : decode cX10_drawn 94 = .ok (.iload 7, 2) := dcr zo_dX10_drawn_94 0 rfl
theorem dX10_drawn_96 : decode cX10_drawn 96 = .ok (.i2l, 1) := dcr zo_dX10_drawn_94 1 rfl
theorem dX10_drawn_97 : decode cX10_drawn 97 = .ok (.lmul, 1) := dcr zo_dX10_drawn_94 2 rfl
theorem dX10_drawn_98 : decode cX10_drawn 98 = .ok (.ldc2_w 236, 3) := dcr zo_dX10_drawn_94 3 rfl
theorem dX10_drawn_101 : decode cX10_drawn 101 = .ok (.ladd, 1) := dcr zo_dX10_drawn_94 4 rfl
theorem dX10_drawn_102 : decode cX10_drawn 102 = .ok (.ldc2_w 238, 3) := dcr zo_dX10_drawn_94 5 rfl
theorem dX10_drawn_105 : decode cX10_drawn 105 = .ok (.lrem, 1) := dcr zo_dX10_drawn_94 6 rfl
theorem dX10_drawn_106 : decode cX10_drawn 106 = .ok (.l2i, 1) := dcr zo_dX10_drawn_94 7 rfl
theorem dX10_drawn_107 : decode cX10_drawn 107 = .ok (.istore 7, 2) := dcr zo_dX10_drawn_94 8 rfl
theorem dX10_drawn_109 : decode cX10_drawn 109 = .ok (.aload_n 0, 1) := dcr zo_dX10_drawn_94 9 rfl
theorem dX10_drawn_110 : decode cX10_drawn 110 = .ok (.iload 6, 2) := dcr zo_dX10_drawn_94 10 rfl
theorem dX10_drawn_112 : decode cX10_drawn 112 = .ok (.aload_n 0, 1) := dcr zo_dX10_drawn_94 11 rfl
theorem dX10_drawn_113 : decode cX10_drawn 113 = .ok (.getfield 13, 3) := dcr zo_dX10_drawn_94 12 rfl
theorem dX10_drawn_116 : decode cX10_drawn 116 = .ok (.iload_n 3, 1) := dcr zo_dX10_drawn_94 13 rfl
theorem dX10_drawn_117 : decode cX10_drawn 117 = .ok (.iaload, 1) := dcr zo_dX10_drawn_94 14 rfl
theorem dX10_drawn_118 : decode cX10_drawn 118 = .ok (.bipush (-6), 2) := dcr zo_dX10_drawn_94 15 rfl
theorem zo_dX10_drawn_120 : ([(120, .invokevirtual 240, 3), (123, .istore 9, 2), (125, .iload 9, 2), (127, .ifCond .le 27, 3), (130, .aload_n 0, 1), (131, .iload 6, 2), (133, .aload_n 0, 1), (134, .getfield 13, 3), (137, .iload_n 3, 1), (138, .iaload, 1), (139, .iload 7, 2), (141, .iload 9, 2), (143, .irem, 1), (144, .invokevirtual 240, 3), (147, .pop, 1), (148, .aload_n 0, 1)] : List (Nat × Instr × Nat)).all (dOk (decode cX10_drawn)) = true := by decide +kernel
theorem dX10_drawn_120 : decode cX10_drawn 120 = .ok (.invokevirtual 240, 3) := dcr zo_dX10_drawn_120 0 rfl
theorem dX10_drawn_123 : decode cX10_drawn 123 = .ok (.istore 9, 2) := dcr zo_dX10_drawn_120 1 rfl
theorem dX10_drawn_125 : decode cX10_drawn 125 = .ok (.iload 9, 2) := dcr zo_dX10_drawn_120 2 rfl
theorem dX10_drawn_127 : decode cX10_drawn 127 = .ok (.ifCond .le 27, 3) := dcr zo_dX10_drawn_120 3 rfl
theorem dX10_drawn_130 : decode cX10_drawn 130 = .ok (.aload_n 0, 1) := dcr zo_dX10_drawn_120 4 rfl
theorem dX10_drawn_131 : decode cX10_drawn 131 = .ok (.iload 6, 2) := dcr zo_dX10_drawn_120 5 rfl
theorem dX10_drawn_133 : decode cX10_drawn 133 = .ok (.aload_n 0, 1) := dcr zo_dX10_drawn_120 6 rfl
theorem dX10_drawn_134 : decode cX10_drawn 134 = .ok (.getfield 13, 3) := dcr zo_dX10_drawn_120 7 rfl
theorem dX10_drawn_137 : decode cX10_drawn 137 = .ok (.iload_n 3, 1) := dcr zo_dX10_drawn_120 8 rfl
theorem dX10_drawn_138 : decode cX10_drawn 138 = .ok (.iaload, 1) := dcr zo_dX10_drawn_120 9 rfl
theorem dX10_drawn_139 : decode cX10_drawn 139 = .ok (.iload 7, 2) := dcr zo_dX10_drawn_120 10 rfl
theorem dX10_drawn_141 : decode cX10_drawn 141 = .ok (.iload 9, 2) := dcr zo_dX10_drawn_120 11 rfl
theorem dX10_drawn_143 : decode cX10_drawn 143 = .ok (.irem, 1) := dcr zo_dX10_drawn_120 12 rfl
theorem dX10_drawn_144 : decode cX10_drawn 144 = .ok (.invokevirtual 240, 3) := dcr zo_dX10_drawn_120 13 rfl
theorem dX10_drawn_147 : decode cX10_drawn 147 = .ok (.pop, 1) := dcr zo_dX10_drawn_120 14 rfl
theorem dX10_drawn_148 : decode cX10_drawn 148 = .ok (.aload_n 0, 1) := dcr zo_dX10_drawn_120 15 rfl
theorem zo_dX10_drawn_149 : ([(149, .getfield 149, 3), (152, .istore 6, 2), (154, .iinc 8 1, 3), (157, .goto (-73), 3), (160, .iload 5, 2), (162, .iconst (-1), 1), (163, .if_icmp .ne 18, 3), (166, .aload_n 0, 1), (167, .iload 6, 2), (169, .aload_n 0, 1), (170, .getfield 7, 3), (173, .iload_n 2, 1), (174, .iaload, 1), (175, .invokevirtual 227, 3), (178, .goto 14, 3), (181, .aload_n 0, 1)] : List (Nat × Instr × Nat)).all (dOk (decode cX10_drawn)) = true := by decide +kernel
theorem dX10_drawn_149 : decode cX10_drawn 149 = .ok (.getfield 149, 3) := dcr zo_dX10_drawn_149 0 rfl
theorem dX10_drawn_152 : decode cX10_drawn 152 = .ok (.istore 6, 2) := dcr zo_dX10_drawn_149 1 rfl
theorem dX10_drawn_154 : decode cX10_drawn 154 = .ok (.iinc 8 1, 3) := dcr zo_dX10_drawn_149 2 rfl
theorem dX10_drawn_157 : decode cX10_drawn 157 = .ok (.goto (-73), 3) := dcr zo_dX10_drawn_149 3 rfl
theorem dX10_drawn_160 : decode cX10_drawn 160 = .ok (.iload 5, 2) := dcr zo_dX10_drawn_149 4 rfl
theorem dX10_drawn_162 : decode cX10_drawn 162 = .ok (.iconst (-1), 1) := dcr zo_dX10_drawn_149 5 rfl
theorem dX10_drawn_163 : decode cX10_drawn 163 = .ok (.if_icmp .ne 18, 3) := dcr zo_dX10_drawn_149 6 rfl
theorem dX10_drawn_166 : decode cX10_drawn 166 = .ok (.aload_n 0, 1) := dcr zo_dX10_drawn_149 7 rfl
theorem dX10_drawn_167 : decode cX10_drawn 167 = .ok (.iload 6, 2) := dcr zo_dX10_drawn_149 8 rfl
theorem dX10_drawn_169 : decode cX10_drawn 169 = .ok (.aload_n 0, 1) := dcr zo_dX10_drawn_149 9 rfl
theorem dX10_drawn_170 : decode cX10_drawn 170 = .ok (.getfield 7, 3) := dcr zo_dX10_drawn_149 10 rfl
theorem dX10_drawn_173 : decode cX10_drawn 173 = .ok (.iload_n 2, 1) := dcr zo_dX10_drawn_149 11 rfl
theorem dX10_drawn_174 : decode cX10_drawn 174 = .ok (.iaload, 1) := dcr zo_dX10_drawn_149 12 rfl
theorem dX10_drawn_175 : decode cX10_drawn 175 = .ok (.invokevirtual 227, 3) := dcr zo_dX10_drawn_149 13 rfl
theorem dX10_drawn_178 : decode cX10_drawn 178 = .ok (.goto 14, 3) := dcr zo_dX10_drawn_149 14 rfl
theorem dX10_drawn_181 : decode cX10_drawn 181 = .ok (.aload_n 0, 1) := dcr zo_dX10_drawn_149 15 rfl
theorem zo_dX10_drawn_182 : ([(182, .iload 6, 2), (184, .iload 5, 2), (186, .invokevirtual 91, 3), (189, .invokestatic 134, 3), (192, .ireturn, 1)] : List (Nat × Instr × Nat)).all (dOk (decode cX10_drawn)) = true := by decide +kernel
theorem dX10_drawn_182 : decode cX10_drawn 182 = .ok (.iload 6, 2) := dcr zo_dX10_drawn_182 0 rfl
theorem dX10_drawn_184 : decode cX10_drawn 184 = .ok (.iload 5, 2) := dcr zo_dX10_drawn_182 1 rfl
theorem dX10_drawn_186 : decode cX10_drawn 186 = .ok (.invokevirtual 91, 3) := dcr zo_dX10_drawn_182 2 rfl
theorem dX10_drawn_189 : decode cX10_drawn 189 = .ok (.invokestatic 134, 3) := dcr zo_dX10_drawn_182 3 rfl
theorem dX10_drawn_192 : decode cX10_drawn 192 = .ok (.ireturn, 1) := dcr zo_dX10_drawn_182 4 rfl
theorem zo_dX10_pass_0 : ([(0, .aload_n 0, 1), (1, .getfield 243, 3), (4, .ifCond .eq 7, 3), (7, .iload_n 1, 1), (8, .goto 12, 3), (11, .aload_n 0, 1), (12, .getfield 52, 3), (15, .aload_n 0, 1), (16, .getfield 247, 3), (19, .iaload, 1), (20, .istore_n 2, 1), (21, .aload_n 0, 1), (22, .getfield 52, 3), (25, .aload_n 0, 1), (26, .getfield 247, 3), (29, .iload_n 2, 1)] : List (Nat × Instr × Nat)).all (dOk (decode cX10_pass)) = true := by decide +kernel
theorem dX10_pass_0 : decode cX10_pass 0 = .ok (.aload_n 0, 1) := dcr zo_dX10_pass_0 0 rfl
theorem dX10_pass_1 : decode cX10_pass 1 = .ok (.getfield 243, 3) := dcr zo_dX10_pass_0 1 rfl
theorem dX10_pass_4 : decode cX10_pass 4 = .ok (.ifCond .eq 7, 3) := dcr zo_dX10_pass_0 2 rfl
theorem dX10_pass_7 : decode cX10_pass 7 = .ok (.iload_n 1, 1) := dcr zo_dX10_pass_0 3 rfl
theorem dX10_pass_8 : decode cX10_pass 8 = .ok (.goto 12, 3) := dcr zo_dX10_pass_0 4 rfl
theorem dX10_pass_11 : decode cX10_pass 11 = .ok (.aload_n 0, 1) := dcr zo_dX10_pass_0 5 rfl
theorem dX10_pass_12 : decode cX10_pass 12 = .ok (.getfield 52, 3) := dcr zo_dX10_pass_0 6 rfl
theorem dX10_pass_15 : decode cX10_pass 15 = .ok (.aload_n 0, 1) := dcr zo_dX10_pass_0 7 rfl
theorem dX10_pass_16 : decode cX10_pass 16 = .ok (.getfield 247, 3) := dcr zo_dX10_pass_0 8 rfl
theorem dX10_pass_19 : decode cX10_pass 19 = .ok (.iaload, 1) := dcr zo_dX10_pass_0 9 rfl
theorem dX10_pass_20 : decode cX10_pass 20 = .ok (.istore_n 2, 1) := dcr zo_dX10_pass_0 10 rfl
theorem dX10_pass_21 : decode cX10_pass 21 = .ok (.aload_n 0, 1) := dcr zo_dX10_pass_0 11 rfl
theorem dX10_pass_22 : decode cX10_pass 22 = .ok (.getfield 52, 3) := dcr zo_dX10_pass_0 12 rfl
theorem dX10_pass_25 : decode cX10_pass 25 = .ok (.aload_n 0, 1) := dcr zo_dX10_pass_0 13 rfl
theorem dX10_pass_26 : decode cX10_pass 26 = .ok (.getfield 247, 3) := dcr zo_dX10_pass_0 14 rfl
theorem dX10_pass_29 : decode cX10_pass 29 = .ok (.iload_n 2, 1) := dcr zo_dX10_pass_0 15 rfl
theorem zo_dX10_pass_30 : ([(30, .iastore, 1), (31, .aload_n 0, 1), (32, .dup, 1), (33, .getfield 247, 3), (36, .iconst 1, 1), (37, .iadd, 1), (38, .putfield 247, 3), (41, .iload_n 2, 1), (42, .ireturn, 1)] : List (Nat × Instr × Nat)).all (dOk (decode cX10_pass)) = true := by decide +kernel
theorem dX10_pass_30 : decode cX10_pass 30 = .ok (.iastore, 1) := dcr zo_dX10_pass_30 0 rfl
theorem dX10_pass_31 : decode cX10_pass 31 = .ok (.aload_n 0, 1) := dcr zo_dX10_pass_30 1 rfl
theorem dX10_pass_32 : decode cX10_pass 32 = .ok (.dup, 1) := dcr zo_dX10_pass_30 2 rfl
theorem dX10_pass_33 : decode cX10_pass 33 = .ok (.getfield 247, 3) := dcr zo_dX10_pass_30 3 rfl
theorem dX10_pass_36 : decode cX10_pass 36 = .ok (.iconst 1, 1) := dcr zo_dX10_pass_30 4 rfl
theorem dX10_pass_37 : decode cX10_pass 37 = .ok (.iadd, 1) := dcr zo_dX10_pass_30 5 rfl
theorem dX10_pass_38 : decode cX10_pass 38 = .ok (.putfield 247, 3) := dcr zo_dX10_pass_30 6 rfl
theorem dX10_pass_41 : decode cX10_pass 41 = .ok (.iload_n 2, 1) := dcr zo_dX10_pass_30 7 rfl
theorem dX10_pass_42 : decode cX10_pass 42 = .ok (.ireturn, 1) := dcr zo_dX10_pass_30 8 rfl
def zt_wsX10_passAll : List (List Cond) := [[.code yX10_passAll cX10_passAll 2 none], [.fieldLink RX10 67 "LastMapModel" "sites" "I", .fieldLink RX10 70 "LastMapModel" "told" "I", .fieldLink RX10 73 "LastMapModel" "land" "I", .fieldLink RX10 59 "LastMapModel" "spades" "I", .fieldLink RX10 7 "LastMapModel" "maps" "[I", .fieldLink RX10 13 "LastMapModel" "kinds" "[I", .methodLink RX10 250 yX10_pass, .instanceMethod yX10_pass, .selects RX10 yX10_pass yX10_pass, .initialized RX10, .code yX10_pass cX10_pass 3 (some .int), .fieldLink RX10 243 "LastMapModel" "isWriting" "Z", .fieldLink RX10 52 "LastMapModel" "kept" "[I", .fieldLink RX10 247 "LastMapModel" "keptAt" "I", .methodLink RX10 76 yX10_findParts, .instanceMethod yX10_findParts, .selects RX10 yX10_findParts yX10_findParts, .code yX10_findParts cX10_findParts 3 none, .fieldLink RX10 16 "LastMapModel" "part" "[I"], wsX100]
theorem zt_wsX10_passAll_in : ∀ c ∈ zt_wsX10_passAll, ∀ w ∈ c, w ∈ wsX10_passAll := List.forall_mem_cons.mpr ⟨fun _ h => List.mem_cons.mpr (Or.inl (List.mem_singleton.mp h)), List.forall_mem_cons.mpr ⟨fun _ h => List.mem_cons_of_mem _ (List.mem_append_left _ (h)), List.forall_mem_cons.mpr ⟨fun _ h => List.mem_cons_of_mem _ (List.mem_append_right _ h), (fun _ h => absurd h List.not_mem_nil)⟩⟩⟩
set_option maxRecDepth 20000 in
theorem zw_wsX10_pass : wsX10_pass.all goodWord = true := by decide +kernel
set_option maxRecDepth 20000 in
theorem ggX10_passAll_X10_pass : GoodIn wsX10_passAll wsX10_pass := goodIn_c zt_wsX10_passAll_in _ [(1, 10), (1, 11), (1, 12), (1, 13), (2, 0), (2, 1), (2, 2), (2, 3), (2, 4), (2, 5), (2, 6), (2, 7), (2, 8), (2, 9), (2, 10), (2, 11), (2, 12), (2, 13), (2, 14), (2, 15), (2, 16), (2, 17), (2, 18), (2, 19), (2, 20), (2, 21), (2, 22), (2, 23), (2, 24), (2, 25), (2, 26), (2, 27)] rfl zw_wsX10_pass
set_option maxRecDepth 20000 in
theorem gX10_passAll_X10_pass : GoodIn wsX10_passAll (wsV RX10 250 RX10 yX10_pass wsX10_pass) := goodIn_app (goodIn_of _ (by decide +kernel)) ggX10_passAll_X10_pass
set_option maxRecDepth 20000 in
theorem ggX10_passAll_X10_findParts : GoodIn wsX10_passAll wsX10_findParts := goodIn_c zt_wsX10_passAll_in _ [(1, 17), (1, 0), (1, 18), (2, 0), (2, 1), (2, 2), (2, 3), (2, 4), (2, 5), (2, 6), (2, 7), (2, 8), (2, 9), (2, 10), (2, 11), (2, 12), (2, 13), (2, 14), (2, 15), (2, 16), (2, 17), (2, 18), (2, 19), (2, 20), (2, 21), (2, 22), (2, 23), (2, 24), (2, 25), (2, 26), (2, 27)] rfl zw_wsX10_findParts
set_option maxRecDepth 20000 in
theorem gX10_passAll_X10_findParts : GoodIn wsX10_passAll (wsV RX10 76 RX10 yX10_findParts wsX10_findParts) := goodIn_app (goodIn_of _ (by decide +kernel)) ggX10_passAll_X10_findParts
theorem zo_dX10_passAll_0 : ([(0, .aload_n 0, 1), (1, .aload_n 0, 1), (2, .aload_n 0, 1), (3, .getfield 67, 3), (6, .invokevirtual 250, 3), (9, .putfield 67, 3), (12, .aload_n 0, 1), (13, .aload_n 0, 1), (14, .aload_n 0, 1), (15, .getfield 70, 3), (18, .invokevirtual 250, 3), (21, .putfield 70, 3), (24, .aload_n 0, 1), (25, .aload_n 0, 1), (26, .aload_n 0, 1), (27, .getfield 73, 3)] : List (Nat × Instr × Nat)).all (dOk (decode cX10_passAll)) = true := by decide +kernel
theorem dX10_passAll_0 : decode cX10_passAll 0 = .ok (.aload_n 0, 1) := dcr zo_dX10_passAll_0 0 rfl
theorem dX10_passAll_1 : decode cX10_passAll 1 = .ok (.aload_n 0, 1) := dcr zo_dX10_passAll_0 1 rfl
theorem dX10_passAll_2 : decode cX10_passAll 2 = .ok (.aload_n 0, 1) := dcr zo_dX10_passAll_0 2 rfl
theorem dX10_passAll_3 : decode cX10_passAll 3 = .ok (.getfield 67, 3) := dcr zo_dX10_passAll_0 3 rfl
theorem dX10_passAll_6 : decode cX10_passAll 6 = .ok (.invokevirtual 250, 3) := dcr zo_dX10_passAll_0 4 rfl
theorem dX10_passAll_9 : decode cX10_passAll 9 = .ok (.putfield 67, 3) := dcr zo_dX10_passAll_0 5 rfl
theorem dX10_passAll_12 : decode cX10_passAll 12 = .ok (.aload_n 0, 1) := dcr zo_dX10_passAll_0 6 rfl
theorem dX10_passAll_13 : decode cX10_passAll 13 = .ok (.aload_n 0, 1) := dcr zo_dX10_passAll_0 7 rfl
theorem dX10_passAll_14 : decode cX10_passAll 14 = .ok (.aload_n 0, 1) := dcr zo_dX10_passAll_0 8 rfl
theorem dX10_passAll_15 : decode cX10_passAll 15 = .ok (.getfield 70, 3) := dcr zo_dX10_passAll_0 9 rfl
theorem dX10_passAll_18 : decode cX10_passAll 18 = .ok (.invokevirtual 250, 3) := dcr zo_dX10_passAll_0 10 rfl
theorem dX10_passAll_21 : decode cX10_passAll 21 = .ok (.putfield 70, 3) := dcr zo_dX10_passAll_0 11 rfl
theorem dX10_passAll_24 : decode cX10_passAll 24 = .ok (.aload_n 0, 1) := dcr zo_dX10_passAll_0 12 rfl
theorem dX10_passAll_25 : decode cX10_passAll 25 = .ok (.aload_n 0, 1) := dcr zo_dX10_passAll_0 13 rfl
theorem dX10_passAll_26 : decode cX10_passAll 26 = .ok (.aload_n 0, 1) := dcr zo_dX10_passAll_0 14 rfl
theorem dX10_passAll_27 : decode cX10_passAll 27 = .ok (.getfield 73, 3) := dcr zo_dX10_passAll_0 15 rfl
theorem zo_dX10_passAll_30 : ([(30, .invokevirtual 250, 3), (33, .putfield 73, 3), (36, .aload_n 0, 1), (37, .aload_n 0, 1), (38, .aload_n 0, 1), (39, .getfield 59, 3), (42, .invokevirtual 250, 3), (45, .putfield 59, 3), (48, .iconst 0, 1), (49, .istore_n 1, 1), (50, .iload_n 1, 1), (51, .bipush 6, 2), (53, .if_icmp .ge 25, 3), (56, .aload_n 0, 1), (57, .getfield 7, 3), (60, .iload_n 1, 1)] : List (Nat × Instr × Nat)).all (dOk (decode cX10_passAll)) = true := by decide +kernel
theorem dX10_passAll_30 : decode cX10_passAll 30 = .ok (.invokevirtual 250, 3) := dcr zo_dX10_passAll_30 0 rfl
theorem dX10_passAll_33 : decode cX10_passAll 33 = .ok (.putfield 73, 3) := dcr zo_dX10_passAll_30 1 rfl
theorem dX10_passAll_36 : decode cX10_passAll 36 = .ok (.aload_n 0, 1) := dcr zo_dX10_passAll_30 2 rfl
theorem dX10_passAll_37 : decode cX10_passAll 37 = .ok (.aload_n 0, 1) := dcr zo_dX10_passAll_30 3 rfl
theorem dX10_passAll_38 : decode cX10_passAll 38 = .ok (.aload_n 0, 1) := dcr zo_dX10_passAll_30 4 rfl
theorem dX10_passAll_39 : decode cX10_passAll 39 = .ok (.getfield 59, 3) := dcr zo_dX10_passAll_30 5 rfl
theorem dX10_passAll_42 : decode cX10_passAll 42 = .ok (.invokevirtual 250, 3) := dcr zo_dX10_passAll_30 6 rfl
theorem dX10_passAll_45 : decode cX10_passAll 45 = .ok (.putfield 59, 3) := dcr zo_dX10_passAll_30 7 rfl
theorem dX10_passAll_48 : decode cX10_passAll 48 = .ok (.iconst 0, 1) := dcr zo_dX10_passAll_30 8 rfl
theorem dX10_passAll_49 : decode cX10_passAll 49 = .ok (.istore_n 1, 1) := dcr zo_dX10_passAll_30 9 rfl
theorem dX10_passAll_50 : decode cX10_passAll 50 = .ok (.iload_n 1, 1) := dcr zo_dX10_passAll_30 10 rfl
theorem dX10_passAll_51 : decode cX10_passAll 51 = .ok (.bipush 6, 2) := dcr zo_dX10_passAll_30 11 rfl
theorem dX10_passAll_53 : decode cX10_passAll 53 = .ok (.if_icmp .ge 25, 3) := dcr zo_dX10_passAll_30 12 rfl
theorem dX10_passAll_56 : decode cX10_passAll 56 = .ok (.aload_n 0, 1) := dcr zo_dX10_passAll_30 13 rfl
theorem dX10_passAll_57 : decode cX10_passAll 57 = .ok (.getfield 7, 3) := dcr zo_dX10_passAll_30 14 rfl
theorem dX10_passAll_60 : decode cX10_passAll 60 = .ok (.iload_n 1, 1) := dcr zo_dX10_passAll_30 15 rfl
theorem zo_dX10_passAll_61 : ([(61, .aload_n 0, 1), (62, .aload_n 0, 1), (63, .getfield 7, 3), (66, .iload_n 1, 1), (67, .iaload, 1), (68, .invokevirtual 250, 3), (71, .iastore, 1), (72, .iinc 1 1, 3), (75, .goto (-25), 3), (78, .iconst 0, 1), (79, .istore_n 1, 1), (80, .iload_n 1, 1), (81, .iconst 4, 1), (82, .if_icmp .ge 25, 3), (85, .aload_n 0, 1), (86, .getfield 13, 3)] : List (Nat × Instr × Nat)).all (dOk (decode cX10_passAll)) = true := by decide +kernel
theorem dX10_passAll_61 : decode cX10_passAll 61 = .ok (.aload_n 0, 1) := dcr zo_dX10_passAll_61 0 rfl
theorem dX10_passAll_62 : decode cX10_passAll 62 = .ok (.aload_n 0, 1) := dcr zo_dX10_passAll_61 1 rfl
theorem dX10_passAll_63 : decode cX10_passAll 63 = .ok (.getfield 7, 3) := dcr zo_dX10_passAll_61 2 rfl
theorem dX10_passAll_66 : decode cX10_passAll 66 = .ok (.iload_n 1, 1) := dcr zo_dX10_passAll_61 3 rfl
theorem dX10_passAll_67 : decode cX10_passAll 67 = .ok (.iaload, 1) := dcr zo_dX10_passAll_61 4 rfl
theorem dX10_passAll_68 : decode cX10_passAll 68 = .ok (.invokevirtual 250, 3) := dcr zo_dX10_passAll_61 5 rfl
theorem dX10_passAll_71 : decode cX10_passAll 71 = .ok (.iastore, 1) := dcr zo_dX10_passAll_61 6 rfl
theorem dX10_passAll_72 : decode cX10_passAll 72 = .ok (.iinc 1 1, 3) := dcr zo_dX10_passAll_61 7 rfl
theorem dX10_passAll_75 : decode cX10_passAll 75 = .ok (.goto (-25), 3) := dcr zo_dX10_passAll_61 8 rfl
theorem dX10_passAll_78 : decode cX10_passAll 78 = .ok (.iconst 0, 1) := dcr zo_dX10_passAll_61 9 rfl
theorem dX10_passAll_79 : decode cX10_passAll 79 = .ok (.istore_n 1, 1) := dcr zo_dX10_passAll_61 10 rfl
theorem dX10_passAll_80 : decode cX10_passAll 80 = .ok (.iload_n 1, 1) := dcr zo_dX10_passAll_61 11 rfl
theorem dX10_passAll_81 : decode cX10_passAll 81 = .ok (.iconst 4, 1) := dcr zo_dX10_passAll_61 12 rfl
theorem dX10_passAll_82 : decode cX10_passAll 82 = .ok (.if_icmp .ge 25, 3) := dcr zo_dX10_passAll_61 13 rfl
theorem dX10_passAll_85 : decode cX10_passAll 85 = .ok (.aload_n 0, 1) := dcr zo_dX10_passAll_61 14 rfl
theorem dX10_passAll_86 : decode cX10_passAll 86 = .ok (.getfield 13, 3) := dcr zo_dX10_passAll_61 15 rfl
theorem zo_dX10_passAll_89 : ([(89, .iload_n 1, 1), (90, .aload_n 0, 1), (91, .aload_n 0, 1), (92, .getfield 13, 3), (95, .iload_n 1, 1), (96, .iaload, 1), (97, .invokevirtual 250, 3), (100, .iastore, 1), (101, .iinc 1 1, 3), (104, .goto (-24), 3), (107, .aload_n 0, 1), (108, .invokevirtual 76, 3), (111, .return_, 1)] : List (Nat × Instr × Nat)).all (dOk (decode cX10_passAll)) = true := by decide +kernel
theorem dX10_passAll_89 : decode cX10_passAll 89 = .ok (.iload_n 1, 1) := dcr zo_dX10_passAll_89 0 rfl
theorem dX10_passAll_90 : decode cX10_passAll 90 = .ok (.aload_n 0, 1) := dcr zo_dX10_passAll_89 1 rfl
theorem dX10_passAll_91 : decode cX10_passAll 91 = .ok (.aload_n 0, 1) := dcr zo_dX10_passAll_89 2 rfl
theorem dX10_passAll_92 : decode cX10_passAll 92 = .ok (.getfield 13, 3) := dcr zo_dX10_passAll_89 3 rfl
theorem dX10_passAll_95 : decode cX10_passAll 95 = .ok (.iload_n 1, 1) := dcr zo_dX10_passAll_89 4 rfl
theorem dX10_passAll_96 : decode cX10_passAll 96 = .ok (.iaload, 1) := dcr zo_dX10_passAll_89 5 rfl
theorem dX10_passAll_97 : decode cX10_passAll 97 = .ok (.invokevirtual 250, 3) := dcr zo_dX10_passAll_89 6 rfl
theorem dX10_passAll_100 : decode cX10_passAll 100 = .ok (.iastore, 1) := dcr zo_dX10_passAll_89 7 rfl
theorem dX10_passAll_101 : decode cX10_passAll 101 = .ok (.iinc 1 1, 3) := dcr zo_dX10_passAll_89 8 rfl
theorem dX10_passAll_104 : decode cX10_passAll 104 = .ok (.goto (-24), 3) := dcr zo_dX10_passAll_89 9 rfl
theorem dX10_passAll_107 : decode cX10_passAll 107 = .ok (.aload_n 0, 1) := dcr zo_dX10_passAll_89 10 rfl
theorem dX10_passAll_108 : decode cX10_passAll 108 = .ok (.invokevirtual 76, 3) := dcr zo_dX10_passAll_89 11 rfl
theorem dX10_passAll_111 : decode cX10_passAll 111 = .ok (.return_, 1) := dcr zo_dX10_passAll_89 12 rfl
def zt_wsX10_image : List (List Cond) := [[.code yX10_image cX10_image 2 (some .int)], wsX10_image_r1, wsX10_image_r2, wsX100]
theorem zt_wsX10_image_in : ∀ c ∈ zt_wsX10_image, ∀ w ∈ c, w ∈ wsX10_image := List.forall_mem_cons.mpr ⟨fun _ h => List.mem_cons.mpr (Or.inl (List.mem_singleton.mp h)), List.forall_mem_cons.mpr ⟨fun _ h => List.mem_cons_of_mem _ (List.mem_append_left _ (List.mem_append_left _ h)), List.forall_mem_cons.mpr ⟨fun _ h => List.mem_cons_of_mem _ (List.mem_append_left _ (List.mem_append_right _ (h))), List.forall_mem_cons.mpr ⟨fun _ h => List.mem_cons_of_mem _ (List.mem_append_right _ h), (fun _ h => absurd h List.not_mem_nil)⟩⟩⟩⟩
set_option maxRecDepth 20000 in
theorem ggX10_image_X10_in : GoodIn wsX10_image wsX10_in := goodIn_c zt_wsX10_image_in _ [(1, 6)] rfl zw_wsX10_in
set_option maxRecDepth 20000 in
theorem gX10_image_X10_in : GoodIn wsX10_image (va_wsS RX10 79 yX10_in wsX10_in) := goodIn_app (goodIn_of _ (by decide +kernel)) ggX10_image_X10_in
set_option maxRecDepth 20000 in
theorem zw_wsX10_passAll : wsX10_passAll.all goodWord = true := by decide +kernel
set_option maxRecDepth 20000 in
theorem ggX10_image_X10_passAll : GoodIn wsX10_image wsX10_passAll := goodIn_c zt_wsX10_image_in _ [(1, 10), (1, 11), (1, 12), (1, 13), (1, 14), (1, 15), (1, 16), (1, 17), (1, 18), (1, 19), (1, 5), (1, 20), (1, 1), (1, 21), (1, 0), (1, 22), (1, 23), (2, 0), (2, 1), (2, 2), (3, 0), (3, 1), (3, 2), (3, 3), (3, 4), (3, 5), (3, 6), (3, 7), (3, 8), (3, 9), (3, 10), (3, 11), (3, 12), (3, 13), (3, 14), (3, 15), (3, 16), (3, 17), (3, 18), (3, 19), (3, 20), (3, 21), (3, 22), (3, 23), (3, 24), (3, 25), (3, 26), (3, 27)] rfl zw_wsX10_passAll
set_option maxRecDepth 20000 in
theorem gX10_image_X10_passAll : GoodIn wsX10_image (wsV RX10 253 RX10 yX10_passAll wsX10_passAll) := goodIn_app (goodIn_of _ (by decide +kernel)) ggX10_image_X10_passAll
theorem zo_dX10_image_0 : ([(0, .iload_n 1, 1), (1, .i2l, 1), (2, .lconst 0, 1), (3, .lconst 1, 1), (4, .invokestatic 79, 3), (7, .ifCond .ne 6, 3), (10, .bipush (-2), 2), (12, .ireturn, 1), (13, .aload_n 0, 1), (14, .bipush 40, 2), (16, .iload_n 1, 1), (17, .imul, 1), (18, .putfield 247, 3), (21, .aload_n 0, 1), (22, .iconst 1, 1), (23, .putfield 243, 3)] : List (Nat × Instr × Nat)).all (dOk (decode cX10_image)) = true := by decide +kernel
theorem dX10_image_0 : decode cX10_image 0 = .ok (.iload_n 1, 1) := dcr zo_dX10_image_0 0 rfl
theorem dX10_image_1 : decode cX10_image 1 = .ok (.i2l, 1) := dcr zo_dX10_image_0 1 rfl
theorem dX10_image_2 : decode cX10_image 2 = .ok (.lconst 0, 1) := dcr zo_dX10_image_0 2 rfl
theorem dX10_image_3 : decode cX10_image 3 = .ok (.lconst 1, 1) := dcr zo_dX10_image_0 3 rfl
theorem dX10_image_4 : decode cX10_image 4 = .ok (.invokestatic 79, 3) := dcr zo_dX10_image_0 4 rfl
theorem dX10_image_7 : decode cX10_image 7 = .ok (.ifCond .ne 6, 3) := dcr zo_dX10_image_0 5 rfl
theorem dX10_image_10 : decode cX10_image 10 = .ok (.bipush (-2), 2) := dcr zo_dX10_image_0 6 rfl
theorem dX10_image_12 : decode cX10_image 12 = .ok (.ireturn, 1) := dcr zo_dX10_image_0 7 rfl
theorem dX10_image_13 : decode cX10_image 13 = .ok (.aload_n 0, 1) := dcr zo_dX10_image_0 8 rfl
theorem dX10_image_14 : decode cX10_image 14 = .ok (.bipush 40, 2) := dcr zo_dX10_image_0 9 rfl
theorem dX10_image_16 : decode cX10_image 16 = .ok (.iload_n 1, 1) := dcr zo_dX10_image_0 10 rfl
theorem dX10_image_17 : decode cX10_image 17 = .ok (.imul, 1) := dcr zo_dX10_image_0 11 rfl
theorem dX10_image_18 : decode cX10_image 18 = .ok (.putfield 247, 3) := dcr zo_dX10_image_0 12 rfl
theorem dX10_image_21 : decode cX10_image 21 = .ok (.aload_n 0, 1) := dcr zo_dX10_image_0 13 rfl
theorem dX10_image_22 : decode cX10_image 22 = .ok (.iconst 1, 1) := dcr zo_dX10_image_0 14 rfl
theorem dX10_image_23 : decode cX10_image 23 = .ok (.putfield 243, 3) := dcr zo_dX10_image_0 15 rfl
theorem zo_dX10_image_26 : ([(26, .aload_n 0, 1), (27, .invokevirtual 253, 3), (30, .aload_n 0, 1), (31, .getfield 55, 3), (34, .iload_n 1, 1), (35, .iconst 1, 1), (36, .bastore, 1), (37, .iconst 1, 1), (38, .ireturn, 1)] : List (Nat × Instr × Nat)).all (dOk (decode cX10_image)) = true := by decide +kernel
theorem dX10_image_26 : decode cX10_image 26 = .ok (.aload_n 0, 1) := dcr zo_dX10_image_26 0 rfl
theorem dX10_image_27 : decode cX10_image 27 = .ok (.invokevirtual 253, 3) := dcr zo_dX10_image_26 1 rfl
theorem dX10_image_30 : decode cX10_image 30 = .ok (.aload_n 0, 1) := dcr zo_dX10_image_26 2 rfl
theorem dX10_image_31 : decode cX10_image 31 = .ok (.getfield 55, 3) := dcr zo_dX10_image_26 3 rfl
theorem dX10_image_34 : decode cX10_image 34 = .ok (.iload_n 1, 1) := dcr zo_dX10_image_26 4 rfl
theorem dX10_image_35 : decode cX10_image 35 = .ok (.iconst 1, 1) := dcr zo_dX10_image_26 5 rfl
theorem dX10_image_36 : decode cX10_image 36 = .ok (.bastore, 1) := dcr zo_dX10_image_26 6 rfl
theorem dX10_image_37 : decode cX10_image 37 = .ok (.iconst 1, 1) := dcr zo_dX10_image_26 7 rfl
theorem dX10_image_38 : decode cX10_image 38 = .ok (.ireturn, 1) := dcr zo_dX10_image_26 8 rfl
def zt_wsX10_restore : List (List Cond) := [[.code yX10_restore cX10_restore 2 (some .int)], wsX10_restore_r1, wsX10_restore_r2, wsX100]
theorem zt_wsX10_restore_in : ∀ c ∈ zt_wsX10_restore, ∀ w ∈ c, w ∈ wsX10_restore := List.forall_mem_cons.mpr ⟨fun _ h => List.mem_cons.mpr (Or.inl (List.mem_singleton.mp h)), List.forall_mem_cons.mpr ⟨fun _ h => List.mem_cons_of_mem _ (List.mem_append_left _ (List.mem_append_left _ h)), List.forall_mem_cons.mpr ⟨fun _ h => List.mem_cons_of_mem _ (List.mem_append_left _ (List.mem_append_right _ (h))), List.forall_mem_cons.mpr ⟨fun _ h => List.mem_cons_of_mem _ (List.mem_append_right _ h), (fun _ h => absurd h List.not_mem_nil)⟩⟩⟩⟩
set_option maxRecDepth 20000 in
theorem ggX10_restore_X10_in : GoodIn wsX10_restore wsX10_in := goodIn_c zt_wsX10_restore_in _ [(1, 6)] rfl zw_wsX10_in
set_option maxRecDepth 20000 in
theorem gX10_restore_X10_in : GoodIn wsX10_restore (va_wsS RX10 79 yX10_in wsX10_in) := goodIn_app (goodIn_of _ (by decide +kernel)) ggX10_restore_X10_in
set_option maxRecDepth 20000 in
theorem ggX10_restore_X10_passAll : GoodIn wsX10_restore wsX10_passAll := goodIn_c zt_wsX10_restore_in _ [(1, 10), (1, 11), (1, 12), (1, 13), (1, 14), (1, 15), (1, 16), (1, 17), (1, 18), (1, 19), (1, 5), (1, 20), (1, 2), (1, 21), (1, 1), (1, 22), (1, 23), (2, 0), (2, 1), (2, 2), (3, 0), (3, 1), (3, 2), (3, 3), (3, 4), (3, 5), (3, 6), (3, 7), (3, 8), (3, 9), (3, 10), (3, 11), (3, 12), (3, 13), (3, 14), (3, 15), (3, 16), (3, 17), (3, 18), (3, 19), (3, 20), (3, 21), (3, 22), (3, 23), (3, 24), (3, 25), (3, 26), (3, 27)] rfl zw_wsX10_passAll
set_option maxRecDepth 20000 in
theorem gX10_restore_X10_passAll : GoodIn wsX10_restore (wsV RX10 253 RX10 yX10_passAll wsX10_passAll) := goodIn_app (goodIn_of _ (by decide +kernel)) ggX10_restore_X10_passAll
theorem zo_dX10_restore_0 : ([(0, .iload_n 1, 1), (1, .i2l, 1), (2, .lconst 0, 1), (3, .lconst 1, 1), (4, .invokestatic 79, 3), (7, .ifCond .ne 6, 3), (10, .bipush (-2), 2), (12, .ireturn, 1), (13, .aload_n 0, 1), (14, .getfield 55, 3), (17, .iload_n 1, 1), (18, .baload, 1), (19, .ifCond .ne 6, 3), (22, .bipush (-3), 2), (24, .ireturn, 1), (25, .aload_n 0, 1)] : List (Nat × Instr × Nat)).all (dOk (decode cX10_restore)) = true := by decide +kernel
theorem dX10_restore_0 : decode cX10_restore 0 = .ok (.iload_n 1, 1) := dcr zo_dX10_restore_0 0 rfl
theorem dX10_restore_1 : decode cX10_restore 1 = .ok (.i2l, 1) := dcr zo_dX10_restore_0 1 rfl
theorem dX10_restore_2 : decode cX10_restore 2 = .ok (.lconst 0, 1) := dcr zo_dX10_restore_0 2 rfl
theorem dX10_restore_3 : decode cX10_restore 3 = .ok (.lconst 1, 1) := dcr zo_dX10_restore_0 3 rfl
theorem dX10_restore_4 : decode cX10_restore 4 = .ok (.invokestatic 79, 3) := dcr zo_dX10_restore_0 4 rfl
theorem dX10_restore_7 : decode cX10_restore 7 = .ok (.ifCond .ne 6, 3) := dcr zo_dX10_restore_0 5 rfl
theorem dX10_restore_10 : decode cX10_restore 10 = .ok (.bipush (-2), 2) := dcr zo_dX10_restore_0 6 rfl
theorem dX10_restore_12 : decode cX10_restore 12 = .ok (.ireturn, 1) := dcr zo_dX10_restore_0 7 rfl
theorem dX10_restore_13 : decode cX10_restore 13 = .ok (.aload_n 0, 1) := dcr zo_dX10_restore_0 8 rfl
theorem dX10_restore_14 : decode cX10_restore 14 = .ok (.getfield 55, 3) := dcr zo_dX10_restore_0 9 rfl
theorem dX10_restore_17 : decode cX10_restore 17 = .ok (.iload_n 1, 1) := dcr zo_dX10_restore_0 10 rfl
theorem dX10_restore_18 : decode cX10_restore 18 = .ok (.baload, 1) := dcr zo_dX10_restore_0 11 rfl
theorem dX10_restore_19 : decode cX10_restore 19 = .ok (.ifCond .ne 6, 3) := dcr zo_dX10_restore_0 12 rfl
theorem dX10_restore_22 : decode cX10_restore 22 = .ok (.bipush (-3), 2) := dcr zo_dX10_restore_0 13 rfl
theorem dX10_restore_24 : decode cX10_restore 24 = .ok (.ireturn, 1) := dcr zo_dX10_restore_0 14 rfl
theorem dX10_restore_25 : decode cX10_restore 25 = .ok (.aload_n 0, 1) := dcr zo_dX10_restore_0 15 rfl
theorem zo_dX10_restore_26 : ([(26, .bipush 40, 2), (28, .iload_n 1, 1), (29, .imul, 1), (30, .putfield 247, 3), (33, .aload_n 0, 1), (34, .iconst 0, 1), (35, .putfield 243, 3), (38, .aload_n 0, 1), (39, .invokevirtual 253, 3), (42, .iconst 1, 1), (43, .ireturn, 1)] : List (Nat × Instr × Nat)).all (dOk (decode cX10_restore)) = true := by decide +kernel
theorem dX10_restore_26 : decode cX10_restore 26 = .ok (.bipush 40, 2) := dcr zo_dX10_restore_26 0 rfl
theorem dX10_restore_28 : decode cX10_restore 28 = .ok (.iload_n 1, 1) := dcr zo_dX10_restore_26 1 rfl
theorem dX10_restore_29 : decode cX10_restore 29 = .ok (.imul, 1) := dcr zo_dX10_restore_26 2 rfl
theorem dX10_restore_30 : decode cX10_restore 30 = .ok (.putfield 247, 3) := dcr zo_dX10_restore_26 3 rfl
theorem dX10_restore_33 : decode cX10_restore 33 = .ok (.aload_n 0, 1) := dcr zo_dX10_restore_26 4 rfl
theorem dX10_restore_34 : decode cX10_restore 34 = .ok (.iconst 0, 1) := dcr zo_dX10_restore_26 5 rfl
theorem dX10_restore_35 : decode cX10_restore 35 = .ok (.putfield 243, 3) := dcr zo_dX10_restore_26 6 rfl
theorem dX10_restore_38 : decode cX10_restore 38 = .ok (.aload_n 0, 1) := dcr zo_dX10_restore_26 7 rfl
theorem dX10_restore_39 : decode cX10_restore 39 = .ok (.invokevirtual 253, 3) := dcr zo_dX10_restore_26 8 rfl
theorem dX10_restore_42 : decode cX10_restore 42 = .ok (.iconst 1, 1) := dcr zo_dX10_restore_26 9 rfl
theorem dX10_restore_43 : decode cX10_restore 43 = .ok (.ireturn, 1) := dcr zo_dX10_restore_26 10 rfl
def zt_wsX10_told : List (List Cond) := [[.code yX10_told cX10_told 2 (some .int)], [.constantLong RX10 256 (10), .constantLong RX10 258 (13), .fieldLink RX10 13 "LastMapModel" "kinds" "[I", .fieldLink RX10 103 "LastMapModel" "padMany" "I", .fieldLink RX10 67 "LastMapModel" "sites" "I", .fieldLink RX10 70 "LastMapModel" "told" "I", .fieldLink RX10 59 "LastMapModel" "spades" "I", .methodLink RX10 79 yX10_in, .static yX10_in, .initialized RX10, .code yX10_in cX10_in 6 (some .boolean)], wsX100]
theorem zt_wsX10_told_in : ∀ c ∈ zt_wsX10_told, ∀ w ∈ c, w ∈ wsX10_told := List.forall_mem_cons.mpr ⟨fun _ h => List.mem_cons.mpr (Or.inl (List.mem_singleton.mp h)), List.forall_mem_cons.mpr ⟨fun _ h => List.mem_cons_of_mem _ (List.mem_append_left _ (h)), List.forall_mem_cons.mpr ⟨fun _ h => List.mem_cons_of_mem _ (List.mem_append_right _ h), (fun _ h => absurd h List.not_mem_nil)⟩⟩⟩
set_option maxRecDepth 20000 in
theorem ggX10_told_X10_in : GoodIn wsX10_told wsX10_in := goodIn_c zt_wsX10_told_in _ [(1, 10)] rfl zw_wsX10_in
set_option maxRecDepth 20000 in
theorem gX10_told_X10_in : GoodIn wsX10_told (va_wsS RX10 79 yX10_in wsX10_in) := goodIn_app (goodIn_of _ (by decide +kernel)) ggX10_told_X10_in
theorem zo_dX10_told_0 : ([(0, .iload_n 1, 1), (1, .i2l, 1), (2, .ldc2_w 256, 3), (5, .ldc2_w 258, 3), (8, .invokestatic 79, 3), (11, .ifCond .eq 13, 3), (14, .aload_n 0, 1), (15, .getfield 13, 3), (18, .iload_n 1, 1), (19, .bipush 10, 2), (21, .isub, 1), (22, .iaload, 1), (23, .ireturn, 1), (24, .iload_n 1, 1), (25, .ifCond .ne 10, 3), (28, .aload_n 0, 1)] : List (Nat × Instr × Nat)).all (dOk (decode cX10_told)) = true := by decide +kernel
theorem dX10_told_0 : decode cX10_told 0 = .ok (.iload_n 1, 1) := dcr zo_dX10_told_0 0 rfl
theorem dX10_told_1 : decode cX10_told 1 = .ok (.i2l, 1) := dcr zo_dX10_told_0 1 rfl
theorem dX10_told_2 : decode cX10_told 2 = .ok (.ldc2_w 256, 3) := dcr zo_dX10_told_0 2 rfl
theorem dX10_told_5 : decode cX10_told 5 = .ok (.ldc2_w 258, 3) := dcr zo_dX10_told_0 3 rfl
theorem dX10_told_8 : decode cX10_told 8 = .ok (.invokestatic 79, 3) := dcr zo_dX10_told_0 4 rfl
theorem dX10_told_11 : decode cX10_told 11 = .ok (.ifCond .eq 13, 3) := dcr zo_dX10_told_0 5 rfl
theorem dX10_told_14 : decode cX10_told 14 = .ok (.aload_n 0, 1) := dcr zo_dX10_told_0 6 rfl
theorem dX10_told_15 : decode cX10_told 15 = .ok (.getfield 13, 3) := dcr zo_dX10_told_0 7 rfl
theorem dX10_told_18 : decode cX10_told 18 = .ok (.iload_n 1, 1) := dcr zo_dX10_told_0 8 rfl
theorem dX10_told_19 : decode cX10_told 19 = .ok (.bipush 10, 2) := dcr zo_dX10_told_0 9 rfl
theorem dX10_told_21 : decode cX10_told 21 = .ok (.isub, 1) := dcr zo_dX10_told_0 10 rfl
theorem dX10_told_22 : decode cX10_told 22 = .ok (.iaload, 1) := dcr zo_dX10_told_0 11 rfl
theorem dX10_told_23 : decode cX10_told 23 = .ok (.ireturn, 1) := dcr zo_dX10_told_0 12 rfl
theorem dX10_told_24 : decode cX10_told 24 = .ok (.iload_n 1, 1) := dcr zo_dX10_told_0 13 rfl
theorem dX10_told_25 : decode cX10_told 25 = .ok (.ifCond .ne 10, 3) := dcr zo_dX10_told_0 14 rfl
theorem dX10_told_28 : decode cX10_told 28 = .ok (.aload_n 0, 1) := dcr zo_dX10_told_0 15 rfl
theorem zo_dX10_told_29 : ([(29, .getfield 103, 3), (32, .goto 41, 3), (35, .iload_n 1, 1), (36, .iconst 1, 1), (37, .if_icmp .ne 10, 3), (40, .aload_n 0, 1), (41, .getfield 67, 3), (44, .goto 29, 3), (47, .iload_n 1, 1), (48, .iconst 2, 1), (49, .if_icmp .ne 10, 3), (52, .aload_n 0, 1), (53, .getfield 70, 3), (56, .goto 17, 3), (59, .iload_n 1, 1), (60, .iconst 3, 1)] : List (Nat × Instr × Nat)).all (dOk (decode cX10_told)) = true := by decide +kernel
theorem dX10_told_29 : decode cX10_told 29 = .ok (.getfield 103, 3) := dcr zo_dX10_told_29 0 rfl
theorem dX10_told_32 : decode cX10_told 32 = .ok (.goto 41, 3) := dcr zo_dX10_told_29 1 rfl
theorem dX10_told_35 : decode cX10_told 35 = .ok (.iload_n 1, 1) := dcr zo_dX10_told_29 2 rfl
theorem dX10_told_36 : decode cX10_told 36 = .ok (.iconst 1, 1) := dcr zo_dX10_told_29 3 rfl
theorem dX10_told_37 : decode cX10_told 37 = .ok (.if_icmp .ne 10, 3) := dcr zo_dX10_told_29 4 rfl
theorem dX10_told_40 : decode cX10_told 40 = .ok (.aload_n 0, 1) := dcr zo_dX10_told_29 5 rfl
theorem dX10_told_41 : decode cX10_told 41 = .ok (.getfield 67, 3) := dcr zo_dX10_told_29 6 rfl
theorem dX10_told_44 : decode cX10_told 44 = .ok (.goto 29, 3) := dcr zo_dX10_told_29 7 rfl
theorem dX10_told_47 : decode cX10_told 47 = .ok (.iload_n 1, 1) := dcr zo_dX10_told_29 8 rfl
theorem dX10_told_48 : decode cX10_told 48 = .ok (.iconst 2, 1) := dcr zo_dX10_told_29 9 rfl
theorem dX10_told_49 : decode cX10_told 49 = .ok (.if_icmp .ne 10, 3) := dcr zo_dX10_told_29 10 rfl
theorem dX10_told_52 : decode cX10_told 52 = .ok (.aload_n 0, 1) := dcr zo_dX10_told_29 11 rfl
theorem dX10_told_53 : decode cX10_told 53 = .ok (.getfield 70, 3) := dcr zo_dX10_told_29 12 rfl
theorem dX10_told_56 : decode cX10_told 56 = .ok (.goto 17, 3) := dcr zo_dX10_told_29 13 rfl
theorem dX10_told_59 : decode cX10_told 59 = .ok (.iload_n 1, 1) := dcr zo_dX10_told_29 14 rfl
theorem dX10_told_60 : decode cX10_told 60 = .ok (.iconst 3, 1) := dcr zo_dX10_told_29 15 rfl
theorem zo_dX10_told_61 : ([(61, .if_icmp .ne 10, 3), (64, .aload_n 0, 1), (65, .getfield 59, 3), (68, .goto 5, 3), (71, .bipush (-2), 2), (73, .ireturn, 1)] : List (Nat × Instr × Nat)).all (dOk (decode cX10_told)) = true := by decide +kernel
theorem dX10_told_61 : decode cX10_told 61 = .ok (.if_icmp .ne 10, 3) := dcr zo_dX10_told_61 0 rfl
theorem dX10_told_64 : decode cX10_told 64 = .ok (.aload_n 0, 1) := dcr zo_dX10_told_61 1 rfl
theorem dX10_told_65 : decode cX10_told 65 = .ok (.getfield 59, 3) := dcr zo_dX10_told_61 2 rfl
theorem dX10_told_68 : decode cX10_told 68 = .ok (.goto 5, 3) := dcr zo_dX10_told_61 3 rfl
theorem dX10_told_71 : decode cX10_told 71 = .ok (.bipush (-2), 2) := dcr zo_dX10_told_61 4 rfl
theorem dX10_told_73 : decode cX10_told 73 = .ok (.ireturn, 1) := dcr zo_dX10_told_61 5 rfl
theorem zo_dJ6_bitCount_0f7a4_0 : ([(0, .iload_n 0, 1), (1, .iload_n 0, 1), (2, .iconst 1, 1), (3, .iushr, 1), (4, .ldc_w 265, 3), (7, .iand, 1), (8, .isub, 1), (9, .istore_n 0, 1), (10, .iload_n 0, 1), (11, .ldc_w 266, 3), (14, .iand, 1), (15, .iload_n 0, 1), (16, .iconst 2, 1), (17, .iushr, 1), (18, .ldc_w 266, 3), (21, .iand, 1)] : List (Nat × Instr × Nat)).all (dOk (decode cJ6_bitCount_0f7a4)) = true := by decide +kernel
theorem dJ6_bitCount_0f7a4_0 : decode cJ6_bitCount_0f7a4 0 = .ok (.iload_n 0, 1) := dcr zo_dJ6_bitCount_0f7a4_0 0 rfl
theorem dJ6_bitCount_0f7a4_1 : decode cJ6_bitCount_0f7a4 1 = .ok (.iload_n 0, 1) := dcr zo_dJ6_bitCount_0f7a4_0 1 rfl
theorem dJ6_bitCount_0f7a4_2 : decode cJ6_bitCount_0f7a4 2 = .ok (.iconst 1, 1) := dcr zo_dJ6_bitCount_0f7a4_0 2 rfl
theorem dJ6_bitCount_0f7a4_3 : decode cJ6_bitCount_0f7a4 3 = .ok (.iushr, 1) := dcr zo_dJ6_bitCount_0f7a4_0 3 rfl
theorem dJ6_bitCount_0f7a4_4 : decode cJ6_bitCount_0f7a4 4 = .ok (.ldc_w 265, 3) := dcr zo_dJ6_bitCount_0f7a4_0 4 rfl
theorem dJ6_bitCount_0f7a4_7 : decode cJ6_bitCount_0f7a4 7 = .ok (.iand, 1) := dcr zo_dJ6_bitCount_0f7a4_0 5 rfl
theorem dJ6_bitCount_0f7a4_8 : decode cJ6_bitCount_0f7a4 8 = .ok (.isub, 1) := dcr zo_dJ6_bitCount_0f7a4_0 6 rfl
theorem dJ6_bitCount_0f7a4_9 : decode cJ6_bitCount_0f7a4 9 = .ok (.istore_n 0, 1) := dcr zo_dJ6_bitCount_0f7a4_0 7 rfl
theorem dJ6_bitCount_0f7a4_10 : decode cJ6_bitCount_0f7a4 10 = .ok (.iload_n 0, 1) := dcr zo_dJ6_bitCount_0f7a4_0 8 rfl
theorem dJ6_bitCount_0f7a4_11 : decode cJ6_bitCount_0f7a4 11 = .ok (.ldc_w 266, 3) := dcr zo_dJ6_bitCount_0f7a4_0 9 rfl
theorem dJ6_bitCount_0f7a4_14 : decode cJ6_bitCount_0f7a4 14 = .ok (.iand, 1) := dcr zo_dJ6_bitCount_0f7a4_0 10 rfl
theorem dJ6_bitCount_0f7a4_15 : decode cJ6_bitCount_0f7a4 15 = .ok (.iload_n 0, 1) := dcr zo_dJ6_bitCount_0f7a4_0 11 rfl
theorem dJ6_bitCount_0f7a4_16 : decode cJ6_bitCount_0f7a4 16 = .ok (.iconst 2, 1) := dcr zo_dJ6_bitCount_0f7a4_0 12 rfl
theorem dJ6_bitCount_0f7a4_17 : decode cJ6_bitCount_0f7a4 17 = .ok (.iushr, 1) := dcr zo_dJ6_bitCount_0f7a4_0 13 rfl
theorem dJ6_bitCount_0f7a4_18 : decode cJ6_bitCount_0f7a4 18 = .ok (.ldc_w 266, 3) := dcr zo_dJ6_bitCount_0f7a4_0 14 rfl
theorem dJ6_bitCount_0f7a4_21 : decode cJ6_bitCount_0f7a4 21 = .ok (.iand, 1) := dcr zo_dJ6_bitCount_0f7a4_0 15 rfl
theorem zo_dJ6_bitCount_0f7a4_22 : ([(22, .iadd, 1), (23, .istore_n 0, 1), (24, .iload_n 0, 1), (25, .iload_n 0, 1), (26, .iconst 4, 1), (27, .iushr, 1), (28, .iadd, 1), (29, .ldc_w 267, 3), (32, .iand, 1), (33, .istore_n 0, 1), (34, .iload_n 0, 1), (35, .iload_n 0, 1), (36, .bipush 8, 2), (38, .iushr, 1), (39, .iadd, 1), (40, .istore_n 0, 1)] : List (Nat × Instr × Nat)).all (dOk (decode cJ6_bitCount_0f7a4)) = true := by decide +kernel
theorem dJ6_bitCount_0f7a4_22 : decode cJ6_bitCount_0f7a4 22 = .ok (.iadd, 1) := dcr zo_dJ6_bitCount_0f7a4_22 0 rfl
theorem dJ6_bitCount_0f7a4_23 : decode cJ6_bitCount_0f7a4 23 = .ok (.istore_n 0, 1) := dcr zo_dJ6_bitCount_0f7a4_22 1 rfl
theorem dJ6_bitCount_0f7a4_24 : decode cJ6_bitCount_0f7a4 24 = .ok (.iload_n 0, 1) := dcr zo_dJ6_bitCount_0f7a4_22 2 rfl
theorem dJ6_bitCount_0f7a4_25 : decode cJ6_bitCount_0f7a4 25 = .ok (.iload_n 0, 1) := dcr zo_dJ6_bitCount_0f7a4_22 3 rfl
theorem dJ6_bitCount_0f7a4_26 : decode cJ6_bitCount_0f7a4 26 = .ok (.iconst 4, 1) := dcr zo_dJ6_bitCount_0f7a4_22 4 rfl
theorem dJ6_bitCount_0f7a4_27 : decode cJ6_bitCount_0f7a4 27 = .ok (.iushr, 1) := dcr zo_dJ6_bitCount_0f7a4_22 5 rfl
theorem dJ6_bitCount_0f7a4_28 : decode cJ6_bitCount_0f7a4 28 = .ok (.iadd, 1) := dcr zo_dJ6_bitCount_0f7a4_22 6 rfl
theorem dJ6_bitCount_0f7a4_29 : decode cJ6_bitCount_0f7a4 29 = .ok (.ldc_w 267, 3) := dcr zo_dJ6_bitCount_0f7a4_22 7 rfl
theorem dJ6_bitCount_0f7a4_32 : decode cJ6_bitCount_0f7a4 32 = .ok (.iand, 1) := dcr zo_dJ6_bitCount_0f7a4_22 8 rfl
theorem dJ6_bitCount_0f7a4_33 : decode cJ6_bitCount_0f7a4 33 = .ok (.istore_n 0, 1) := dcr zo_dJ6_bitCount_0f7a4_22 9 rfl
theorem dJ6_bitCount_0f7a4_34 : decode cJ6_bitCount_0f7a4 34 = .ok (.iload_n 0, 1) := dcr zo_dJ6_bitCount_0f7a4_22 10 rfl
theorem dJ6_bitCount_0f7a4_35 : decode cJ6_bitCount_0f7a4 35 = .ok (.iload_n 0, 1) := dcr zo_dJ6_bitCount_0f7a4_22 11 rfl
theorem dJ6_bitCount_0f7a4_36 : decode cJ6_bitCount_0f7a4 36 = .ok (.bipush 8, 2) := dcr zo_dJ6_bitCount_0f7a4_22 12 rfl
theorem dJ6_bitCount_0f7a4_38 : decode cJ6_bitCount_0f7a4 38 = .ok (.iushr, 1) := dcr zo_dJ6_bitCount_0f7a4_22 13 rfl
theorem dJ6_bitCount_0f7a4_39 : decode cJ6_bitCount_0f7a4 39 = .ok (.iadd, 1) := dcr zo_dJ6_bitCount_0f7a4_22 14 rfl
theorem dJ6_bitCount_0f7a4_40 : decode cJ6_bitCount_0f7a4 40 = .ok (.istore_n 0, 1) := dcr zo_dJ6_bitCount_0f7a4_22 15 rfl
theorem zo_dJ6_bitCount_0f7a4_41 : ([(41, .iload_n 0, 1), (42, .iload_n 0, 1), (43, .bipush 16, 2), (45, .iushr, 1), (46, .iadd, 1), (47, .istore_n 0, 1), (48, .iload_n 0, 1), (49, .bipush 63, 2), (51, .iand, 1), (52, .ireturn, 1)] : List (Nat × Instr × Nat)).all (dOk (decode cJ6_bitCount_0f7a4)) = true := by decide +kernel
theorem dJ6_bitCount_0f7a4_41 : decode cJ6_bitCount_0f7a4 41 = .ok (.iload_n 0, 1) := dcr zo_dJ6_bitCount_0f7a4_41 0 rfl
theorem dJ6_bitCount_0f7a4_42 : decode cJ6_bitCount_0f7a4 42 = .ok (.iload_n 0, 1) := dcr zo_dJ6_bitCount_0f7a4_41 1 rfl
theorem dJ6_bitCount_0f7a4_43 : decode cJ6_bitCount_0f7a4 43 = .ok (.bipush 16, 2) := dcr zo_dJ6_bitCount_0f7a4_41 2 rfl
theorem dJ6_bitCount_0f7a4_45 : decode cJ6_bitCount_0f7a4 45 = .ok (.iushr, 1) := dcr zo_dJ6_bitCount_0f7a4_41 3 rfl
theorem dJ6_bitCount_0f7a4_46 : decode cJ6_bitCount_0f7a4 46 = .ok (.iadd, 1) := dcr zo_dJ6_bitCount_0f7a4_41 4 rfl
theorem dJ6_bitCount_0f7a4_47 : decode cJ6_bitCount_0f7a4 47 = .ok (.istore_n 0, 1) := dcr zo_dJ6_bitCount_0f7a4_41 5 rfl
theorem dJ6_bitCount_0f7a4_48 : decode cJ6_bitCount_0f7a4 48 = .ok (.iload_n 0, 1) := dcr zo_dJ6_bitCount_0f7a4_41 6 rfl
theorem dJ6_bitCount_0f7a4_49 : decode cJ6_bitCount_0f7a4 49 = .ok (.bipush 63, 2) := dcr zo_dJ6_bitCount_0f7a4_41 7 rfl
theorem dJ6_bitCount_0f7a4_51 : decode cJ6_bitCount_0f7a4 51 = .ok (.iand, 1) := dcr zo_dJ6_bitCount_0f7a4_41 8 rfl
theorem dJ6_bitCount_0f7a4_52 : decode cJ6_bitCount_0f7a4 52 = .ok (.ireturn, 1) := dcr zo_dJ6_bitCount_0f7a4_41 9 rfl
theorem zo_dJ7_fill_53178_0 : ([(0, .iconst 0, 1), (1, .istore_n 2, 1), (2, .aload_n 0, 1), (3, .arraylength, 1), (4, .istore_n 3, 1), (5, .iload_n 2, 1), (6, .iload_n 3, 1), (7, .if_icmp .ge 13, 3), (10, .aload_n 0, 1), (11, .iload_n 2, 1), (12, .iload_n 1, 1), (13, .iastore, 1), (14, .iinc 2 1, 3), (17, .goto (-12), 3), (20, .return_, 1)] : List (Nat × Instr × Nat)).all (dOk (decode cJ7_fill_53178)) = true := by decide +kernel
theorem dJ7_fill_53178_0 : decode cJ7_fill_53178 0 = .ok (.iconst 0, 1) := dcr zo_dJ7_fill_53178_0 0 rfl
theorem dJ7_fill_53178_1 : decode cJ7_fill_53178 1 = .ok (.istore_n 2, 1) := dcr zo_dJ7_fill_53178_0 1 rfl
theorem dJ7_fill_53178_2 : decode cJ7_fill_53178 2 = .ok (.aload_n 0, 1) := dcr zo_dJ7_fill_53178_0 2 rfl
theorem dJ7_fill_53178_3 : decode cJ7_fill_53178 3 = .ok (.arraylength, 1) := dcr zo_dJ7_fill_53178_0 3 rfl
theorem dJ7_fill_53178_4 : decode cJ7_fill_53178 4 = .ok (.istore_n 3, 1) := dcr zo_dJ7_fill_53178_0 4 rfl
theorem dJ7_fill_53178_5 : decode cJ7_fill_53178 5 = .ok (.iload_n 2, 1) := dcr zo_dJ7_fill_53178_0 5 rfl
theorem dJ7_fill_53178_6 : decode cJ7_fill_53178 6 = .ok (.iload_n 3, 1) := dcr zo_dJ7_fill_53178_0 6 rfl
theorem dJ7_fill_53178_7 : decode cJ7_fill_53178 7 = .ok (.if_icmp .ge 13, 3) := dcr zo_dJ7_fill_53178_0 7 rfl
theorem dJ7_fill_53178_10 : decode cJ7_fill_53178 10 = .ok (.aload_n 0, 1) := dcr zo_dJ7_fill_53178_0 8 rfl
theorem dJ7_fill_53178_11 : decode cJ7_fill_53178 11 = .ok (.iload_n 2, 1) := dcr zo_dJ7_fill_53178_0 9 rfl
theorem dJ7_fill_53178_12 : decode cJ7_fill_53178 12 = .ok (.iload_n 1, 1) := dcr zo_dJ7_fill_53178_0 10 rfl
theorem dJ7_fill_53178_13 : decode cJ7_fill_53178 13 = .ok (.iastore, 1) := dcr zo_dJ7_fill_53178_0 11 rfl
theorem dJ7_fill_53178_14 : decode cJ7_fill_53178 14 = .ok (.iinc 2 1, 3) := dcr zo_dJ7_fill_53178_0 12 rfl
theorem dJ7_fill_53178_17 : decode cJ7_fill_53178 17 = .ok (.goto (-12), 3) := dcr zo_dJ7_fill_53178_0 13 rfl
theorem dJ7_fill_53178_20 : decode cJ7_fill_53178 20 = .ok (.return_, 1) := dcr zo_dJ7_fill_53178_0 14 rfl
theorem zo_dJ7_fill_031fb_0 : ([(0, .iconst 0, 1), (1, .istore_n 2, 1), (2, .aload_n 0, 1), (3, .arraylength, 1), (4, .istore_n 3, 1), (5, .iload_n 2, 1), (6, .iload_n 3, 1), (7, .if_icmp .ge 13, 3), (10, .aload_n 0, 1), (11, .iload_n 2, 1), (12, .iload_n 1, 1), (13, .bastore, 1), (14, .iinc 2 1, 3), (17, .goto (-12), 3), (20, .return_, 1)] : List (Nat × Instr × Nat)).all (dOk (decode cJ7_fill_031fb)) = true := by decide +kernel
theorem dJ7_fill_031fb_0 : decode cJ7_fill_031fb 0 = .ok (.iconst 0, 1) := dcr zo_dJ7_fill_031fb_0 0 rfl
theorem dJ7_fill_031fb_1 : decode cJ7_fill_031fb 1 = .ok (.istore_n 2, 1) := dcr zo_dJ7_fill_031fb_0 1 rfl
theorem dJ7_fill_031fb_2 : decode cJ7_fill_031fb 2 = .ok (.aload_n 0, 1) := dcr zo_dJ7_fill_031fb_0 2 rfl
theorem dJ7_fill_031fb_3 : decode cJ7_fill_031fb 3 = .ok (.arraylength, 1) := dcr zo_dJ7_fill_031fb_0 3 rfl
theorem dJ7_fill_031fb_4 : decode cJ7_fill_031fb 4 = .ok (.istore_n 3, 1) := dcr zo_dJ7_fill_031fb_0 4 rfl
theorem dJ7_fill_031fb_5 : decode cJ7_fill_031fb 5 = .ok (.iload_n 2, 1) := dcr zo_dJ7_fill_031fb_0 5 rfl
theorem dJ7_fill_031fb_6 : decode cJ7_fill_031fb 6 = .ok (.iload_n 3, 1) := dcr zo_dJ7_fill_031fb_0 6 rfl
theorem dJ7_fill_031fb_7 : decode cJ7_fill_031fb 7 = .ok (.if_icmp .ge 13, 3) := dcr zo_dJ7_fill_031fb_0 7 rfl
theorem dJ7_fill_031fb_10 : decode cJ7_fill_031fb 10 = .ok (.aload_n 0, 1) := dcr zo_dJ7_fill_031fb_0 8 rfl
theorem dJ7_fill_031fb_11 : decode cJ7_fill_031fb 11 = .ok (.iload_n 2, 1) := dcr zo_dJ7_fill_031fb_0 9 rfl
theorem dJ7_fill_031fb_12 : decode cJ7_fill_031fb 12 = .ok (.iload_n 1, 1) := dcr zo_dJ7_fill_031fb_0 10 rfl
theorem dJ7_fill_031fb_13 : decode cJ7_fill_031fb 13 = .ok (.bastore, 1) := dcr zo_dJ7_fill_031fb_0 11 rfl
theorem dJ7_fill_031fb_14 : decode cJ7_fill_031fb 14 = .ok (.iinc 2 1, 3) := dcr zo_dJ7_fill_031fb_0 12 rfl
theorem dJ7_fill_031fb_17 : decode cJ7_fill_031fb 17 = .ok (.goto (-12), 3) := dcr zo_dJ7_fill_031fb_0 13 rfl
theorem dJ7_fill_031fb_20 : decode cJ7_fill_031fb 20 = .ok (.return_, 1) := dcr zo_dJ7_fill_031fb_0 14 rfl
