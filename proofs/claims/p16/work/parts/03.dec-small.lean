theorem zo_dX0_with_0 : ([(0, .iload_n 0, 1), (1, .iload_n 2, 1), (2, .iconst 3, 1), (3, .iload_n 1, 1), (4, .imul, 1), (5, .ishl, 1), (6, .ior, 1), (7, .ireturn, 1)] : List (Nat × Instr × Nat)).all (dOk (decode cX0_with)) = true := by decide +kernel
theorem dX0_with_0 : decode cX0_with 0 = .ok (.iload_n 0, 1) := dcr zo_dX0_with_0 0 rfl
theorem dX0_with_1 : decode cX0_with 1 = .ok (.iload_n 2, 1) := dcr zo_dX0_with_0 1 rfl
theorem dX0_with_2 : decode cX0_with 2 = .ok (.iconst 3, 1) := dcr zo_dX0_with_0 2 rfl
theorem dX0_with_3 : decode cX0_with 3 = .ok (.iload_n 1, 1) := dcr zo_dX0_with_0 3 rfl
theorem dX0_with_4 : decode cX0_with 4 = .ok (.imul, 1) := dcr zo_dX0_with_0 4 rfl
theorem dX0_with_5 : decode cX0_with 5 = .ok (.ishl, 1) := dcr zo_dX0_with_0 5 rfl
theorem dX0_with_6 : decode cX0_with 6 = .ok (.ior, 1) := dcr zo_dX0_with_0 6 rfl
theorem dX0_with_7 : decode cX0_with 7 = .ok (.ireturn, 1) := dcr zo_dX0_with_0 7 rfl
theorem zo_dX0_markAt_0 : ([(0, .iload_n 0, 1), (1, .iconst 3, 1), (2, .iload_n 1, 1), (3, .imul, 1), (4, .ishr, 1), (5, .bipush 7, 2), (7, .iand, 1), (8, .ireturn, 1)] : List (Nat × Instr × Nat)).all (dOk (decode cX0_markAt)) = true := by decide +kernel
theorem dX0_markAt_0 : decode cX0_markAt 0 = .ok (.iload_n 0, 1) := dcr zo_dX0_markAt_0 0 rfl
theorem dX0_markAt_1 : decode cX0_markAt 1 = .ok (.iconst 3, 1) := dcr zo_dX0_markAt_0 1 rfl
theorem dX0_markAt_2 : decode cX0_markAt 2 = .ok (.iload_n 1, 1) := dcr zo_dX0_markAt_0 2 rfl
theorem dX0_markAt_3 : decode cX0_markAt 3 = .ok (.imul, 1) := dcr zo_dX0_markAt_0 3 rfl
theorem dX0_markAt_4 : decode cX0_markAt 4 = .ok (.ishr, 1) := dcr zo_dX0_markAt_0 4 rfl
theorem dX0_markAt_5 : decode cX0_markAt 5 = .ok (.bipush 7, 2) := dcr zo_dX0_markAt_0 5 rfl
theorem dX0_markAt_7 : decode cX0_markAt 7 = .ok (.iand, 1) := dcr zo_dX0_markAt_0 6 rfl
theorem dX0_markAt_8 : decode cX0_markAt 8 = .ok (.ireturn, 1) := dcr zo_dX0_markAt_0 7 rfl
def zt_wsX0_onlyMap : List (List Cond) := [[.code yX0_onlyMap cX0_onlyMap 4 (some .int)], [.methodLink RX0 7 yX1_signAt, .static yX1_signAt, .initialized RX1, .code yX1_signAt cX1_signAt 2 (some .int), .methodLink RX1 15 yX1_weight, .static yX1_weight, .code yX1_weight cX1_weight 1 (some .int), .fieldLink RX1 9 "LastMap$Maps" "WEIGHTS" "[I", .methodLink RX1 19 yX1_signBy, .static yX1_signBy, .code yX1_signBy cX1_signBy 2 (some .int), .methodLink RX0 13 yX0_with, .static yX0_with, .initialized RX0, .code yX0_with cX0_with 3 (some .int)]]
theorem zt_wsX0_onlyMap_in : ∀ c ∈ zt_wsX0_onlyMap, ∀ w ∈ c, w ∈ wsX0_onlyMap := List.forall_mem_cons.mpr ⟨fun _ h => List.mem_cons.mpr (Or.inl (List.mem_singleton.mp h)), List.forall_mem_cons.mpr ⟨fun _ h => List.mem_cons_of_mem _ (h), (fun _ h => absurd h List.not_mem_nil)⟩⟩
set_option maxRecDepth 20000 in
theorem zw_wsX1_signAt : wsX1_signAt.all goodWord = true := by decide +kernel
set_option maxRecDepth 20000 in
theorem ggX0_onlyMap_X1_signAt : GoodIn wsX0_onlyMap wsX1_signAt := goodIn_c zt_wsX0_onlyMap_in _ [(1, 3), (1, 4), (1, 5), (1, 2), (1, 6), (1, 7), (1, 8), (1, 9), (1, 10)] rfl zw_wsX1_signAt
set_option maxRecDepth 20000 in
theorem gX0_onlyMap_X1_signAt : GoodIn wsX0_onlyMap (va_wsS RX0 7 yX1_signAt wsX1_signAt) := goodIn_app (goodIn_of _ (by decide +kernel)) ggX0_onlyMap_X1_signAt
set_option maxRecDepth 20000 in
theorem zw_wsX0_with : wsX0_with.all goodWord = true := by decide +kernel
set_option maxRecDepth 20000 in
theorem ggX0_onlyMap_X0_with : GoodIn wsX0_onlyMap wsX0_with := goodIn_c zt_wsX0_onlyMap_in _ [(1, 14)] rfl zw_wsX0_with
set_option maxRecDepth 20000 in
theorem gX0_onlyMap_X0_with : GoodIn wsX0_onlyMap (va_wsS RX0 13 yX0_with wsX0_with) := goodIn_app (goodIn_of _ (by decide +kernel)) ggX0_onlyMap_X0_with
theorem zo_dX0_onlyMap_0 : ([(0, .iconst 0, 1), (1, .istore_n 2, 1), (2, .iconst 0, 1), (3, .istore_n 3, 1), (4, .iload_n 3, 1), (5, .iload_n 1, 1), (6, .if_icmp .ge 20, 3), (9, .iload_n 2, 1), (10, .iload_n 3, 1), (11, .iload_n 0, 1), (12, .iload_n 3, 1), (13, .invokestatic 7, 3), (16, .invokestatic 13, 3), (19, .istore_n 2, 1), (20, .iinc 3 1, 3), (23, .goto (-19), 3)] : List (Nat × Instr × Nat)).all (dOk (decode cX0_onlyMap)) = true := by decide +kernel
theorem dX0_onlyMap_0 : decode cX0_onlyMap 0 = .ok (.iconst 0, 1) := dcr zo_dX0_onlyMap_0 0 rfl
theorem dX0_onlyMap_1 : decode cX0_onlyMap 1 = .ok (.istore_n 2, 1) := dcr zo_dX0_onlyMap_0 1 rfl
theorem dX0_onlyMap_2 : decode cX0_onlyMap 2 = .ok (.iconst 0, 1) := dcr zo_dX0_onlyMap_0 2 rfl
theorem dX0_onlyMap_3 : decode cX0_onlyMap 3 = .ok (.istore_n 3, 1) := dcr zo_dX0_onlyMap_0 3 rfl
theorem dX0_onlyMap_4 : decode cX0_onlyMap 4 = .ok (.iload_n 3, 1) := dcr zo_dX0_onlyMap_0 4 rfl
theorem dX0_onlyMap_5 : decode cX0_onlyMap 5 = .ok (.iload_n 1, 1) := dcr zo_dX0_onlyMap_0 5 rfl
theorem dX0_onlyMap_6 : decode cX0_onlyMap 6 = .ok (.if_icmp .ge 20, 3) := dcr zo_dX0_onlyMap_0 6 rfl
theorem dX0_onlyMap_9 : decode cX0_onlyMap 9 = .ok (.iload_n 2, 1) := dcr zo_dX0_onlyMap_0 7 rfl
theorem dX0_onlyMap_10 : decode cX0_onlyMap 10 = .ok (.iload_n 3, 1) := dcr zo_dX0_onlyMap_0 8 rfl
theorem dX0_onlyMap_11 : decode cX0_onlyMap 11 = .ok (.iload_n 0, 1) := dcr zo_dX0_onlyMap_0 9 rfl
theorem dX0_onlyMap_12 : decode cX0_onlyMap 12 = .ok (.iload_n 3, 1) := dcr zo_dX0_onlyMap_0 10 rfl
theorem dX0_onlyMap_13 : decode cX0_onlyMap 13 = .ok (.invokestatic 7, 3) := dcr zo_dX0_onlyMap_0 11 rfl
theorem dX0_onlyMap_16 : decode cX0_onlyMap 16 = .ok (.invokestatic 13, 3) := dcr zo_dX0_onlyMap_0 12 rfl
theorem dX0_onlyMap_19 : decode cX0_onlyMap 19 = .ok (.istore_n 2, 1) := dcr zo_dX0_onlyMap_0 13 rfl
theorem dX0_onlyMap_20 : decode cX0_onlyMap 20 = .ok (.iinc 3 1, 3) := dcr zo_dX0_onlyMap_0 14 rfl
theorem dX0_onlyMap_23 : decode cX0_onlyMap 23 = .ok (.goto (-19), 3) := dcr zo_dX0_onlyMap_0 15 rfl
theorem zo_dX0_onlyMap_26 : ([(26, .iload_n 2, 1), (27, .ireturn, 1)] : List (Nat × Instr × Nat)).all (dOk (decode cX0_onlyMap)) = true := by decide +kernel
theorem dX0_onlyMap_26 : decode cX0_onlyMap 26 = .ok (.iload_n 2, 1) := dcr zo_dX0_onlyMap_26 0 rfl
theorem dX0_onlyMap_27 : decode cX0_onlyMap 27 = .ok (.ireturn, 1) := dcr zo_dX0_onlyMap_26 1 rfl
theorem zo_dX1_weight_0 : ([(0, .iload_n 0, 1), (1, .ifCond .lt 19, 3), (4, .iload_n 0, 1), (5, .getstatic 9, 3), (8, .arraylength, 1), (9, .if_icmp .ge 11, 3), (12, .getstatic 9, 3), (15, .iload_n 0, 1), (16, .iaload, 1), (17, .goto 4, 3), (20, .iconst 1, 1), (21, .ireturn, 1)] : List (Nat × Instr × Nat)).all (dOk (decode cX1_weight)) = true := by decide +kernel
theorem dX1_weight_0 : decode cX1_weight 0 = .ok (.iload_n 0, 1) := dcr zo_dX1_weight_0 0 rfl
theorem dX1_weight_1 : decode cX1_weight 1 = .ok (.ifCond .lt 19, 3) := dcr zo_dX1_weight_0 1 rfl
theorem dX1_weight_4 : decode cX1_weight 4 = .ok (.iload_n 0, 1) := dcr zo_dX1_weight_0 2 rfl
theorem dX1_weight_5 : decode cX1_weight 5 = .ok (.getstatic 9, 3) := dcr zo_dX1_weight_0 3 rfl
theorem dX1_weight_8 : decode cX1_weight 8 = .ok (.arraylength, 1) := dcr zo_dX1_weight_0 4 rfl
theorem dX1_weight_9 : decode cX1_weight 9 = .ok (.if_icmp .ge 11, 3) := dcr zo_dX1_weight_0 5 rfl
theorem dX1_weight_12 : decode cX1_weight 12 = .ok (.getstatic 9, 3) := dcr zo_dX1_weight_0 6 rfl
theorem dX1_weight_15 : decode cX1_weight 15 = .ok (.iload_n 0, 1) := dcr zo_dX1_weight_0 7 rfl
theorem dX1_weight_16 : decode cX1_weight 16 = .ok (.iaload, 1) := dcr zo_dX1_weight_0 8 rfl
theorem dX1_weight_17 : decode cX1_weight 17 = .ok (.goto 4, 3) := dcr zo_dX1_weight_0 9 rfl
theorem dX1_weight_20 : decode cX1_weight 20 = .ok (.iconst 1, 1) := dcr zo_dX1_weight_0 10 rfl
theorem dX1_weight_21 : decode cX1_weight 21 = .ok (.ireturn, 1) := dcr zo_dX1_weight_0 11 rfl
def zt_wsX1_countOf : List (List Cond) := [[.code yX1_countOf cX1_countOf 2 (some .int)], [.methodLink RX1 15 yX1_weight, .static yX1_weight, .initialized RX1, .code yX1_weight cX1_weight 1 (some .int), .fieldLink RX1 9 "LastMap$Maps" "WEIGHTS" "[I"]]
theorem zt_wsX1_countOf_in : ∀ c ∈ zt_wsX1_countOf, ∀ w ∈ c, w ∈ wsX1_countOf := List.forall_mem_cons.mpr ⟨fun _ h => List.mem_cons.mpr (Or.inl (List.mem_singleton.mp h)), List.forall_mem_cons.mpr ⟨fun _ h => List.mem_cons_of_mem _ (h), (fun _ h => absurd h List.not_mem_nil)⟩⟩
set_option maxRecDepth 20000 in
theorem zw_wsX1_weight : wsX1_weight.all goodWord = true := by decide +kernel
set_option maxRecDepth 20000 in
theorem ggX1_countOf_X1_weight : GoodIn wsX1_countOf wsX1_weight := goodIn_c zt_wsX1_countOf_in _ [(1, 3), (1, 4)] rfl zw_wsX1_weight
set_option maxRecDepth 20000 in
theorem gX1_countOf_X1_weight : GoodIn wsX1_countOf (va_wsS RX1 15 yX1_weight wsX1_weight) := goodIn_app (goodIn_of _ (by decide +kernel)) ggX1_countOf_X1_weight
theorem zo_dX1_countOf_0 : ([(0, .iload_n 0, 1), (1, .iconst 1, 1), (2, .isub, 1), (3, .invokestatic 15, 3), (6, .istore_n 1, 1), (7, .iload_n 1, 1), (8, .iconst 1, 1), (9, .if_icmp .ge 7, 3), (12, .iconst 0, 1), (13, .goto 8, 3), (16, .sipush 15625, 3), (19, .iload_n 1, 1), (20, .idiv, 1), (21, .ireturn, 1)] : List (Nat × Instr × Nat)).all (dOk (decode cX1_countOf)) = true := by decide +kernel
theorem dX1_countOf_0 : decode cX1_countOf 0 = .ok (.iload_n 0, 1) := dcr zo_dX1_countOf_0 0 rfl
theorem dX1_countOf_1 : decode cX1_countOf 1 = .ok (.iconst 1, 1) := dcr zo_dX1_countOf_0 1 rfl
theorem dX1_countOf_2 : decode cX1_countOf 2 = .ok (.isub, 1) := dcr zo_dX1_countOf_0 2 rfl
theorem dX1_countOf_3 : decode cX1_countOf 3 = .ok (.invokestatic 15, 3) := dcr zo_dX1_countOf_0 3 rfl
theorem dX1_countOf_6 : decode cX1_countOf 6 = .ok (.istore_n 1, 1) := dcr zo_dX1_countOf_0 4 rfl
theorem dX1_countOf_7 : decode cX1_countOf 7 = .ok (.iload_n 1, 1) := dcr zo_dX1_countOf_0 5 rfl
theorem dX1_countOf_8 : decode cX1_countOf 8 = .ok (.iconst 1, 1) := dcr zo_dX1_countOf_0 6 rfl
theorem dX1_countOf_9 : decode cX1_countOf 9 = .ok (.if_icmp .ge 7, 3) := dcr zo_dX1_countOf_0 7 rfl
theorem dX1_countOf_12 : decode cX1_countOf 12 = .ok (.iconst 0, 1) := dcr zo_dX1_countOf_0 8 rfl
theorem dX1_countOf_13 : decode cX1_countOf 13 = .ok (.goto 8, 3) := dcr zo_dX1_countOf_0 9 rfl
theorem dX1_countOf_16 : decode cX1_countOf 16 = .ok (.sipush 15625, 3) := dcr zo_dX1_countOf_0 10 rfl
theorem dX1_countOf_19 : decode cX1_countOf 19 = .ok (.iload_n 1, 1) := dcr zo_dX1_countOf_0 11 rfl
theorem dX1_countOf_20 : decode cX1_countOf 20 = .ok (.idiv, 1) := dcr zo_dX1_countOf_0 12 rfl
theorem dX1_countOf_21 : decode cX1_countOf 21 = .ok (.ireturn, 1) := dcr zo_dX1_countOf_0 13 rfl
def zt_wsX1_signAt : List (List Cond) := [[.code yX1_signAt cX1_signAt 2 (some .int)], [.methodLink RX1 15 yX1_weight, .static yX1_weight, .initialized RX1, .code yX1_weight cX1_weight 1 (some .int), .fieldLink RX1 9 "LastMap$Maps" "WEIGHTS" "[I", .methodLink RX1 19 yX1_signBy, .static yX1_signBy, .code yX1_signBy cX1_signBy 2 (some .int)]]
theorem zt_wsX1_signAt_in : ∀ c ∈ zt_wsX1_signAt, ∀ w ∈ c, w ∈ wsX1_signAt := List.forall_mem_cons.mpr ⟨fun _ h => List.mem_cons.mpr (Or.inl (List.mem_singleton.mp h)), List.forall_mem_cons.mpr ⟨fun _ h => List.mem_cons_of_mem _ (h), (fun _ h => absurd h List.not_mem_nil)⟩⟩
set_option maxRecDepth 20000 in
theorem ggX1_signAt_X1_weight : GoodIn wsX1_signAt wsX1_weight := goodIn_c zt_wsX1_signAt_in _ [(1, 3), (1, 4)] rfl zw_wsX1_weight
set_option maxRecDepth 20000 in
theorem gX1_signAt_X1_weight : GoodIn wsX1_signAt (va_wsS RX1 15 yX1_weight wsX1_weight) := goodIn_app (goodIn_of _ (by decide +kernel)) ggX1_signAt_X1_weight
set_option maxRecDepth 20000 in
theorem zw_wsX1_signBy : wsX1_signBy.all goodWord = true := by decide +kernel
set_option maxRecDepth 20000 in
theorem ggX1_signAt_X1_signBy : GoodIn wsX1_signAt wsX1_signBy := goodIn_c zt_wsX1_signAt_in _ [(1, 7)] rfl zw_wsX1_signBy
set_option maxRecDepth 20000 in
theorem gX1_signAt_X1_signBy : GoodIn wsX1_signAt (va_wsS RX1 19 yX1_signBy wsX1_signBy) := goodIn_app (goodIn_of _ (by decide +kernel)) ggX1_signAt_X1_signBy
theorem zo_dX1_signAt_0 : ([(0, .iload_n 0, 1), (1, .iload_n 1, 1), (2, .invokestatic 15, 3), (5, .invokestatic 19, 3), (8, .ireturn, 1)] : List (Nat × Instr × Nat)).all (dOk (decode cX1_signAt)) = true := by decide +kernel
theorem dX1_signAt_0 : decode cX1_signAt 0 = .ok (.iload_n 0, 1) := dcr zo_dX1_signAt_0 0 rfl
theorem dX1_signAt_1 : decode cX1_signAt 1 = .ok (.iload_n 1, 1) := dcr zo_dX1_signAt_0 1 rfl
theorem dX1_signAt_2 : decode cX1_signAt 2 = .ok (.invokestatic 15, 3) := dcr zo_dX1_signAt_0 2 rfl
theorem dX1_signAt_5 : decode cX1_signAt 5 = .ok (.invokestatic 19, 3) := dcr zo_dX1_signAt_0 3 rfl
theorem dX1_signAt_8 : decode cX1_signAt 8 = .ok (.ireturn, 1) := dcr zo_dX1_signAt_0 4 rfl
theorem zo_dX1_signBy_0 : ([(0, .iload_n 1, 1), (1, .iconst 1, 1), (2, .if_icmp .ge 7, 3), (5, .iconst 0, 1), (6, .goto 8, 3), (9, .iload_n 0, 1), (10, .iload_n 1, 1), (11, .idiv, 1), (12, .iconst 5, 1), (13, .irem, 1), (14, .ireturn, 1)] : List (Nat × Instr × Nat)).all (dOk (decode cX1_signBy)) = true := by decide +kernel
theorem dX1_signBy_0 : decode cX1_signBy 0 = .ok (.iload_n 1, 1) := dcr zo_dX1_signBy_0 0 rfl
theorem dX1_signBy_1 : decode cX1_signBy 1 = .ok (.iconst 1, 1) := dcr zo_dX1_signBy_0 1 rfl
theorem dX1_signBy_2 : decode cX1_signBy 2 = .ok (.if_icmp .ge 7, 3) := dcr zo_dX1_signBy_0 2 rfl
theorem dX1_signBy_5 : decode cX1_signBy 5 = .ok (.iconst 0, 1) := dcr zo_dX1_signBy_0 3 rfl
theorem dX1_signBy_6 : decode cX1_signBy 6 = .ok (.goto 8, 3) := dcr zo_dX1_signBy_0 4 rfl
theorem dX1_signBy_9 : decode cX1_signBy 9 = .ok (.iload_n 0, 1) := dcr zo_dX1_signBy_0 5 rfl
theorem dX1_signBy_10 : decode cX1_signBy 10 = .ok (.iload_n 1, 1) := dcr zo_dX1_signBy_0 6 rfl
theorem dX1_signBy_11 : decode cX1_signBy 11 = .ok (.idiv, 1) := dcr zo_dX1_signBy_0 7 rfl
theorem dX1_signBy_12 : decode cX1_signBy 12 = .ok (.iconst 5, 1) := dcr zo_dX1_signBy_0 8 rfl
theorem dX1_signBy_13 : decode cX1_signBy 13 = .ok (.irem, 1) := dcr zo_dX1_signBy_0 9 rfl
theorem dX1_signBy_14 : decode cX1_signBy 14 = .ok (.ireturn, 1) := dcr zo_dX1_signBy_0 10 rfl
def zt_wsX1_with : List (List Cond) := [[.code yX1_with cX1_with 3 (some .int)], [.methodLink RX1 23 yX1_signAt, .static yX1_signAt, .initialized RX1, .code yX1_signAt cX1_signAt 2 (some .int), .methodLink RX1 15 yX1_weight, .static yX1_weight, .code yX1_weight cX1_weight 1 (some .int), .fieldLink RX1 9 "LastMap$Maps" "WEIGHTS" "[I", .methodLink RX1 19 yX1_signBy, .static yX1_signBy, .code yX1_signBy cX1_signBy 2 (some .int)]]
theorem zt_wsX1_with_in : ∀ c ∈ zt_wsX1_with, ∀ w ∈ c, w ∈ wsX1_with := List.forall_mem_cons.mpr ⟨fun _ h => List.mem_cons.mpr (Or.inl (List.mem_singleton.mp h)), List.forall_mem_cons.mpr ⟨fun _ h => List.mem_cons_of_mem _ (h), (fun _ h => absurd h List.not_mem_nil)⟩⟩
set_option maxRecDepth 20000 in
theorem ggX1_with_X1_signAt : GoodIn wsX1_with wsX1_signAt := goodIn_c zt_wsX1_with_in _ [(1, 3), (1, 4), (1, 5), (1, 2), (1, 6), (1, 7), (1, 8), (1, 9), (1, 10)] rfl zw_wsX1_signAt
set_option maxRecDepth 20000 in
theorem gX1_with_X1_signAt : GoodIn wsX1_with (va_wsS RX1 23 yX1_signAt wsX1_signAt) := goodIn_app (goodIn_of _ (by decide +kernel)) ggX1_with_X1_signAt
set_option maxRecDepth 20000 in
theorem ggX1_with_X1_weight : GoodIn wsX1_with wsX1_weight := goodIn_c zt_wsX1_with_in _ [(1, 6), (1, 7)] rfl zw_wsX1_weight
set_option maxRecDepth 20000 in
theorem gX1_with_X1_weight : GoodIn wsX1_with (va_wsS RX1 15 yX1_weight wsX1_weight) := goodIn_app (goodIn_of _ (by decide +kernel)) ggX1_with_X1_weight
theorem zo_dX1_with_0 : ([(0, .iload_n 0, 1), (1, .iload_n 2, 1), (2, .iload_n 0, 1), (3, .iload_n 1, 1), (4, .invokestatic 23, 3), (7, .isub, 1), (8, .iload_n 1, 1), (9, .invokestatic 15, 3), (12, .imul, 1), (13, .iadd, 1), (14, .ireturn, 1)] : List (Nat × Instr × Nat)).all (dOk (decode cX1_with)) = true := by decide +kernel
theorem dX1_with_0 : decode cX1_with 0 = .ok (.iload_n 0, 1) := dcr zo_dX1_with_0 0 rfl
theorem dX1_with_1 : decode cX1_with 1 = .ok (.iload_n 2, 1) := dcr zo_dX1_with_0 1 rfl
theorem dX1_with_2 : decode cX1_with 2 = .ok (.iload_n 0, 1) := dcr zo_dX1_with_0 2 rfl
theorem dX1_with_3 : decode cX1_with 3 = .ok (.iload_n 1, 1) := dcr zo_dX1_with_0 3 rfl
theorem dX1_with_4 : decode cX1_with 4 = .ok (.invokestatic 23, 3) := dcr zo_dX1_with_0 4 rfl
theorem dX1_with_7 : decode cX1_with 7 = .ok (.isub, 1) := dcr zo_dX1_with_0 5 rfl
theorem dX1_with_8 : decode cX1_with 8 = .ok (.iload_n 1, 1) := dcr zo_dX1_with_0 6 rfl
theorem dX1_with_9 : decode cX1_with 9 = .ok (.invokestatic 15, 3) := dcr zo_dX1_with_0 7 rfl
theorem dX1_with_12 : decode cX1_with 12 = .ok (.imul, 1) := dcr zo_dX1_with_0 8 rfl
theorem dX1_with_13 : decode cX1_with 13 = .ok (.iadd, 1) := dcr zo_dX1_with_0 9 rfl
theorem dX1_with_14 : decode cX1_with 14 = .ok (.ireturn, 1) := dcr zo_dX1_with_0 10 rfl
def zt_wsX1_unlike : List (List Cond) := [[.code yX1_unlike cX1_unlike 4 (some .int)], [.methodLink RX1 23 yX1_signAt, .static yX1_signAt, .initialized RX1, .code yX1_signAt cX1_signAt 2 (some .int), .methodLink RX1 15 yX1_weight, .static yX1_weight, .code yX1_weight cX1_weight 1 (some .int), .fieldLink RX1 9 "LastMap$Maps" "WEIGHTS" "[I", .methodLink RX1 19 yX1_signBy, .static yX1_signBy, .code yX1_signBy cX1_signBy 2 (some .int)]]
theorem zt_wsX1_unlike_in : ∀ c ∈ zt_wsX1_unlike, ∀ w ∈ c, w ∈ wsX1_unlike := List.forall_mem_cons.mpr ⟨fun _ h => List.mem_cons.mpr (Or.inl (List.mem_singleton.mp h)), List.forall_mem_cons.mpr ⟨fun _ h => List.mem_cons_of_mem _ (h), (fun _ h => absurd h List.not_mem_nil)⟩⟩
set_option maxRecDepth 20000 in
theorem ggX1_unlike_X1_signAt : GoodIn wsX1_unlike wsX1_signAt := goodIn_c zt_wsX1_unlike_in _ [(1, 3), (1, 4), (1, 5), (1, 2), (1, 6), (1, 7), (1, 8), (1, 9), (1, 10)] rfl zw_wsX1_signAt
set_option maxRecDepth 20000 in
theorem gX1_unlike_X1_signAt : GoodIn wsX1_unlike (va_wsS RX1 23 yX1_signAt wsX1_signAt) := goodIn_app (goodIn_of _ (by decide +kernel)) ggX1_unlike_X1_signAt
theorem zo_dX1_unlike_0 : ([(0, .iconst 0, 1), (1, .istore_n 2, 1), (2, .iconst 0, 1), (3, .istore_n 3, 1), (4, .iload_n 3, 1), (5, .bipush 6, 2), (7, .if_icmp .ge 25, 3), (10, .iload_n 0, 1), (11, .iload_n 3, 1), (12, .invokestatic 23, 3), (15, .iload_n 1, 1), (16, .iload_n 3, 1), (17, .invokestatic 23, 3), (20, .if_icmp .eq 6, 3), (23, .iinc 2 1, 3), (26, .iinc 3 1, 3)] : List (Nat × Instr × Nat)).all (dOk (decode cX1_unlike)) = true := by decide +kernel
theorem dX1_unlike_0 : decode cX1_unlike 0 = .ok (.iconst 0, 1) := dcr zo_dX1_unlike_0 0 rfl
theorem dX1_unlike_1 : decode cX1_unlike 1 = .ok (.istore_n 2, 1) := dcr zo_dX1_unlike_0 1 rfl
theorem dX1_unlike_2 : decode cX1_unlike 2 = .ok (.iconst 0, 1) := dcr zo_dX1_unlike_0 2 rfl
theorem dX1_unlike_3 : decode cX1_unlike 3 = .ok (.istore_n 3, 1) := dcr zo_dX1_unlike_0 3 rfl
theorem dX1_unlike_4 : decode cX1_unlike 4 = .ok (.iload_n 3, 1) := dcr zo_dX1_unlike_0 4 rfl
theorem dX1_unlike_5 : decode cX1_unlike 5 = .ok (.bipush 6, 2) := dcr zo_dX1_unlike_0 5 rfl
theorem dX1_unlike_7 : decode cX1_unlike 7 = .ok (.if_icmp .ge 25, 3) := dcr zo_dX1_unlike_0 6 rfl
theorem dX1_unlike_10 : decode cX1_unlike 10 = .ok (.iload_n 0, 1) := dcr zo_dX1_unlike_0 7 rfl
theorem dX1_unlike_11 : decode cX1_unlike 11 = .ok (.iload_n 3, 1) := dcr zo_dX1_unlike_0 8 rfl
theorem dX1_unlike_12 : decode cX1_unlike 12 = .ok (.invokestatic 23, 3) := dcr zo_dX1_unlike_0 9 rfl
theorem dX1_unlike_15 : decode cX1_unlike 15 = .ok (.iload_n 1, 1) := dcr zo_dX1_unlike_0 10 rfl
theorem dX1_unlike_16 : decode cX1_unlike 16 = .ok (.iload_n 3, 1) := dcr zo_dX1_unlike_0 11 rfl
theorem dX1_unlike_17 : decode cX1_unlike 17 = .ok (.invokestatic 23, 3) := dcr zo_dX1_unlike_0 12 rfl
theorem dX1_unlike_20 : decode cX1_unlike 20 = .ok (.if_icmp .eq 6, 3) := dcr zo_dX1_unlike_0 13 rfl
theorem dX1_unlike_23 : decode cX1_unlike 23 = .ok (.iinc 2 1, 3) := dcr zo_dX1_unlike_0 14 rfl
theorem dX1_unlike_26 : decode cX1_unlike 26 = .ok (.iinc 3 1, 3) := dcr zo_dX1_unlike_0 15 rfl
theorem zo_dX1_unlike_29 : ([(29, .goto (-25), 3), (32, .iload_n 2, 1), (33, .ireturn, 1)] : List (Nat × Instr × Nat)).all (dOk (decode cX1_unlike)) = true := by decide +kernel
theorem dX1_unlike_29 : decode cX1_unlike 29 = .ok (.goto (-25), 3) := dcr zo_dX1_unlike_29 0 rfl
theorem dX1_unlike_32 : decode cX1_unlike 32 = .ok (.iload_n 2, 1) := dcr zo_dX1_unlike_29 1 rfl
theorem dX1_unlike_33 : decode cX1_unlike 33 = .ok (.ireturn, 1) := dcr zo_dX1_unlike_29 2 rfl
theorem zo_dX2_init_0 : ([(0, .aload_n 0, 1), (1, .invokespecial 3, 3), (4, .aload_n 0, 1), (5, .bipush 40, 2), (7, .newarray .int, 2), (9, .putfield 9, 3), (12, .aload_n 0, 1), (13, .bipush 10, 2), (15, .newarray .int, 2), (17, .putfield 15, 3), (20, .return_, 1)] : List (Nat × Instr × Nat)).all (dOk (decode cX2_init)) = true := by decide +kernel
theorem dX2_init_0 : decode cX2_init 0 = .ok (.aload_n 0, 1) := dcr zo_dX2_init_0 0 rfl
theorem dX2_init_1 : decode cX2_init 1 = .ok (.invokespecial 3, 3) := dcr zo_dX2_init_0 1 rfl
theorem dX2_init_4 : decode cX2_init 4 = .ok (.aload_n 0, 1) := dcr zo_dX2_init_0 2 rfl
theorem dX2_init_5 : decode cX2_init 5 = .ok (.bipush 40, 2) := dcr zo_dX2_init_0 3 rfl
theorem dX2_init_7 : decode cX2_init 7 = .ok (.newarray .int, 2) := dcr zo_dX2_init_0 4 rfl
theorem dX2_init_9 : decode cX2_init 9 = .ok (.putfield 9, 3) := dcr zo_dX2_init_0 5 rfl
theorem dX2_init_12 : decode cX2_init 12 = .ok (.aload_n 0, 1) := dcr zo_dX2_init_0 6 rfl
theorem dX2_init_13 : decode cX2_init 13 = .ok (.bipush 10, 2) := dcr zo_dX2_init_0 7 rfl
theorem dX2_init_15 : decode cX2_init 15 = .ok (.newarray .int, 2) := dcr zo_dX2_init_0 8 rfl
theorem dX2_init_17 : decode cX2_init 17 = .ok (.putfield 15, 3) := dcr zo_dX2_init_0 9 rfl
theorem dX2_init_20 : decode cX2_init 20 = .ok (.return_, 1) := dcr zo_dX2_init_0 10 rfl
theorem zo_dX2_put_0 : ([(0, .aload_n 0, 1), (1, .getfield 18, 3), (4, .ifCond .lt 15, 3), (7, .aload_n 0, 1), (8, .getfield 18, 3), (11, .aload_n 0, 1), (12, .getfield 9, 3), (15, .arraylength, 1), (16, .if_icmp .lt 5, 3), (19, .iconst 0, 1), (20, .ireturn, 1), (21, .aload_n 0, 1), (22, .getfield 9, 3), (25, .aload_n 0, 1), (26, .getfield 18, 3), (29, .iload_n 1, 1)] : List (Nat × Instr × Nat)).all (dOk (decode cX2_put)) = true := by decide +kernel
theorem dX2_put_0 : decode cX2_put 0 = .ok (.aload_n 0, 1) := dcr zo_dX2_put_0 0 rfl
theorem dX2_put_1 : decode cX2_put 1 = .ok (.getfield 18, 3) := dcr zo_dX2_put_0 1 rfl
theorem dX2_put_4 : decode cX2_put 4 = .ok (.ifCond .lt 15, 3) := dcr zo_dX2_put_0 2 rfl
theorem dX2_put_7 : decode cX2_put 7 = .ok (.aload_n 0, 1) := dcr zo_dX2_put_0 3 rfl
theorem dX2_put_8 : decode cX2_put 8 = .ok (.getfield 18, 3) := dcr zo_dX2_put_0 4 rfl
theorem dX2_put_11 : decode cX2_put 11 = .ok (.aload_n 0, 1) := dcr zo_dX2_put_0 5 rfl
theorem dX2_put_12 : decode cX2_put 12 = .ok (.getfield 9, 3) := dcr zo_dX2_put_0 6 rfl
theorem dX2_put_15 : decode cX2_put 15 = .ok (.arraylength, 1) := dcr zo_dX2_put_0 7 rfl
theorem dX2_put_16 : decode cX2_put 16 = .ok (.if_icmp .lt 5, 3) := dcr zo_dX2_put_0 8 rfl
theorem dX2_put_19 : decode cX2_put 19 = .ok (.iconst 0, 1) := dcr zo_dX2_put_0 9 rfl
theorem dX2_put_20 : decode cX2_put 20 = .ok (.ireturn, 1) := dcr zo_dX2_put_0 10 rfl
theorem dX2_put_21 : decode cX2_put 21 = .ok (.aload_n 0, 1) := dcr zo_dX2_put_0 11 rfl
theorem dX2_put_22 : decode cX2_put 22 = .ok (.getfield 9, 3) := dcr zo_dX2_put_0 12 rfl
theorem dX2_put_25 : decode cX2_put 25 = .ok (.aload_n 0, 1) := dcr zo_dX2_put_0 13 rfl
theorem dX2_put_26 : decode cX2_put 26 = .ok (.getfield 18, 3) := dcr zo_dX2_put_0 14 rfl
theorem dX2_put_29 : decode cX2_put 29 = .ok (.iload_n 1, 1) := dcr zo_dX2_put_0 15 rfl
theorem zo_dX2_put_30 : ([(30, .iastore, 1), (31, .aload_n 0, 1), (32, .dup, 1), (33, .getfield 18, 3), (36, .iconst 1, 1), (37, .iadd, 1), (38, .putfield 18, 3), (41, .iconst 1, 1), (42, .ireturn, 1)] : List (Nat × Instr × Nat)).all (dOk (decode cX2_put)) = true := by decide +kernel
theorem dX2_put_30 : decode cX2_put 30 = .ok (.iastore, 1) := dcr zo_dX2_put_30 0 rfl
theorem dX2_put_31 : decode cX2_put 31 = .ok (.aload_n 0, 1) := dcr zo_dX2_put_30 1 rfl
theorem dX2_put_32 : decode cX2_put 32 = .ok (.dup, 1) := dcr zo_dX2_put_30 2 rfl
theorem dX2_put_33 : decode cX2_put 33 = .ok (.getfield 18, 3) := dcr zo_dX2_put_30 3 rfl
theorem dX2_put_36 : decode cX2_put 36 = .ok (.iconst 1, 1) := dcr zo_dX2_put_30 4 rfl
theorem dX2_put_37 : decode cX2_put 37 = .ok (.iadd, 1) := dcr zo_dX2_put_30 5 rfl
theorem dX2_put_38 : decode cX2_put 38 = .ok (.putfield 18, 3) := dcr zo_dX2_put_30 6 rfl
theorem dX2_put_41 : decode cX2_put 41 = .ok (.iconst 1, 1) := dcr zo_dX2_put_30 7 rfl
theorem dX2_put_42 : decode cX2_put 42 = .ok (.ireturn, 1) := dcr zo_dX2_put_30 8 rfl
theorem zo_dX2_signAt_0 : ([(0, .iload_n 1, 1), (1, .ifCond .lt 29, 3), (4, .iload_n 1, 1), (5, .aload_n 0, 1), (6, .getfield 18, 3), (9, .if_icmp .ge 21, 3), (12, .iload_n 1, 1), (13, .aload_n 0, 1), (14, .getfield 9, 3), (17, .arraylength, 1), (18, .if_icmp .ge 12, 3), (21, .aload_n 0, 1), (22, .getfield 9, 3), (25, .iload_n 1, 1), (26, .iaload, 1), (27, .goto 4, 3)] : List (Nat × Instr × Nat)).all (dOk (decode cX2_signAt)) = true := by decide +kernel
theorem dX2_signAt_0 : decode cX2_signAt 0 = .ok (.iload_n 1, 1) := dcr zo_dX2_signAt_0 0 rfl
theorem dX2_signAt_1 : decode cX2_signAt 1 = .ok (.ifCond .lt 29, 3) := dcr zo_dX2_signAt_0 1 rfl
theorem dX2_signAt_4 : decode cX2_signAt 4 = .ok (.iload_n 1, 1) := dcr zo_dX2_signAt_0 2 rfl
theorem dX2_signAt_5 : decode cX2_signAt 5 = .ok (.aload_n 0, 1) := dcr zo_dX2_signAt_0 3 rfl
theorem dX2_signAt_6 : decode cX2_signAt 6 = .ok (.getfield 18, 3) := dcr zo_dX2_signAt_0 4 rfl
theorem dX2_signAt_9 : decode cX2_signAt 9 = .ok (.if_icmp .ge 21, 3) := dcr zo_dX2_signAt_0 5 rfl
theorem dX2_signAt_12 : decode cX2_signAt 12 = .ok (.iload_n 1, 1) := dcr zo_dX2_signAt_0 6 rfl
theorem dX2_signAt_13 : decode cX2_signAt 13 = .ok (.aload_n 0, 1) := dcr zo_dX2_signAt_0 7 rfl
theorem dX2_signAt_14 : decode cX2_signAt 14 = .ok (.getfield 9, 3) := dcr zo_dX2_signAt_0 8 rfl
theorem dX2_signAt_17 : decode cX2_signAt 17 = .ok (.arraylength, 1) := dcr zo_dX2_signAt_0 9 rfl
theorem dX2_signAt_18 : decode cX2_signAt 18 = .ok (.if_icmp .ge 12, 3) := dcr zo_dX2_signAt_0 10 rfl
theorem dX2_signAt_21 : decode cX2_signAt 21 = .ok (.aload_n 0, 1) := dcr zo_dX2_signAt_0 11 rfl
theorem dX2_signAt_22 : decode cX2_signAt 22 = .ok (.getfield 9, 3) := dcr zo_dX2_signAt_0 12 rfl
theorem dX2_signAt_25 : decode cX2_signAt 25 = .ok (.iload_n 1, 1) := dcr zo_dX2_signAt_0 13 rfl
theorem dX2_signAt_26 : decode cX2_signAt 26 = .ok (.iaload, 1) := dcr zo_dX2_signAt_0 14 rfl
theorem dX2_signAt_27 : decode cX2_signAt 27 = .ok (.goto 4, 3) := dcr zo_dX2_signAt_0 15 rfl
theorem zo_dX2_signAt_30 : ([(30, .iconst 0, 1), (31, .ireturn, 1)] : List (Nat × Instr × Nat)).all (dOk (decode cX2_signAt)) = true := by decide +kernel
theorem dX2_signAt_30 : decode cX2_signAt 30 = .ok (.iconst 0, 1) := dcr zo_dX2_signAt_30 0 rfl
theorem dX2_signAt_31 : decode cX2_signAt 31 = .ok (.ireturn, 1) := dcr zo_dX2_signAt_30 1 rfl
def zt_wsX2_markAt : List (List Cond) := [[.code yX2_markAt cX2_markAt 2 (some .int)], [.methodLink RX2 22 yX2_signAt, .instanceMethod yX2_signAt, .selects RX2 yX2_signAt yX2_signAt, .initialized RX2, .code yX2_signAt cX2_signAt 2 (some .int), .fieldLink RX2 18 "LastMap$Pad" "length" "I", .fieldLink RX2 9 "LastMap$Pad" "signs" "[I", .methodLink RX2 26 yX5_number, .static yX5_number, .initialized RX5, .code yX5_number cX5_number 2 (some .int), .fieldLink RX5 7 "LastMap$Signs" "WRITTEN" "[I"], wsX20]
theorem zt_wsX2_markAt_in : ∀ c ∈ zt_wsX2_markAt, ∀ w ∈ c, w ∈ wsX2_markAt := List.forall_mem_cons.mpr ⟨fun _ h => List.mem_cons.mpr (Or.inl (List.mem_singleton.mp h)), List.forall_mem_cons.mpr ⟨fun _ h => List.mem_cons_of_mem _ (List.mem_append_left _ (h)), List.forall_mem_cons.mpr ⟨fun _ h => List.mem_cons_of_mem _ (List.mem_append_right _ h), (fun _ h => absurd h List.not_mem_nil)⟩⟩⟩
set_option maxRecDepth 20000 in
theorem zw_wsX2_signAt : wsX2_signAt.all goodWord = true := by decide +kernel
set_option maxRecDepth 20000 in
theorem ggX2_markAt_X2_signAt : GoodIn wsX2_markAt wsX2_signAt := goodIn_c zt_wsX2_markAt_in _ [(1, 4), (1, 5), (1, 6), (2, 0), (2, 1), (2, 2)] rfl zw_wsX2_signAt
set_option maxRecDepth 20000 in
theorem gX2_markAt_X2_signAt : GoodIn wsX2_markAt (wsV RX2 22 RX2 yX2_signAt wsX2_signAt) := goodIn_app (goodIn_of _ (by decide +kernel)) ggX2_markAt_X2_signAt
set_option maxRecDepth 20000 in
theorem zw_wsX5_number : wsX5_number.all goodWord = true := by decide +kernel
set_option maxRecDepth 20000 in
theorem ggX2_markAt_X5_number : GoodIn wsX2_markAt wsX5_number := goodIn_c zt_wsX2_markAt_in _ [(1, 10), (1, 11)] rfl zw_wsX5_number
set_option maxRecDepth 20000 in
theorem gX2_markAt_X5_number : GoodIn wsX2_markAt (va_wsS RX2 26 yX5_number wsX5_number) := goodIn_app (goodIn_of _ (by decide +kernel)) ggX2_markAt_X5_number
theorem zo_dX2_markAt_0 : ([(0, .aload_n 0, 1), (1, .iload_n 1, 1), (2, .invokevirtual 22, 3), (5, .invokestatic 26, 3), (8, .ireturn, 1)] : List (Nat × Instr × Nat)).all (dOk (decode cX2_markAt)) = true := by decide +kernel
theorem dX2_markAt_0 : decode cX2_markAt 0 = .ok (.aload_n 0, 1) := dcr zo_dX2_markAt_0 0 rfl
theorem dX2_markAt_1 : decode cX2_markAt 1 = .ok (.iload_n 1, 1) := dcr zo_dX2_markAt_0 1 rfl
theorem dX2_markAt_2 : decode cX2_markAt 2 = .ok (.invokevirtual 22, 3) := dcr zo_dX2_markAt_0 2 rfl
theorem dX2_markAt_5 : decode cX2_markAt 5 = .ok (.invokestatic 26, 3) := dcr zo_dX2_markAt_0 3 rfl
theorem dX2_markAt_8 : decode cX2_markAt 8 = .ok (.ireturn, 1) := dcr zo_dX2_markAt_0 4 rfl
def zt_wsX2_firstWrong : List (List Cond) := [[.code yX2_firstWrong cX2_firstWrong 6 (some .int)], wsX2_firstWrong_r1, wsX2_firstWrong_r2, wsX20]
theorem zt_wsX2_firstWrong_in : ∀ c ∈ zt_wsX2_firstWrong, ∀ w ∈ c, w ∈ wsX2_firstWrong := List.forall_mem_cons.mpr ⟨fun _ h => List.mem_cons.mpr (Or.inl (List.mem_singleton.mp h)), List.forall_mem_cons.mpr ⟨fun _ h => List.mem_cons_of_mem _ (List.mem_append_left _ (List.mem_append_left _ h)), List.forall_mem_cons.mpr ⟨fun _ h => List.mem_cons_of_mem _ (List.mem_append_left _ (List.mem_append_right _ (h))), List.forall_mem_cons.mpr ⟨fun _ h => List.mem_cons_of_mem _ (List.mem_append_right _ h), (fun _ h => absurd h List.not_mem_nil)⟩⟩⟩⟩
set_option maxRecDepth 20000 in
theorem zw_wsX2_firstWrongOfSlips : wsX2_firstWrongOfSlips.all goodWord = true := by decide +kernel
set_option maxRecDepth 20000 in
theorem ggX2_firstWrong_X2_firstWrongOfSlips : GoodIn wsX2_firstWrong wsX2_firstWrongOfSlips := goodIn_c zt_wsX2_firstWrong_in _ [(1, 5), (1, 0), (1, 6), (1, 7), (1, 8), (1, 4), (1, 9), (1, 10), (1, 11), (1, 12), (1, 13), (1, 14), (1, 15), (1, 16), (1, 17), (1, 18), (1, 19), (1, 20), (1, 21), (1, 22), (1, 23), (2, 0), (2, 1), (2, 2), (2, 3), (2, 4), (2, 5), (2, 6), (2, 7), (2, 8), (2, 9), (2, 10), (2, 11), (3, 0), (3, 1), (3, 2)] rfl zw_wsX2_firstWrongOfSlips
set_option maxRecDepth 20000 in
theorem gX2_firstWrong_X2_firstWrongOfSlips : GoodIn wsX2_firstWrong (wsV RX2 31 RX2 yX2_firstWrongOfSlips wsX2_firstWrongOfSlips) := goodIn_app (goodIn_of _ (by decide +kernel)) ggX2_firstWrong_X2_firstWrongOfSlips
set_option maxRecDepth 20000 in
theorem zw_wsX2_markAt : wsX2_markAt.all goodWord = true := by decide +kernel
set_option maxRecDepth 20000 in
theorem ggX2_firstWrong_X2_markAt : GoodIn wsX2_firstWrong wsX2_markAt := goodIn_c zt_wsX2_firstWrong_in _ [(2, 2), (1, 14), (1, 15), (1, 16), (1, 4), (1, 17), (1, 0), (1, 18), (2, 3), (2, 4), (2, 5), (2, 6), (2, 7), (3, 0), (3, 1), (3, 2)] rfl zw_wsX2_markAt
set_option maxRecDepth 20000 in
theorem gX2_firstWrong_X2_markAt : GoodIn wsX2_firstWrong (wsV RX2 34 RX2 yX2_markAt wsX2_markAt) := goodIn_app (goodIn_of _ (by decide +kernel)) ggX2_firstWrong_X2_markAt
theorem zo_dX2_firstWrong_0 : ([(0, .iload_n 1, 1), (1, .iconst 1, 1), (2, .if_icmp .ne 9, 3), (5, .aload_n 0, 1), (6, .iload_n 2, 1), (7, .invokevirtual 31, 3), (10, .ireturn, 1), (11, .iload_n 1, 1), (12, .iconst 2, 1), (13, .if_icmp .ne 7, 3), (16, .iconst 5, 1), (17, .goto 4, 3), (20, .iconst 4, 1), (21, .istore_n 3, 1), (22, .iconst 0, 1), (23, .istore 4, 2)] : List (Nat × Instr × Nat)).all (dOk (decode cX2_firstWrong)) = true := by decide +kernel
theorem dX2_firstWrong_0 : decode cX2_firstWrong 0 = .ok (.iload_n 1, 1) := dcr zo_dX2_firstWrong_0 0 rfl
theorem dX2_firstWrong_1 : decode cX2_firstWrong 1 = .ok (.iconst 1, 1) := dcr zo_dX2_firstWrong_0 1 rfl
theorem dX2_firstWrong_2 : decode cX2_firstWrong 2 = .ok (.if_icmp .ne 9, 3) := dcr zo_dX2_firstWrong_0 2 rfl
theorem dX2_firstWrong_5 : decode cX2_firstWrong 5 = .ok (.aload_n 0, 1) := dcr zo_dX2_firstWrong_0 3 rfl
theorem dX2_firstWrong_6 : decode cX2_firstWrong 6 = .ok (.iload_n 2, 1) := dcr zo_dX2_firstWrong_0 4 rfl
theorem dX2_firstWrong_7 : decode cX2_firstWrong 7 = .ok (.invokevirtual 31, 3) := dcr zo_dX2_firstWrong_0 5 rfl
theorem dX2_firstWrong_10 : decode cX2_firstWrong 10 = .ok (.ireturn, 1) := dcr zo_dX2_firstWrong_0 6 rfl
theorem dX2_firstWrong_11 : decode cX2_firstWrong 11 = .ok (.iload_n 1, 1) := dcr zo_dX2_firstWrong_0 7 rfl
theorem dX2_firstWrong_12 : decode cX2_firstWrong 12 = .ok (.iconst 2, 1) := dcr zo_dX2_firstWrong_0 8 rfl
theorem dX2_firstWrong_13 : decode cX2_firstWrong 13 = .ok (.if_icmp .ne 7, 3) := dcr zo_dX2_firstWrong_0 9 rfl
theorem dX2_firstWrong_16 : decode cX2_firstWrong 16 = .ok (.iconst 5, 1) := dcr zo_dX2_firstWrong_0 10 rfl
theorem dX2_firstWrong_17 : decode cX2_firstWrong 17 = .ok (.goto 4, 3) := dcr zo_dX2_firstWrong_0 11 rfl
theorem dX2_firstWrong_20 : decode cX2_firstWrong 20 = .ok (.iconst 4, 1) := dcr zo_dX2_firstWrong_0 12 rfl
theorem dX2_firstWrong_21 : decode cX2_firstWrong 21 = .ok (.istore_n 3, 1) := dcr zo_dX2_firstWrong_0 13 rfl
theorem dX2_firstWrong_22 : decode cX2_firstWrong 22 = .ok (.iconst 0, 1) := dcr zo_dX2_firstWrong_0 14 rfl
theorem dX2_firstWrong_23 : decode cX2_firstWrong 23 = .ok (.istore 4, 2) := dcr zo_dX2_firstWrong_0 15 rfl
theorem zo_dX2_firstWrong_25 : ([(25, .iload 4, 2), (27, .aload_n 0, 1), (28, .getfield 18, 3), (31, .if_icmp .ge 37, 3), (34, .aload_n 0, 1), (35, .iload 4, 2), (37, .invokevirtual 34, 3), (40, .istore 5, 2), (42, .iload 4, 2), (44, .iload_n 2, 1), (45, .if_icmp .ge 14, 3), (48, .iload 5, 2), (50, .ifCond .lt 9, 3), (53, .iload 5, 2), (55, .iload_n 3, 1), (56, .if_icmp .le 6, 3)] : List (Nat × Instr × Nat)).all (dOk (decode cX2_firstWrong)) = true := by decide +kernel
theorem dX2_firstWrong_25 : decode cX2_firstWrong 25 = .ok (.iload 4, 2) := dcr zo_dX2_firstWrong_25 0 rfl
theorem dX2_firstWrong_27 : decode cX2_firstWrong 27 = .ok (.aload_n 0, 1) := dcr zo_dX2_firstWrong_25 1 rfl
theorem dX2_firstWrong_28 : decode cX2_firstWrong 28 = .ok (.getfield 18, 3) := dcr zo_dX2_firstWrong_25 2 rfl
theorem dX2_firstWrong_31 : decode cX2_firstWrong 31 = .ok (.if_icmp .ge 37, 3) := dcr zo_dX2_firstWrong_25 3 rfl
theorem dX2_firstWrong_34 : decode cX2_firstWrong 34 = .ok (.aload_n 0, 1) := dcr zo_dX2_firstWrong_25 4 rfl
theorem dX2_firstWrong_35 : decode cX2_firstWrong 35 = .ok (.iload 4, 2) := dcr zo_dX2_firstWrong_25 5 rfl
theorem dX2_firstWrong_37 : decode cX2_firstWrong 37 = .ok (.invokevirtual 34, 3) := dcr zo_dX2_firstWrong_25 6 rfl
theorem dX2_firstWrong_40 : decode cX2_firstWrong 40 = .ok (.istore 5, 2) := dcr zo_dX2_firstWrong_25 7 rfl
theorem dX2_firstWrong_42 : decode cX2_firstWrong 42 = .ok (.iload 4, 2) := dcr zo_dX2_firstWrong_25 8 rfl
theorem dX2_firstWrong_44 : decode cX2_firstWrong 44 = .ok (.iload_n 2, 1) := dcr zo_dX2_firstWrong_25 9 rfl
theorem dX2_firstWrong_45 : decode cX2_firstWrong 45 = .ok (.if_icmp .ge 14, 3) := dcr zo_dX2_firstWrong_25 10 rfl
theorem dX2_firstWrong_48 : decode cX2_firstWrong 48 = .ok (.iload 5, 2) := dcr zo_dX2_firstWrong_25 11 rfl
theorem dX2_firstWrong_50 : decode cX2_firstWrong 50 = .ok (.ifCond .lt 9, 3) := dcr zo_dX2_firstWrong_25 12 rfl
theorem dX2_firstWrong_53 : decode cX2_firstWrong 53 = .ok (.iload 5, 2) := dcr zo_dX2_firstWrong_25 13 rfl
theorem dX2_firstWrong_55 : decode cX2_firstWrong 55 = .ok (.iload_n 3, 1) := dcr zo_dX2_firstWrong_25 14 rfl
theorem dX2_firstWrong_56 : decode cX2_firstWrong 56 = .ok (.if_icmp .le 6, 3) := dcr zo_dX2_firstWrong_25 15 rfl
theorem zo_dX2_firstWrong_59 : ([(59, .iload 4, 2), (61, .ireturn, 1), (62, .iinc 4 1, 3), (65, .goto (-40), 3), (68, .aload_n 0, 1), (69, .getfield 18, 3), (72, .iload_n 2, 1), (73, .if_icmp .ge 10, 3), (76, .aload_n 0, 1), (77, .getfield 18, 3), (80, .goto 5, 3), (83, .bipush (-6), 2), (85, .ireturn, 1)] : List (Nat × Instr × Nat)).all (dOk (decode cX2_firstWrong)) = true := by decide +kernel
theorem dX2_firstWrong_59 : decode cX2_firstWrong 59 = .ok (.iload 4, 2) := dcr zo_dX2_firstWrong_59 0 rfl
theorem dX2_firstWrong_61 : decode cX2_firstWrong 61 = .ok (.ireturn, 1) := dcr zo_dX2_firstWrong_59 1 rfl
theorem dX2_firstWrong_62 : decode cX2_firstWrong 62 = .ok (.iinc 4 1, 3) := dcr zo_dX2_firstWrong_59 2 rfl
theorem dX2_firstWrong_65 : decode cX2_firstWrong 65 = .ok (.goto (-40), 3) := dcr zo_dX2_firstWrong_59 3 rfl
theorem dX2_firstWrong_68 : decode cX2_firstWrong 68 = .ok (.aload_n 0, 1) := dcr zo_dX2_firstWrong_59 4 rfl
theorem dX2_firstWrong_69 : decode cX2_firstWrong 69 = .ok (.getfield 18, 3) := dcr zo_dX2_firstWrong_59 5 rfl
theorem dX2_firstWrong_72 : decode cX2_firstWrong 72 = .ok (.iload_n 2, 1) := dcr zo_dX2_firstWrong_59 6 rfl
theorem dX2_firstWrong_73 : decode cX2_firstWrong 73 = .ok (.if_icmp .ge 10, 3) := dcr zo_dX2_firstWrong_59 7 rfl
theorem dX2_firstWrong_76 : decode cX2_firstWrong 76 = .ok (.aload_n 0, 1) := dcr zo_dX2_firstWrong_59 8 rfl
theorem dX2_firstWrong_77 : decode cX2_firstWrong 77 = .ok (.getfield 18, 3) := dcr zo_dX2_firstWrong_59 9 rfl
theorem dX2_firstWrong_80 : decode cX2_firstWrong 80 = .ok (.goto 5, 3) := dcr zo_dX2_firstWrong_59 10 rfl
theorem dX2_firstWrong_83 : decode cX2_firstWrong 83 = .ok (.bipush (-6), 2) := dcr zo_dX2_firstWrong_59 11 rfl
theorem dX2_firstWrong_85 : decode cX2_firstWrong 85 = .ok (.ireturn, 1) := dcr zo_dX2_firstWrong_59 12 rfl
def zt_wsX2_firstWrongOfSlips : List (List Cond) := [[.code yX2_firstWrongOfSlips cX2_firstWrongOfSlips 5 (some .int)], wsX2_firstWrongOfSlips_r1, wsX2_firstWrongOfSlips_r2, wsX20]
theorem zt_wsX2_firstWrongOfSlips_in : ∀ c ∈ zt_wsX2_firstWrongOfSlips, ∀ w ∈ c, w ∈ wsX2_firstWrongOfSlips := List.forall_mem_cons.mpr ⟨fun _ h => List.mem_cons.mpr (Or.inl (List.mem_singleton.mp h)), List.forall_mem_cons.mpr ⟨fun _ h => List.mem_cons_of_mem _ (List.mem_append_left _ (List.mem_append_left _ h)), List.forall_mem_cons.mpr ⟨fun _ h => List.mem_cons_of_mem _ (List.mem_append_left _ (List.mem_append_right _ (h))), List.forall_mem_cons.mpr ⟨fun _ h => List.mem_cons_of_mem _ (List.mem_append_right _ h), (fun _ h => absurd h List.not_mem_nil)⟩⟩⟩⟩
set_option maxRecDepth 20000 in
theorem zw_wsX2_firstWrongOfSlip : wsX2_firstWrongOfSlip.all goodWord = true := by decide +kernel
set_option maxRecDepth 20000 in
theorem ggX2_firstWrongOfSlips_X2_firstWrongOfSlip : GoodIn wsX2_firstWrongOfSlips wsX2_firstWrongOfSlip := goodIn_c zt_wsX2_firstWrongOfSlips_in _ [(1, 5), (1, 0), (1, 6), (1, 7), (1, 8), (1, 4), (1, 9), (1, 10), (1, 11), (1, 12), (1, 13), (1, 14), (1, 15), (1, 16), (1, 17), (1, 18), (1, 19), (1, 20), (1, 21), (1, 22), (1, 23), (2, 0), (2, 1), (2, 2), (2, 3), (3, 0), (3, 1), (3, 2)] rfl zw_wsX2_firstWrongOfSlip
set_option maxRecDepth 20000 in
theorem gX2_firstWrongOfSlips_X2_firstWrongOfSlip : GoodIn wsX2_firstWrongOfSlips (wsV RX2 37 RX2 yX2_firstWrongOfSlip wsX2_firstWrongOfSlip) := goodIn_app (goodIn_of _ (by decide +kernel)) ggX2_firstWrongOfSlips_X2_firstWrongOfSlip
set_option maxRecDepth 20000 in
theorem zw_wsX2_lengthOfSlip : wsX2_lengthOfSlip.all goodWord = true := by decide +kernel
set_option maxRecDepth 20000 in
theorem ggX2_firstWrongOfSlips_X2_lengthOfSlip : GoodIn wsX2_firstWrongOfSlips wsX2_lengthOfSlip := goodIn_c zt_wsX2_firstWrongOfSlips_in _ [(2, 7), (1, 6), (1, 7), (1, 8), (1, 4), (1, 9), (1, 10), (1, 11), (1, 12), (1, 13), (1, 0), (1, 14), (3, 0), (3, 1), (3, 2)] rfl zw_wsX2_lengthOfSlip
set_option maxRecDepth 20000 in
theorem gX2_firstWrongOfSlips_X2_lengthOfSlip : GoodIn wsX2_firstWrongOfSlips (wsV RX2 41 RX2 yX2_lengthOfSlip wsX2_lengthOfSlip) := goodIn_app (goodIn_of _ (by decide +kernel)) ggX2_firstWrongOfSlips_X2_lengthOfSlip
theorem zo_dX2_firstWrongOfSlips_0 : ([(0, .iconst 0, 1), (1, .istore_n 2, 1), (2, .iconst 0, 1), (3, .istore_n 3, 1), (4, .iload_n 3, 1), (5, .bipush 10, 2), (7, .if_icmp .ge 43, 3), (10, .iload_n 2, 1), (11, .aload_n 0, 1), (12, .getfield 18, 3), (15, .if_icmp .ge 35, 3), (18, .aload_n 0, 1), (19, .iload_n 2, 1), (20, .iload_n 1, 1), (21, .invokevirtual 37, 3), (24, .istore 4, 2)] : List (Nat × Instr × Nat)).all (dOk (decode cX2_firstWrongOfSlips)) = true := by decide +kernel
theorem dX2_firstWrongOfSlips_0 : decode cX2_firstWrongOfSlips 0 = .ok (.iconst 0, 1) := dcr zo_dX2_firstWrongOfSlips_0 0 rfl
theorem dX2_firstWrongOfSlips_1 : decode cX2_firstWrongOfSlips 1 = .ok (.istore_n 2, 1) := dcr zo_dX2_firstWrongOfSlips_0 1 rfl
theorem dX2_firstWrongOfSlips_2 : decode cX2_firstWrongOfSlips 2 = .ok (.iconst 0, 1) := dcr zo_dX2_firstWrongOfSlips_0 2 rfl
theorem dX2_firstWrongOfSlips_3 : decode cX2_firstWrongOfSlips 3 = .ok (.istore_n 3, 1) := dcr zo_dX2_firstWrongOfSlips_0 3 rfl
theorem dX2_firstWrongOfSlips_4 : decode cX2_firstWrongOfSlips 4 = .ok (.iload_n 3, 1) := dcr zo_dX2_firstWrongOfSlips_0 4 rfl
theorem dX2_firstWrongOfSlips_5 : decode cX2_firstWrongOfSlips 5 = .ok (.bipush 10, 2) := dcr zo_dX2_firstWrongOfSlips_0 5 rfl
theorem dX2_firstWrongOfSlips_7 : decode cX2_firstWrongOfSlips 7 = .ok (.if_icmp .ge 43, 3) := dcr zo_dX2_firstWrongOfSlips_0 6 rfl
theorem dX2_firstWrongOfSlips_10 : decode cX2_firstWrongOfSlips 10 = .ok (.iload_n 2, 1) := dcr zo_dX2_firstWrongOfSlips_0 7 rfl
theorem dX2_firstWrongOfSlips_11 : decode cX2_firstWrongOfSlips 11 = .ok (.aload_n 0, 1) := dcr zo_dX2_firstWrongOfSlips_0 8 rfl
theorem dX2_firstWrongOfSlips_12 : decode cX2_firstWrongOfSlips 12 = .ok (.getfield 18, 3) := dcr zo_dX2_firstWrongOfSlips_0 9 rfl
theorem dX2_firstWrongOfSlips_15 : decode cX2_firstWrongOfSlips 15 = .ok (.if_icmp .ge 35, 3) := dcr zo_dX2_firstWrongOfSlips_0 10 rfl
theorem dX2_firstWrongOfSlips_18 : decode cX2_firstWrongOfSlips 18 = .ok (.aload_n 0, 1) := dcr zo_dX2_firstWrongOfSlips_0 11 rfl
theorem dX2_firstWrongOfSlips_19 : decode cX2_firstWrongOfSlips 19 = .ok (.iload_n 2, 1) := dcr zo_dX2_firstWrongOfSlips_0 12 rfl
theorem dX2_firstWrongOfSlips_20 : decode cX2_firstWrongOfSlips 20 = .ok (.iload_n 1, 1) := dcr zo_dX2_firstWrongOfSlips_0 13 rfl
theorem dX2_firstWrongOfSlips_21 : decode cX2_firstWrongOfSlips 21 = .ok (.invokevirtual 37, 3) := dcr zo_dX2_firstWrongOfSlips_0 14 rfl
theorem dX2_firstWrongOfSlips_24 : decode cX2_firstWrongOfSlips 24 = .ok (.istore 4, 2) := dcr zo_dX2_firstWrongOfSlips_0 15 rfl
theorem zo_dX2_firstWrongOfSlips_26 : ([(26, .iload 4, 2), (28, .bipush (-6), 2), (30, .if_icmp .eq 6, 3), (33, .iload 4, 2), (35, .ireturn, 1), (36, .iload_n 2, 1), (37, .aload_n 0, 1), (38, .iload_n 2, 1), (39, .invokevirtual 41, 3), (42, .iadd, 1), (43, .istore_n 2, 1), (44, .iinc 3 1, 3), (47, .goto (-43), 3), (50, .iload_n 2, 1), (51, .aload_n 0, 1), (52, .getfield 18, 3)] : List (Nat × Instr × Nat)).all (dOk (decode cX2_firstWrongOfSlips)) = true := by decide +kernel
theorem dX2_firstWrongOfSlips_26 : decode cX2_firstWrongOfSlips 26 = .ok (.iload 4, 2) := dcr zo_dX2_firstWrongOfSlips_26 0 rfl
theorem dX2_firstWrongOfSlips_28 : decode cX2_firstWrongOfSlips 28 = .ok (.bipush (-6), 2) := dcr zo_dX2_firstWrongOfSlips_26 1 rfl
theorem dX2_firstWrongOfSlips_30 : decode cX2_firstWrongOfSlips 30 = .ok (.if_icmp .eq 6, 3) := dcr zo_dX2_firstWrongOfSlips_26 2 rfl
theorem dX2_firstWrongOfSlips_33 : decode cX2_firstWrongOfSlips 33 = .ok (.iload 4, 2) := dcr zo_dX2_firstWrongOfSlips_26 3 rfl
theorem dX2_firstWrongOfSlips_35 : decode cX2_firstWrongOfSlips 35 = .ok (.ireturn, 1) := dcr zo_dX2_firstWrongOfSlips_26 4 rfl
theorem dX2_firstWrongOfSlips_36 : decode cX2_firstWrongOfSlips 36 = .ok (.iload_n 2, 1) := dcr zo_dX2_firstWrongOfSlips_26 5 rfl
theorem dX2_firstWrongOfSlips_37 : decode cX2_firstWrongOfSlips 37 = .ok (.aload_n 0, 1) := dcr zo_dX2_firstWrongOfSlips_26 6 rfl
theorem dX2_firstWrongOfSlips_38 : decode cX2_firstWrongOfSlips 38 = .ok (.iload_n 2, 1) := dcr zo_dX2_firstWrongOfSlips_26 7 rfl
theorem dX2_firstWrongOfSlips_39 : decode cX2_firstWrongOfSlips 39 = .ok (.invokevirtual 41, 3) := dcr zo_dX2_firstWrongOfSlips_26 8 rfl
theorem dX2_firstWrongOfSlips_42 : decode cX2_firstWrongOfSlips 42 = .ok (.iadd, 1) := dcr zo_dX2_firstWrongOfSlips_26 9 rfl
theorem dX2_firstWrongOfSlips_43 : decode cX2_firstWrongOfSlips 43 = .ok (.istore_n 2, 1) := dcr zo_dX2_firstWrongOfSlips_26 10 rfl
theorem dX2_firstWrongOfSlips_44 : decode cX2_firstWrongOfSlips 44 = .ok (.iinc 3 1, 3) := dcr zo_dX2_firstWrongOfSlips_26 11 rfl
theorem dX2_firstWrongOfSlips_47 : decode cX2_firstWrongOfSlips 47 = .ok (.goto (-43), 3) := dcr zo_dX2_firstWrongOfSlips_26 12 rfl
theorem dX2_firstWrongOfSlips_50 : decode cX2_firstWrongOfSlips 50 = .ok (.iload_n 2, 1) := dcr zo_dX2_firstWrongOfSlips_26 13 rfl
theorem dX2_firstWrongOfSlips_51 : decode cX2_firstWrongOfSlips 51 = .ok (.aload_n 0, 1) := dcr zo_dX2_firstWrongOfSlips_26 14 rfl
theorem dX2_firstWrongOfSlips_52 : decode cX2_firstWrongOfSlips 52 = .ok (.getfield 18, 3) := dcr zo_dX2_firstWrongOfSlips_26 15 rfl
theorem zo_dX2_firstWrongOfSlips_55 : ([(55, .if_icmp .ge 7, 3), (58, .iload_n 2, 1), (59, .goto 5, 3), (62, .bipush (-6), 2), (64, .ireturn, 1)] : List (Nat × Instr × Nat)).all (dOk (decode cX2_firstWrongOfSlips)) = true := by decide +kernel
theorem dX2_firstWrongOfSlips_55 : decode cX2_firstWrongOfSlips 55 = .ok (.if_icmp .ge 7, 3) := dcr zo_dX2_firstWrongOfSlips_55 0 rfl
theorem dX2_firstWrongOfSlips_58 : decode cX2_firstWrongOfSlips 58 = .ok (.iload_n 2, 1) := dcr zo_dX2_firstWrongOfSlips_55 1 rfl
theorem dX2_firstWrongOfSlips_59 : decode cX2_firstWrongOfSlips 59 = .ok (.goto 5, 3) := dcr zo_dX2_firstWrongOfSlips_55 2 rfl
theorem dX2_firstWrongOfSlips_62 : decode cX2_firstWrongOfSlips 62 = .ok (.bipush (-6), 2) := dcr zo_dX2_firstWrongOfSlips_55 3 rfl
theorem dX2_firstWrongOfSlips_64 : decode cX2_firstWrongOfSlips 64 = .ok (.ireturn, 1) := dcr zo_dX2_firstWrongOfSlips_55 4 rfl
def zt_wsX2_firstWrongOfSlip : List (List Cond) := [[.code yX2_firstWrongOfSlip cX2_firstWrongOfSlip 6 (some .int)], [.fieldLink RX2 18 "LastMap$Pad" "length" "I", .methodLink RX2 44 yX2_kindAt, .instanceMethod yX2_kindAt, .selects RX2 yX2_kindAt yX2_kindAt, .initialized RX2, .code yX2_kindAt cX2_kindAt 2 (some .int), .methodLink RX2 22 yX2_signAt, .instanceMethod yX2_signAt, .selects RX2 yX2_signAt yX2_signAt, .code yX2_signAt cX2_signAt 2 (some .int), .fieldLink RX2 9 "LastMap$Pad" "signs" "[I", .methodLink RX2 47 yX6_sitesFor, .static yX6_sitesFor, .initialized RX6, .code yX6_sitesFor cX6_sitesFor 2 (some .int), .methodLink RX2 34 yX2_markAt, .instanceMethod yX2_markAt, .selects RX2 yX2_markAt yX2_markAt, .code yX2_markAt cX2_markAt 2 (some .int), .methodLink RX2 26 yX5_number, .static yX5_number, .initialized RX5, .code yX5_number cX5_number 2 (some .int), .fieldLink RX5 7 "LastMap$Signs" "WRITTEN" "[I"], wsX20]
theorem zt_wsX2_firstWrongOfSlip_in : ∀ c ∈ zt_wsX2_firstWrongOfSlip, ∀ w ∈ c, w ∈ wsX2_firstWrongOfSlip := List.forall_mem_cons.mpr ⟨fun _ h => List.mem_cons.mpr (Or.inl (List.mem_singleton.mp h)), List.forall_mem_cons.mpr ⟨fun _ h => List.mem_cons_of_mem _ (List.mem_append_left _ (h)), List.forall_mem_cons.mpr ⟨fun _ h => List.mem_cons_of_mem _ (List.mem_append_right _ h), (fun _ h => absurd h List.not_mem_nil)⟩⟩⟩
set_option maxRecDepth 20000 in
theorem zw_wsX2_kindAt : wsX2_kindAt.all goodWord = true := by decide +kernel
set_option maxRecDepth 20000 in
theorem ggX2_firstWrongOfSlip_X2_kindAt : GoodIn wsX2_firstWrongOfSlip wsX2_kindAt := goodIn_c zt_wsX2_firstWrongOfSlip_in _ [(1, 5), (1, 6), (1, 7), (1, 8), (1, 4), (1, 9), (1, 0), (1, 10), (2, 0), (2, 1), (2, 2)] rfl zw_wsX2_kindAt
set_option maxRecDepth 20000 in
theorem gX2_firstWrongOfSlip_X2_kindAt : GoodIn wsX2_firstWrongOfSlip (wsV RX2 44 RX2 yX2_kindAt wsX2_kindAt) := goodIn_app (goodIn_of _ (by decide +kernel)) ggX2_firstWrongOfSlip_X2_kindAt
set_option maxRecDepth 20000 in
theorem ggX2_firstWrongOfSlip_X2_signAt : GoodIn wsX2_firstWrongOfSlip wsX2_signAt := goodIn_c zt_wsX2_firstWrongOfSlip_in _ [(1, 9), (1, 0), (1, 10), (2, 0), (2, 1), (2, 2)] rfl zw_wsX2_signAt
set_option maxRecDepth 20000 in
theorem gX2_firstWrongOfSlip_X2_signAt : GoodIn wsX2_firstWrongOfSlip (wsV RX2 22 RX2 yX2_signAt wsX2_signAt) := goodIn_app (goodIn_of _ (by decide +kernel)) ggX2_firstWrongOfSlip_X2_signAt
set_option maxRecDepth 20000 in
theorem zw_wsX6_sitesFor : wsX6_sitesFor.all goodWord = true := by decide +kernel
set_option maxRecDepth 20000 in
theorem ggX2_firstWrongOfSlip_X6_sitesFor : GoodIn wsX2_firstWrongOfSlip wsX6_sitesFor := goodIn_c zt_wsX2_firstWrongOfSlip_in _ [(1, 14)] rfl zw_wsX6_sitesFor
set_option maxRecDepth 20000 in
theorem gX2_firstWrongOfSlip_X6_sitesFor : GoodIn wsX2_firstWrongOfSlip (va_wsS RX2 47 yX6_sitesFor wsX6_sitesFor) := goodIn_app (goodIn_of _ (by decide +kernel)) ggX2_firstWrongOfSlip_X6_sitesFor
set_option maxRecDepth 20000 in
theorem ggX2_firstWrongOfSlip_X2_markAt : GoodIn wsX2_firstWrongOfSlip wsX2_markAt := goodIn_c zt_wsX2_firstWrongOfSlip_in _ [(1, 18), (1, 6), (1, 7), (1, 8), (1, 4), (1, 9), (1, 0), (1, 10), (1, 19), (1, 20), (1, 21), (1, 22), (1, 23), (2, 0), (2, 1), (2, 2)] rfl zw_wsX2_markAt
set_option maxRecDepth 20000 in
theorem gX2_firstWrongOfSlip_X2_markAt : GoodIn wsX2_firstWrongOfSlip (wsV RX2 34 RX2 yX2_markAt wsX2_markAt) := goodIn_app (goodIn_of _ (by decide +kernel)) ggX2_firstWrongOfSlip_X2_markAt
theorem zo_dX2_firstWrongOfSlip_0 : ([(0, .aload_n 0, 1), (1, .iload_n 1, 1), (2, .invokevirtual 44, 3), (5, .istore_n 3, 1), (6, .iload_n 3, 1), (7, .ifCond .ge 5, 3), (10, .iload_n 1, 1), (11, .ireturn, 1), (12, .iload_n 1, 1), (13, .iconst 1, 1), (14, .iadd, 1), (15, .aload_n 0, 1), (16, .getfield 18, 3), (19, .if_icmp .lt 8, 3), (22, .aload_n 0, 1), (23, .getfield 18, 3)] : List (Nat × Instr × Nat)).all (dOk (decode cX2_firstWrongOfSlip)) = true := by decide +kernel
theorem dX2_firstWrongOfSlip_0 : decode cX2_firstWrongOfSlip 0 = .ok (.aload_n 0, 1) := dcr zo_dX2_firstWrongOfSlip_0 0 rfl
theorem dX2_firstWrongOfSlip_1 : decode cX2_firstWrongOfSlip 1 = .ok (.iload_n 1, 1) := dcr zo_dX2_firstWrongOfSlip_0 1 rfl
theorem dX2_firstWrongOfSlip_2 : decode cX2_firstWrongOfSlip 2 = .ok (.invokevirtual 44, 3) := dcr zo_dX2_firstWrongOfSlip_0 2 rfl
theorem dX2_firstWrongOfSlip_5 : decode cX2_firstWrongOfSlip 5 = .ok (.istore_n 3, 1) := dcr zo_dX2_firstWrongOfSlip_0 3 rfl
theorem dX2_firstWrongOfSlip_6 : decode cX2_firstWrongOfSlip 6 = .ok (.iload_n 3, 1) := dcr zo_dX2_firstWrongOfSlip_0 4 rfl
theorem dX2_firstWrongOfSlip_7 : decode cX2_firstWrongOfSlip 7 = .ok (.ifCond .ge 5, 3) := dcr zo_dX2_firstWrongOfSlip_0 5 rfl
theorem dX2_firstWrongOfSlip_10 : decode cX2_firstWrongOfSlip 10 = .ok (.iload_n 1, 1) := dcr zo_dX2_firstWrongOfSlip_0 6 rfl
theorem dX2_firstWrongOfSlip_11 : decode cX2_firstWrongOfSlip 11 = .ok (.ireturn, 1) := dcr zo_dX2_firstWrongOfSlip_0 7 rfl
theorem dX2_firstWrongOfSlip_12 : decode cX2_firstWrongOfSlip 12 = .ok (.iload_n 1, 1) := dcr zo_dX2_firstWrongOfSlip_0 8 rfl
theorem dX2_firstWrongOfSlip_13 : decode cX2_firstWrongOfSlip 13 = .ok (.iconst 1, 1) := dcr zo_dX2_firstWrongOfSlip_0 9 rfl
theorem dX2_firstWrongOfSlip_14 : decode cX2_firstWrongOfSlip 14 = .ok (.iadd, 1) := dcr zo_dX2_firstWrongOfSlip_0 10 rfl
theorem dX2_firstWrongOfSlip_15 : decode cX2_firstWrongOfSlip 15 = .ok (.aload_n 0, 1) := dcr zo_dX2_firstWrongOfSlip_0 11 rfl
theorem dX2_firstWrongOfSlip_16 : decode cX2_firstWrongOfSlip 16 = .ok (.getfield 18, 3) := dcr zo_dX2_firstWrongOfSlip_0 12 rfl
theorem dX2_firstWrongOfSlip_19 : decode cX2_firstWrongOfSlip 19 = .ok (.if_icmp .lt 8, 3) := dcr zo_dX2_firstWrongOfSlip_0 13 rfl
theorem dX2_firstWrongOfSlip_22 : decode cX2_firstWrongOfSlip 22 = .ok (.aload_n 0, 1) := dcr zo_dX2_firstWrongOfSlip_0 14 rfl
theorem dX2_firstWrongOfSlip_23 : decode cX2_firstWrongOfSlip 23 = .ok (.getfield 18, 3) := dcr zo_dX2_firstWrongOfSlip_0 15 rfl
theorem zo_dX2_firstWrongOfSlip_26 : ([(26, .ireturn, 1), (27, .aload_n 0, 1), (28, .iload_n 1, 1), (29, .iconst 1, 1), (30, .iadd, 1), (31, .invokevirtual 22, 3), (34, .bipush 48, 2), (36, .isub, 1), (37, .istore 4, 2), (39, .iload 4, 2), (41, .ifCond .lt 13, 3), (44, .iload 4, 2), (46, .iload_n 3, 1), (47, .iload_n 2, 1), (48, .invokestatic 47, 3), (51, .if_icmp .lt 7, 3)] : List (Nat × Instr × Nat)).all (dOk (decode cX2_firstWrongOfSlip)) = true := by decide +kernel
theorem dX2_firstWrongOfSlip_26 : decode cX2_firstWrongOfSlip 26 = .ok (.ireturn, 1) := dcr zo_dX2_firstWrongOfSlip_26 0 rfl
theorem dX2_firstWrongOfSlip_27 : decode cX2_firstWrongOfSlip 27 = .ok (.aload_n 0, 1) := dcr zo_dX2_firstWrongOfSlip_26 1 rfl
theorem dX2_firstWrongOfSlip_28 : decode cX2_firstWrongOfSlip 28 = .ok (.iload_n 1, 1) := dcr zo_dX2_firstWrongOfSlip_26 2 rfl
theorem dX2_firstWrongOfSlip_29 : decode cX2_firstWrongOfSlip 29 = .ok (.iconst 1, 1) := dcr zo_dX2_firstWrongOfSlip_26 3 rfl
theorem dX2_firstWrongOfSlip_30 : decode cX2_firstWrongOfSlip 30 = .ok (.iadd, 1) := dcr zo_dX2_firstWrongOfSlip_26 4 rfl
theorem dX2_firstWrongOfSlip_31 : decode cX2_firstWrongOfSlip 31 = .ok (.invokevirtual 22, 3) := dcr zo_dX2_firstWrongOfSlip_26 5 rfl
theorem dX2_firstWrongOfSlip_34 : decode cX2_firstWrongOfSlip 34 = .ok (.bipush 48, 2) := dcr zo_dX2_firstWrongOfSlip_26 6 rfl
theorem dX2_firstWrongOfSlip_36 : decode cX2_firstWrongOfSlip 36 = .ok (.isub, 1) := dcr zo_dX2_firstWrongOfSlip_26 7 rfl
theorem dX2_firstWrongOfSlip_37 : decode cX2_firstWrongOfSlip 37 = .ok (.istore 4, 2) := dcr zo_dX2_firstWrongOfSlip_26 8 rfl
theorem dX2_firstWrongOfSlip_39 : decode cX2_firstWrongOfSlip 39 = .ok (.iload 4, 2) := dcr zo_dX2_firstWrongOfSlip_26 9 rfl
theorem dX2_firstWrongOfSlip_41 : decode cX2_firstWrongOfSlip 41 = .ok (.ifCond .lt 13, 3) := dcr zo_dX2_firstWrongOfSlip_26 10 rfl
theorem dX2_firstWrongOfSlip_44 : decode cX2_firstWrongOfSlip 44 = .ok (.iload 4, 2) := dcr zo_dX2_firstWrongOfSlip_26 11 rfl
theorem dX2_firstWrongOfSlip_46 : decode cX2_firstWrongOfSlip 46 = .ok (.iload_n 3, 1) := dcr zo_dX2_firstWrongOfSlip_26 12 rfl
theorem dX2_firstWrongOfSlip_47 : decode cX2_firstWrongOfSlip 47 = .ok (.iload_n 2, 1) := dcr zo_dX2_firstWrongOfSlip_26 13 rfl
theorem dX2_firstWrongOfSlip_48 : decode cX2_firstWrongOfSlip 48 = .ok (.invokestatic 47, 3) := dcr zo_dX2_firstWrongOfSlip_26 14 rfl
theorem dX2_firstWrongOfSlip_51 : decode cX2_firstWrongOfSlip 51 = .ok (.if_icmp .lt 7, 3) := dcr zo_dX2_firstWrongOfSlip_26 15 rfl
theorem zo_dX2_firstWrongOfSlip_54 : ([(54, .iload_n 1, 1), (55, .iconst 1, 1), (56, .iadd, 1), (57, .ireturn, 1), (58, .iload_n 3, 1), (59, .ifCond .eq 6, 3), (62, .bipush (-6), 2), (64, .ireturn, 1), (65, .iload_n 1, 1), (66, .iconst 2, 1), (67, .iadd, 1), (68, .aload_n 0, 1), (69, .getfield 18, 3), (72, .if_icmp .lt 8, 3), (75, .aload_n 0, 1), (76, .getfield 18, 3)] : List (Nat × Instr × Nat)).all (dOk (decode cX2_firstWrongOfSlip)) = true := by decide +kernel
theorem dX2_firstWrongOfSlip_54 : decode cX2_firstWrongOfSlip 54 = .ok (.iload_n 1, 1) := dcr zo_dX2_firstWrongOfSlip_54 0 rfl
theorem dX2_firstWrongOfSlip_55 : decode cX2_firstWrongOfSlip 55 = .ok (.iconst 1, 1) := dcr zo_dX2_firstWrongOfSlip_54 1 rfl
theorem dX2_firstWrongOfSlip_56 : decode cX2_firstWrongOfSlip 56 = .ok (.iadd, 1) := dcr zo_dX2_firstWrongOfSlip_54 2 rfl
theorem dX2_firstWrongOfSlip_57 : decode cX2_firstWrongOfSlip 57 = .ok (.ireturn, 1) := dcr zo_dX2_firstWrongOfSlip_54 3 rfl
theorem dX2_firstWrongOfSlip_58 : decode cX2_firstWrongOfSlip 58 = .ok (.iload_n 3, 1) := dcr zo_dX2_firstWrongOfSlip_54 4 rfl
theorem dX2_firstWrongOfSlip_59 : decode cX2_firstWrongOfSlip 59 = .ok (.ifCond .eq 6, 3) := dcr zo_dX2_firstWrongOfSlip_54 5 rfl
theorem dX2_firstWrongOfSlip_62 : decode cX2_firstWrongOfSlip 62 = .ok (.bipush (-6), 2) := dcr zo_dX2_firstWrongOfSlip_54 6 rfl
theorem dX2_firstWrongOfSlip_64 : decode cX2_firstWrongOfSlip 64 = .ok (.ireturn, 1) := dcr zo_dX2_firstWrongOfSlip_54 7 rfl
theorem dX2_firstWrongOfSlip_65 : decode cX2_firstWrongOfSlip 65 = .ok (.iload_n 1, 1) := dcr zo_dX2_firstWrongOfSlip_54 8 rfl
theorem dX2_firstWrongOfSlip_66 : decode cX2_firstWrongOfSlip 66 = .ok (.iconst 2, 1) := dcr zo_dX2_firstWrongOfSlip_54 9 rfl
theorem dX2_firstWrongOfSlip_67 : decode cX2_firstWrongOfSlip 67 = .ok (.iadd, 1) := dcr zo_dX2_firstWrongOfSlip_54 10 rfl
theorem dX2_firstWrongOfSlip_68 : decode cX2_firstWrongOfSlip 68 = .ok (.aload_n 0, 1) := dcr zo_dX2_firstWrongOfSlip_54 11 rfl
theorem dX2_firstWrongOfSlip_69 : decode cX2_firstWrongOfSlip 69 = .ok (.getfield 18, 3) := dcr zo_dX2_firstWrongOfSlip_54 12 rfl
theorem dX2_firstWrongOfSlip_72 : decode cX2_firstWrongOfSlip 72 = .ok (.if_icmp .lt 8, 3) := dcr zo_dX2_firstWrongOfSlip_54 13 rfl
theorem dX2_firstWrongOfSlip_75 : decode cX2_firstWrongOfSlip 75 = .ok (.aload_n 0, 1) := dcr zo_dX2_firstWrongOfSlip_54 14 rfl
theorem dX2_firstWrongOfSlip_76 : decode cX2_firstWrongOfSlip 76 = .ok (.getfield 18, 3) := dcr zo_dX2_firstWrongOfSlip_54 15 rfl
theorem zo_dX2_firstWrongOfSlip_79 : ([(79, .ireturn, 1), (80, .aload_n 0, 1), (81, .iload_n 1, 1), (82, .iconst 2, 1), (83, .iadd, 1), (84, .invokevirtual 34, 3), (87, .istore 5, 2), (89, .iload 5, 2), (91, .ifCond .lt 9, 3), (94, .iload 5, 2), (96, .iconst 4, 1), (97, .if_icmp .lt 9, 3), (100, .iload_n 1, 1), (101, .iconst 2, 1), (102, .iadd, 1), (103, .goto 5, 3)] : List (Nat × Instr × Nat)).all (dOk (decode cX2_firstWrongOfSlip)) = true := by decide +kernel
theorem dX2_firstWrongOfSlip_79 : decode cX2_firstWrongOfSlip 79 = .ok (.ireturn, 1) := dcr zo_dX2_firstWrongOfSlip_79 0 rfl
theorem dX2_firstWrongOfSlip_80 : decode cX2_firstWrongOfSlip 80 = .ok (.aload_n 0, 1) := dcr zo_dX2_firstWrongOfSlip_79 1 rfl
theorem dX2_firstWrongOfSlip_81 : decode cX2_firstWrongOfSlip 81 = .ok (.iload_n 1, 1) := dcr zo_dX2_firstWrongOfSlip_79 2 rfl
theorem dX2_firstWrongOfSlip_82 : decode cX2_firstWrongOfSlip 82 = .ok (.iconst 2, 1) := dcr zo_dX2_firstWrongOfSlip_79 3 rfl
theorem dX2_firstWrongOfSlip_83 : decode cX2_firstWrongOfSlip 83 = .ok (.iadd, 1) := dcr zo_dX2_firstWrongOfSlip_79 4 rfl
theorem dX2_firstWrongOfSlip_84 : decode cX2_firstWrongOfSlip 84 = .ok (.invokevirtual 34, 3) := dcr zo_dX2_firstWrongOfSlip_79 5 rfl
theorem dX2_firstWrongOfSlip_87 : decode cX2_firstWrongOfSlip 87 = .ok (.istore 5, 2) := dcr zo_dX2_firstWrongOfSlip_79 6 rfl
theorem dX2_firstWrongOfSlip_89 : decode cX2_firstWrongOfSlip 89 = .ok (.iload 5, 2) := dcr zo_dX2_firstWrongOfSlip_79 7 rfl
theorem dX2_firstWrongOfSlip_91 : decode cX2_firstWrongOfSlip 91 = .ok (.ifCond .lt 9, 3) := dcr zo_dX2_firstWrongOfSlip_79 8 rfl
theorem dX2_firstWrongOfSlip_94 : decode cX2_firstWrongOfSlip 94 = .ok (.iload 5, 2) := dcr zo_dX2_firstWrongOfSlip_79 9 rfl
theorem dX2_firstWrongOfSlip_96 : decode cX2_firstWrongOfSlip 96 = .ok (.iconst 4, 1) := dcr zo_dX2_firstWrongOfSlip_79 10 rfl
theorem dX2_firstWrongOfSlip_97 : decode cX2_firstWrongOfSlip 97 = .ok (.if_icmp .lt 9, 3) := dcr zo_dX2_firstWrongOfSlip_79 11 rfl
theorem dX2_firstWrongOfSlip_100 : decode cX2_firstWrongOfSlip 100 = .ok (.iload_n 1, 1) := dcr zo_dX2_firstWrongOfSlip_79 12 rfl
theorem dX2_firstWrongOfSlip_101 : decode cX2_firstWrongOfSlip 101 = .ok (.iconst 2, 1) := dcr zo_dX2_firstWrongOfSlip_79 13 rfl
theorem dX2_firstWrongOfSlip_102 : decode cX2_firstWrongOfSlip 102 = .ok (.iadd, 1) := dcr zo_dX2_firstWrongOfSlip_79 14 rfl
theorem dX2_firstWrongOfSlip_103 : decode cX2_firstWrongOfSlip 103 = .ok (.goto 5, 3) := dcr zo_dX2_firstWrongOfSlip_79 15 rfl
theorem zo_dX2_firstWrongOfSlip_106 : ([(106, .bipush (-6), 2), (108, .ireturn, 1)] : List (Nat × Instr × Nat)).all (dOk (decode cX2_firstWrongOfSlip)) = true := by decide +kernel
theorem dX2_firstWrongOfSlip_106 : decode cX2_firstWrongOfSlip 106 = .ok (.bipush (-6), 2) := dcr zo_dX2_firstWrongOfSlip_106 0 rfl
theorem dX2_firstWrongOfSlip_108 : decode cX2_firstWrongOfSlip 108 = .ok (.ireturn, 1) := dcr zo_dX2_firstWrongOfSlip_106 1 rfl
def zt_wsX2_kindAt : List (List Cond) := [[.code yX2_kindAt cX2_kindAt 2 (some .int)], [.methodLink RX2 22 yX2_signAt, .instanceMethod yX2_signAt, .selects RX2 yX2_signAt yX2_signAt, .initialized RX2, .code yX2_signAt cX2_signAt 2 (some .int), .fieldLink RX2 18 "LastMap$Pad" "length" "I", .fieldLink RX2 9 "LastMap$Pad" "signs" "[I"], wsX20]
theorem zt_wsX2_kindAt_in : ∀ c ∈ zt_wsX2_kindAt, ∀ w ∈ c, w ∈ wsX2_kindAt := List.forall_mem_cons.mpr ⟨fun _ h => List.mem_cons.mpr (Or.inl (List.mem_singleton.mp h)), List.forall_mem_cons.mpr ⟨fun _ h => List.mem_cons_of_mem _ (List.mem_append_left _ (h)), List.forall_mem_cons.mpr ⟨fun _ h => List.mem_cons_of_mem _ (List.mem_append_right _ h), (fun _ h => absurd h List.not_mem_nil)⟩⟩⟩
set_option maxRecDepth 20000 in
theorem ggX2_kindAt_X2_signAt : GoodIn wsX2_kindAt wsX2_signAt := goodIn_c zt_wsX2_kindAt_in _ [(1, 4), (1, 5), (1, 6), (2, 0), (2, 1), (2, 2)] rfl zw_wsX2_signAt
set_option maxRecDepth 20000 in
theorem gX2_kindAt_X2_signAt : GoodIn wsX2_kindAt (wsV RX2 22 RX2 yX2_signAt wsX2_signAt) := goodIn_app (goodIn_of _ (by decide +kernel)) ggX2_kindAt_X2_signAt
theorem zo_dX2_kindAt_0 : ([(0, .aload_n 0, 1), (1, .iload_n 1, 1), (2, .invokevirtual 22, 3), (5, .lookupswitch 51 #[(99, 43), (111, 49), (115, 45), (116, 47)], 43), (48, .iconst 0, 1), (49, .ireturn, 1), (50, .iconst 1, 1), (51, .ireturn, 1), (52, .iconst 2, 1), (53, .ireturn, 1), (54, .iconst 3, 1), (55, .ireturn, 1), (56, .iconst (-1), 1), (57, .ireturn, 1)] : List (Nat × Instr × Nat)).all (dOk (decode cX2_kindAt)) = true := by decide +kernel
theorem dX2_kindAt_0 : decode cX2_kindAt 0 = .ok (.aload_n 0, 1) := dcr zo_dX2_kindAt_0 0 rfl
theorem dX2_kindAt_1 : decode cX2_kindAt 1 = .ok (.iload_n 1, 1) := dcr zo_dX2_kindAt_0 1 rfl
theorem dX2_kindAt_2 : decode cX2_kindAt 2 = .ok (.invokevirtual 22, 3) := dcr zo_dX2_kindAt_0 2 rfl
theorem dX2_kindAt_5 : decode cX2_kindAt 5 = .ok (.lookupswitch 51 #[(99, 43), (111, 49), (115, 45), (116, 47)], 43) := dcr zo_dX2_kindAt_0 3 rfl
theorem dX2_kindAt_48 : decode cX2_kindAt 48 = .ok (.iconst 0, 1) := dcr zo_dX2_kindAt_0 4 rfl
theorem dX2_kindAt_49 : decode cX2_kindAt 49 = .ok (.ireturn, 1) := dcr zo_dX2_kindAt_0 5 rfl
theorem dX2_kindAt_50 : decode cX2_kindAt 50 = .ok (.iconst 1, 1) := dcr zo_dX2_kindAt_0 6 rfl
theorem dX2_kindAt_51 : decode cX2_kindAt 51 = .ok (.ireturn, 1) := dcr zo_dX2_kindAt_0 7 rfl
theorem dX2_kindAt_52 : decode cX2_kindAt 52 = .ok (.iconst 2, 1) := dcr zo_dX2_kindAt_0 8 rfl
theorem dX2_kindAt_53 : decode cX2_kindAt 53 = .ok (.ireturn, 1) := dcr zo_dX2_kindAt_0 9 rfl
theorem dX2_kindAt_54 : decode cX2_kindAt 54 = .ok (.iconst 3, 1) := dcr zo_dX2_kindAt_0 10 rfl
theorem dX2_kindAt_55 : decode cX2_kindAt 55 = .ok (.ireturn, 1) := dcr zo_dX2_kindAt_0 11 rfl
theorem dX2_kindAt_56 : decode cX2_kindAt 56 = .ok (.iconst (-1), 1) := dcr zo_dX2_kindAt_0 12 rfl
theorem dX2_kindAt_57 : decode cX2_kindAt 57 = .ok (.ireturn, 1) := dcr zo_dX2_kindAt_0 13 rfl
def zt_wsX2_lengthOfSlip : List (List Cond) := [[.code yX2_lengthOfSlip cX2_lengthOfSlip 2 (some .int)], [.methodLink RX2 44 yX2_kindAt, .instanceMethod yX2_kindAt, .selects RX2 yX2_kindAt yX2_kindAt, .initialized RX2, .code yX2_kindAt cX2_kindAt 2 (some .int), .methodLink RX2 22 yX2_signAt, .instanceMethod yX2_signAt, .selects RX2 yX2_signAt yX2_signAt, .code yX2_signAt cX2_signAt 2 (some .int), .fieldLink RX2 18 "LastMap$Pad" "length" "I", .fieldLink RX2 9 "LastMap$Pad" "signs" "[I"], wsX20]
theorem zt_wsX2_lengthOfSlip_in : ∀ c ∈ zt_wsX2_lengthOfSlip, ∀ w ∈ c, w ∈ wsX2_lengthOfSlip := List.forall_mem_cons.mpr ⟨fun _ h => List.mem_cons.mpr (Or.inl (List.mem_singleton.mp h)), List.forall_mem_cons.mpr ⟨fun _ h => List.mem_cons_of_mem _ (List.mem_append_left _ (h)), List.forall_mem_cons.mpr ⟨fun _ h => List.mem_cons_of_mem _ (List.mem_append_right _ h), (fun _ h => absurd h List.not_mem_nil)⟩⟩⟩
set_option maxRecDepth 20000 in
theorem ggX2_lengthOfSlip_X2_kindAt : GoodIn wsX2_lengthOfSlip wsX2_kindAt := goodIn_c zt_wsX2_lengthOfSlip_in _ [(1, 4), (1, 5), (1, 6), (1, 7), (1, 3), (1, 8), (1, 9), (1, 10), (2, 0), (2, 1), (2, 2)] rfl zw_wsX2_kindAt
set_option maxRecDepth 20000 in
theorem gX2_lengthOfSlip_X2_kindAt : GoodIn wsX2_lengthOfSlip (wsV RX2 44 RX2 yX2_kindAt wsX2_kindAt) := goodIn_app (goodIn_of _ (by decide +kernel)) ggX2_lengthOfSlip_X2_kindAt
theorem zo_dX2_lengthOfSlip_0 : ([(0, .aload_n 0, 1), (1, .iload_n 1, 1), (2, .invokevirtual 44, 3), (5, .ifCond .ne 7, 3), (8, .iconst 3, 1), (9, .goto 4, 3), (12, .iconst 2, 1), (13, .ireturn, 1)] : List (Nat × Instr × Nat)).all (dOk (decode cX2_lengthOfSlip)) = true := by decide +kernel
theorem dX2_lengthOfSlip_0 : decode cX2_lengthOfSlip 0 = .ok (.aload_n 0, 1) := dcr zo_dX2_lengthOfSlip_0 0 rfl
theorem dX2_lengthOfSlip_1 : decode cX2_lengthOfSlip 1 = .ok (.iload_n 1, 1) := dcr zo_dX2_lengthOfSlip_0 1 rfl
theorem dX2_lengthOfSlip_2 : decode cX2_lengthOfSlip 2 = .ok (.invokevirtual 44, 3) := dcr zo_dX2_lengthOfSlip_0 2 rfl
theorem dX2_lengthOfSlip_5 : decode cX2_lengthOfSlip 5 = .ok (.ifCond .ne 7, 3) := dcr zo_dX2_lengthOfSlip_0 3 rfl
theorem dX2_lengthOfSlip_8 : decode cX2_lengthOfSlip 8 = .ok (.iconst 3, 1) := dcr zo_dX2_lengthOfSlip_0 4 rfl
theorem dX2_lengthOfSlip_9 : decode cX2_lengthOfSlip 9 = .ok (.goto 4, 3) := dcr zo_dX2_lengthOfSlip_0 5 rfl
theorem dX2_lengthOfSlip_12 : decode cX2_lengthOfSlip 12 = .ok (.iconst 2, 1) := dcr zo_dX2_lengthOfSlip_0 6 rfl
theorem dX2_lengthOfSlip_13 : decode cX2_lengthOfSlip 13 = .ok (.ireturn, 1) := dcr zo_dX2_lengthOfSlip_0 7 rfl
def zt_wsX2_mapCode : List (List Cond) := [[.code yX2_mapCode cX2_mapCode 3 (some .int)], wsX2_mapCode_r1, wsX2_mapCode_r2, wsX20]
theorem zt_wsX2_mapCode_in : ∀ c ∈ zt_wsX2_mapCode, ∀ w ∈ c, w ∈ wsX2_mapCode := List.forall_mem_cons.mpr ⟨fun _ h => List.mem_cons.mpr (Or.inl (List.mem_singleton.mp h)), List.forall_mem_cons.mpr ⟨fun _ h => List.mem_cons_of_mem _ (List.mem_append_left _ (List.mem_append_left _ h)), List.forall_mem_cons.mpr ⟨fun _ h => List.mem_cons_of_mem _ (List.mem_append_left _ (List.mem_append_right _ (h))), List.forall_mem_cons.mpr ⟨fun _ h => List.mem_cons_of_mem _ (List.mem_append_right _ h), (fun _ h => absurd h List.not_mem_nil)⟩⟩⟩⟩
set_option maxRecDepth 20000 in
theorem ggX2_mapCode_X2_markAt : GoodIn wsX2_mapCode wsX2_markAt := goodIn_c zt_wsX2_mapCode_in _ [(1, 5), (1, 6), (1, 7), (1, 8), (1, 4), (1, 9), (1, 0), (1, 10), (1, 11), (1, 12), (1, 13), (1, 14), (1, 15), (3, 0), (3, 1), (3, 2)] rfl zw_wsX2_markAt
set_option maxRecDepth 20000 in
theorem gX2_mapCode_X2_markAt : GoodIn wsX2_mapCode (wsV RX2 34 RX2 yX2_markAt wsX2_markAt) := goodIn_app (goodIn_of _ (by decide +kernel)) ggX2_mapCode_X2_markAt
set_option maxRecDepth 20000 in
theorem zw_wsX1_with : wsX1_with.all goodWord = true := by decide +kernel
set_option maxRecDepth 20000 in
theorem ggX2_mapCode_X1_with : GoodIn wsX2_mapCode wsX1_with := goodIn_c zt_wsX2_mapCode_in _ [(1, 19), (1, 20), (1, 21), (1, 18), (1, 22), (1, 23), (2, 0), (2, 1), (2, 2), (2, 3), (2, 4), (2, 5)] rfl zw_wsX1_with
set_option maxRecDepth 20000 in
theorem gX2_mapCode_X1_with : GoodIn wsX2_mapCode (va_wsS RX2 52 yX1_with wsX1_with) := goodIn_app (goodIn_of _ (by decide +kernel)) ggX2_mapCode_X1_with
theorem zo_dX2_mapCode_0 : ([(0, .iconst 0, 1), (1, .istore_n 1, 1), (2, .iconst 0, 1), (3, .istore_n 2, 1), (4, .iload_n 2, 1), (5, .aload_n 0, 1), (6, .getfield 18, 3), (9, .if_icmp .ge 26, 3), (12, .iload_n 2, 1), (13, .bipush 6, 2), (15, .if_icmp .ge 20, 3), (18, .iload_n 1, 1), (19, .iload_n 2, 1), (20, .aload_n 0, 1), (21, .iload_n 2, 1), (22, .invokevirtual 34, 3)] : List (Nat × Instr × Nat)).all (dOk (decode cX2_mapCode)) = true := by decide +kernel
theorem dX2_mapCode_0 : decode cX2_mapCode 0 = .ok (.iconst 0, 1) := dcr zo_dX2_mapCode_0 0 rfl
theorem dX2_mapCode_1 : decode cX2_mapCode 1 = .ok (.istore_n 1, 1) := dcr zo_dX2_mapCode_0 1 rfl
theorem dX2_mapCode_2 : decode cX2_mapCode 2 = .ok (.iconst 0, 1) := dcr zo_dX2_mapCode_0 2 rfl
theorem dX2_mapCode_3 : decode cX2_mapCode 3 = .ok (.istore_n 2, 1) := dcr zo_dX2_mapCode_0 3 rfl
theorem dX2_mapCode_4 : decode cX2_mapCode 4 = .ok (.iload_n 2, 1) := dcr zo_dX2_mapCode_0 4 rfl
theorem dX2_mapCode_5 : decode cX2_mapCode 5 = .ok (.aload_n 0, 1) := dcr zo_dX2_mapCode_0 5 rfl
theorem dX2_mapCode_6 : decode cX2_mapCode 6 = .ok (.getfield 18, 3) := dcr zo_dX2_mapCode_0 6 rfl
theorem dX2_mapCode_9 : decode cX2_mapCode 9 = .ok (.if_icmp .ge 26, 3) := dcr zo_dX2_mapCode_0 7 rfl
theorem dX2_mapCode_12 : decode cX2_mapCode 12 = .ok (.iload_n 2, 1) := dcr zo_dX2_mapCode_0 8 rfl
theorem dX2_mapCode_13 : decode cX2_mapCode 13 = .ok (.bipush 6, 2) := dcr zo_dX2_mapCode_0 9 rfl
theorem dX2_mapCode_15 : decode cX2_mapCode 15 = .ok (.if_icmp .ge 20, 3) := dcr zo_dX2_mapCode_0 10 rfl
theorem dX2_mapCode_18 : decode cX2_mapCode 18 = .ok (.iload_n 1, 1) := dcr zo_dX2_mapCode_0 11 rfl
theorem dX2_mapCode_19 : decode cX2_mapCode 19 = .ok (.iload_n 2, 1) := dcr zo_dX2_mapCode_0 12 rfl
theorem dX2_mapCode_20 : decode cX2_mapCode 20 = .ok (.aload_n 0, 1) := dcr zo_dX2_mapCode_0 13 rfl
theorem dX2_mapCode_21 : decode cX2_mapCode 21 = .ok (.iload_n 2, 1) := dcr zo_dX2_mapCode_0 14 rfl
theorem dX2_mapCode_22 : decode cX2_mapCode 22 = .ok (.invokevirtual 34, 3) := dcr zo_dX2_mapCode_0 15 rfl
theorem zo_dX2_mapCode_25 : ([(25, .invokestatic 52, 3), (28, .istore_n 1, 1), (29, .iinc 2 1, 3), (32, .goto (-28), 3), (35, .iload_n 1, 1), (36, .ireturn, 1)] : List (Nat × Instr × Nat)).all (dOk (decode cX2_mapCode)) = true := by decide +kernel
theorem dX2_mapCode_25 : decode cX2_mapCode 25 = .ok (.invokestatic 52, 3) := dcr zo_dX2_mapCode_25 0 rfl
theorem dX2_mapCode_28 : decode cX2_mapCode 28 = .ok (.istore_n 1, 1) := dcr zo_dX2_mapCode_25 1 rfl
theorem dX2_mapCode_29 : decode cX2_mapCode 29 = .ok (.iinc 2 1, 3) := dcr zo_dX2_mapCode_25 2 rfl
theorem dX2_mapCode_32 : decode cX2_mapCode 32 = .ok (.goto (-28), 3) := dcr zo_dX2_mapCode_25 3 rfl
theorem dX2_mapCode_35 : decode cX2_mapCode 35 = .ok (.iload_n 1, 1) := dcr zo_dX2_mapCode_25 4 rfl
theorem dX2_mapCode_36 : decode cX2_mapCode 36 = .ok (.ireturn, 1) := dcr zo_dX2_mapCode_25 5 rfl
def zt_wsX2_readSlips : List (List Cond) := [[.code yX2_readSlips cX2_readSlips 5 (some .int)], wsX2_readSlips_r1, wsX2_readSlips_r2, wsX20]
theorem zt_wsX2_readSlips_in : ∀ c ∈ zt_wsX2_readSlips, ∀ w ∈ c, w ∈ wsX2_readSlips := List.forall_mem_cons.mpr ⟨fun _ h => List.mem_cons.mpr (Or.inl (List.mem_singleton.mp h)), List.forall_mem_cons.mpr ⟨fun _ h => List.mem_cons_of_mem _ (List.mem_append_left _ (List.mem_append_left _ h)), List.forall_mem_cons.mpr ⟨fun _ h => List.mem_cons_of_mem _ (List.mem_append_left _ (List.mem_append_right _ (h))), List.forall_mem_cons.mpr ⟨fun _ h => List.mem_cons_of_mem _ (List.mem_append_right _ h), (fun _ h => absurd h List.not_mem_nil)⟩⟩⟩⟩
set_option maxRecDepth 20000 in
theorem ggX2_readSlips_X2_kindAt : GoodIn wsX2_readSlips wsX2_kindAt := goodIn_c zt_wsX2_readSlips_in _ [(1, 6), (1, 7), (1, 8), (1, 9), (1, 5), (1, 10), (1, 1), (1, 11), (3, 0), (3, 1), (3, 2)] rfl zw_wsX2_kindAt
set_option maxRecDepth 20000 in
theorem gX2_readSlips_X2_kindAt : GoodIn wsX2_readSlips (wsV RX2 44 RX2 yX2_kindAt wsX2_kindAt) := goodIn_app (goodIn_of _ (by decide +kernel)) ggX2_readSlips_X2_kindAt
set_option maxRecDepth 20000 in
theorem ggX2_readSlips_X2_markAt : GoodIn wsX2_readSlips wsX2_markAt := goodIn_c zt_wsX2_readSlips_in _ [(1, 15), (1, 7), (1, 8), (1, 9), (1, 5), (1, 10), (1, 1), (1, 11), (1, 16), (1, 17), (1, 18), (1, 19), (1, 20), (3, 0), (3, 1), (3, 2)] rfl zw_wsX2_markAt
set_option maxRecDepth 20000 in
theorem gX2_readSlips_X2_markAt : GoodIn wsX2_readSlips (wsV RX2 34 RX2 yX2_markAt wsX2_markAt) := goodIn_app (goodIn_of _ (by decide +kernel)) ggX2_readSlips_X2_markAt
set_option maxRecDepth 20000 in
theorem ggX2_readSlips_X2_signAt : GoodIn wsX2_readSlips wsX2_signAt := goodIn_c zt_wsX2_readSlips_in _ [(1, 10), (1, 1), (1, 11), (3, 0), (3, 1), (3, 2)] rfl zw_wsX2_signAt
set_option maxRecDepth 20000 in
theorem gX2_readSlips_X2_signAt : GoodIn wsX2_readSlips (wsV RX2 22 RX2 yX2_signAt wsX2_signAt) := goodIn_app (goodIn_of _ (by decide +kernel)) ggX2_readSlips_X2_signAt
set_option maxRecDepth 20000 in
theorem zw_wsX6_number : wsX6_number.all goodWord = true := by decide +kernel
set_option maxRecDepth 20000 in
theorem ggX2_readSlips_X6_number : GoodIn wsX2_readSlips wsX6_number := goodIn_c zt_wsX2_readSlips_in _ [(2, 0)] rfl zw_wsX6_number
set_option maxRecDepth 20000 in
theorem gX2_readSlips_X6_number : GoodIn wsX2_readSlips (va_wsS RX2 58 yX6_number wsX6_number) := goodIn_app (goodIn_of _ (by decide +kernel)) ggX2_readSlips_X6_number
set_option maxRecDepth 20000 in
theorem ggX2_readSlips_X2_lengthOfSlip : GoodIn wsX2_readSlips wsX2_lengthOfSlip := goodIn_c zt_wsX2_readSlips_in _ [(2, 4), (1, 2), (1, 3), (1, 4), (1, 5), (1, 6), (1, 7), (1, 8), (1, 9), (1, 10), (1, 1), (1, 11), (3, 0), (3, 1), (3, 2)] rfl zw_wsX2_lengthOfSlip
set_option maxRecDepth 20000 in
theorem gX2_readSlips_X2_lengthOfSlip : GoodIn wsX2_readSlips (wsV RX2 41 RX2 yX2_lengthOfSlip wsX2_lengthOfSlip) := goodIn_app (goodIn_of _ (by decide +kernel)) ggX2_readSlips_X2_lengthOfSlip
theorem zo_dX2_readSlips_0 : ([(0, .iconst 0, 1), (1, .istore_n 1, 1), (2, .iconst 0, 1), (3, .istore_n 2, 1), (4, .iload_n 1, 1), (5, .aload_n 0, 1), (6, .getfield 15, 3), (9, .arraylength, 1), (10, .if_icmp .ge 70, 3), (13, .iload_n 2, 1), (14, .aload_n 0, 1), (15, .getfield 18, 3), (18, .if_icmp .ge 62, 3), (21, .aload_n 0, 1), (22, .iload_n 2, 1), (23, .invokevirtual 44, 3)] : List (Nat × Instr × Nat)).all (dOk (decode cX2_readSlips)) = true := by decide +kernel
theorem dX2_readSlips_0 : decode cX2_readSlips 0 = .ok (.iconst 0, 1) := dcr zo_dX2_readSlips_0 0 rfl
theorem dX2_readSlips_1 : decode cX2_readSlips 1 = .ok (.istore_n 1, 1) := dcr zo_dX2_readSlips_0 1 rfl
theorem dX2_readSlips_2 : decode cX2_readSlips 2 = .ok (.iconst 0, 1) := dcr zo_dX2_readSlips_0 2 rfl
theorem dX2_readSlips_3 : decode cX2_readSlips 3 = .ok (.istore_n 2, 1) := dcr zo_dX2_readSlips_0 3 rfl
theorem dX2_readSlips_4 : decode cX2_readSlips 4 = .ok (.iload_n 1, 1) := dcr zo_dX2_readSlips_0 4 rfl
theorem dX2_readSlips_5 : decode cX2_readSlips 5 = .ok (.aload_n 0, 1) := dcr zo_dX2_readSlips_0 5 rfl
theorem dX2_readSlips_6 : decode cX2_readSlips 6 = .ok (.getfield 15, 3) := dcr zo_dX2_readSlips_0 6 rfl
theorem dX2_readSlips_9 : decode cX2_readSlips 9 = .ok (.arraylength, 1) := dcr zo_dX2_readSlips_0 7 rfl
theorem dX2_readSlips_10 : decode cX2_readSlips 10 = .ok (.if_icmp .ge 70, 3) := dcr zo_dX2_readSlips_0 8 rfl
theorem dX2_readSlips_13 : decode cX2_readSlips 13 = .ok (.iload_n 2, 1) := dcr zo_dX2_readSlips_0 9 rfl
theorem dX2_readSlips_14 : decode cX2_readSlips 14 = .ok (.aload_n 0, 1) := dcr zo_dX2_readSlips_0 10 rfl
theorem dX2_readSlips_15 : decode cX2_readSlips 15 = .ok (.getfield 18, 3) := dcr zo_dX2_readSlips_0 11 rfl
theorem dX2_readSlips_18 : decode cX2_readSlips 18 = .ok (.if_icmp .ge 62, 3) := dcr zo_dX2_readSlips_0 12 rfl
theorem dX2_readSlips_21 : decode cX2_readSlips 21 = .ok (.aload_n 0, 1) := dcr zo_dX2_readSlips_0 13 rfl
theorem dX2_readSlips_22 : decode cX2_readSlips 22 = .ok (.iload_n 2, 1) := dcr zo_dX2_readSlips_0 14 rfl
theorem dX2_readSlips_23 : decode cX2_readSlips 23 = .ok (.invokevirtual 44, 3) := dcr zo_dX2_readSlips_0 15 rfl
theorem zo_dX2_readSlips_26 : ([(26, .istore_n 3, 1), (27, .iload_n 3, 1), (28, .ifCond .ne 13, 3), (31, .aload_n 0, 1), (32, .iload_n 2, 1), (33, .iconst 2, 1), (34, .iadd, 1), (35, .invokevirtual 34, 3), (38, .goto 4, 3), (41, .iconst 0, 1), (42, .istore 4, 2), (44, .aload_n 0, 1), (45, .getfield 15, 3), (48, .iload_n 1, 1), (49, .iload_n 3, 1), (50, .aload_n 0, 1)] : List (Nat × Instr × Nat)).all (dOk (decode cX2_readSlips)) = true := by decide +kernel
theorem dX2_readSlips_26 : decode cX2_readSlips 26 = .ok (.istore_n 3, 1) := dcr zo_dX2_readSlips_26 0 rfl
theorem dX2_readSlips_27 : decode cX2_readSlips 27 = .ok (.iload_n 3, 1) := dcr zo_dX2_readSlips_26 1 rfl
theorem dX2_readSlips_28 : decode cX2_readSlips 28 = .ok (.ifCond .ne 13, 3) := dcr zo_dX2_readSlips_26 2 rfl
theorem dX2_readSlips_31 : decode cX2_readSlips 31 = .ok (.aload_n 0, 1) := dcr zo_dX2_readSlips_26 3 rfl
theorem dX2_readSlips_32 : decode cX2_readSlips 32 = .ok (.iload_n 2, 1) := dcr zo_dX2_readSlips_26 4 rfl
theorem dX2_readSlips_33 : decode cX2_readSlips 33 = .ok (.iconst 2, 1) := dcr zo_dX2_readSlips_26 5 rfl
theorem dX2_readSlips_34 : decode cX2_readSlips 34 = .ok (.iadd, 1) := dcr zo_dX2_readSlips_26 6 rfl
theorem dX2_readSlips_35 : decode cX2_readSlips 35 = .ok (.invokevirtual 34, 3) := dcr zo_dX2_readSlips_26 7 rfl
theorem dX2_readSlips_38 : decode cX2_readSlips 38 = .ok (.goto 4, 3) := dcr zo_dX2_readSlips_26 8 rfl
theorem dX2_readSlips_41 : decode cX2_readSlips 41 = .ok (.iconst 0, 1) := dcr zo_dX2_readSlips_26 9 rfl
theorem dX2_readSlips_42 : decode cX2_readSlips 42 = .ok (.istore 4, 2) := dcr zo_dX2_readSlips_26 10 rfl
theorem dX2_readSlips_44 : decode cX2_readSlips 44 = .ok (.aload_n 0, 1) := dcr zo_dX2_readSlips_26 11 rfl
theorem dX2_readSlips_45 : decode cX2_readSlips 45 = .ok (.getfield 15, 3) := dcr zo_dX2_readSlips_26 12 rfl
theorem dX2_readSlips_48 : decode cX2_readSlips 48 = .ok (.iload_n 1, 1) := dcr zo_dX2_readSlips_26 13 rfl
theorem dX2_readSlips_49 : decode cX2_readSlips 49 = .ok (.iload_n 3, 1) := dcr zo_dX2_readSlips_26 14 rfl
theorem dX2_readSlips_50 : decode cX2_readSlips 50 = .ok (.aload_n 0, 1) := dcr zo_dX2_readSlips_26 15 rfl
theorem zo_dX2_readSlips_51 : ([(51, .iload_n 2, 1), (52, .iconst 1, 1), (53, .iadd, 1), (54, .invokevirtual 22, 3), (57, .bipush 48, 2), (59, .isub, 1), (60, .iload 4, 2), (62, .invokestatic 58, 3), (65, .iastore, 1), (66, .iinc 1 1, 3), (69, .iload_n 2, 1), (70, .aload_n 0, 1), (71, .iload_n 2, 1), (72, .invokevirtual 41, 3), (75, .iadd, 1), (76, .istore_n 2, 1)] : List (Nat × Instr × Nat)).all (dOk (decode cX2_readSlips)) = true := by decide +kernel
theorem dX2_readSlips_51 : decode cX2_readSlips 51 = .ok (.iload_n 2, 1) := dcr zo_dX2_readSlips_51 0 rfl
theorem dX2_readSlips_52 : decode cX2_readSlips 52 = .ok (.iconst 1, 1) := dcr zo_dX2_readSlips_51 1 rfl
theorem dX2_readSlips_53 : decode cX2_readSlips 53 = .ok (.iadd, 1) := dcr zo_dX2_readSlips_51 2 rfl
theorem dX2_readSlips_54 : decode cX2_readSlips 54 = .ok (.invokevirtual 22, 3) := dcr zo_dX2_readSlips_51 3 rfl
theorem dX2_readSlips_57 : decode cX2_readSlips 57 = .ok (.bipush 48, 2) := dcr zo_dX2_readSlips_51 4 rfl
theorem dX2_readSlips_59 : decode cX2_readSlips 59 = .ok (.isub, 1) := dcr zo_dX2_readSlips_51 5 rfl
theorem dX2_readSlips_60 : decode cX2_readSlips 60 = .ok (.iload 4, 2) := dcr zo_dX2_readSlips_51 6 rfl
theorem dX2_readSlips_62 : decode cX2_readSlips 62 = .ok (.invokestatic 58, 3) := dcr zo_dX2_readSlips_51 7 rfl
theorem dX2_readSlips_65 : decode cX2_readSlips 65 = .ok (.iastore, 1) := dcr zo_dX2_readSlips_51 8 rfl
theorem dX2_readSlips_66 : decode cX2_readSlips 66 = .ok (.iinc 1 1, 3) := dcr zo_dX2_readSlips_51 9 rfl
theorem dX2_readSlips_69 : decode cX2_readSlips 69 = .ok (.iload_n 2, 1) := dcr zo_dX2_readSlips_51 10 rfl
theorem dX2_readSlips_70 : decode cX2_readSlips 70 = .ok (.aload_n 0, 1) := dcr zo_dX2_readSlips_51 11 rfl
theorem dX2_readSlips_71 : decode cX2_readSlips 71 = .ok (.iload_n 2, 1) := dcr zo_dX2_readSlips_51 12 rfl
theorem dX2_readSlips_72 : decode cX2_readSlips 72 = .ok (.invokevirtual 41, 3) := dcr zo_dX2_readSlips_51 13 rfl
theorem dX2_readSlips_75 : decode cX2_readSlips 75 = .ok (.iadd, 1) := dcr zo_dX2_readSlips_51 14 rfl
theorem dX2_readSlips_76 : decode cX2_readSlips 76 = .ok (.istore_n 2, 1) := dcr zo_dX2_readSlips_51 15 rfl
theorem zo_dX2_readSlips_77 : ([(77, .goto (-73), 3), (80, .iload_n 1, 1), (81, .ireturn, 1)] : List (Nat × Instr × Nat)).all (dOk (decode cX2_readSlips)) = true := by decide +kernel
theorem dX2_readSlips_77 : decode cX2_readSlips 77 = .ok (.goto (-73), 3) := dcr zo_dX2_readSlips_77 0 rfl
theorem dX2_readSlips_80 : decode cX2_readSlips 80 = .ok (.iload_n 1, 1) := dcr zo_dX2_readSlips_77 1 rfl
theorem dX2_readSlips_81 : decode cX2_readSlips 81 = .ok (.ireturn, 1) := dcr zo_dX2_readSlips_77 2 rfl
theorem zo_dX2_slipAt_0 : ([(0, .iload_n 1, 1), (1, .ifCond .lt 21, 3), (4, .iload_n 1, 1), (5, .aload_n 0, 1), (6, .getfield 15, 3), (9, .arraylength, 1), (10, .if_icmp .ge 12, 3), (13, .aload_n 0, 1), (14, .getfield 15, 3), (17, .iload_n 1, 1), (18, .iaload, 1), (19, .goto 5, 3), (22, .bipush (-6), 2), (24, .ireturn, 1)] : List (Nat × Instr × Nat)).all (dOk (decode cX2_slipAt)) = true := by decide +kernel
theorem dX2_slipAt_0 : decode cX2_slipAt 0 = .ok (.iload_n 1, 1) := dcr zo_dX2_slipAt_0 0 rfl
theorem dX2_slipAt_1 : decode cX2_slipAt 1 = .ok (.ifCond .lt 21, 3) := dcr zo_dX2_slipAt_0 1 rfl
theorem dX2_slipAt_4 : decode cX2_slipAt 4 = .ok (.iload_n 1, 1) := dcr zo_dX2_slipAt_0 2 rfl
theorem dX2_slipAt_5 : decode cX2_slipAt 5 = .ok (.aload_n 0, 1) := dcr zo_dX2_slipAt_0 3 rfl
theorem dX2_slipAt_6 : decode cX2_slipAt 6 = .ok (.getfield 15, 3) := dcr zo_dX2_slipAt_0 4 rfl
theorem dX2_slipAt_9 : decode cX2_slipAt 9 = .ok (.arraylength, 1) := dcr zo_dX2_slipAt_0 5 rfl
theorem dX2_slipAt_10 : decode cX2_slipAt 10 = .ok (.if_icmp .ge 12, 3) := dcr zo_dX2_slipAt_0 6 rfl
theorem dX2_slipAt_13 : decode cX2_slipAt 13 = .ok (.aload_n 0, 1) := dcr zo_dX2_slipAt_0 7 rfl
theorem dX2_slipAt_14 : decode cX2_slipAt 14 = .ok (.getfield 15, 3) := dcr zo_dX2_slipAt_0 8 rfl
theorem dX2_slipAt_17 : decode cX2_slipAt 17 = .ok (.iload_n 1, 1) := dcr zo_dX2_slipAt_0 9 rfl
theorem dX2_slipAt_18 : decode cX2_slipAt 18 = .ok (.iaload, 1) := dcr zo_dX2_slipAt_0 10 rfl
theorem dX2_slipAt_19 : decode cX2_slipAt 19 = .ok (.goto 5, 3) := dcr zo_dX2_slipAt_0 11 rfl
theorem dX2_slipAt_22 : decode cX2_slipAt 22 = .ok (.bipush (-6), 2) := dcr zo_dX2_slipAt_0 12 rfl
theorem dX2_slipAt_24 : decode cX2_slipAt 24 = .ok (.ireturn, 1) := dcr zo_dX2_slipAt_0 13 rfl
theorem zo_dX3_init_0 : ([(0, .aload_n 0, 1), (1, .invokespecial 3, 3), (4, .aload_n 0, 1), (5, .bipush 6, 2), (7, .putfield 9, 3), (10, .aload_n 0, 1), (11, .iconst 1, 1), (12, .putfield 15, 3), (15, .aload_n 0, 1), (16, .bipush 6, 2), (18, .newarray .int, 2), (20, .putfield 18, 3), (23, .aload_n 0, 1), (24, .iconst 4, 1), (25, .newarray .int, 2), (27, .dup, 1)] : List (Nat × Instr × Nat)).all (dOk (decode cX3_init)) = true := by decide +kernel
theorem dX3_init_0 : decode cX3_init 0 = .ok (.aload_n 0, 1) := dcr zo_dX3_init_0 0 rfl
theorem dX3_init_1 : decode cX3_init 1 = .ok (.invokespecial 3, 3) := dcr zo_dX3_init_0 1 rfl
theorem dX3_init_4 : decode cX3_init 4 = .ok (.aload_n 0, 1) := dcr zo_dX3_init_0 2 rfl
theorem dX3_init_5 : decode cX3_init 5 = .ok (.bipush 6, 2) := dcr zo_dX3_init_0 3 rfl
theorem dX3_init_7 : decode cX3_init 7 = .ok (.putfield 9, 3) := dcr zo_dX3_init_0 4 rfl
theorem dX3_init_10 : decode cX3_init 10 = .ok (.aload_n 0, 1) := dcr zo_dX3_init_0 5 rfl
theorem dX3_init_11 : decode cX3_init 11 = .ok (.iconst 1, 1) := dcr zo_dX3_init_0 6 rfl
theorem dX3_init_12 : decode cX3_init 12 = .ok (.putfield 15, 3) := dcr zo_dX3_init_0 7 rfl
theorem dX3_init_15 : decode cX3_init 15 = .ok (.aload_n 0, 1) := dcr zo_dX3_init_0 8 rfl
theorem dX3_init_16 : decode cX3_init 16 = .ok (.bipush 6, 2) := dcr zo_dX3_init_0 9 rfl
theorem dX3_init_18 : decode cX3_init 18 = .ok (.newarray .int, 2) := dcr zo_dX3_init_0 10 rfl
theorem dX3_init_20 : decode cX3_init 20 = .ok (.putfield 18, 3) := dcr zo_dX3_init_0 11 rfl
theorem dX3_init_23 : decode cX3_init 23 = .ok (.aload_n 0, 1) := dcr zo_dX3_init_0 12 rfl
theorem dX3_init_24 : decode cX3_init 24 = .ok (.iconst 4, 1) := dcr zo_dX3_init_0 13 rfl
theorem dX3_init_25 : decode cX3_init 25 = .ok (.newarray .int, 2) := dcr zo_dX3_init_0 14 rfl
theorem dX3_init_27 : decode cX3_init 27 = .ok (.dup, 1) := dcr zo_dX3_init_0 15 rfl
theorem zo_dX3_init_28 : ([(28, .iconst 0, 1), (29, .bipush 15, 2), (31, .iastore, 1), (32, .dup, 1), (33, .iconst 1, 1), (34, .bipush 15, 2), (36, .iastore, 1), (37, .dup, 1), (38, .iconst 2, 1), (39, .bipush 15, 2), (41, .iastore, 1), (42, .dup, 1), (43, .iconst 3, 1), (44, .bipush 15, 2), (46, .iastore, 1), (47, .putfield 22, 3)] : List (Nat × Instr × Nat)).all (dOk (decode cX3_init)) = true := by decide +kernel
theorem dX3_init_28 : decode cX3_init 28 = .ok (.iconst 0, 1) := dcr zo_dX3_init_28 0 rfl
theorem dX3_init_29 : decode cX3_init 29 = .ok (.bipush 15, 2) := dcr zo_dX3_init_28 1 rfl
theorem dX3_init_31 : decode cX3_init 31 = .ok (.iastore, 1) := dcr zo_dX3_init_28 2 rfl
theorem dX3_init_32 : decode cX3_init 32 = .ok (.dup, 1) := dcr zo_dX3_init_28 3 rfl
theorem dX3_init_33 : decode cX3_init 33 = .ok (.iconst 1, 1) := dcr zo_dX3_init_28 4 rfl
theorem dX3_init_34 : decode cX3_init 34 = .ok (.bipush 15, 2) := dcr zo_dX3_init_28 5 rfl
theorem dX3_init_36 : decode cX3_init 36 = .ok (.iastore, 1) := dcr zo_dX3_init_28 6 rfl
theorem dX3_init_37 : decode cX3_init 37 = .ok (.dup, 1) := dcr zo_dX3_init_28 7 rfl
theorem dX3_init_38 : decode cX3_init 38 = .ok (.iconst 2, 1) := dcr zo_dX3_init_28 8 rfl
theorem dX3_init_39 : decode cX3_init 39 = .ok (.bipush 15, 2) := dcr zo_dX3_init_28 9 rfl
theorem dX3_init_41 : decode cX3_init 41 = .ok (.iastore, 1) := dcr zo_dX3_init_28 10 rfl
theorem dX3_init_42 : decode cX3_init 42 = .ok (.dup, 1) := dcr zo_dX3_init_28 11 rfl
theorem dX3_init_43 : decode cX3_init 43 = .ok (.iconst 3, 1) := dcr zo_dX3_init_28 12 rfl
theorem dX3_init_44 : decode cX3_init 44 = .ok (.bipush 15, 2) := dcr zo_dX3_init_28 13 rfl
theorem dX3_init_46 : decode cX3_init 46 = .ok (.iastore, 1) := dcr zo_dX3_init_28 14 rfl
theorem dX3_init_47 : decode cX3_init 47 = .ok (.putfield 22, 3) := dcr zo_dX3_init_28 15 rfl
theorem zo_dX3_init_50 : ([(50, .return_, 1)] : List (Nat × Instr × Nat)).all (dOk (decode cX3_init)) = true := by decide +kernel
theorem dX3_init_50 : decode cX3_init 50 = .ok (.return_, 1) := dcr zo_dX3_init_50 0 rfl
theorem zo_dX3_codeOf_0 : ([(0, .iload_n 1, 1), (1, .ifCond .lt 21, 3), (4, .iload_n 1, 1), (5, .aload_n 0, 1), (6, .getfield 18, 3), (9, .arraylength, 1), (10, .if_icmp .ge 12, 3), (13, .aload_n 0, 1), (14, .getfield 18, 3), (17, .iload_n 1, 1), (18, .iaload, 1), (19, .goto 4, 3), (22, .iconst 0, 1), (23, .ireturn, 1)] : List (Nat × Instr × Nat)).all (dOk (decode cX3_codeOf)) = true := by decide +kernel
theorem dX3_codeOf_0 : decode cX3_codeOf 0 = .ok (.iload_n 1, 1) := dcr zo_dX3_codeOf_0 0 rfl
theorem dX3_codeOf_1 : decode cX3_codeOf 1 = .ok (.ifCond .lt 21, 3) := dcr zo_dX3_codeOf_0 1 rfl
theorem dX3_codeOf_4 : decode cX3_codeOf 4 = .ok (.iload_n 1, 1) := dcr zo_dX3_codeOf_0 2 rfl
theorem dX3_codeOf_5 : decode cX3_codeOf 5 = .ok (.aload_n 0, 1) := dcr zo_dX3_codeOf_0 3 rfl
theorem dX3_codeOf_6 : decode cX3_codeOf 6 = .ok (.getfield 18, 3) := dcr zo_dX3_codeOf_0 4 rfl
theorem dX3_codeOf_9 : decode cX3_codeOf 9 = .ok (.arraylength, 1) := dcr zo_dX3_codeOf_0 5 rfl
theorem dX3_codeOf_10 : decode cX3_codeOf 10 = .ok (.if_icmp .ge 12, 3) := dcr zo_dX3_codeOf_0 6 rfl
theorem dX3_codeOf_13 : decode cX3_codeOf 13 = .ok (.aload_n 0, 1) := dcr zo_dX3_codeOf_0 7 rfl
theorem dX3_codeOf_14 : decode cX3_codeOf 14 = .ok (.getfield 18, 3) := dcr zo_dX3_codeOf_0 8 rfl
theorem dX3_codeOf_17 : decode cX3_codeOf 17 = .ok (.iload_n 1, 1) := dcr zo_dX3_codeOf_0 9 rfl
theorem dX3_codeOf_18 : decode cX3_codeOf 18 = .ok (.iaload, 1) := dcr zo_dX3_codeOf_0 10 rfl
theorem dX3_codeOf_19 : decode cX3_codeOf 19 = .ok (.goto 4, 3) := dcr zo_dX3_codeOf_0 11 rfl
theorem dX3_codeOf_22 : decode cX3_codeOf 22 = .ok (.iconst 0, 1) := dcr zo_dX3_codeOf_0 12 rfl
theorem dX3_codeOf_23 : decode cX3_codeOf 23 = .ok (.ireturn, 1) := dcr zo_dX3_codeOf_0 13 rfl
theorem zo_dX3_tell_0 : ([(0, .iload_n 1, 1), (1, .ifCond .lt 31, 3), (4, .iload_n 1, 1), (5, .aload_n 0, 1), (6, .getfield 18, 3), (9, .arraylength, 1), (10, .if_icmp .ge 22, 3), (13, .aload_n 0, 1), (14, .getfield 18, 3), (17, .iload_n 1, 1), (18, .iload_n 2, 1), (19, .iastore, 1), (20, .aload_n 0, 1), (21, .dup, 1), (22, .getfield 25, 3), (25, .iconst 1, 1)] : List (Nat × Instr × Nat)).all (dOk (decode cX3_tell)) = true := by decide +kernel
theorem dX3_tell_0 : decode cX3_tell 0 = .ok (.iload_n 1, 1) := dcr zo_dX3_tell_0 0 rfl
theorem dX3_tell_1 : decode cX3_tell 1 = .ok (.ifCond .lt 31, 3) := dcr zo_dX3_tell_0 1 rfl
theorem dX3_tell_4 : decode cX3_tell 4 = .ok (.iload_n 1, 1) := dcr zo_dX3_tell_0 2 rfl
theorem dX3_tell_5 : decode cX3_tell 5 = .ok (.aload_n 0, 1) := dcr zo_dX3_tell_0 3 rfl
theorem dX3_tell_6 : decode cX3_tell 6 = .ok (.getfield 18, 3) := dcr zo_dX3_tell_0 4 rfl
theorem dX3_tell_9 : decode cX3_tell 9 = .ok (.arraylength, 1) := dcr zo_dX3_tell_0 5 rfl
theorem dX3_tell_10 : decode cX3_tell 10 = .ok (.if_icmp .ge 22, 3) := dcr zo_dX3_tell_0 6 rfl
theorem dX3_tell_13 : decode cX3_tell 13 = .ok (.aload_n 0, 1) := dcr zo_dX3_tell_0 7 rfl
theorem dX3_tell_14 : decode cX3_tell 14 = .ok (.getfield 18, 3) := dcr zo_dX3_tell_0 8 rfl
theorem dX3_tell_17 : decode cX3_tell 17 = .ok (.iload_n 1, 1) := dcr zo_dX3_tell_0 9 rfl
theorem dX3_tell_18 : decode cX3_tell 18 = .ok (.iload_n 2, 1) := dcr zo_dX3_tell_0 10 rfl
theorem dX3_tell_19 : decode cX3_tell 19 = .ok (.iastore, 1) := dcr zo_dX3_tell_0 11 rfl
theorem dX3_tell_20 : decode cX3_tell 20 = .ok (.aload_n 0, 1) := dcr zo_dX3_tell_0 12 rfl
theorem dX3_tell_21 : decode cX3_tell 21 = .ok (.dup, 1) := dcr zo_dX3_tell_0 13 rfl
theorem dX3_tell_22 : decode cX3_tell 22 = .ok (.getfield 25, 3) := dcr zo_dX3_tell_0 14 rfl
theorem dX3_tell_25 : decode cX3_tell 25 = .ok (.iconst 1, 1) := dcr zo_dX3_tell_0 15 rfl
theorem zo_dX3_tell_26 : ([(26, .iload_n 1, 1), (27, .ishl, 1), (28, .ior, 1), (29, .putfield 25, 3), (32, .return_, 1)] : List (Nat × Instr × Nat)).all (dOk (decode cX3_tell)) = true := by decide +kernel
theorem dX3_tell_26 : decode cX3_tell 26 = .ok (.iload_n 1, 1) := dcr zo_dX3_tell_26 0 rfl
theorem dX3_tell_27 : decode cX3_tell 27 = .ok (.ishl, 1) := dcr zo_dX3_tell_26 1 rfl
theorem dX3_tell_28 : decode cX3_tell 28 = .ok (.ior, 1) := dcr zo_dX3_tell_26 2 rfl
theorem dX3_tell_29 : decode cX3_tell 29 = .ok (.putfield 25, 3) := dcr zo_dX3_tell_26 3 rfl
theorem dX3_tell_32 : decode cX3_tell 32 = .ok (.return_, 1) := dcr zo_dX3_tell_26 4 rfl
theorem zo_dX3_kindsOf_0 : ([(0, .iload_n 1, 1), (1, .ifCond .lt 21, 3), (4, .iload_n 1, 1), (5, .aload_n 0, 1), (6, .getfield 22, 3), (9, .arraylength, 1), (10, .if_icmp .ge 12, 3), (13, .aload_n 0, 1), (14, .getfield 22, 3), (17, .iload_n 1, 1), (18, .iaload, 1), (19, .goto 4, 3), (22, .iconst 0, 1), (23, .ireturn, 1)] : List (Nat × Instr × Nat)).all (dOk (decode cX3_kindsOf)) = true := by decide +kernel
theorem dX3_kindsOf_0 : decode cX3_kindsOf 0 = .ok (.iload_n 1, 1) := dcr zo_dX3_kindsOf_0 0 rfl
theorem dX3_kindsOf_1 : decode cX3_kindsOf 1 = .ok (.ifCond .lt 21, 3) := dcr zo_dX3_kindsOf_0 1 rfl
theorem dX3_kindsOf_4 : decode cX3_kindsOf 4 = .ok (.iload_n 1, 1) := dcr zo_dX3_kindsOf_0 2 rfl
theorem dX3_kindsOf_5 : decode cX3_kindsOf 5 = .ok (.aload_n 0, 1) := dcr zo_dX3_kindsOf_0 3 rfl
theorem dX3_kindsOf_6 : decode cX3_kindsOf 6 = .ok (.getfield 22, 3) := dcr zo_dX3_kindsOf_0 4 rfl
theorem dX3_kindsOf_9 : decode cX3_kindsOf 9 = .ok (.arraylength, 1) := dcr zo_dX3_kindsOf_0 5 rfl
theorem dX3_kindsOf_10 : decode cX3_kindsOf 10 = .ok (.if_icmp .ge 12, 3) := dcr zo_dX3_kindsOf_0 6 rfl
theorem dX3_kindsOf_13 : decode cX3_kindsOf 13 = .ok (.aload_n 0, 1) := dcr zo_dX3_kindsOf_0 7 rfl
theorem dX3_kindsOf_14 : decode cX3_kindsOf 14 = .ok (.getfield 22, 3) := dcr zo_dX3_kindsOf_0 8 rfl
theorem dX3_kindsOf_17 : decode cX3_kindsOf 17 = .ok (.iload_n 1, 1) := dcr zo_dX3_kindsOf_0 9 rfl
theorem dX3_kindsOf_18 : decode cX3_kindsOf 18 = .ok (.iaload, 1) := dcr zo_dX3_kindsOf_0 10 rfl
theorem dX3_kindsOf_19 : decode cX3_kindsOf 19 = .ok (.goto 4, 3) := dcr zo_dX3_kindsOf_0 11 rfl
theorem dX3_kindsOf_22 : decode cX3_kindsOf 22 = .ok (.iconst 0, 1) := dcr zo_dX3_kindsOf_0 12 rfl
theorem dX3_kindsOf_23 : decode cX3_kindsOf 23 = .ok (.ireturn, 1) := dcr zo_dX3_kindsOf_0 13 rfl
theorem zo_dX3_teach_0 : ([(0, .iload_n 1, 1), (1, .ifCond .lt 19, 3), (4, .iload_n 1, 1), (5, .aload_n 0, 1), (6, .getfield 22, 3), (9, .arraylength, 1), (10, .if_icmp .ge 10, 3), (13, .aload_n 0, 1), (14, .getfield 22, 3), (17, .iload_n 1, 1), (18, .iload_n 2, 1), (19, .iastore, 1), (20, .return_, 1)] : List (Nat × Instr × Nat)).all (dOk (decode cX3_teach)) = true := by decide +kernel
theorem dX3_teach_0 : decode cX3_teach 0 = .ok (.iload_n 1, 1) := dcr zo_dX3_teach_0 0 rfl
theorem dX3_teach_1 : decode cX3_teach 1 = .ok (.ifCond .lt 19, 3) := dcr zo_dX3_teach_0 1 rfl
theorem dX3_teach_4 : decode cX3_teach 4 = .ok (.iload_n 1, 1) := dcr zo_dX3_teach_0 2 rfl
theorem dX3_teach_5 : decode cX3_teach 5 = .ok (.aload_n 0, 1) := dcr zo_dX3_teach_0 3 rfl
theorem dX3_teach_6 : decode cX3_teach 6 = .ok (.getfield 22, 3) := dcr zo_dX3_teach_0 4 rfl
theorem dX3_teach_9 : decode cX3_teach 9 = .ok (.arraylength, 1) := dcr zo_dX3_teach_0 5 rfl
theorem dX3_teach_10 : decode cX3_teach 10 = .ok (.if_icmp .ge 10, 3) := dcr zo_dX3_teach_0 6 rfl
theorem dX3_teach_13 : decode cX3_teach 13 = .ok (.aload_n 0, 1) := dcr zo_dX3_teach_0 7 rfl
theorem dX3_teach_14 : decode cX3_teach 14 = .ok (.getfield 22, 3) := dcr zo_dX3_teach_0 8 rfl
theorem dX3_teach_17 : decode cX3_teach 17 = .ok (.iload_n 1, 1) := dcr zo_dX3_teach_0 9 rfl
theorem dX3_teach_18 : decode cX3_teach 18 = .ok (.iload_n 2, 1) := dcr zo_dX3_teach_0 10 rfl
theorem dX3_teach_19 : decode cX3_teach 19 = .ok (.iastore, 1) := dcr zo_dX3_teach_0 11 rfl
theorem dX3_teach_20 : decode cX3_teach 20 = .ok (.return_, 1) := dcr zo_dX3_teach_0 12 rfl
def zt_wsX3_take : List (List Cond) := [[.code yX3_take cX3_take 3 none], [.fieldLink RX3 9 "LastMap$Papers" "siteCount" "I", .fieldLink RX3 25 "LastMap$Papers" "toldMaps" "I", .fieldLink RX3 15 "LastMap$Papers" "spadeCount" "I", .fieldLink RX3 28 "LastMap$Papers" "ground" "I", .fieldLink RX3 18 "LastMap$Papers" "codes" "[I", .fieldLink RX3 22 "LastMap$Papers" "kinds" "[I", .methodLink RX3 31 yX3_codeOf, .instanceMethod yX3_codeOf, .selects RX3 yX3_codeOf yX3_codeOf, .initialized RX3, .code yX3_codeOf cX3_codeOf 2 (some .int), .methodLink RX3 35 yX3_kindsOf, .instanceMethod yX3_kindsOf, .selects RX3 yX3_kindsOf yX3_kindsOf, .code yX3_kindsOf cX3_kindsOf 2 (some .int)], wsX30]
theorem zt_wsX3_take_in : ∀ c ∈ zt_wsX3_take, ∀ w ∈ c, w ∈ wsX3_take := List.forall_mem_cons.mpr ⟨fun _ h => List.mem_cons.mpr (Or.inl (List.mem_singleton.mp h)), List.forall_mem_cons.mpr ⟨fun _ h => List.mem_cons_of_mem _ (List.mem_append_left _ (h)), List.forall_mem_cons.mpr ⟨fun _ h => List.mem_cons_of_mem _ (List.mem_append_right _ h), (fun _ h => absurd h List.not_mem_nil)⟩⟩⟩
set_option maxRecDepth 20000 in
theorem zw_wsX3_codeOf : wsX3_codeOf.all goodWord = true := by decide +kernel
set_option maxRecDepth 20000 in
theorem ggX3_take_X3_codeOf : GoodIn wsX3_take wsX3_codeOf := goodIn_c zt_wsX3_take_in _ [(1, 10), (1, 4), (2, 0), (2, 1), (2, 2), (2, 3), (2, 4), (2, 5)] rfl zw_wsX3_codeOf
set_option maxRecDepth 20000 in
theorem gX3_take_X3_codeOf : GoodIn wsX3_take (wsV RX3 31 RX3 yX3_codeOf wsX3_codeOf) := goodIn_app (goodIn_of _ (by decide +kernel)) ggX3_take_X3_codeOf
set_option maxRecDepth 20000 in
theorem zw_wsX3_kindsOf : wsX3_kindsOf.all goodWord = true := by decide +kernel
set_option maxRecDepth 20000 in
theorem ggX3_take_X3_kindsOf : GoodIn wsX3_take wsX3_kindsOf := goodIn_c zt_wsX3_take_in _ [(1, 14), (1, 5), (2, 0), (2, 1), (2, 2), (2, 3), (2, 4), (2, 5)] rfl zw_wsX3_kindsOf
set_option maxRecDepth 20000 in
theorem gX3_take_X3_kindsOf : GoodIn wsX3_take (wsV RX3 35 RX3 yX3_kindsOf wsX3_kindsOf) := goodIn_app (goodIn_of _ (by decide +kernel)) ggX3_take_X3_kindsOf
theorem zo_dX3_take_0 : ([(0, .aload_n 0, 1), (1, .aload_n 1, 1), (2, .getfield 9, 3), (5, .putfield 9, 3), (8, .aload_n 0, 1), (9, .aload_n 1, 1), (10, .getfield 25, 3), (13, .putfield 25, 3), (16, .aload_n 0, 1), (17, .aload_n 1, 1), (18, .getfield 15, 3), (21, .putfield 15, 3), (24, .aload_n 0, 1), (25, .aload_n 1, 1), (26, .getfield 28, 3), (29, .putfield 28, 3)] : List (Nat × Instr × Nat)).all (dOk (decode cX3_take)) = true := by decide +kernel
theorem dX3_take_0 : decode cX3_take 0 = .ok (.aload_n 0, 1) := dcr zo_dX3_take_0 0 rfl
theorem dX3_take_1 : decode cX3_take 1 = .ok (.aload_n 1, 1) := dcr zo_dX3_take_0 1 rfl
theorem dX3_take_2 : decode cX3_take 2 = .ok (.getfield 9, 3) := dcr zo_dX3_take_0 2 rfl
theorem dX3_take_5 : decode cX3_take 5 = .ok (.putfield 9, 3) := dcr zo_dX3_take_0 3 rfl
theorem dX3_take_8 : decode cX3_take 8 = .ok (.aload_n 0, 1) := dcr zo_dX3_take_0 4 rfl
theorem dX3_take_9 : decode cX3_take 9 = .ok (.aload_n 1, 1) := dcr zo_dX3_take_0 5 rfl
theorem dX3_take_10 : decode cX3_take 10 = .ok (.getfield 25, 3) := dcr zo_dX3_take_0 6 rfl
theorem dX3_take_13 : decode cX3_take 13 = .ok (.putfield 25, 3) := dcr zo_dX3_take_0 7 rfl
theorem dX3_take_16 : decode cX3_take 16 = .ok (.aload_n 0, 1) := dcr zo_dX3_take_0 8 rfl
theorem dX3_take_17 : decode cX3_take 17 = .ok (.aload_n 1, 1) := dcr zo_dX3_take_0 9 rfl
theorem dX3_take_18 : decode cX3_take 18 = .ok (.getfield 15, 3) := dcr zo_dX3_take_0 10 rfl
theorem dX3_take_21 : decode cX3_take 21 = .ok (.putfield 15, 3) := dcr zo_dX3_take_0 11 rfl
theorem dX3_take_24 : decode cX3_take 24 = .ok (.aload_n 0, 1) := dcr zo_dX3_take_0 12 rfl
theorem dX3_take_25 : decode cX3_take 25 = .ok (.aload_n 1, 1) := dcr zo_dX3_take_0 13 rfl
theorem dX3_take_26 : decode cX3_take 26 = .ok (.getfield 28, 3) := dcr zo_dX3_take_0 14 rfl
theorem dX3_take_29 : decode cX3_take 29 = .ok (.putfield 28, 3) := dcr zo_dX3_take_0 15 rfl
theorem zo_dX3_take_32 : ([(32, .iconst 0, 1), (33, .istore_n 2, 1), (34, .iload_n 2, 1), (35, .aload_n 0, 1), (36, .getfield 18, 3), (39, .arraylength, 1), (40, .if_icmp .ge 20, 3), (43, .aload_n 0, 1), (44, .getfield 18, 3), (47, .iload_n 2, 1), (48, .aload_n 1, 1), (49, .iload_n 2, 1), (50, .invokevirtual 31, 3), (53, .iastore, 1), (54, .iinc 2 1, 3), (57, .goto (-23), 3)] : List (Nat × Instr × Nat)).all (dOk (decode cX3_take)) = true := by decide +kernel
theorem dX3_take_32 : decode cX3_take 32 = .ok (.iconst 0, 1) := dcr zo_dX3_take_32 0 rfl
theorem dX3_take_33 : decode cX3_take 33 = .ok (.istore_n 2, 1) := dcr zo_dX3_take_32 1 rfl
theorem dX3_take_34 : decode cX3_take 34 = .ok (.iload_n 2, 1) := dcr zo_dX3_take_32 2 rfl
theorem dX3_take_35 : decode cX3_take 35 = .ok (.aload_n 0, 1) := dcr zo_dX3_take_32 3 rfl
theorem dX3_take_36 : decode cX3_take 36 = .ok (.getfield 18, 3) := dcr zo_dX3_take_32 4 rfl
theorem dX3_take_39 : decode cX3_take 39 = .ok (.arraylength, 1) := dcr zo_dX3_take_32 5 rfl
theorem dX3_take_40 : decode cX3_take 40 = .ok (.if_icmp .ge 20, 3) := dcr zo_dX3_take_32 6 rfl
theorem dX3_take_43 : decode cX3_take 43 = .ok (.aload_n 0, 1) := dcr zo_dX3_take_32 7 rfl
theorem dX3_take_44 : decode cX3_take 44 = .ok (.getfield 18, 3) := dcr zo_dX3_take_32 8 rfl
theorem dX3_take_47 : decode cX3_take 47 = .ok (.iload_n 2, 1) := dcr zo_dX3_take_32 9 rfl
theorem dX3_take_48 : decode cX3_take 48 = .ok (.aload_n 1, 1) := dcr zo_dX3_take_32 10 rfl
theorem dX3_take_49 : decode cX3_take 49 = .ok (.iload_n 2, 1) := dcr zo_dX3_take_32 11 rfl
theorem dX3_take_50 : decode cX3_take 50 = .ok (.invokevirtual 31, 3) := dcr zo_dX3_take_32 12 rfl
theorem dX3_take_53 : decode cX3_take 53 = .ok (.iastore, 1) := dcr zo_dX3_take_32 13 rfl
theorem dX3_take_54 : decode cX3_take 54 = .ok (.iinc 2 1, 3) := dcr zo_dX3_take_32 14 rfl
theorem dX3_take_57 : decode cX3_take 57 = .ok (.goto (-23), 3) := dcr zo_dX3_take_32 15 rfl
theorem zo_dX3_take_60 : ([(60, .iconst 0, 1), (61, .istore_n 2, 1), (62, .iload_n 2, 1), (63, .aload_n 0, 1), (64, .getfield 22, 3), (67, .arraylength, 1), (68, .if_icmp .ge 20, 3), (71, .aload_n 0, 1), (72, .getfield 22, 3), (75, .iload_n 2, 1), (76, .aload_n 1, 1), (77, .iload_n 2, 1), (78, .invokevirtual 35, 3), (81, .iastore, 1), (82, .iinc 2 1, 3), (85, .goto (-23), 3)] : List (Nat × Instr × Nat)).all (dOk (decode cX3_take)) = true := by decide +kernel
theorem dX3_take_60 : decode cX3_take 60 = .ok (.iconst 0, 1) := dcr zo_dX3_take_60 0 rfl
theorem dX3_take_61 : decode cX3_take 61 = .ok (.istore_n 2, 1) := dcr zo_dX3_take_60 1 rfl
theorem dX3_take_62 : decode cX3_take 62 = .ok (.iload_n 2, 1) := dcr zo_dX3_take_60 2 rfl
theorem dX3_take_63 : decode cX3_take 63 = .ok (.aload_n 0, 1) := dcr zo_dX3_take_60 3 rfl
theorem dX3_take_64 : decode cX3_take 64 = .ok (.getfield 22, 3) := dcr zo_dX3_take_60 4 rfl
theorem dX3_take_67 : decode cX3_take 67 = .ok (.arraylength, 1) := dcr zo_dX3_take_60 5 rfl
theorem dX3_take_68 : decode cX3_take 68 = .ok (.if_icmp .ge 20, 3) := dcr zo_dX3_take_60 6 rfl
theorem dX3_take_71 : decode cX3_take 71 = .ok (.aload_n 0, 1) := dcr zo_dX3_take_60 7 rfl
theorem dX3_take_72 : decode cX3_take 72 = .ok (.getfield 22, 3) := dcr zo_dX3_take_60 8 rfl
theorem dX3_take_75 : decode cX3_take 75 = .ok (.iload_n 2, 1) := dcr zo_dX3_take_60 9 rfl
theorem dX3_take_76 : decode cX3_take 76 = .ok (.aload_n 1, 1) := dcr zo_dX3_take_60 10 rfl
theorem dX3_take_77 : decode cX3_take 77 = .ok (.iload_n 2, 1) := dcr zo_dX3_take_60 11 rfl
theorem dX3_take_78 : decode cX3_take 78 = .ok (.invokevirtual 35, 3) := dcr zo_dX3_take_60 12 rfl
theorem dX3_take_81 : decode cX3_take 81 = .ok (.iastore, 1) := dcr zo_dX3_take_60 13 rfl
theorem dX3_take_82 : decode cX3_take 82 = .ok (.iinc 2 1, 3) := dcr zo_dX3_take_60 14 rfl
theorem dX3_take_85 : decode cX3_take 85 = .ok (.goto (-23), 3) := dcr zo_dX3_take_60 15 rfl
theorem zo_dX3_take_88 : ([(88, .return_, 1)] : List (Nat × Instr × Nat)).all (dOk (decode cX3_take)) = true := by decide +kernel
theorem dX3_take_88 : decode cX3_take 88 = .ok (.return_, 1) := dcr zo_dX3_take_88 0 rfl
theorem zo_dX4_init_0 : ([(0, .aload_n 0, 1), (1, .invokespecial 3, 3), (4, .aload_n 0, 1), (5, .bipush 8, 2), (7, .anewarray 11, 3), (10, .putfield 13, 3), (13, .aload_n 0, 1), (14, .sipush 15625, 3), (17, .newarray .int, 2), (19, .putfield 19, 3), (22, .return_, 1)] : List (Nat × Instr × Nat)).all (dOk (decode cX4_init)) = true := by decide +kernel
theorem dX4_init_0 : decode cX4_init 0 = .ok (.aload_n 0, 1) := dcr zo_dX4_init_0 0 rfl
theorem dX4_init_1 : decode cX4_init 1 = .ok (.invokespecial 3, 3) := dcr zo_dX4_init_0 1 rfl
theorem dX4_init_4 : decode cX4_init 4 = .ok (.aload_n 0, 1) := dcr zo_dX4_init_0 2 rfl
theorem dX4_init_5 : decode cX4_init 5 = .ok (.bipush 8, 2) := dcr zo_dX4_init_0 3 rfl
theorem dX4_init_7 : decode cX4_init 7 = .ok (.anewarray 11, 3) := dcr zo_dX4_init_0 4 rfl
theorem dX4_init_10 : decode cX4_init 10 = .ok (.putfield 13, 3) := dcr zo_dX4_init_0 5 rfl
theorem dX4_init_13 : decode cX4_init 13 = .ok (.aload_n 0, 1) := dcr zo_dX4_init_0 6 rfl
theorem dX4_init_14 : decode cX4_init 14 = .ok (.sipush 15625, 3) := dcr zo_dX4_init_0 7 rfl
theorem dX4_init_17 : decode cX4_init 17 = .ok (.newarray .int, 2) := dcr zo_dX4_init_0 8 rfl
theorem dX4_init_19 : decode cX4_init 19 = .ok (.putfield 19, 3) := dcr zo_dX4_init_0 9 rfl
theorem dX4_init_22 : decode cX4_init 22 = .ok (.return_, 1) := dcr zo_dX4_init_0 10 rfl
def zt_wsX4_toward : List (List Cond) := [[.code yX4_toward cX4_toward 6 (some (.object "LastMap$Table"))], wsX4_toward_r1, wsX4_toward_r2, wsX4_toward_r3, wsX40, wsX70]
theorem zt_wsX4_toward_in : ∀ c ∈ zt_wsX4_toward, ∀ w ∈ c, w ∈ wsX4_toward := List.forall_mem_cons.mpr ⟨fun _ h => List.mem_cons.mpr (Or.inl (List.mem_singleton.mp h)), List.forall_mem_cons.mpr ⟨fun _ h => List.mem_cons_of_mem _ (List.mem_append_left _ (List.mem_append_left _ (List.mem_append_left _ h))), List.forall_mem_cons.mpr ⟨fun _ h => List.mem_cons_of_mem _ (List.mem_append_left _ (List.mem_append_left _ (List.mem_append_right _ (List.mem_append_left _ h)))), List.forall_mem_cons.mpr ⟨fun _ h => List.mem_cons_of_mem _ (List.mem_append_left _ (List.mem_append_left _ (List.mem_append_right _ (List.mem_append_right _ (h))))), List.forall_mem_cons.mpr ⟨fun _ h => List.mem_cons_of_mem _ (List.mem_append_left _ (List.mem_append_right _ h)), List.forall_mem_cons.mpr ⟨fun _ h => List.mem_cons_of_mem _ (List.mem_append_right _ h), (fun _ h => absurd h List.not_mem_nil)⟩⟩⟩⟩⟩⟩
set_option maxRecDepth 20000 in
theorem zw_wsX7_isFor : wsX7_isFor.all goodWord = true := by decide +kernel
set_option maxRecDepth 20000 in
theorem ggX4_toward_X7_isFor : GoodIn wsX4_toward wsX7_isFor := goodIn_c zt_wsX4_toward_in _ [(1, 5), (1, 6), (1, 7), (1, 8), (5, 0), (5, 1), (5, 2), (5, 3), (5, 4), (5, 5), (5, 6)] rfl zw_wsX7_isFor
set_option maxRecDepth 20000 in
theorem gX4_toward_X7_isFor : GoodIn wsX4_toward (wsV RX4 23 RX7 yX7_isFor wsX7_isFor) := goodIn_app (goodIn_of _ (by decide +kernel)) ggX4_toward_X7_isFor
set_option maxRecDepth 20000 in
theorem zw_wsX4_takeOldest : wsX4_takeOldest.all goodWord = true := by decide +kernel
set_option maxRecDepth 20000 in
theorem ggX4_toward_X4_takeOldest : GoodIn wsX4_toward wsX4_takeOldest := goodIn_c zt_wsX4_toward_in _ [(1, 13), (1, 14), (1, 0), (1, 15), (1, 16), (1, 4), (1, 17), (1, 18), (1, 19), (1, 20), (1, 21), (1, 22), (1, 23), (2, 0), (2, 1), (4, 0), (4, 1), (4, 2), (5, 0), (5, 1), (5, 2), (5, 3), (5, 4), (5, 5), (5, 6)] rfl zw_wsX4_takeOldest
set_option maxRecDepth 20000 in
theorem gX4_toward_X4_takeOldest : GoodIn wsX4_toward (wsV RX4 27 RX4 yX4_takeOldest wsX4_takeOldest) := goodIn_app (goodIn_of _ (by decide +kernel)) ggX4_toward_X4_takeOldest
set_option maxRecDepth 20000 in
theorem zw_wsX7_begin : wsX7_begin.all goodWord = true := by decide +kernel
set_option maxRecDepth 20000 in
theorem ggX4_toward_X7_begin : GoodIn wsX4_toward wsX7_begin := goodIn_c zt_wsX4_toward_in _ [(2, 5), (1, 6), (1, 7), (1, 8), (2, 6), (2, 7), (1, 23), (2, 8), (2, 9), (2, 10), (2, 11), (2, 12), (2, 13), (2, 14), (1, 4), (2, 15), (2, 16), (2, 17), (2, 18), (2, 19), (2, 1), (2, 20), (2, 21), (2, 22), (2, 23), (3, 0), (3, 1), (3, 2), (3, 3), (3, 4), (5, 0), (5, 1), (5, 2), (5, 3), (5, 4), (5, 5), (5, 6)] rfl zw_wsX7_begin
set_option maxRecDepth 20000 in
theorem gX4_toward_X7_begin : GoodIn wsX4_toward (wsV RX4 31 RX7 yX7_begin wsX7_begin) := goodIn_app (goodIn_of _ (by decide +kernel)) ggX4_toward_X7_begin
theorem zo_dX4_toward_0 : ([(0, .iconst 0, 1), (1, .istore 4, 2), (3, .iload 4, 2), (5, .aload_n 0, 1), (6, .getfield 13, 3), (9, .arraylength, 1), (10, .if_icmp .ge 37, 3), (13, .aload_n 0, 1), (14, .getfield 13, 3), (17, .iload 4, 2), (19, .aaload, 1), (20, .astore 5, 2), (22, .aload 5, 2), (24, .ifnull 17, 3), (27, .aload 5, 2), (29, .iload_n 1, 1)] : List (Nat × Instr × Nat)).all (dOk (decode cX4_toward)) = true := by decide +kernel
theorem dX4_toward_0 : decode cX4_toward 0 = .ok (.iconst 0, 1) := dcr zo_dX4_toward_0 0 rfl
theorem dX4_toward_1 : decode cX4_toward 1 = .ok (.istore 4, 2) := dcr zo_dX4_toward_0 1 rfl
theorem dX4_toward_3 : decode cX4_toward 3 = .ok (.iload 4, 2) := dcr zo_dX4_toward_0 2 rfl
theorem dX4_toward_5 : decode cX4_toward 5 = .ok (.aload_n 0, 1) := dcr zo_dX4_toward_0 3 rfl
theorem dX4_toward_6 : decode cX4_toward 6 = .ok (.getfield 13, 3) := dcr zo_dX4_toward_0 4 rfl
theorem dX4_toward_9 : decode cX4_toward 9 = .ok (.arraylength, 1) := dcr zo_dX4_toward_0 5 rfl
theorem dX4_toward_10 : decode cX4_toward 10 = .ok (.if_icmp .ge 37, 3) := dcr zo_dX4_toward_0 6 rfl
theorem dX4_toward_13 : decode cX4_toward 13 = .ok (.aload_n 0, 1) := dcr zo_dX4_toward_0 7 rfl
theorem dX4_toward_14 : decode cX4_toward 14 = .ok (.getfield 13, 3) := dcr zo_dX4_toward_0 8 rfl
theorem dX4_toward_17 : decode cX4_toward 17 = .ok (.iload 4, 2) := dcr zo_dX4_toward_0 9 rfl
theorem dX4_toward_19 : decode cX4_toward 19 = .ok (.aaload, 1) := dcr zo_dX4_toward_0 10 rfl
theorem dX4_toward_20 : decode cX4_toward 20 = .ok (.astore 5, 2) := dcr zo_dX4_toward_0 11 rfl
theorem dX4_toward_22 : decode cX4_toward 22 = .ok (.aload 5, 2) := dcr zo_dX4_toward_0 12 rfl
theorem dX4_toward_24 : decode cX4_toward 24 = .ok (.ifnull 17, 3) := dcr zo_dX4_toward_0 13 rfl
theorem dX4_toward_27 : decode cX4_toward 27 = .ok (.aload 5, 2) := dcr zo_dX4_toward_0 14 rfl
theorem dX4_toward_29 : decode cX4_toward 29 = .ok (.iload_n 1, 1) := dcr zo_dX4_toward_0 15 rfl
theorem zo_dX4_toward_30 : ([(30, .iload_n 2, 1), (31, .iload_n 3, 1), (32, .invokevirtual 23, 3), (35, .ifCond .eq 6, 3), (38, .aload 5, 2), (40, .areturn, 1), (41, .iinc 4 1, 3), (44, .goto (-41), 3), (47, .aload_n 0, 1), (48, .invokevirtual 27, 3), (51, .astore 4, 2), (53, .aload 4, 2), (55, .iload_n 1, 1), (56, .iload_n 2, 1), (57, .iload_n 3, 1), (58, .invokevirtual 31, 3)] : List (Nat × Instr × Nat)).all (dOk (decode cX4_toward)) = true := by decide +kernel
theorem dX4_toward_30 : decode cX4_toward 30 = .ok (.iload_n 2, 1) := dcr zo_dX4_toward_30 0 rfl
theorem dX4_toward_31 : decode cX4_toward 31 = .ok (.iload_n 3, 1) := dcr zo_dX4_toward_30 1 rfl
theorem dX4_toward_32 : decode cX4_toward 32 = .ok (.invokevirtual 23, 3) := dcr zo_dX4_toward_30 2 rfl
theorem dX4_toward_35 : decode cX4_toward 35 = .ok (.ifCond .eq 6, 3) := dcr zo_dX4_toward_30 3 rfl
theorem dX4_toward_38 : decode cX4_toward 38 = .ok (.aload 5, 2) := dcr zo_dX4_toward_30 4 rfl
theorem dX4_toward_40 : decode cX4_toward 40 = .ok (.areturn, 1) := dcr zo_dX4_toward_30 5 rfl
theorem dX4_toward_41 : decode cX4_toward 41 = .ok (.iinc 4 1, 3) := dcr zo_dX4_toward_30 6 rfl
theorem dX4_toward_44 : decode cX4_toward 44 = .ok (.goto (-41), 3) := dcr zo_dX4_toward_30 7 rfl
theorem dX4_toward_47 : decode cX4_toward 47 = .ok (.aload_n 0, 1) := dcr zo_dX4_toward_30 8 rfl
theorem dX4_toward_48 : decode cX4_toward 48 = .ok (.invokevirtual 27, 3) := dcr zo_dX4_toward_30 9 rfl
theorem dX4_toward_51 : decode cX4_toward 51 = .ok (.astore 4, 2) := dcr zo_dX4_toward_30 10 rfl
theorem dX4_toward_53 : decode cX4_toward 53 = .ok (.aload 4, 2) := dcr zo_dX4_toward_30 11 rfl
theorem dX4_toward_55 : decode cX4_toward 55 = .ok (.iload_n 1, 1) := dcr zo_dX4_toward_30 12 rfl
theorem dX4_toward_56 : decode cX4_toward 56 = .ok (.iload_n 2, 1) := dcr zo_dX4_toward_30 13 rfl
theorem dX4_toward_57 : decode cX4_toward 57 = .ok (.iload_n 3, 1) := dcr zo_dX4_toward_30 14 rfl
theorem dX4_toward_58 : decode cX4_toward 58 = .ok (.invokevirtual 31, 3) := dcr zo_dX4_toward_30 15 rfl
theorem zo_dX4_toward_61 : ([(61, .aload 4, 2), (63, .areturn, 1)] : List (Nat × Instr × Nat)).all (dOk (decode cX4_toward)) = true := by decide +kernel
theorem dX4_toward_61 : decode cX4_toward 61 = .ok (.aload 4, 2) := dcr zo_dX4_toward_61 0 rfl
theorem dX4_toward_63 : decode cX4_toward 63 = .ok (.areturn, 1) := dcr zo_dX4_toward_61 1 rfl
def zt_wsX4_takeOldest : List (List Cond) := [[.code yX4_takeOldest cX4_takeOldest 3 (some (.object "LastMap$Table"))], [.fieldLink RX4 35 "LastMap$Search" "oldest" "I", .fieldLink RX4 13 "LastMap$Search" "tables" "[LLastMap$Table;", .classLink RX4 11 RX7, .instantiable RX7 7, .initialized RX7, .instanceMethod yX7_init, .code yX7_init cX7_init 1 none, .methodLink RX7 3 objectInit, .instanceMethod objectInit, .code objectInit ⟨#[0xb1]⟩ 1 none, .arrayClass .byte, .fieldLink RX7 11 "LastMap$Table" "slips" "[B", .arrayClass .int, .fieldLink RX7 17 "LastMap$Table" "queue" "[I"], wsX40, wsX70]
theorem zt_wsX4_takeOldest_in : ∀ c ∈ zt_wsX4_takeOldest, ∀ w ∈ c, w ∈ wsX4_takeOldest := List.forall_mem_cons.mpr ⟨fun _ h => List.mem_cons.mpr (Or.inl (List.mem_singleton.mp h)), List.forall_mem_cons.mpr ⟨fun _ h => List.mem_cons_of_mem _ (List.mem_append_left _ (List.mem_append_left _ (h))), List.forall_mem_cons.mpr ⟨fun _ h => List.mem_cons_of_mem _ (List.mem_append_left _ (List.mem_append_right _ h)), List.forall_mem_cons.mpr ⟨fun _ h => List.mem_cons_of_mem _ (List.mem_append_right _ h), (fun _ h => absurd h List.not_mem_nil)⟩⟩⟩⟩
set_option maxRecDepth 20000 in
theorem zw_wsX7_init : wsX7_init.all goodWord = true := by decide +kernel
set_option maxRecDepth 20000 in
theorem ggX4_takeOldest_X7_init : GoodIn wsX4_takeOldest wsX7_init := goodIn_c zt_wsX4_takeOldest_in _ [(1, 6), (1, 7), (1, 8), (1, 9), (1, 10), (1, 11), (1, 12), (1, 13), (3, 0), (3, 1), (3, 2), (3, 3), (3, 4), (3, 5), (3, 6)] rfl zw_wsX7_init
set_option maxRecDepth 20000 in
theorem gX4_takeOldest_X7_init_n39 : GoodIn wsX4_takeOldest (wsX7_init) := ggX4_takeOldest_X7_init
theorem zo_dX4_takeOldest_0 : ([(0, .aload_n 0, 1), (1, .getfield 35, 3), (4, .ifCond .lt 22, 3), (7, .aload_n 0, 1), (8, .getfield 35, 3), (11, .aload_n 0, 1), (12, .getfield 13, 3), (15, .arraylength, 1), (16, .if_icmp .ge 10, 3), (19, .aload_n 0, 1), (20, .getfield 35, 3), (23, .goto 4, 3), (26, .iconst 0, 1), (27, .istore_n 1, 1), (28, .aload_n 0, 1), (29, .iload_n 1, 1)] : List (Nat × Instr × Nat)).all (dOk (decode cX4_takeOldest)) = true := by decide +kernel
theorem dX4_takeOldest_0 : decode cX4_takeOldest 0 = .ok (.aload_n 0, 1) := dcr zo_dX4_takeOldest_0 0 rfl
theorem dX4_takeOldest_1 : decode cX4_takeOldest 1 = .ok (.getfield 35, 3) := dcr zo_dX4_takeOldest_0 1 rfl
theorem dX4_takeOldest_4 : decode cX4_takeOldest 4 = .ok (.ifCond .lt 22, 3) := dcr zo_dX4_takeOldest_0 2 rfl
theorem dX4_takeOldest_7 : decode cX4_takeOldest 7 = .ok (.aload_n 0, 1) := dcr zo_dX4_takeOldest_0 3 rfl
theorem dX4_takeOldest_8 : decode cX4_takeOldest 8 = .ok (.getfield 35, 3) := dcr zo_dX4_takeOldest_0 4 rfl
theorem dX4_takeOldest_11 : decode cX4_takeOldest 11 = .ok (.aload_n 0, 1) := dcr zo_dX4_takeOldest_0 5 rfl
theorem dX4_takeOldest_12 : decode cX4_takeOldest 12 = .ok (.getfield 13, 3) := dcr zo_dX4_takeOldest_0 6 rfl
theorem dX4_takeOldest_15 : decode cX4_takeOldest 15 = .ok (.arraylength, 1) := dcr zo_dX4_takeOldest_0 7 rfl
theorem dX4_takeOldest_16 : decode cX4_takeOldest 16 = .ok (.if_icmp .ge 10, 3) := dcr zo_dX4_takeOldest_0 8 rfl
theorem dX4_takeOldest_19 : decode cX4_takeOldest 19 = .ok (.aload_n 0, 1) := dcr zo_dX4_takeOldest_0 9 rfl
theorem dX4_takeOldest_20 : decode cX4_takeOldest 20 = .ok (.getfield 35, 3) := dcr zo_dX4_takeOldest_0 10 rfl
theorem dX4_takeOldest_23 : decode cX4_takeOldest 23 = .ok (.goto 4, 3) := dcr zo_dX4_takeOldest_0 11 rfl
theorem dX4_takeOldest_26 : decode cX4_takeOldest 26 = .ok (.iconst 0, 1) := dcr zo_dX4_takeOldest_0 12 rfl
theorem dX4_takeOldest_27 : decode cX4_takeOldest 27 = .ok (.istore_n 1, 1) := dcr zo_dX4_takeOldest_0 13 rfl
theorem dX4_takeOldest_28 : decode cX4_takeOldest 28 = .ok (.aload_n 0, 1) := dcr zo_dX4_takeOldest_0 14 rfl
theorem dX4_takeOldest_29 : decode cX4_takeOldest 29 = .ok (.iload_n 1, 1) := dcr zo_dX4_takeOldest_0 15 rfl
theorem zo_dX4_takeOldest_30 : ([(30, .iconst 1, 1), (31, .iadd, 1), (32, .putfield 35, 3), (35, .aload_n 0, 1), (36, .getfield 13, 3), (39, .iload_n 1, 1), (40, .aaload, 1), (41, .astore_n 2, 1), (42, .aload_n 2, 1), (43, .ifnonnull 18, 3), (46, .new 11, 3), (49, .dup, 1), (50, .invokespecial 39, 3), (53, .astore_n 2, 1), (54, .aload_n 0, 1), (55, .getfield 13, 3)] : List (Nat × Instr × Nat)).all (dOk (decode cX4_takeOldest)) = true := by decide +kernel
theorem dX4_takeOldest_30 : decode cX4_takeOldest 30 = .ok (.iconst 1, 1) := dcr zo_dX4_takeOldest_30 0 rfl
theorem dX4_takeOldest_31 : decode cX4_takeOldest 31 = .ok (.iadd, 1) := dcr zo_dX4_takeOldest_30 1 rfl
theorem dX4_takeOldest_32 : decode cX4_takeOldest 32 = .ok (.putfield 35, 3) := dcr zo_dX4_takeOldest_30 2 rfl
theorem dX4_takeOldest_35 : decode cX4_takeOldest 35 = .ok (.aload_n 0, 1) := dcr zo_dX4_takeOldest_30 3 rfl
theorem dX4_takeOldest_36 : decode cX4_takeOldest 36 = .ok (.getfield 13, 3) := dcr zo_dX4_takeOldest_30 4 rfl
theorem dX4_takeOldest_39 : decode cX4_takeOldest 39 = .ok (.iload_n 1, 1) := dcr zo_dX4_takeOldest_30 5 rfl
theorem dX4_takeOldest_40 : decode cX4_takeOldest 40 = .ok (.aaload, 1) := dcr zo_dX4_takeOldest_30 6 rfl
theorem dX4_takeOldest_41 : decode cX4_takeOldest 41 = .ok (.astore_n 2, 1) := dcr zo_dX4_takeOldest_30 7 rfl
theorem dX4_takeOldest_42 : decode cX4_takeOldest 42 = .ok (.aload_n 2, 1) := dcr zo_dX4_takeOldest_30 8 rfl
theorem dX4_takeOldest_43 : decode cX4_takeOldest 43 = .ok (.ifnonnull 18, 3) := dcr zo_dX4_takeOldest_30 9 rfl
theorem dX4_takeOldest_46 : decode cX4_takeOldest 46 = .ok (.new 11, 3) := dcr zo_dX4_takeOldest_30 10 rfl
theorem dX4_takeOldest_49 : decode cX4_takeOldest 49 = .ok (.dup, 1) := dcr zo_dX4_takeOldest_30 11 rfl
theorem dX4_takeOldest_50 : decode cX4_takeOldest 50 = .ok (.invokespecial 39, 3) := dcr zo_dX4_takeOldest_30 12 rfl
theorem dX4_takeOldest_53 : decode cX4_takeOldest 53 = .ok (.astore_n 2, 1) := dcr zo_dX4_takeOldest_30 13 rfl
theorem dX4_takeOldest_54 : decode cX4_takeOldest 54 = .ok (.aload_n 0, 1) := dcr zo_dX4_takeOldest_30 14 rfl
theorem dX4_takeOldest_55 : decode cX4_takeOldest 55 = .ok (.getfield 13, 3) := dcr zo_dX4_takeOldest_30 15 rfl
theorem zo_dX4_takeOldest_58 : ([(58, .iload_n 1, 1), (59, .aload_n 2, 1), (60, .aastore, 1), (61, .aload_n 2, 1), (62, .areturn, 1)] : List (Nat × Instr × Nat)).all (dOk (decode cX4_takeOldest)) = true := by decide +kernel
theorem dX4_takeOldest_58 : decode cX4_takeOldest 58 = .ok (.iload_n 1, 1) := dcr zo_dX4_takeOldest_58 0 rfl
theorem dX4_takeOldest_59 : decode cX4_takeOldest 59 = .ok (.aload_n 2, 1) := dcr zo_dX4_takeOldest_58 1 rfl
theorem dX4_takeOldest_60 : decode cX4_takeOldest 60 = .ok (.aastore, 1) := dcr zo_dX4_takeOldest_58 2 rfl
theorem dX4_takeOldest_61 : decode cX4_takeOldest 61 = .ok (.aload_n 2, 1) := dcr zo_dX4_takeOldest_58 3 rfl
theorem dX4_takeOldest_62 : decode cX4_takeOldest 62 = .ok (.areturn, 1) := dcr zo_dX4_takeOldest_58 4 rfl
def zt_wsX4_clearSums : List (List Cond) := [[.code yX4_clearSums cX4_clearSums 1 none], [.fieldLink RX4 19 "LastMap$Search" "sums" "[I", .methodLink RX4 40 yJ7_fill_53178, .static yJ7_fill_53178, .initialized RJ7, .code yJ7_fill_53178 cJ7_fill_53178 4 none], wsX40]
theorem zt_wsX4_clearSums_in : ∀ c ∈ zt_wsX4_clearSums, ∀ w ∈ c, w ∈ wsX4_clearSums := List.forall_mem_cons.mpr ⟨fun _ h => List.mem_cons.mpr (Or.inl (List.mem_singleton.mp h)), List.forall_mem_cons.mpr ⟨fun _ h => List.mem_cons_of_mem _ (List.mem_append_left _ (h)), List.forall_mem_cons.mpr ⟨fun _ h => List.mem_cons_of_mem _ (List.mem_append_right _ h), (fun _ h => absurd h List.not_mem_nil)⟩⟩⟩
set_option maxRecDepth 20000 in
theorem zw_wsJ7_fill_53178 : wsJ7_fill_53178.all goodWord = true := by decide +kernel
set_option maxRecDepth 20000 in
theorem ggX4_clearSums_J7_fill_53178 : GoodIn wsX4_clearSums wsJ7_fill_53178 := goodIn_c zt_wsX4_clearSums_in _ [(1, 4)] rfl zw_wsJ7_fill_53178
set_option maxRecDepth 20000 in
theorem gX4_clearSums_J7_fill_53178 : GoodIn wsX4_clearSums (va_wsS RX4 40 yJ7_fill_53178 wsJ7_fill_53178) := goodIn_app (goodIn_of _ (by decide +kernel)) ggX4_clearSums_J7_fill_53178
theorem zo_dX4_clearSums_0 : ([(0, .aload_n 0, 1), (1, .getfield 19, 3), (4, .iconst 0, 1), (5, .invokestatic 40, 3), (8, .return_, 1)] : List (Nat × Instr × Nat)).all (dOk (decode cX4_clearSums)) = true := by decide +kernel
theorem dX4_clearSums_0 : decode cX4_clearSums 0 = .ok (.aload_n 0, 1) := dcr zo_dX4_clearSums_0 0 rfl
theorem dX4_clearSums_1 : decode cX4_clearSums 1 = .ok (.getfield 19, 3) := dcr zo_dX4_clearSums_0 1 rfl
theorem dX4_clearSums_4 : decode cX4_clearSums 4 = .ok (.iconst 0, 1) := dcr zo_dX4_clearSums_0 2 rfl
theorem dX4_clearSums_5 : decode cX4_clearSums 5 = .ok (.invokestatic 40, 3) := dcr zo_dX4_clearSums_0 3 rfl
theorem dX4_clearSums_8 : decode cX4_clearSums 8 = .ok (.return_, 1) := dcr zo_dX4_clearSums_0 4 rfl
def zt_wsX4_addToSums : List (List Cond) := [[.code yX4_addToSums cX4_addToSums 4 none], wsX4_addToSums_r1, wsX4_addToSums_r2, wsX40, wsX70]
theorem zt_wsX4_addToSums_in : ∀ c ∈ zt_wsX4_addToSums, ∀ w ∈ c, w ∈ wsX4_addToSums := List.forall_mem_cons.mpr ⟨fun _ h => List.mem_cons.mpr (Or.inl (List.mem_singleton.mp h)), List.forall_mem_cons.mpr ⟨fun _ h => List.mem_cons_of_mem _ (List.mem_append_left _ (List.mem_append_left _ (List.mem_append_left _ h))), List.forall_mem_cons.mpr ⟨fun _ h => List.mem_cons_of_mem _ (List.mem_append_left _ (List.mem_append_left _ (List.mem_append_right _ (h)))), List.forall_mem_cons.mpr ⟨fun _ h => List.mem_cons_of_mem _ (List.mem_append_left _ (List.mem_append_right _ h)), List.forall_mem_cons.mpr ⟨fun _ h => List.mem_cons_of_mem _ (List.mem_append_right _ h), (fun _ h => absurd h List.not_mem_nil)⟩⟩⟩⟩⟩
set_option maxRecDepth 20000 in
theorem zw_wsX7_searchAll : wsX7_searchAll.all goodWord = true := by decide +kernel
set_option maxRecDepth 20000 in
theorem ggX4_addToSums_X7_searchAll : GoodIn wsX4_addToSums wsX7_searchAll := goodIn_c zt_wsX4_addToSums_in _ [(1, 5), (1, 6), (1, 7), (1, 8), (1, 4), (1, 9), (1, 10), (1, 11), (1, 12), (1, 13), (1, 14), (1, 15), (1, 16), (1, 17), (1, 18), (1, 19), (1, 20), (1, 21), (1, 22), (1, 23), (2, 0), (2, 1), (2, 2), (2, 3), (2, 4), (2, 5), (2, 6), (2, 7), (2, 8), (2, 9), (2, 10), (2, 11), (2, 12), (2, 13), (2, 14), (2, 15), (2, 16), (2, 17), (2, 18), (2, 19), (4, 0), (4, 1), (4, 2), (4, 3), (4, 4), (4, 5), (4, 6)] rfl zw_wsX7_searchAll
set_option maxRecDepth 20000 in
theorem gX4_addToSums_X7_searchAll : GoodIn wsX4_addToSums (wsV RX4 46 RX7 yX7_searchAll wsX7_searchAll) := goodIn_app (goodIn_of _ (by decide +kernel)) ggX4_addToSums_X7_searchAll
set_option maxRecDepth 20000 in
theorem zw_wsX7_known : wsX7_known.all goodWord = true := by decide +kernel
set_option maxRecDepth 20000 in
theorem ggX4_addToSums_X7_known : GoodIn wsX4_addToSums wsX7_known := goodIn_c zt_wsX4_addToSums_in _ [(2, 1), (2, 2), (4, 0), (4, 1), (4, 2), (4, 3), (4, 4), (4, 5), (4, 6)] rfl zw_wsX7_known
set_option maxRecDepth 20000 in
theorem gX4_addToSums_X7_known : GoodIn wsX4_addToSums (wsV RX4 49 RX7 yX7_known wsX7_known) := goodIn_app (goodIn_of _ (by decide +kernel)) ggX4_addToSums_X7_known
theorem zo_dX4_addToSums_0 : ([(0, .aload_n 1, 1), (1, .invokevirtual 46, 3), (4, .iconst 0, 1), (5, .istore_n 2, 1), (6, .iload_n 2, 1), (7, .aload_n 0, 1), (8, .getfield 19, 3), (11, .arraylength, 1), (12, .if_icmp .ge 47, 3), (15, .aload_n 1, 1), (16, .iload_n 2, 1), (17, .invokevirtual 49, 3), (20, .istore_n 3, 1), (21, .aload_n 0, 1), (22, .getfield 19, 3), (25, .iload_n 2, 1)] : List (Nat × Instr × Nat)).all (dOk (decode cX4_addToSums)) = true := by decide +kernel
theorem dX4_addToSums_0 : decode cX4_addToSums 0 = .ok (.aload_n 1, 1) := dcr zo_dX4_addToSums_0 0 rfl
theorem dX4_addToSums_1 : decode cX4_addToSums 1 = .ok (.invokevirtual 46, 3) := dcr zo_dX4_addToSums_0 1 rfl
theorem dX4_addToSums_4 : decode cX4_addToSums 4 = .ok (.iconst 0, 1) := dcr zo_dX4_addToSums_0 2 rfl
theorem dX4_addToSums_5 : decode cX4_addToSums 5 = .ok (.istore_n 2, 1) := dcr zo_dX4_addToSums_0 3 rfl
theorem dX4_addToSums_6 : decode cX4_addToSums 6 = .ok (.iload_n 2, 1) := dcr zo_dX4_addToSums_0 4 rfl
theorem dX4_addToSums_7 : decode cX4_addToSums 7 = .ok (.aload_n 0, 1) := dcr zo_dX4_addToSums_0 5 rfl
theorem dX4_addToSums_8 : decode cX4_addToSums 8 = .ok (.getfield 19, 3) := dcr zo_dX4_addToSums_0 6 rfl
theorem dX4_addToSums_11 : decode cX4_addToSums 11 = .ok (.arraylength, 1) := dcr zo_dX4_addToSums_0 7 rfl
theorem dX4_addToSums_12 : decode cX4_addToSums 12 = .ok (.if_icmp .ge 47, 3) := dcr zo_dX4_addToSums_0 8 rfl
theorem dX4_addToSums_15 : decode cX4_addToSums 15 = .ok (.aload_n 1, 1) := dcr zo_dX4_addToSums_0 9 rfl
theorem dX4_addToSums_16 : decode cX4_addToSums 16 = .ok (.iload_n 2, 1) := dcr zo_dX4_addToSums_0 10 rfl
theorem dX4_addToSums_17 : decode cX4_addToSums 17 = .ok (.invokevirtual 49, 3) := dcr zo_dX4_addToSums_0 11 rfl
theorem dX4_addToSums_20 : decode cX4_addToSums 20 = .ok (.istore_n 3, 1) := dcr zo_dX4_addToSums_0 12 rfl
theorem dX4_addToSums_21 : decode cX4_addToSums 21 = .ok (.aload_n 0, 1) := dcr zo_dX4_addToSums_0 13 rfl
theorem dX4_addToSums_22 : decode cX4_addToSums 22 = .ok (.getfield 19, 3) := dcr zo_dX4_addToSums_0 14 rfl
theorem dX4_addToSums_25 : decode cX4_addToSums 25 = .ok (.iload_n 2, 1) := dcr zo_dX4_addToSums_0 15 rfl
theorem zo_dX4_addToSums_26 : ([(26, .iload_n 3, 1), (27, .ifCond .lt 12, 3), (30, .aload_n 0, 1), (31, .getfield 19, 3), (34, .iload_n 2, 1), (35, .iaload, 1), (36, .ifCond .ge 8, 3), (39, .bipush (-6), 2), (41, .goto 11, 3), (44, .aload_n 0, 1), (45, .getfield 19, 3), (48, .iload_n 2, 1), (49, .iaload, 1), (50, .iload_n 3, 1), (51, .iadd, 1), (52, .iastore, 1)] : List (Nat × Instr × Nat)).all (dOk (decode cX4_addToSums)) = true := by decide +kernel
theorem dX4_addToSums_26 : decode cX4_addToSums 26 = .ok (.iload_n 3, 1) := dcr zo_dX4_addToSums_26 0 rfl
theorem dX4_addToSums_27 : decode cX4_addToSums 27 = .ok (.ifCond .lt 12, 3) := dcr zo_dX4_addToSums_26 1 rfl
theorem dX4_addToSums_30 : decode cX4_addToSums 30 = .ok (.aload_n 0, 1) := dcr zo_dX4_addToSums_26 2 rfl
theorem dX4_addToSums_31 : decode cX4_addToSums 31 = .ok (.getfield 19, 3) := dcr zo_dX4_addToSums_26 3 rfl
theorem dX4_addToSums_34 : decode cX4_addToSums 34 = .ok (.iload_n 2, 1) := dcr zo_dX4_addToSums_26 4 rfl
theorem dX4_addToSums_35 : decode cX4_addToSums 35 = .ok (.iaload, 1) := dcr zo_dX4_addToSums_26 5 rfl
theorem dX4_addToSums_36 : decode cX4_addToSums 36 = .ok (.ifCond .ge 8, 3) := dcr zo_dX4_addToSums_26 6 rfl
theorem dX4_addToSums_39 : decode cX4_addToSums 39 = .ok (.bipush (-6), 2) := dcr zo_dX4_addToSums_26 7 rfl
theorem dX4_addToSums_41 : decode cX4_addToSums 41 = .ok (.goto 11, 3) := dcr zo_dX4_addToSums_26 8 rfl
theorem dX4_addToSums_44 : decode cX4_addToSums 44 = .ok (.aload_n 0, 1) := dcr zo_dX4_addToSums_26 9 rfl
theorem dX4_addToSums_45 : decode cX4_addToSums 45 = .ok (.getfield 19, 3) := dcr zo_dX4_addToSums_26 10 rfl
theorem dX4_addToSums_48 : decode cX4_addToSums 48 = .ok (.iload_n 2, 1) := dcr zo_dX4_addToSums_26 11 rfl
theorem dX4_addToSums_49 : decode cX4_addToSums 49 = .ok (.iaload, 1) := dcr zo_dX4_addToSums_26 12 rfl
theorem dX4_addToSums_50 : decode cX4_addToSums 50 = .ok (.iload_n 3, 1) := dcr zo_dX4_addToSums_26 13 rfl
theorem dX4_addToSums_51 : decode cX4_addToSums 51 = .ok (.iadd, 1) := dcr zo_dX4_addToSums_26 14 rfl
theorem dX4_addToSums_52 : decode cX4_addToSums 52 = .ok (.iastore, 1) := dcr zo_dX4_addToSums_26 15 rfl
theorem zo_dX4_addToSums_53 : ([(53, .iinc 2 1, 3), (56, .goto (-50), 3), (59, .return_, 1)] : List (Nat × Instr × Nat)).all (dOk (decode cX4_addToSums)) = true := by decide +kernel
theorem dX4_addToSums_53 : decode cX4_addToSums 53 = .ok (.iinc 2 1, 3) := dcr zo_dX4_addToSums_53 0 rfl
theorem dX4_addToSums_56 : decode cX4_addToSums 56 = .ok (.goto (-50), 3) := dcr zo_dX4_addToSums_53 1 rfl
theorem dX4_addToSums_59 : decode cX4_addToSums 59 = .ok (.return_, 1) := dcr zo_dX4_addToSums_53 2 rfl
theorem zo_dX4_sumOf_0 : ([(0, .iload_n 1, 1), (1, .ifCond .lt 21, 3), (4, .iload_n 1, 1), (5, .aload_n 0, 1), (6, .getfield 19, 3), (9, .arraylength, 1), (10, .if_icmp .ge 12, 3), (13, .aload_n 0, 1), (14, .getfield 19, 3), (17, .iload_n 1, 1), (18, .iaload, 1), (19, .goto 5, 3), (22, .bipush (-6), 2), (24, .ireturn, 1)] : List (Nat × Instr × Nat)).all (dOk (decode cX4_sumOf)) = true := by decide +kernel
theorem dX4_sumOf_0 : decode cX4_sumOf 0 = .ok (.iload_n 1, 1) := dcr zo_dX4_sumOf_0 0 rfl
theorem dX4_sumOf_1 : decode cX4_sumOf 1 = .ok (.ifCond .lt 21, 3) := dcr zo_dX4_sumOf_0 1 rfl
theorem dX4_sumOf_4 : decode cX4_sumOf 4 = .ok (.iload_n 1, 1) := dcr zo_dX4_sumOf_0 2 rfl
theorem dX4_sumOf_5 : decode cX4_sumOf 5 = .ok (.aload_n 0, 1) := dcr zo_dX4_sumOf_0 3 rfl
theorem dX4_sumOf_6 : decode cX4_sumOf 6 = .ok (.getfield 19, 3) := dcr zo_dX4_sumOf_0 4 rfl
theorem dX4_sumOf_9 : decode cX4_sumOf 9 = .ok (.arraylength, 1) := dcr zo_dX4_sumOf_0 5 rfl
theorem dX4_sumOf_10 : decode cX4_sumOf 10 = .ok (.if_icmp .ge 12, 3) := dcr zo_dX4_sumOf_0 6 rfl
theorem dX4_sumOf_13 : decode cX4_sumOf 13 = .ok (.aload_n 0, 1) := dcr zo_dX4_sumOf_0 7 rfl
theorem dX4_sumOf_14 : decode cX4_sumOf 14 = .ok (.getfield 19, 3) := dcr zo_dX4_sumOf_0 8 rfl
theorem dX4_sumOf_17 : decode cX4_sumOf 17 = .ok (.iload_n 1, 1) := dcr zo_dX4_sumOf_0 9 rfl
theorem dX4_sumOf_18 : decode cX4_sumOf 18 = .ok (.iaload, 1) := dcr zo_dX4_sumOf_0 10 rfl
theorem dX4_sumOf_19 : decode cX4_sumOf 19 = .ok (.goto 5, 3) := dcr zo_dX4_sumOf_0 11 rfl
theorem dX4_sumOf_24 : decode cX4_sumOf 24 = .ok (.ireturn, 1) := dcr zo_dX4_sumOf_0 13 rfl
def zt_wsX4_firstOfLeastSum : List (List Cond) := [[.code yX4_firstOfLeastSum cX4_firstOfLeastSum 5 (some .int)], [.methodLink RX4 56 Lib.Math.max.name, .static Lib.Math.max.name, .initialized "java/lang/Math", .code Lib.Math.max.name Lib.Math.max.code 2 (some .int), .fieldLink RX4 19 "LastMap$Search" "sums" "[I", .methodLink RX4 53 yX1_weight, .static yX1_weight, .initialized RX1, .code yX1_weight cX1_weight 1 (some .int), .fieldLink RX1 9 "LastMap$Maps" "WEIGHTS" "[I", .methodLink RX4 62 yX4_sumOf, .instanceMethod yX4_sumOf, .selects RX4 yX4_sumOf yX4_sumOf, .initialized RX4, .code yX4_sumOf cX4_sumOf 2 (some .int)], wsX40]
theorem zt_wsX4_firstOfLeastSum_in : ∀ c ∈ zt_wsX4_firstOfLeastSum, ∀ w ∈ c, w ∈ wsX4_firstOfLeastSum := List.forall_mem_cons.mpr ⟨fun _ h => List.mem_cons.mpr (Or.inl (List.mem_singleton.mp h)), List.forall_mem_cons.mpr ⟨fun _ h => List.mem_cons_of_mem _ (List.mem_append_left _ (h)), List.forall_mem_cons.mpr ⟨fun _ h => List.mem_cons_of_mem _ (List.mem_append_right _ h), (fun _ h => absurd h List.not_mem_nil)⟩⟩⟩
set_option maxRecDepth 20000 in
theorem ggX4_firstOfLeastSum_X1_weight : GoodIn wsX4_firstOfLeastSum wsX1_weight := goodIn_c zt_wsX4_firstOfLeastSum_in _ [(1, 8), (1, 9)] rfl zw_wsX1_weight
set_option maxRecDepth 20000 in
theorem gX4_firstOfLeastSum_X1_weight : GoodIn wsX4_firstOfLeastSum (va_wsS RX4 53 yX1_weight wsX1_weight) := goodIn_app (goodIn_of _ (by decide +kernel)) ggX4_firstOfLeastSum_X1_weight
set_option maxRecDepth 20000 in
theorem zw_wsX4_sumOf : wsX4_sumOf.all goodWord = true := by decide +kernel
set_option maxRecDepth 20000 in
theorem ggX4_firstOfLeastSum_X4_sumOf : GoodIn wsX4_firstOfLeastSum wsX4_sumOf := goodIn_c zt_wsX4_firstOfLeastSum_in _ [(1, 14), (1, 4), (2, 0), (2, 1), (2, 2)] rfl zw_wsX4_sumOf
set_option maxRecDepth 20000 in
theorem gX4_firstOfLeastSum_X4_sumOf : GoodIn wsX4_firstOfLeastSum (wsV RX4 62 RX4 yX4_sumOf wsX4_sumOf) := goodIn_app (goodIn_of _ (by decide +kernel)) ggX4_firstOfLeastSum_X4_sumOf
theorem zo_dX4_firstOfLeastSum_0 : ([(0, .bipush (-6), 2), (2, .istore_n 2, 1), (3, .iconst 1, 1), (4, .iload_n 1, 1), (5, .iconst 1, 1), (6, .isub, 1), (7, .invokestatic 53, 3), (10, .invokestatic 56, 3), (13, .istore_n 3, 1), (14, .iconst 0, 1), (15, .istore 4, 2), (17, .iload 4, 2), (19, .aload_n 0, 1), (20, .getfield 19, 3), (23, .arraylength, 1), (24, .if_icmp .ge 44, 3)] : List (Nat × Instr × Nat)).all (dOk (decode cX4_firstOfLeastSum)) = true := by decide +kernel
theorem dX4_firstOfLeastSum_0 : decode cX4_firstOfLeastSum 0 = .ok (.bipush (-6), 2) := dcr zo_dX4_firstOfLeastSum_0 0 rfl
theorem dX4_firstOfLeastSum_2 : decode cX4_firstOfLeastSum 2 = .ok (.istore_n 2, 1) := dcr zo_dX4_firstOfLeastSum_0 1 rfl
theorem dX4_firstOfLeastSum_3 : decode cX4_firstOfLeastSum 3 = .ok (.iconst 1, 1) := dcr zo_dX4_firstOfLeastSum_0 2 rfl
theorem dX4_firstOfLeastSum_4 : decode cX4_firstOfLeastSum 4 = .ok (.iload_n 1, 1) := dcr zo_dX4_firstOfLeastSum_0 3 rfl
theorem dX4_firstOfLeastSum_5 : decode cX4_firstOfLeastSum 5 = .ok (.iconst 1, 1) := dcr zo_dX4_firstOfLeastSum_0 4 rfl
theorem dX4_firstOfLeastSum_6 : decode cX4_firstOfLeastSum 6 = .ok (.isub, 1) := dcr zo_dX4_firstOfLeastSum_0 5 rfl
theorem dX4_firstOfLeastSum_7 : decode cX4_firstOfLeastSum 7 = .ok (.invokestatic 53, 3) := dcr zo_dX4_firstOfLeastSum_0 6 rfl
theorem dX4_firstOfLeastSum_10 : decode cX4_firstOfLeastSum 10 = .ok (.invokestatic 56, 3) := dcr zo_dX4_firstOfLeastSum_0 7 rfl
theorem dX4_firstOfLeastSum_13 : decode cX4_firstOfLeastSum 13 = .ok (.istore_n 3, 1) := dcr zo_dX4_firstOfLeastSum_0 8 rfl
theorem dX4_firstOfLeastSum_14 : decode cX4_firstOfLeastSum 14 = .ok (.iconst 0, 1) := dcr zo_dX4_firstOfLeastSum_0 9 rfl
theorem dX4_firstOfLeastSum_15 : decode cX4_firstOfLeastSum 15 = .ok (.istore 4, 2) := dcr zo_dX4_firstOfLeastSum_0 10 rfl
theorem dX4_firstOfLeastSum_17 : decode cX4_firstOfLeastSum 17 = .ok (.iload 4, 2) := dcr zo_dX4_firstOfLeastSum_0 11 rfl
theorem dX4_firstOfLeastSum_19 : decode cX4_firstOfLeastSum 19 = .ok (.aload_n 0, 1) := dcr zo_dX4_firstOfLeastSum_0 12 rfl
theorem dX4_firstOfLeastSum_20 : decode cX4_firstOfLeastSum 20 = .ok (.getfield 19, 3) := dcr zo_dX4_firstOfLeastSum_0 13 rfl
theorem dX4_firstOfLeastSum_23 : decode cX4_firstOfLeastSum 23 = .ok (.arraylength, 1) := dcr zo_dX4_firstOfLeastSum_0 14 rfl
theorem dX4_firstOfLeastSum_24 : decode cX4_firstOfLeastSum 24 = .ok (.if_icmp .ge 44, 3) := dcr zo_dX4_firstOfLeastSum_0 15 rfl
theorem zo_dX4_firstOfLeastSum_27 : ([(27, .aload_n 0, 1), (28, .getfield 19, 3), (31, .iload 4, 2), (33, .iaload, 1), (34, .ifCond .lt 25, 3), (37, .iload_n 2, 1), (38, .ifCond .lt 18, 3), (41, .aload_n 0, 1), (42, .getfield 19, 3), (45, .iload 4, 2), (47, .iaload, 1), (48, .aload_n 0, 1), (49, .iload_n 2, 1), (50, .invokevirtual 62, 3), (53, .if_icmp .ge 6, 3), (56, .iload 4, 2)] : List (Nat × Instr × Nat)).all (dOk (decode cX4_firstOfLeastSum)) = true := by decide +kernel
theorem dX4_firstOfLeastSum_27 : decode cX4_firstOfLeastSum 27 = .ok (.aload_n 0, 1) := dcr zo_dX4_firstOfLeastSum_27 0 rfl
theorem dX4_firstOfLeastSum_28 : decode cX4_firstOfLeastSum 28 = .ok (.getfield 19, 3) := dcr zo_dX4_firstOfLeastSum_27 1 rfl
theorem dX4_firstOfLeastSum_31 : decode cX4_firstOfLeastSum 31 = .ok (.iload 4, 2) := dcr zo_dX4_firstOfLeastSum_27 2 rfl
theorem dX4_firstOfLeastSum_33 : decode cX4_firstOfLeastSum 33 = .ok (.iaload, 1) := dcr zo_dX4_firstOfLeastSum_27 3 rfl
theorem dX4_firstOfLeastSum_34 : decode cX4_firstOfLeastSum 34 = .ok (.ifCond .lt 25, 3) := dcr zo_dX4_firstOfLeastSum_27 4 rfl
theorem dX4_firstOfLeastSum_37 : decode cX4_firstOfLeastSum 37 = .ok (.iload_n 2, 1) := dcr zo_dX4_firstOfLeastSum_27 5 rfl
theorem dX4_firstOfLeastSum_38 : decode cX4_firstOfLeastSum 38 = .ok (.ifCond .lt 18, 3) := dcr zo_dX4_firstOfLeastSum_27 6 rfl
theorem dX4_firstOfLeastSum_41 : decode cX4_firstOfLeastSum 41 = .ok (.aload_n 0, 1) := dcr zo_dX4_firstOfLeastSum_27 7 rfl
theorem dX4_firstOfLeastSum_42 : decode cX4_firstOfLeastSum 42 = .ok (.getfield 19, 3) := dcr zo_dX4_firstOfLeastSum_27 8 rfl
theorem dX4_firstOfLeastSum_45 : decode cX4_firstOfLeastSum 45 = .ok (.iload 4, 2) := dcr zo_dX4_firstOfLeastSum_27 9 rfl
theorem dX4_firstOfLeastSum_47 : decode cX4_firstOfLeastSum 47 = .ok (.iaload, 1) := dcr zo_dX4_firstOfLeastSum_27 10 rfl
theorem dX4_firstOfLeastSum_48 : decode cX4_firstOfLeastSum 48 = .ok (.aload_n 0, 1) := dcr zo_dX4_firstOfLeastSum_27 11 rfl
theorem dX4_firstOfLeastSum_49 : decode cX4_firstOfLeastSum 49 = .ok (.iload_n 2, 1) := dcr zo_dX4_firstOfLeastSum_27 12 rfl
theorem dX4_firstOfLeastSum_50 : decode cX4_firstOfLeastSum 50 = .ok (.invokevirtual 62, 3) := dcr zo_dX4_firstOfLeastSum_27 13 rfl
theorem dX4_firstOfLeastSum_53 : decode cX4_firstOfLeastSum 53 = .ok (.if_icmp .ge 6, 3) := dcr zo_dX4_firstOfLeastSum_27 14 rfl
theorem dX4_firstOfLeastSum_56 : decode cX4_firstOfLeastSum 56 = .ok (.iload 4, 2) := dcr zo_dX4_firstOfLeastSum_27 15 rfl
theorem zo_dX4_firstOfLeastSum_58 : ([(58, .istore_n 2, 1), (59, .iload 4, 2), (61, .iload_n 3, 1), (62, .iadd, 1), (63, .istore 4, 2), (65, .goto (-48), 3), (68, .iload_n 2, 1), (69, .ireturn, 1)] : List (Nat × Instr × Nat)).all (dOk (decode cX4_firstOfLeastSum)) = true := by decide +kernel
theorem dX4_firstOfLeastSum_58 : decode cX4_firstOfLeastSum 58 = .ok (.istore_n 2, 1) := dcr zo_dX4_firstOfLeastSum_58 0 rfl
theorem dX4_firstOfLeastSum_59 : decode cX4_firstOfLeastSum 59 = .ok (.iload 4, 2) := dcr zo_dX4_firstOfLeastSum_58 1 rfl
theorem dX4_firstOfLeastSum_61 : decode cX4_firstOfLeastSum 61 = .ok (.iload_n 3, 1) := dcr zo_dX4_firstOfLeastSum_58 2 rfl
theorem dX4_firstOfLeastSum_62 : decode cX4_firstOfLeastSum 62 = .ok (.iadd, 1) := dcr zo_dX4_firstOfLeastSum_58 3 rfl
theorem dX4_firstOfLeastSum_63 : decode cX4_firstOfLeastSum 63 = .ok (.istore 4, 2) := dcr zo_dX4_firstOfLeastSum_58 4 rfl
theorem dX4_firstOfLeastSum_65 : decode cX4_firstOfLeastSum 65 = .ok (.goto (-48), 3) := dcr zo_dX4_firstOfLeastSum_58 5 rfl
theorem dX4_firstOfLeastSum_68 : decode cX4_firstOfLeastSum 68 = .ok (.iload_n 2, 1) := dcr zo_dX4_firstOfLeastSum_58 6 rfl
theorem dX4_firstOfLeastSum_69 : decode cX4_firstOfLeastSum 69 = .ok (.ireturn, 1) := dcr zo_dX4_firstOfLeastSum_58 7 rfl
theorem zo_dX5_written_0 : ([(0, .iload_n 0, 1), (1, .ifCond .lt 19, 3), (4, .iload_n 0, 1), (5, .getstatic 7, 3), (8, .arraylength, 1), (9, .if_icmp .ge 11, 3), (12, .getstatic 7, 3), (15, .iload_n 0, 1), (16, .iaload, 1), (17, .goto 4, 3), (20, .iconst 0, 1), (21, .ireturn, 1)] : List (Nat × Instr × Nat)).all (dOk (decode cX5_written)) = true := by decide +kernel
theorem dX5_written_0 : decode cX5_written 0 = .ok (.iload_n 0, 1) := dcr zo_dX5_written_0 0 rfl
theorem dX5_written_1 : decode cX5_written 1 = .ok (.ifCond .lt 19, 3) := dcr zo_dX5_written_0 1 rfl
theorem dX5_written_4 : decode cX5_written 4 = .ok (.iload_n 0, 1) := dcr zo_dX5_written_0 2 rfl
theorem dX5_written_5 : decode cX5_written 5 = .ok (.getstatic 7, 3) := dcr zo_dX5_written_0 3 rfl
theorem dX5_written_8 : decode cX5_written 8 = .ok (.arraylength, 1) := dcr zo_dX5_written_0 4 rfl
theorem dX5_written_9 : decode cX5_written 9 = .ok (.if_icmp .ge 11, 3) := dcr zo_dX5_written_0 5 rfl
theorem dX5_written_12 : decode cX5_written 12 = .ok (.getstatic 7, 3) := dcr zo_dX5_written_0 6 rfl
theorem dX5_written_15 : decode cX5_written 15 = .ok (.iload_n 0, 1) := dcr zo_dX5_written_0 7 rfl
theorem dX5_written_16 : decode cX5_written 16 = .ok (.iaload, 1) := dcr zo_dX5_written_0 8 rfl
theorem dX5_written_17 : decode cX5_written 17 = .ok (.goto 4, 3) := dcr zo_dX5_written_0 9 rfl
theorem dX5_written_20 : decode cX5_written 20 = .ok (.iconst 0, 1) := dcr zo_dX5_written_0 10 rfl
theorem dX5_written_21 : decode cX5_written 21 = .ok (.ireturn, 1) := dcr zo_dX5_written_0 11 rfl
theorem zo_dX5_number_0 : ([(0, .iconst 0, 1), (1, .istore_n 1, 1), (2, .iload_n 1, 1), (3, .getstatic 7, 3), (6, .arraylength, 1), (7, .if_icmp .ge 20, 3), (10, .getstatic 7, 3), (13, .iload_n 1, 1), (14, .iaload, 1), (15, .iload_n 0, 1), (16, .if_icmp .ne 5, 3), (19, .iload_n 1, 1), (20, .ireturn, 1), (21, .iinc 1 1, 3), (24, .goto (-22), 3), (27, .iconst (-1), 1)] : List (Nat × Instr × Nat)).all (dOk (decode cX5_number)) = true := by decide +kernel
theorem dX5_number_0 : decode cX5_number 0 = .ok (.iconst 0, 1) := dcr zo_dX5_number_0 0 rfl
theorem dX5_number_1 : decode cX5_number 1 = .ok (.istore_n 1, 1) := dcr zo_dX5_number_0 1 rfl
theorem dX5_number_2 : decode cX5_number 2 = .ok (.iload_n 1, 1) := dcr zo_dX5_number_0 2 rfl
theorem dX5_number_3 : decode cX5_number 3 = .ok (.getstatic 7, 3) := dcr zo_dX5_number_0 3 rfl
theorem dX5_number_6 : decode cX5_number 6 = .ok (.arraylength, 1) := dcr zo_dX5_number_0 4 rfl
theorem dX5_number_7 : decode cX5_number 7 = .ok (.if_icmp .ge 20, 3) := dcr zo_dX5_number_0 5 rfl
theorem dX5_number_10 : decode cX5_number 10 = .ok (.getstatic 7, 3) := dcr zo_dX5_number_0 6 rfl
theorem dX5_number_13 : decode cX5_number 13 = .ok (.iload_n 1, 1) := dcr zo_dX5_number_0 7 rfl
theorem dX5_number_14 : decode cX5_number 14 = .ok (.iaload, 1) := dcr zo_dX5_number_0 8 rfl
theorem dX5_number_15 : decode cX5_number 15 = .ok (.iload_n 0, 1) := dcr zo_dX5_number_0 9 rfl
theorem dX5_number_16 : decode cX5_number 16 = .ok (.if_icmp .ne 5, 3) := dcr zo_dX5_number_0 10 rfl
theorem dX5_number_19 : decode cX5_number 19 = .ok (.iload_n 1, 1) := dcr zo_dX5_number_0 11 rfl
theorem dX5_number_20 : decode cX5_number 20 = .ok (.ireturn, 1) := dcr zo_dX5_number_0 12 rfl
theorem dX5_number_21 : decode cX5_number 21 = .ok (.iinc 1 1, 3) := dcr zo_dX5_number_0 13 rfl
theorem dX5_number_24 : decode cX5_number 24 = .ok (.goto (-22), 3) := dcr zo_dX5_number_0 14 rfl
theorem dX5_number_27 : decode cX5_number 27 = .ok (.iconst (-1), 1) := dcr zo_dX5_number_0 15 rfl
theorem zo_dX5_number_28 : ([(28, .ireturn, 1)] : List (Nat × Instr × Nat)).all (dOk (decode cX5_number)) = true := by decide +kernel
theorem dX5_number_28 : decode cX5_number 28 = .ok (.ireturn, 1) := dcr zo_dX5_number_28 0 rfl
theorem zo_dX6_inOrder_0 : ([(0, .iload_n 0, 1), (1, .ifCond .lt 19, 3), (4, .iload_n 0, 1), (5, .getstatic 9, 3), (8, .arraylength, 1), (9, .if_icmp .ge 11, 3), (12, .getstatic 9, 3), (15, .iload_n 0, 1), (16, .iaload, 1), (17, .goto 5, 3), (20, .bipush (-6), 2), (22, .ireturn, 1)] : List (Nat × Instr × Nat)).all (dOk (decode cX6_inOrder)) = true := by decide +kernel
theorem dX6_inOrder_0 : decode cX6_inOrder 0 = .ok (.iload_n 0, 1) := dcr zo_dX6_inOrder_0 0 rfl
theorem dX6_inOrder_1 : decode cX6_inOrder 1 = .ok (.ifCond .lt 19, 3) := dcr zo_dX6_inOrder_0 1 rfl
theorem dX6_inOrder_4 : decode cX6_inOrder 4 = .ok (.iload_n 0, 1) := dcr zo_dX6_inOrder_0 2 rfl
theorem dX6_inOrder_5 : decode cX6_inOrder 5 = .ok (.getstatic 9, 3) := dcr zo_dX6_inOrder_0 3 rfl
theorem dX6_inOrder_8 : decode cX6_inOrder 8 = .ok (.arraylength, 1) := dcr zo_dX6_inOrder_0 4 rfl
theorem dX6_inOrder_9 : decode cX6_inOrder 9 = .ok (.if_icmp .ge 11, 3) := dcr zo_dX6_inOrder_0 5 rfl
theorem dX6_inOrder_12 : decode cX6_inOrder 12 = .ok (.getstatic 9, 3) := dcr zo_dX6_inOrder_0 6 rfl
theorem dX6_inOrder_15 : decode cX6_inOrder 15 = .ok (.iload_n 0, 1) := dcr zo_dX6_inOrder_0 7 rfl
theorem dX6_inOrder_16 : decode cX6_inOrder 16 = .ok (.iaload, 1) := dcr zo_dX6_inOrder_0 8 rfl
theorem dX6_inOrder_17 : decode cX6_inOrder 17 = .ok (.goto 5, 3) := dcr zo_dX6_inOrder_0 9 rfl
theorem dX6_inOrder_20 : decode cX6_inOrder 20 = .ok (.bipush (-6), 2) := dcr zo_dX6_inOrder_0 10 rfl
theorem dX6_inOrder_22 : decode cX6_inOrder 22 = .ok (.ireturn, 1) := dcr zo_dX6_inOrder_0 11 rfl
theorem zo_dX6_number_0 : ([(0, .bipush 100, 2), (2, .iload_n 0, 1), (3, .imul, 1), (4, .bipush 10, 2), (6, .iload_n 1, 1), (7, .imul, 1), (8, .iadd, 1), (9, .iload_n 2, 1), (10, .iadd, 1), (11, .ireturn, 1)] : List (Nat × Instr × Nat)).all (dOk (decode cX6_number)) = true := by decide +kernel
theorem dX6_number_0 : decode cX6_number 0 = .ok (.bipush 100, 2) := dcr zo_dX6_number_0 0 rfl
theorem dX6_number_2 : decode cX6_number 2 = .ok (.iload_n 0, 1) := dcr zo_dX6_number_0 1 rfl
theorem dX6_number_3 : decode cX6_number 3 = .ok (.imul, 1) := dcr zo_dX6_number_0 2 rfl
theorem dX6_number_4 : decode cX6_number 4 = .ok (.bipush 10, 2) := dcr zo_dX6_number_0 3 rfl
theorem dX6_number_6 : decode cX6_number 6 = .ok (.iload_n 1, 1) := dcr zo_dX6_number_0 4 rfl
theorem dX6_number_7 : decode cX6_number 7 = .ok (.imul, 1) := dcr zo_dX6_number_0 5 rfl
theorem dX6_number_8 : decode cX6_number 8 = .ok (.iadd, 1) := dcr zo_dX6_number_0 6 rfl
theorem dX6_number_9 : decode cX6_number 9 = .ok (.iload_n 2, 1) := dcr zo_dX6_number_0 7 rfl
theorem dX6_number_10 : decode cX6_number 10 = .ok (.iadd, 1) := dcr zo_dX6_number_0 8 rfl
theorem dX6_number_11 : decode cX6_number 11 = .ok (.ireturn, 1) := dcr zo_dX6_number_0 9 rfl
theorem zo_dX6_sitesFor_0 : ([(0, .iload_n 0, 1), (1, .iconst 1, 1), (2, .if_icmp .eq 8, 3), (5, .iload_n 0, 1), (6, .iconst 2, 1), (7, .if_icmp .ne 9, 3), (10, .iload_n 1, 1), (11, .iconst 1, 1), (12, .isub, 1), (13, .goto 4, 3), (16, .iload_n 1, 1), (17, .ireturn, 1)] : List (Nat × Instr × Nat)).all (dOk (decode cX6_sitesFor)) = true := by decide +kernel
theorem dX6_sitesFor_0 : decode cX6_sitesFor 0 = .ok (.iload_n 0, 1) := dcr zo_dX6_sitesFor_0 0 rfl
theorem dX6_sitesFor_1 : decode cX6_sitesFor 1 = .ok (.iconst 1, 1) := dcr zo_dX6_sitesFor_0 1 rfl
theorem dX6_sitesFor_2 : decode cX6_sitesFor 2 = .ok (.if_icmp .eq 8, 3) := dcr zo_dX6_sitesFor_0 2 rfl
theorem dX6_sitesFor_5 : decode cX6_sitesFor 5 = .ok (.iload_n 0, 1) := dcr zo_dX6_sitesFor_0 3 rfl
theorem dX6_sitesFor_6 : decode cX6_sitesFor 6 = .ok (.iconst 2, 1) := dcr zo_dX6_sitesFor_0 4 rfl
theorem dX6_sitesFor_7 : decode cX6_sitesFor 7 = .ok (.if_icmp .ne 9, 3) := dcr zo_dX6_sitesFor_0 5 rfl
theorem dX6_sitesFor_10 : decode cX6_sitesFor 10 = .ok (.iload_n 1, 1) := dcr zo_dX6_sitesFor_0 6 rfl
theorem dX6_sitesFor_11 : decode cX6_sitesFor 11 = .ok (.iconst 1, 1) := dcr zo_dX6_sitesFor_0 7 rfl
theorem dX6_sitesFor_12 : decode cX6_sitesFor 12 = .ok (.isub, 1) := dcr zo_dX6_sitesFor_0 8 rfl
theorem dX6_sitesFor_13 : decode cX6_sitesFor 13 = .ok (.goto 4, 3) := dcr zo_dX6_sitesFor_0 9 rfl
theorem dX6_sitesFor_16 : decode cX6_sitesFor 16 = .ok (.iload_n 1, 1) := dcr zo_dX6_sitesFor_0 10 rfl
theorem dX6_sitesFor_17 : decode cX6_sitesFor 17 = .ok (.ireturn, 1) := dcr zo_dX6_sitesFor_0 11 rfl
def zt_wsX6_isMade : List (List Cond) := [[.code yX6_isMade cX6_isMade 4 (some .boolean)], [.methodLink RX6 15 yX6_sitesFor, .static yX6_sitesFor, .initialized RX6, .code yX6_sitesFor cX6_sitesFor 2 (some .int)]]
theorem zt_wsX6_isMade_in : ∀ c ∈ zt_wsX6_isMade, ∀ w ∈ c, w ∈ wsX6_isMade := List.forall_mem_cons.mpr ⟨fun _ h => List.mem_cons.mpr (Or.inl (List.mem_singleton.mp h)), List.forall_mem_cons.mpr ⟨fun _ h => List.mem_cons_of_mem _ (h), (fun _ h => absurd h List.not_mem_nil)⟩⟩
set_option maxRecDepth 20000 in
theorem ggX6_isMade_X6_sitesFor : GoodIn wsX6_isMade wsX6_sitesFor := goodIn_c zt_wsX6_isMade_in _ [(1, 3)] rfl zw_wsX6_sitesFor
set_option maxRecDepth 20000 in
theorem gX6_isMade_X6_sitesFor : GoodIn wsX6_isMade (va_wsS RX6 15 yX6_sitesFor wsX6_sitesFor) := goodIn_app (goodIn_of _ (by decide +kernel)) ggX6_isMade_X6_sitesFor
theorem zo_dX6_isMade_0 : ([(0, .iload_n 0, 1), (1, .bipush 100, 2), (3, .idiv, 1), (4, .istore_n 3, 1), (5, .iload_n 0, 1), (6, .ifCond .lt 30, 3), (9, .iload_n 1, 1), (10, .iload_n 3, 1), (11, .ishr, 1), (12, .iconst 1, 1), (13, .iand, 1), (14, .ifCond .eq 22, 3), (17, .iload_n 0, 1), (18, .bipush 10, 2), (20, .idiv, 1), (21, .bipush 10, 2)] : List (Nat × Instr × Nat)).all (dOk (decode cX6_isMade)) = true := by decide +kernel
theorem dX6_isMade_0 : decode cX6_isMade 0 = .ok (.iload_n 0, 1) := dcr zo_dX6_isMade_0 0 rfl
theorem dX6_isMade_1 : decode cX6_isMade 1 = .ok (.bipush 100, 2) := dcr zo_dX6_isMade_0 1 rfl
theorem dX6_isMade_3 : decode cX6_isMade 3 = .ok (.idiv, 1) := dcr zo_dX6_isMade_0 2 rfl
theorem dX6_isMade_4 : decode cX6_isMade 4 = .ok (.istore_n 3, 1) := dcr zo_dX6_isMade_0 3 rfl
theorem dX6_isMade_5 : decode cX6_isMade 5 = .ok (.iload_n 0, 1) := dcr zo_dX6_isMade_0 4 rfl
theorem dX6_isMade_6 : decode cX6_isMade 6 = .ok (.ifCond .lt 30, 3) := dcr zo_dX6_isMade_0 5 rfl
theorem dX6_isMade_9 : decode cX6_isMade 9 = .ok (.iload_n 1, 1) := dcr zo_dX6_isMade_0 6 rfl
theorem dX6_isMade_10 : decode cX6_isMade 10 = .ok (.iload_n 3, 1) := dcr zo_dX6_isMade_0 7 rfl
theorem dX6_isMade_11 : decode cX6_isMade 11 = .ok (.ishr, 1) := dcr zo_dX6_isMade_0 8 rfl
theorem dX6_isMade_12 : decode cX6_isMade 12 = .ok (.iconst 1, 1) := dcr zo_dX6_isMade_0 9 rfl
theorem dX6_isMade_13 : decode cX6_isMade 13 = .ok (.iand, 1) := dcr zo_dX6_isMade_0 10 rfl
theorem dX6_isMade_14 : decode cX6_isMade 14 = .ok (.ifCond .eq 22, 3) := dcr zo_dX6_isMade_0 11 rfl
theorem dX6_isMade_17 : decode cX6_isMade 17 = .ok (.iload_n 0, 1) := dcr zo_dX6_isMade_0 12 rfl
theorem dX6_isMade_18 : decode cX6_isMade 18 = .ok (.bipush 10, 2) := dcr zo_dX6_isMade_0 13 rfl
theorem dX6_isMade_20 : decode cX6_isMade 20 = .ok (.idiv, 1) := dcr zo_dX6_isMade_0 14 rfl
theorem dX6_isMade_21 : decode cX6_isMade 21 = .ok (.bipush 10, 2) := dcr zo_dX6_isMade_0 15 rfl
theorem zo_dX6_isMade_23 : ([(23, .irem, 1), (24, .iload_n 3, 1), (25, .iload_n 2, 1), (26, .invokestatic 15, 3), (29, .if_icmp .ge 7, 3), (32, .iconst 1, 1), (33, .goto 4, 3), (36, .iconst 0, 1), (37, .ireturn, 1)] : List (Nat × Instr × Nat)).all (dOk (decode cX6_isMade)) = true := by decide +kernel
theorem dX6_isMade_23 : decode cX6_isMade 23 = .ok (.irem, 1) := dcr zo_dX6_isMade_23 0 rfl
theorem dX6_isMade_24 : decode cX6_isMade 24 = .ok (.iload_n 3, 1) := dcr zo_dX6_isMade_23 1 rfl
theorem dX6_isMade_25 : decode cX6_isMade 25 = .ok (.iload_n 2, 1) := dcr zo_dX6_isMade_23 2 rfl
theorem dX6_isMade_26 : decode cX6_isMade 26 = .ok (.invokestatic 15, 3) := dcr zo_dX6_isMade_23 3 rfl
theorem dX6_isMade_29 : decode cX6_isMade 29 = .ok (.if_icmp .ge 7, 3) := dcr zo_dX6_isMade_23 4 rfl
theorem dX6_isMade_32 : decode cX6_isMade 32 = .ok (.iconst 1, 1) := dcr zo_dX6_isMade_23 5 rfl
theorem dX6_isMade_33 : decode cX6_isMade 33 = .ok (.goto 4, 3) := dcr zo_dX6_isMade_23 6 rfl
theorem dX6_isMade_36 : decode cX6_isMade 36 = .ok (.iconst 0, 1) := dcr zo_dX6_isMade_23 7 rfl
theorem dX6_isMade_37 : decode cX6_isMade 37 = .ok (.ireturn, 1) := dcr zo_dX6_isMade_23 8 rfl
def zt_wsX6_after : List (List Cond) := [[.code yX6_after cX6_after 4 (some .int)], [.methodLink RX6 19 yX1_signAt, .static yX1_signAt, .initialized RX1, .code yX1_signAt cX1_signAt 2 (some .int), .methodLink RX1 15 yX1_weight, .static yX1_weight, .code yX1_weight cX1_weight 1 (some .int), .fieldLink RX1 9 "LastMap$Maps" "WEIGHTS" "[I", .methodLink RX1 19 yX1_signBy, .static yX1_signBy, .code yX1_signBy cX1_signBy 2 (some .int), .methodLink RX6 24 yX1_with, .static yX1_with, .code yX1_with cX1_with 3 (some .int), .methodLink RX1 23 yX1_signAt]]
theorem zt_wsX6_after_in : ∀ c ∈ zt_wsX6_after, ∀ w ∈ c, w ∈ wsX6_after := List.forall_mem_cons.mpr ⟨fun _ h => List.mem_cons.mpr (Or.inl (List.mem_singleton.mp h)), List.forall_mem_cons.mpr ⟨fun _ h => List.mem_cons_of_mem _ (h), (fun _ h => absurd h List.not_mem_nil)⟩⟩
set_option maxRecDepth 20000 in
theorem ggX6_after_X1_signAt : GoodIn wsX6_after wsX1_signAt := goodIn_c zt_wsX6_after_in _ [(1, 3), (1, 4), (1, 5), (1, 2), (1, 6), (1, 7), (1, 8), (1, 9), (1, 10)] rfl zw_wsX1_signAt
set_option maxRecDepth 20000 in
theorem gX6_after_X1_signAt : GoodIn wsX6_after (va_wsS RX6 19 yX1_signAt wsX1_signAt) := goodIn_app (goodIn_of _ (by decide +kernel)) ggX6_after_X1_signAt
set_option maxRecDepth 20000 in
theorem ggX6_after_X1_with : GoodIn wsX6_after wsX1_with := goodIn_c zt_wsX6_after_in _ [(1, 13), (1, 14), (1, 1), (1, 2), (1, 3), (1, 4), (1, 5), (1, 6), (1, 7), (1, 8), (1, 9), (1, 10)] rfl zw_wsX1_with
set_option maxRecDepth 20000 in
theorem gX6_after_X1_with : GoodIn wsX6_after (va_wsS RX6 24 yX1_with wsX1_with) := goodIn_app (goodIn_of _ (by decide +kernel)) ggX6_after_X1_with
theorem zo_dX6_after_0 : ([(0, .iload_n 1, 1), (1, .ifCond .ge 5, 3), (4, .iload_n 0, 1), (5, .ireturn, 1), (6, .iload_n 1, 1), (7, .bipush 10, 2), (9, .idiv, 1), (10, .bipush 10, 2), (12, .irem, 1), (13, .istore_n 2, 1), (14, .iload_n 0, 1), (15, .iload_n 2, 1), (16, .invokestatic 19, 3), (19, .istore_n 3, 1), (20, .iload_n 1, 1), (21, .bipush 100, 2)] : List (Nat × Instr × Nat)).all (dOk (decode cX6_after)) = true := by decide +kernel
theorem dX6_after_0 : decode cX6_after 0 = .ok (.iload_n 1, 1) := dcr zo_dX6_after_0 0 rfl
theorem dX6_after_1 : decode cX6_after 1 = .ok (.ifCond .ge 5, 3) := dcr zo_dX6_after_0 1 rfl
theorem dX6_after_4 : decode cX6_after 4 = .ok (.iload_n 0, 1) := dcr zo_dX6_after_0 2 rfl
theorem dX6_after_5 : decode cX6_after 5 = .ok (.ireturn, 1) := dcr zo_dX6_after_0 3 rfl
theorem dX6_after_6 : decode cX6_after 6 = .ok (.iload_n 1, 1) := dcr zo_dX6_after_0 4 rfl
theorem dX6_after_7 : decode cX6_after 7 = .ok (.bipush 10, 2) := dcr zo_dX6_after_0 5 rfl
theorem dX6_after_9 : decode cX6_after 9 = .ok (.idiv, 1) := dcr zo_dX6_after_0 6 rfl
theorem dX6_after_10 : decode cX6_after 10 = .ok (.bipush 10, 2) := dcr zo_dX6_after_0 7 rfl
theorem dX6_after_12 : decode cX6_after 12 = .ok (.irem, 1) := dcr zo_dX6_after_0 8 rfl
theorem dX6_after_13 : decode cX6_after 13 = .ok (.istore_n 2, 1) := dcr zo_dX6_after_0 9 rfl
theorem dX6_after_14 : decode cX6_after 14 = .ok (.iload_n 0, 1) := dcr zo_dX6_after_0 10 rfl
theorem dX6_after_15 : decode cX6_after 15 = .ok (.iload_n 2, 1) := dcr zo_dX6_after_0 11 rfl
theorem dX6_after_16 : decode cX6_after 16 = .ok (.invokestatic 19, 3) := dcr zo_dX6_after_0 12 rfl
theorem dX6_after_19 : decode cX6_after 19 = .ok (.istore_n 3, 1) := dcr zo_dX6_after_0 13 rfl
theorem dX6_after_20 : decode cX6_after 20 = .ok (.iload_n 1, 1) := dcr zo_dX6_after_0 14 rfl
theorem dX6_after_21 : decode cX6_after 21 = .ok (.bipush 100, 2) := dcr zo_dX6_after_0 15 rfl
theorem zo_dX6_after_23 : ([(23, .idiv, 1), (24, .tableswitch 78 0 3 #[32, 42, 62, 71], 32), (56, .iload_n 0, 1), (57, .iload_n 2, 1), (58, .iload_n 1, 1), (59, .bipush 10, 2), (61, .irem, 1), (62, .invokestatic 24, 3), (65, .ireturn, 1), (66, .iload_n 0, 1), (67, .iload_n 2, 1), (68, .iload_n 0, 1), (69, .iload_n 2, 1), (70, .iconst 1, 1), (71, .iadd, 1), (72, .invokestatic 19, 3)] : List (Nat × Instr × Nat)).all (dOk (decode cX6_after)) = true := by decide +kernel
theorem dX6_after_23 : decode cX6_after 23 = .ok (.idiv, 1) := dcr zo_dX6_after_23 0 rfl
theorem dX6_after_24 : decode cX6_after 24 = .ok (.tableswitch 78 0 3 #[32, 42, 62, 71], 32) := dcr zo_dX6_after_23 1 rfl
theorem dX6_after_56 : decode cX6_after 56 = .ok (.iload_n 0, 1) := dcr zo_dX6_after_23 2 rfl
theorem dX6_after_57 : decode cX6_after 57 = .ok (.iload_n 2, 1) := dcr zo_dX6_after_23 3 rfl
theorem dX6_after_58 : decode cX6_after 58 = .ok (.iload_n 1, 1) := dcr zo_dX6_after_23 4 rfl
theorem dX6_after_59 : decode cX6_after 59 = .ok (.bipush 10, 2) := dcr zo_dX6_after_23 5 rfl
theorem dX6_after_61 : decode cX6_after 61 = .ok (.irem, 1) := dcr zo_dX6_after_23 6 rfl
theorem dX6_after_62 : decode cX6_after 62 = .ok (.invokestatic 24, 3) := dcr zo_dX6_after_23 7 rfl
theorem dX6_after_65 : decode cX6_after 65 = .ok (.ireturn, 1) := dcr zo_dX6_after_23 8 rfl
theorem dX6_after_66 : decode cX6_after 66 = .ok (.iload_n 0, 1) := dcr zo_dX6_after_23 9 rfl
theorem dX6_after_67 : decode cX6_after 67 = .ok (.iload_n 2, 1) := dcr zo_dX6_after_23 10 rfl
theorem dX6_after_68 : decode cX6_after 68 = .ok (.iload_n 0, 1) := dcr zo_dX6_after_23 11 rfl
theorem dX6_after_69 : decode cX6_after 69 = .ok (.iload_n 2, 1) := dcr zo_dX6_after_23 12 rfl
theorem dX6_after_70 : decode cX6_after 70 = .ok (.iconst 1, 1) := dcr zo_dX6_after_23 13 rfl
theorem dX6_after_71 : decode cX6_after 71 = .ok (.iadd, 1) := dcr zo_dX6_after_23 14 rfl
theorem dX6_after_72 : decode cX6_after 72 = .ok (.invokestatic 19, 3) := dcr zo_dX6_after_23 15 rfl
theorem zo_dX6_after_75 : ([(75, .invokestatic 24, 3), (78, .iload_n 2, 1), (79, .iconst 1, 1), (80, .iadd, 1), (81, .iload_n 3, 1), (82, .invokestatic 24, 3), (85, .ireturn, 1), (86, .iload_n 0, 1), (87, .iload_n 2, 1), (88, .iconst 1, 1), (89, .iadd, 1), (90, .iload_n 3, 1), (91, .invokestatic 24, 3), (94, .ireturn, 1), (95, .iload_n 0, 1), (96, .iload_n 2, 1)] : List (Nat × Instr × Nat)).all (dOk (decode cX6_after)) = true := by decide +kernel
theorem dX6_after_75 : decode cX6_after 75 = .ok (.invokestatic 24, 3) := dcr zo_dX6_after_75 0 rfl
theorem dX6_after_78 : decode cX6_after 78 = .ok (.iload_n 2, 1) := dcr zo_dX6_after_75 1 rfl
theorem dX6_after_79 : decode cX6_after 79 = .ok (.iconst 1, 1) := dcr zo_dX6_after_75 2 rfl
theorem dX6_after_80 : decode cX6_after 80 = .ok (.iadd, 1) := dcr zo_dX6_after_75 3 rfl
theorem dX6_after_81 : decode cX6_after 81 = .ok (.iload_n 3, 1) := dcr zo_dX6_after_75 4 rfl
theorem dX6_after_82 : decode cX6_after 82 = .ok (.invokestatic 24, 3) := dcr zo_dX6_after_75 5 rfl
theorem dX6_after_85 : decode cX6_after 85 = .ok (.ireturn, 1) := dcr zo_dX6_after_75 6 rfl
theorem dX6_after_86 : decode cX6_after 86 = .ok (.iload_n 0, 1) := dcr zo_dX6_after_75 7 rfl
theorem dX6_after_87 : decode cX6_after 87 = .ok (.iload_n 2, 1) := dcr zo_dX6_after_75 8 rfl
theorem dX6_after_88 : decode cX6_after 88 = .ok (.iconst 1, 1) := dcr zo_dX6_after_75 9 rfl
theorem dX6_after_89 : decode cX6_after 89 = .ok (.iadd, 1) := dcr zo_dX6_after_75 10 rfl
theorem dX6_after_90 : decode cX6_after 90 = .ok (.iload_n 3, 1) := dcr zo_dX6_after_75 11 rfl
theorem dX6_after_91 : decode cX6_after 91 = .ok (.invokestatic 24, 3) := dcr zo_dX6_after_75 12 rfl
theorem dX6_after_94 : decode cX6_after 94 = .ok (.ireturn, 1) := dcr zo_dX6_after_75 13 rfl
theorem dX6_after_95 : decode cX6_after 95 = .ok (.iload_n 0, 1) := dcr zo_dX6_after_75 14 rfl
theorem dX6_after_96 : decode cX6_after 96 = .ok (.iload_n 2, 1) := dcr zo_dX6_after_75 15 rfl
theorem zo_dX6_after_97 : ([(97, .iconst 4, 1), (98, .invokestatic 24, 3), (101, .ireturn, 1), (102, .iload_n 0, 1), (103, .ireturn, 1)] : List (Nat × Instr × Nat)).all (dOk (decode cX6_after)) = true := by decide +kernel
theorem dX6_after_97 : decode cX6_after 97 = .ok (.iconst 4, 1) := dcr zo_dX6_after_97 0 rfl
theorem dX6_after_98 : decode cX6_after 98 = .ok (.invokestatic 24, 3) := dcr zo_dX6_after_97 1 rfl
theorem dX6_after_101 : decode cX6_after 101 = .ok (.ireturn, 1) := dcr zo_dX6_after_97 2 rfl
theorem dX6_after_102 : decode cX6_after 102 = .ok (.iload_n 0, 1) := dcr zo_dX6_after_97 3 rfl
theorem dX6_after_103 : decode cX6_after 103 = .ok (.ireturn, 1) := dcr zo_dX6_after_97 4 rfl
theorem zo_dX7_init_0 : ([(0, .aload_n 0, 1), (1, .invokespecial 3, 3), (4, .aload_n 0, 1), (5, .sipush 15625, 3), (8, .newarray .byte, 2), (10, .putfield 11, 3), (13, .aload_n 0, 1), (14, .sipush 15625, 3), (17, .newarray .int, 2), (19, .putfield 17, 3), (22, .return_, 1)] : List (Nat × Instr × Nat)).all (dOk (decode cX7_init)) = true := by decide +kernel
theorem dX7_init_0 : decode cX7_init 0 = .ok (.aload_n 0, 1) := dcr zo_dX7_init_0 0 rfl
theorem dX7_init_1 : decode cX7_init 1 = .ok (.invokespecial 3, 3) := dcr zo_dX7_init_0 1 rfl
theorem dX7_init_4 : decode cX7_init 4 = .ok (.aload_n 0, 1) := dcr zo_dX7_init_0 2 rfl
theorem dX7_init_5 : decode cX7_init 5 = .ok (.sipush 15625, 3) := dcr zo_dX7_init_0 3 rfl
theorem dX7_init_8 : decode cX7_init 8 = .ok (.newarray .byte, 2) := dcr zo_dX7_init_0 4 rfl
theorem dX7_init_10 : decode cX7_init 10 = .ok (.putfield 11, 3) := dcr zo_dX7_init_0 5 rfl
theorem dX7_init_13 : decode cX7_init 13 = .ok (.aload_n 0, 1) := dcr zo_dX7_init_0 6 rfl
theorem dX7_init_14 : decode cX7_init 14 = .ok (.sipush 15625, 3) := dcr zo_dX7_init_0 7 rfl
theorem dX7_init_17 : decode cX7_init 17 = .ok (.newarray .int, 2) := dcr zo_dX7_init_0 8 rfl
theorem dX7_init_19 : decode cX7_init 19 = .ok (.putfield 17, 3) := dcr zo_dX7_init_0 9 rfl
theorem dX7_init_22 : decode cX7_init 22 = .ok (.return_, 1) := dcr zo_dX7_init_0 10 rfl
theorem zo_dX7_isFor_0 : ([(0, .aload_n 0, 1), (1, .getfield 21, 3), (4, .iload_n 1, 1), (5, .if_icmp .ne 23, 3), (8, .aload_n 0, 1), (9, .getfield 25, 3), (12, .iload_n 2, 1), (13, .if_icmp .ne 15, 3), (16, .aload_n 0, 1), (17, .getfield 28, 3), (20, .iload_n 3, 1), (21, .if_icmp .ne 7, 3), (24, .iconst 1, 1), (25, .goto 4, 3), (28, .iconst 0, 1), (29, .ireturn, 1)] : List (Nat × Instr × Nat)).all (dOk (decode cX7_isFor)) = true := by decide +kernel
theorem dX7_isFor_0 : decode cX7_isFor 0 = .ok (.aload_n 0, 1) := dcr zo_dX7_isFor_0 0 rfl
theorem dX7_isFor_1 : decode cX7_isFor 1 = .ok (.getfield 21, 3) := dcr zo_dX7_isFor_0 1 rfl
theorem dX7_isFor_4 : decode cX7_isFor 4 = .ok (.iload_n 1, 1) := dcr zo_dX7_isFor_0 2 rfl
theorem dX7_isFor_5 : decode cX7_isFor 5 = .ok (.if_icmp .ne 23, 3) := dcr zo_dX7_isFor_0 3 rfl
theorem dX7_isFor_8 : decode cX7_isFor 8 = .ok (.aload_n 0, 1) := dcr zo_dX7_isFor_0 4 rfl
theorem dX7_isFor_9 : decode cX7_isFor 9 = .ok (.getfield 25, 3) := dcr zo_dX7_isFor_0 5 rfl
theorem dX7_isFor_12 : decode cX7_isFor 12 = .ok (.iload_n 2, 1) := dcr zo_dX7_isFor_0 6 rfl
theorem dX7_isFor_13 : decode cX7_isFor 13 = .ok (.if_icmp .ne 15, 3) := dcr zo_dX7_isFor_0 7 rfl
theorem dX7_isFor_16 : decode cX7_isFor 16 = .ok (.aload_n 0, 1) := dcr zo_dX7_isFor_0 8 rfl
theorem dX7_isFor_17 : decode cX7_isFor 17 = .ok (.getfield 28, 3) := dcr zo_dX7_isFor_0 9 rfl
theorem dX7_isFor_20 : decode cX7_isFor 20 = .ok (.iload_n 3, 1) := dcr zo_dX7_isFor_0 10 rfl
theorem dX7_isFor_21 : decode cX7_isFor 21 = .ok (.if_icmp .ne 7, 3) := dcr zo_dX7_isFor_0 11 rfl
theorem dX7_isFor_24 : decode cX7_isFor 24 = .ok (.iconst 1, 1) := dcr zo_dX7_isFor_0 12 rfl
theorem dX7_isFor_25 : decode cX7_isFor 25 = .ok (.goto 4, 3) := dcr zo_dX7_isFor_0 13 rfl
theorem dX7_isFor_28 : decode cX7_isFor 28 = .ok (.iconst 0, 1) := dcr zo_dX7_isFor_0 14 rfl
theorem dX7_isFor_29 : decode cX7_isFor 29 = .ok (.ireturn, 1) := dcr zo_dX7_isFor_0 15 rfl
def zt_wsX7_begin : List (List Cond) := [[.code yX7_begin cX7_begin 4 none], wsX7_begin_r1, wsX7_begin_r2, wsX70]
theorem zt_wsX7_begin_in : ∀ c ∈ zt_wsX7_begin, ∀ w ∈ c, w ∈ wsX7_begin := List.forall_mem_cons.mpr ⟨fun _ h => List.mem_cons.mpr (Or.inl (List.mem_singleton.mp h)), List.forall_mem_cons.mpr ⟨fun _ h => List.mem_cons_of_mem _ (List.mem_append_left _ (List.mem_append_left _ h)), List.forall_mem_cons.mpr ⟨fun _ h => List.mem_cons_of_mem _ (List.mem_append_left _ (List.mem_append_right _ (h))), List.forall_mem_cons.mpr ⟨fun _ h => List.mem_cons_of_mem _ (List.mem_append_right _ h), (fun _ h => absurd h List.not_mem_nil)⟩⟩⟩⟩
set_option maxRecDepth 20000 in
theorem zw_wsJ7_fill_031fb : wsJ7_fill_031fb.all goodWord = true := by decide +kernel
set_option maxRecDepth 20000 in
theorem ggX7_begin_J7_fill_031fb : GoodIn wsX7_begin wsJ7_fill_031fb := goodIn_c zt_wsX7_begin_in _ [(1, 9)] rfl zw_wsJ7_fill_031fb
set_option maxRecDepth 20000 in
theorem gX7_begin_J7_fill_031fb : GoodIn wsX7_begin (va_wsS RX7 37 yJ7_fill_031fb wsJ7_fill_031fb) := goodIn_app (goodIn_of _ (by decide +kernel)) ggX7_begin_J7_fill_031fb
set_option maxRecDepth 20000 in
theorem zw_wsX7_queueGoal : wsX7_queueGoal.all goodWord = true := by decide +kernel
set_option maxRecDepth 20000 in
theorem ggX7_begin_X7_queueGoal : GoodIn wsX7_begin wsX7_queueGoal := goodIn_c zt_wsX7_begin_in _ [(1, 14), (1, 2), (1, 0), (1, 15), (1, 16), (1, 17), (1, 13), (1, 18), (1, 5), (1, 3), (1, 19), (1, 20), (1, 21), (1, 22), (1, 23), (2, 0), (2, 1), (2, 2), (2, 3), (2, 4), (1, 10), (1, 11), (1, 12), (3, 0), (3, 1), (3, 2), (3, 3), (3, 4), (3, 5), (3, 6)] rfl zw_wsX7_queueGoal
set_option maxRecDepth 20000 in
theorem gX7_begin_X7_queueGoal : GoodIn wsX7_begin (wsV RX7 43 RX7 yX7_queueGoal wsX7_queueGoal) := goodIn_app (goodIn_of _ (by decide +kernel)) ggX7_begin_X7_queueGoal
theorem zo_dX7_begin_0 : ([(0, .aload_n 0, 1), (1, .iload_n 1, 1), (2, .putfield 21, 3), (5, .aload_n 0, 1), (6, .iload_n 2, 1), (7, .putfield 25, 3), (10, .aload_n 0, 1), (11, .iload_n 3, 1), (12, .putfield 28, 3), (15, .aload_n 0, 1), (16, .iconst 0, 1), (17, .putfield 31, 3), (20, .aload_n 0, 1), (21, .iconst 0, 1), (22, .putfield 34, 3), (25, .aload_n 0, 1)] : List (Nat × Instr × Nat)).all (dOk (decode cX7_begin)) = true := by decide +kernel
theorem dX7_begin_0 : decode cX7_begin 0 = .ok (.aload_n 0, 1) := dcr zo_dX7_begin_0 0 rfl
theorem dX7_begin_1 : decode cX7_begin 1 = .ok (.iload_n 1, 1) := dcr zo_dX7_begin_0 1 rfl
theorem dX7_begin_2 : decode cX7_begin 2 = .ok (.putfield 21, 3) := dcr zo_dX7_begin_0 2 rfl
theorem dX7_begin_5 : decode cX7_begin 5 = .ok (.aload_n 0, 1) := dcr zo_dX7_begin_0 3 rfl
theorem dX7_begin_6 : decode cX7_begin 6 = .ok (.iload_n 2, 1) := dcr zo_dX7_begin_0 4 rfl
theorem dX7_begin_7 : decode cX7_begin 7 = .ok (.putfield 25, 3) := dcr zo_dX7_begin_0 5 rfl
theorem dX7_begin_10 : decode cX7_begin 10 = .ok (.aload_n 0, 1) := dcr zo_dX7_begin_0 6 rfl
theorem dX7_begin_11 : decode cX7_begin 11 = .ok (.iload_n 3, 1) := dcr zo_dX7_begin_0 7 rfl
theorem dX7_begin_12 : decode cX7_begin 12 = .ok (.putfield 28, 3) := dcr zo_dX7_begin_0 8 rfl
theorem dX7_begin_15 : decode cX7_begin 15 = .ok (.aload_n 0, 1) := dcr zo_dX7_begin_0 9 rfl
theorem dX7_begin_16 : decode cX7_begin 16 = .ok (.iconst 0, 1) := dcr zo_dX7_begin_0 10 rfl
theorem dX7_begin_17 : decode cX7_begin 17 = .ok (.putfield 31, 3) := dcr zo_dX7_begin_0 11 rfl
theorem dX7_begin_20 : decode cX7_begin 20 = .ok (.aload_n 0, 1) := dcr zo_dX7_begin_0 12 rfl
theorem dX7_begin_21 : decode cX7_begin 21 = .ok (.iconst 0, 1) := dcr zo_dX7_begin_0 13 rfl
theorem dX7_begin_22 : decode cX7_begin 22 = .ok (.putfield 34, 3) := dcr zo_dX7_begin_0 14 rfl
theorem dX7_begin_25 : decode cX7_begin 25 = .ok (.aload_n 0, 1) := dcr zo_dX7_begin_0 15 rfl
theorem zo_dX7_begin_26 : ([(26, .getfield 11, 3), (29, .bipush (-6), 2), (31, .invokestatic 37, 3), (34, .aload_n 0, 1), (35, .iconst 0, 1), (36, .iconst 0, 1), (37, .invokevirtual 43, 3), (40, .return_, 1)] : List (Nat × Instr × Nat)).all (dOk (decode cX7_begin)) = true := by decide +kernel
theorem dX7_begin_26 : decode cX7_begin 26 = .ok (.getfield 11, 3) := dcr zo_dX7_begin_26 0 rfl
theorem dX7_begin_29 : decode cX7_begin 29 = .ok (.bipush (-6), 2) := dcr zo_dX7_begin_26 1 rfl
theorem dX7_begin_31 : decode cX7_begin 31 = .ok (.invokestatic 37, 3) := dcr zo_dX7_begin_26 2 rfl
theorem dX7_begin_34 : decode cX7_begin 34 = .ok (.aload_n 0, 1) := dcr zo_dX7_begin_26 3 rfl
theorem dX7_begin_35 : decode cX7_begin 35 = .ok (.iconst 0, 1) := dcr zo_dX7_begin_26 4 rfl
theorem dX7_begin_36 : decode cX7_begin 36 = .ok (.iconst 0, 1) := dcr zo_dX7_begin_26 5 rfl
theorem dX7_begin_37 : decode cX7_begin 37 = .ok (.invokevirtual 43, 3) := dcr zo_dX7_begin_26 6 rfl
theorem dX7_begin_40 : decode cX7_begin 40 = .ok (.return_, 1) := dcr zo_dX7_begin_26 7 rfl
def zt_wsX7_slipsFrom : List (List Cond) := [[.code yX7_slipsFrom cX7_slipsFrom 2 (some .int)], wsX7_slipsFrom_r1, wsX7_slipsFrom_r2, wsX70]
theorem zt_wsX7_slipsFrom_in : ∀ c ∈ zt_wsX7_slipsFrom, ∀ w ∈ c, w ∈ wsX7_slipsFrom := List.forall_mem_cons.mpr ⟨fun _ h => List.mem_cons.mpr (Or.inl (List.mem_singleton.mp h)), List.forall_mem_cons.mpr ⟨fun _ h => List.mem_cons_of_mem _ (List.mem_append_left _ (List.mem_append_left _ h)), List.forall_mem_cons.mpr ⟨fun _ h => List.mem_cons_of_mem _ (List.mem_append_left _ (List.mem_append_right _ (h))), List.forall_mem_cons.mpr ⟨fun _ h => List.mem_cons_of_mem _ (List.mem_append_right _ h), (fun _ h => absurd h List.not_mem_nil)⟩⟩⟩⟩
set_option maxRecDepth 20000 in
theorem zw_wsX7_searchFor : wsX7_searchFor.all goodWord = true := by decide +kernel
set_option maxRecDepth 20000 in
theorem ggX7_slipsFrom_X7_searchFor : GoodIn wsX7_slipsFrom wsX7_searchFor := goodIn_c zt_wsX7_slipsFrom_in _ [(1, 4), (1, 5), (1, 6), (1, 7), (1, 8), (1, 9), (1, 10), (1, 11), (1, 12), (1, 13), (1, 14), (1, 15), (1, 16), (1, 17), (1, 18), (1, 19), (1, 3), (1, 20), (1, 21), (1, 22), (1, 23), (2, 0), (2, 1), (2, 2), (2, 3), (2, 4), (2, 5), (2, 6), (2, 7), (2, 8), (2, 9), (2, 10), (2, 11), (2, 12), (2, 13), (2, 14), (3, 0), (3, 1), (3, 2), (3, 3), (3, 4), (3, 5), (3, 6)] rfl zw_wsX7_searchFor
set_option maxRecDepth 20000 in
theorem gX7_slipsFrom_X7_searchFor : GoodIn wsX7_slipsFrom (wsV RX7 47 RX7 yX7_searchFor wsX7_searchFor) := goodIn_app (goodIn_of _ (by decide +kernel)) ggX7_slipsFrom_X7_searchFor
set_option maxRecDepth 20000 in
theorem ggX7_slipsFrom_X7_known : GoodIn wsX7_slipsFrom wsX7_known := goodIn_c zt_wsX7_slipsFrom_in _ [(1, 20), (1, 21), (3, 0), (3, 1), (3, 2), (3, 3), (3, 4), (3, 5), (3, 6)] rfl zw_wsX7_known
set_option maxRecDepth 20000 in
theorem gX7_slipsFrom_X7_known : GoodIn wsX7_slipsFrom (wsV RX7 51 RX7 yX7_known wsX7_known) := goodIn_app (goodIn_of _ (by decide +kernel)) ggX7_slipsFrom_X7_known
theorem zo_dX7_slipsFrom_0 : ([(0, .aload_n 0, 1), (1, .iload_n 1, 1), (2, .invokevirtual 47, 3), (5, .aload_n 0, 1), (6, .iload_n 1, 1), (7, .invokevirtual 51, 3), (10, .ireturn, 1)] : List (Nat × Instr × Nat)).all (dOk (decode cX7_slipsFrom)) = true := by decide +kernel
theorem dX7_slipsFrom_0 : decode cX7_slipsFrom 0 = .ok (.aload_n 0, 1) := dcr zo_dX7_slipsFrom_0 0 rfl
theorem dX7_slipsFrom_1 : decode cX7_slipsFrom 1 = .ok (.iload_n 1, 1) := dcr zo_dX7_slipsFrom_0 1 rfl
theorem dX7_slipsFrom_2 : decode cX7_slipsFrom 2 = .ok (.invokevirtual 47, 3) := dcr zo_dX7_slipsFrom_0 2 rfl
theorem dX7_slipsFrom_5 : decode cX7_slipsFrom 5 = .ok (.aload_n 0, 1) := dcr zo_dX7_slipsFrom_0 3 rfl
theorem dX7_slipsFrom_6 : decode cX7_slipsFrom 6 = .ok (.iload_n 1, 1) := dcr zo_dX7_slipsFrom_0 4 rfl
theorem dX7_slipsFrom_7 : decode cX7_slipsFrom 7 = .ok (.invokevirtual 51, 3) := dcr zo_dX7_slipsFrom_0 5 rfl
theorem dX7_slipsFrom_10 : decode cX7_slipsFrom 10 = .ok (.ireturn, 1) := dcr zo_dX7_slipsFrom_0 6 rfl
theorem zo_dX7_known_0 : ([(0, .iload_n 1, 1), (1, .ifCond .lt 21, 3), (4, .iload_n 1, 1), (5, .aload_n 0, 1), (6, .getfield 11, 3), (9, .arraylength, 1), (10, .if_icmp .ge 12, 3), (13, .aload_n 0, 1), (14, .getfield 11, 3), (17, .iload_n 1, 1), (18, .baload, 1), (19, .goto 5, 3), (22, .bipush (-6), 2), (24, .ireturn, 1)] : List (Nat × Instr × Nat)).all (dOk (decode cX7_known)) = true := by decide +kernel
theorem dX7_known_0 : decode cX7_known 0 = .ok (.iload_n 1, 1) := dcr zo_dX7_known_0 0 rfl
theorem dX7_known_1 : decode cX7_known 1 = .ok (.ifCond .lt 21, 3) := dcr zo_dX7_known_0 1 rfl
theorem dX7_known_4 : decode cX7_known 4 = .ok (.iload_n 1, 1) := dcr zo_dX7_known_0 2 rfl
theorem dX7_known_5 : decode cX7_known 5 = .ok (.aload_n 0, 1) := dcr zo_dX7_known_0 3 rfl
theorem dX7_known_6 : decode cX7_known 6 = .ok (.getfield 11, 3) := dcr zo_dX7_known_0 4 rfl
theorem dX7_known_9 : decode cX7_known 9 = .ok (.arraylength, 1) := dcr zo_dX7_known_0 5 rfl
theorem dX7_known_10 : decode cX7_known 10 = .ok (.if_icmp .ge 12, 3) := dcr zo_dX7_known_0 6 rfl
theorem dX7_known_13 : decode cX7_known 13 = .ok (.aload_n 0, 1) := dcr zo_dX7_known_0 7 rfl
theorem dX7_known_14 : decode cX7_known 14 = .ok (.getfield 11, 3) := dcr zo_dX7_known_0 8 rfl
theorem dX7_known_17 : decode cX7_known 17 = .ok (.iload_n 1, 1) := dcr zo_dX7_known_0 9 rfl
theorem dX7_known_18 : decode cX7_known 18 = .ok (.baload, 1) := dcr zo_dX7_known_0 10 rfl
theorem dX7_known_19 : decode cX7_known 19 = .ok (.goto 5, 3) := dcr zo_dX7_known_0 11 rfl
theorem dX7_known_22 : decode cX7_known 22 = .ok (.bipush (-6), 2) := dcr zo_dX7_known_0 12 rfl
theorem dX7_known_24 : decode cX7_known 24 = .ok (.ireturn, 1) := dcr zo_dX7_known_0 13 rfl
def zt_wsX7_searchAll : List (List Cond) := [[.code yX7_searchAll cX7_searchAll 1 none], wsX7_searchAll_r1, wsX7_searchAll_r2, wsX70]
theorem zt_wsX7_searchAll_in : ∀ c ∈ zt_wsX7_searchAll, ∀ w ∈ c, w ∈ wsX7_searchAll := List.forall_mem_cons.mpr ⟨fun _ h => List.mem_cons.mpr (Or.inl (List.mem_singleton.mp h)), List.forall_mem_cons.mpr ⟨fun _ h => List.mem_cons_of_mem _ (List.mem_append_left _ (List.mem_append_left _ h)), List.forall_mem_cons.mpr ⟨fun _ h => List.mem_cons_of_mem _ (List.mem_append_left _ (List.mem_append_right _ (h))), List.forall_mem_cons.mpr ⟨fun _ h => List.mem_cons_of_mem _ (List.mem_append_right _ h), (fun _ h => absurd h List.not_mem_nil)⟩⟩⟩⟩
set_option maxRecDepth 20000 in
theorem ggX7_searchAll_X7_searchFor : GoodIn wsX7_searchAll wsX7_searchFor := goodIn_c zt_wsX7_searchAll_in _ [(1, 4), (1, 5), (1, 6), (1, 7), (1, 8), (1, 9), (1, 10), (1, 11), (1, 12), (1, 13), (1, 14), (1, 15), (1, 16), (1, 17), (1, 18), (1, 19), (1, 3), (1, 20), (1, 21), (1, 22), (1, 23), (2, 0), (2, 1), (2, 2), (2, 3), (2, 4), (2, 5), (2, 6), (2, 7), (2, 8), (2, 9), (2, 10), (2, 11), (2, 12), (2, 13), (2, 14), (3, 0), (3, 1), (3, 2), (3, 3), (3, 4), (3, 5), (3, 6)] rfl zw_wsX7_searchFor
set_option maxRecDepth 20000 in
theorem gX7_searchAll_X7_searchFor : GoodIn wsX7_searchAll (wsV RX7 47 RX7 yX7_searchFor wsX7_searchFor) := goodIn_app (goodIn_of _ (by decide +kernel)) ggX7_searchAll_X7_searchFor
theorem zo_dX7_searchAll_0 : ([(0, .aload_n 0, 1), (1, .iconst (-1), 1), (2, .invokevirtual 47, 3), (5, .return_, 1)] : List (Nat × Instr × Nat)).all (dOk (decode cX7_searchAll)) = true := by decide +kernel
theorem dX7_searchAll_0 : decode cX7_searchAll 0 = .ok (.aload_n 0, 1) := dcr zo_dX7_searchAll_0 0 rfl
theorem dX7_searchAll_1 : decode cX7_searchAll 1 = .ok (.iconst (-1), 1) := dcr zo_dX7_searchAll_0 1 rfl
theorem dX7_searchAll_2 : decode cX7_searchAll 2 = .ok (.invokevirtual 47, 3) := dcr zo_dX7_searchAll_0 2 rfl
theorem dX7_searchAll_5 : decode cX7_searchAll 5 = .ok (.return_, 1) := dcr zo_dX7_searchAll_0 3 rfl
def zt_wsX7_searchFor : List (List Cond) := [[.code yX7_searchFor cX7_searchFor 3 none], wsX7_searchFor_r1, wsX7_searchFor_r2, wsX70]
theorem zt_wsX7_searchFor_in : ∀ c ∈ zt_wsX7_searchFor, ∀ w ∈ c, w ∈ wsX7_searchFor := List.forall_mem_cons.mpr ⟨fun _ h => List.mem_cons.mpr (Or.inl (List.mem_singleton.mp h)), List.forall_mem_cons.mpr ⟨fun _ h => List.mem_cons_of_mem _ (List.mem_append_left _ (List.mem_append_left _ h)), List.forall_mem_cons.mpr ⟨fun _ h => List.mem_cons_of_mem _ (List.mem_append_left _ (List.mem_append_right _ (h))), List.forall_mem_cons.mpr ⟨fun _ h => List.mem_cons_of_mem _ (List.mem_append_right _ h), (fun _ h => absurd h List.not_mem_nil)⟩⟩⟩⟩
set_option maxRecDepth 20000 in
theorem zw_wsX1_countOf : wsX1_countOf.all goodWord = true := by decide +kernel
set_option maxRecDepth 20000 in
theorem ggX7_searchFor_X1_countOf : GoodIn wsX7_searchFor wsX1_countOf := goodIn_c zt_wsX7_searchFor_in _ [(1, 7), (1, 8), (1, 9), (1, 6), (1, 10), (1, 11)] rfl zw_wsX1_countOf
set_option maxRecDepth 20000 in
theorem gX7_searchFor_X1_countOf : GoodIn wsX7_searchFor (va_wsS RX7 55 yX1_countOf wsX1_countOf) := goodIn_app (goodIn_of _ (by decide +kernel)) ggX7_searchFor_X1_countOf
set_option maxRecDepth 20000 in
theorem ggX7_searchFor_X7_known : GoodIn wsX7_searchFor wsX7_known := goodIn_c zt_wsX7_searchFor_in _ [(1, 16), (1, 17), (3, 0), (3, 1), (3, 2), (3, 3), (3, 4), (3, 5), (3, 6)] rfl zw_wsX7_known
set_option maxRecDepth 20000 in
theorem gX7_searchFor_X7_known : GoodIn wsX7_searchFor (wsV RX7 51 RX7 yX7_known wsX7_known) := goodIn_app (goodIn_of _ (by decide +kernel)) ggX7_searchFor_X7_known
set_option maxRecDepth 20000 in
theorem zw_wsX7_queueBefore : wsX7_queueBefore.all goodWord = true := by decide +kernel
set_option maxRecDepth 20000 in
theorem ggX7_searchFor_X7_queueBefore : GoodIn wsX7_searchFor wsX7_queueBefore := goodIn_c zt_wsX7_searchFor_in _ [(1, 21), (1, 0), (1, 22), (1, 12), (1, 13), (1, 14), (1, 15), (1, 16), (1, 17), (1, 23), (1, 9), (1, 6), (1, 10), (1, 11), (2, 0), (2, 1), (2, 2), (2, 3), (2, 4), (2, 5), (2, 6), (2, 7), (2, 8), (2, 9), (2, 10), (1, 1), (1, 3), (3, 0), (3, 1), (3, 2), (3, 3), (3, 4), (3, 5), (3, 6)] rfl zw_wsX7_queueBefore
set_option maxRecDepth 20000 in
theorem gX7_searchFor_X7_queueBefore : GoodIn wsX7_searchFor (wsV RX7 58 RX7 yX7_queueBefore wsX7_queueBefore) := goodIn_app (goodIn_of _ (by decide +kernel)) ggX7_searchFor_X7_queueBefore
theorem zo_dX7_searchFor_0 : ([(0, .aload_n 0, 1), (1, .getfield 28, 3), (4, .invokestatic 55, 3), (7, .istore_n 2, 1), (8, .aload_n 0, 1), (9, .iload_n 1, 1), (10, .invokevirtual 51, 3), (13, .bipush (-6), 2), (15, .if_icmp .ne 60, 3), (18, .aload_n 0, 1), (19, .getfield 31, 3), (22, .iload_n 2, 1), (23, .if_icmp .ge 52, 3), (26, .aload_n 0, 1), (27, .getfield 34, 3), (30, .aload_n 0, 1)] : List (Nat × Instr × Nat)).all (dOk (decode cX7_searchFor)) = true := by decide +kernel
theorem dX7_searchFor_0 : decode cX7_searchFor 0 = .ok (.aload_n 0, 1) := dcr zo_dX7_searchFor_0 0 rfl
theorem dX7_searchFor_1 : decode cX7_searchFor 1 = .ok (.getfield 28, 3) := dcr zo_dX7_searchFor_0 1 rfl
theorem dX7_searchFor_4 : decode cX7_searchFor 4 = .ok (.invokestatic 55, 3) := dcr zo_dX7_searchFor_0 2 rfl
theorem dX7_searchFor_7 : decode cX7_searchFor 7 = .ok (.istore_n 2, 1) := dcr zo_dX7_searchFor_0 3 rfl
theorem dX7_searchFor_8 : decode cX7_searchFor 8 = .ok (.aload_n 0, 1) := dcr zo_dX7_searchFor_0 4 rfl
theorem dX7_searchFor_9 : decode cX7_searchFor 9 = .ok (.iload_n 1, 1) := dcr zo_dX7_searchFor_0 5 rfl
theorem dX7_searchFor_10 : decode cX7_searchFor 10 = .ok (.invokevirtual 51, 3) := dcr zo_dX7_searchFor_0 6 rfl
theorem dX7_searchFor_13 : decode cX7_searchFor 13 = .ok (.bipush (-6), 2) := dcr zo_dX7_searchFor_0 7 rfl
theorem dX7_searchFor_15 : decode cX7_searchFor 15 = .ok (.if_icmp .ne 60, 3) := dcr zo_dX7_searchFor_0 8 rfl
theorem dX7_searchFor_18 : decode cX7_searchFor 18 = .ok (.aload_n 0, 1) := dcr zo_dX7_searchFor_0 9 rfl
theorem dX7_searchFor_19 : decode cX7_searchFor 19 = .ok (.getfield 31, 3) := dcr zo_dX7_searchFor_0 10 rfl
theorem dX7_searchFor_22 : decode cX7_searchFor 22 = .ok (.iload_n 2, 1) := dcr zo_dX7_searchFor_0 11 rfl
theorem dX7_searchFor_23 : decode cX7_searchFor 23 = .ok (.if_icmp .ge 52, 3) := dcr zo_dX7_searchFor_0 12 rfl
theorem dX7_searchFor_26 : decode cX7_searchFor 26 = .ok (.aload_n 0, 1) := dcr zo_dX7_searchFor_0 13 rfl
theorem dX7_searchFor_27 : decode cX7_searchFor 27 = .ok (.getfield 34, 3) := dcr zo_dX7_searchFor_0 14 rfl
theorem dX7_searchFor_30 : decode cX7_searchFor 30 = .ok (.aload_n 0, 1) := dcr zo_dX7_searchFor_0 15 rfl
theorem zo_dX7_searchFor_31 : ([(31, .getfield 31, 3), (34, .if_icmp .ge 41, 3), (37, .aload_n 0, 1), (38, .getfield 34, 3), (41, .aload_n 0, 1), (42, .getfield 17, 3), (45, .arraylength, 1), (46, .if_icmp .ge 29, 3), (49, .aload_n 0, 1), (50, .aload_n 0, 1), (51, .getfield 17, 3), (54, .aload_n 0, 1), (55, .getfield 34, 3), (58, .iaload, 1), (59, .invokevirtual 58, 3), (62, .aload_n 0, 1)] : List (Nat × Instr × Nat)).all (dOk (decode cX7_searchFor)) = true := by decide +kernel
theorem dX7_searchFor_31 : decode cX7_searchFor 31 = .ok (.getfield 31, 3) := dcr zo_dX7_searchFor_31 0 rfl
theorem dX7_searchFor_34 : decode cX7_searchFor 34 = .ok (.if_icmp .ge 41, 3) := dcr zo_dX7_searchFor_31 1 rfl
theorem dX7_searchFor_37 : decode cX7_searchFor 37 = .ok (.aload_n 0, 1) := dcr zo_dX7_searchFor_31 2 rfl
theorem dX7_searchFor_38 : decode cX7_searchFor 38 = .ok (.getfield 34, 3) := dcr zo_dX7_searchFor_31 3 rfl
theorem dX7_searchFor_41 : decode cX7_searchFor 41 = .ok (.aload_n 0, 1) := dcr zo_dX7_searchFor_31 4 rfl
theorem dX7_searchFor_42 : decode cX7_searchFor 42 = .ok (.getfield 17, 3) := dcr zo_dX7_searchFor_31 5 rfl
theorem dX7_searchFor_45 : decode cX7_searchFor 45 = .ok (.arraylength, 1) := dcr zo_dX7_searchFor_31 6 rfl
theorem dX7_searchFor_46 : decode cX7_searchFor 46 = .ok (.if_icmp .ge 29, 3) := dcr zo_dX7_searchFor_31 7 rfl
theorem dX7_searchFor_49 : decode cX7_searchFor 49 = .ok (.aload_n 0, 1) := dcr zo_dX7_searchFor_31 8 rfl
theorem dX7_searchFor_50 : decode cX7_searchFor 50 = .ok (.aload_n 0, 1) := dcr zo_dX7_searchFor_31 9 rfl
theorem dX7_searchFor_51 : decode cX7_searchFor 51 = .ok (.getfield 17, 3) := dcr zo_dX7_searchFor_31 10 rfl
theorem dX7_searchFor_54 : decode cX7_searchFor 54 = .ok (.aload_n 0, 1) := dcr zo_dX7_searchFor_31 11 rfl
theorem dX7_searchFor_55 : decode cX7_searchFor 55 = .ok (.getfield 34, 3) := dcr zo_dX7_searchFor_31 12 rfl
theorem dX7_searchFor_58 : decode cX7_searchFor 58 = .ok (.iaload, 1) := dcr zo_dX7_searchFor_31 13 rfl
theorem dX7_searchFor_59 : decode cX7_searchFor 59 = .ok (.invokevirtual 58, 3) := dcr zo_dX7_searchFor_31 14 rfl
theorem dX7_searchFor_62 : decode cX7_searchFor 62 = .ok (.aload_n 0, 1) := dcr zo_dX7_searchFor_31 15 rfl
theorem zo_dX7_searchFor_63 : ([(63, .dup, 1), (64, .getfield 34, 3), (67, .iconst 1, 1), (68, .iadd, 1), (69, .putfield 34, 3), (72, .goto (-64), 3), (75, .return_, 1)] : List (Nat × Instr × Nat)).all (dOk (decode cX7_searchFor)) = true := by decide +kernel
theorem dX7_searchFor_63 : decode cX7_searchFor 63 = .ok (.dup, 1) := dcr zo_dX7_searchFor_63 0 rfl
theorem dX7_searchFor_64 : decode cX7_searchFor 64 = .ok (.getfield 34, 3) := dcr zo_dX7_searchFor_63 1 rfl
theorem dX7_searchFor_67 : decode cX7_searchFor 67 = .ok (.iconst 1, 1) := dcr zo_dX7_searchFor_63 2 rfl
theorem dX7_searchFor_68 : decode cX7_searchFor 68 = .ok (.iadd, 1) := dcr zo_dX7_searchFor_63 3 rfl
theorem dX7_searchFor_69 : decode cX7_searchFor 69 = .ok (.putfield 34, 3) := dcr zo_dX7_searchFor_63 4 rfl
theorem dX7_searchFor_72 : decode cX7_searchFor 72 = .ok (.goto (-64), 3) := dcr zo_dX7_searchFor_63 5 rfl
theorem dX7_searchFor_75 : decode cX7_searchFor 75 = .ok (.return_, 1) := dcr zo_dX7_searchFor_63 6 rfl
def zt_wsX7_queueGoal : List (List Cond) := [[.code yX7_queueGoal cX7_queueGoal 5 none], [.fieldLink RX7 28 "LastMap$Table" "n" "I", .fieldLink RX7 21 "LastMap$Table" "goal" "I", .methodLink RX7 61 yX7_reach, .instanceMethod yX7_reach, .selects RX7 yX7_reach yX7_reach, .initialized RX7, .code yX7_reach cX7_reach 3 none, .fieldLink RX7 11 "LastMap$Table" "slips" "[B", .fieldLink RX7 31 "LastMap$Table" "queued" "I", .fieldLink RX7 17 "LastMap$Table" "queue" "[I", .methodLink RX7 64 yX0_markAt, .static yX0_markAt, .initialized RX0, .code yX0_markAt cX0_markAt 2 (some .int), .methodLink RX7 70 yX1_weight, .static yX1_weight, .initialized RX1, .code yX1_weight cX1_weight 1 (some .int), .fieldLink RX1 9 "LastMap$Maps" "WEIGHTS" "[I", .methodLink RX7 43 yX7_queueGoal, .instanceMethod yX7_queueGoal, .selects RX7 yX7_queueGoal yX7_queueGoal], wsX70]
theorem zt_wsX7_queueGoal_in : ∀ c ∈ zt_wsX7_queueGoal, ∀ w ∈ c, w ∈ wsX7_queueGoal := List.forall_mem_cons.mpr ⟨fun _ h => List.mem_cons.mpr (Or.inl (List.mem_singleton.mp h)), List.forall_mem_cons.mpr ⟨fun _ h => List.mem_cons_of_mem _ (List.mem_append_left _ (h)), List.forall_mem_cons.mpr ⟨fun _ h => List.mem_cons_of_mem _ (List.mem_append_right _ h), (fun _ h => absurd h List.not_mem_nil)⟩⟩⟩
set_option maxRecDepth 20000 in
theorem zw_wsX7_reach : wsX7_reach.all goodWord = true := by decide +kernel
set_option maxRecDepth 20000 in
theorem ggX7_queueGoal_X7_reach : GoodIn wsX7_queueGoal wsX7_reach := goodIn_c zt_wsX7_queueGoal_in _ [(1, 6), (1, 7), (1, 8), (1, 9), (2, 0), (2, 1), (2, 2), (2, 3), (2, 4), (2, 5), (2, 6)] rfl zw_wsX7_reach
set_option maxRecDepth 20000 in
theorem gX7_queueGoal_X7_reach : GoodIn wsX7_queueGoal (wsV RX7 61 RX7 yX7_reach wsX7_reach) := goodIn_app (goodIn_of _ (by decide +kernel)) ggX7_queueGoal_X7_reach
set_option maxRecDepth 20000 in
theorem zw_wsX0_markAt : wsX0_markAt.all goodWord = true := by decide +kernel
set_option maxRecDepth 20000 in
theorem ggX7_queueGoal_X0_markAt : GoodIn wsX7_queueGoal wsX0_markAt := goodIn_c zt_wsX7_queueGoal_in _ [(1, 13)] rfl zw_wsX0_markAt
set_option maxRecDepth 20000 in
theorem gX7_queueGoal_X0_markAt : GoodIn wsX7_queueGoal (va_wsS RX7 64 yX0_markAt wsX0_markAt) := goodIn_app (goodIn_of _ (by decide +kernel)) ggX7_queueGoal_X0_markAt
set_option maxRecDepth 20000 in
theorem ggX7_queueGoal_X1_weight : GoodIn wsX7_queueGoal wsX1_weight := goodIn_c zt_wsX7_queueGoal_in _ [(1, 17), (1, 18)] rfl zw_wsX1_weight
set_option maxRecDepth 20000 in
theorem gX7_queueGoal_X1_weight : GoodIn wsX7_queueGoal (va_wsS RX7 70 yX1_weight wsX1_weight) := goodIn_app (goodIn_of _ (by decide +kernel)) ggX7_queueGoal_X1_weight
set_option maxRecDepth 20000 in
theorem ggX7_queueGoal_X7_queueGoal : GoodIn wsX7_queueGoal wsX7_queueGoal := goodIn_c zt_wsX7_queueGoal_in _ [(0, 0), (1, 0), (1, 1), (1, 2), (1, 3), (1, 4), (1, 5), (1, 6), (1, 7), (1, 8), (1, 9), (1, 10), (1, 11), (1, 12), (1, 13), (1, 14), (1, 15), (1, 16), (1, 17), (1, 18), (1, 19), (1, 20), (1, 21), (2, 0), (2, 1), (2, 2), (2, 3), (2, 4), (2, 5), (2, 6)] rfl zw_wsX7_queueGoal
set_option maxRecDepth 20000 in
theorem gX7_queueGoal_X7_queueGoal : GoodIn wsX7_queueGoal (wsV RX7 43 RX7 yX7_queueGoal wsX7_queueGoal) := goodIn_app (goodIn_of _ (by decide +kernel)) ggX7_queueGoal_X7_queueGoal
theorem zo_dX7_queueGoal_0 : ([(0, .iload_n 1, 1), (1, .aload_n 0, 1), (2, .getfield 28, 3), (5, .if_icmp .ge 9, 3), (8, .iload_n 1, 1), (9, .bipush 6, 2), (11, .if_icmp .lt 10, 3), (14, .aload_n 0, 1), (15, .iload_n 2, 1), (16, .iconst 0, 1), (17, .invokevirtual 61, 3), (20, .return_, 1), (21, .aload_n 0, 1), (22, .getfield 21, 3), (25, .iload_n 1, 1), (26, .invokestatic 64, 3)] : List (Nat × Instr × Nat)).all (dOk (decode cX7_queueGoal)) = true := by decide +kernel
theorem dX7_queueGoal_0 : decode cX7_queueGoal 0 = .ok (.iload_n 1, 1) := dcr zo_dX7_queueGoal_0 0 rfl
theorem dX7_queueGoal_1 : decode cX7_queueGoal 1 = .ok (.aload_n 0, 1) := dcr zo_dX7_queueGoal_0 1 rfl
theorem dX7_queueGoal_2 : decode cX7_queueGoal 2 = .ok (.getfield 28, 3) := dcr zo_dX7_queueGoal_0 2 rfl
theorem dX7_queueGoal_5 : decode cX7_queueGoal 5 = .ok (.if_icmp .ge 9, 3) := dcr zo_dX7_queueGoal_0 3 rfl
theorem dX7_queueGoal_8 : decode cX7_queueGoal 8 = .ok (.iload_n 1, 1) := dcr zo_dX7_queueGoal_0 4 rfl
theorem dX7_queueGoal_9 : decode cX7_queueGoal 9 = .ok (.bipush 6, 2) := dcr zo_dX7_queueGoal_0 5 rfl
theorem dX7_queueGoal_11 : decode cX7_queueGoal 11 = .ok (.if_icmp .lt 10, 3) := dcr zo_dX7_queueGoal_0 6 rfl
theorem dX7_queueGoal_14 : decode cX7_queueGoal 14 = .ok (.aload_n 0, 1) := dcr zo_dX7_queueGoal_0 7 rfl
theorem dX7_queueGoal_15 : decode cX7_queueGoal 15 = .ok (.iload_n 2, 1) := dcr zo_dX7_queueGoal_0 8 rfl
theorem dX7_queueGoal_16 : decode cX7_queueGoal 16 = .ok (.iconst 0, 1) := dcr zo_dX7_queueGoal_0 9 rfl
theorem dX7_queueGoal_17 : decode cX7_queueGoal 17 = .ok (.invokevirtual 61, 3) := dcr zo_dX7_queueGoal_0 10 rfl
theorem dX7_queueGoal_20 : decode cX7_queueGoal 20 = .ok (.return_, 1) := dcr zo_dX7_queueGoal_0 11 rfl
theorem dX7_queueGoal_21 : decode cX7_queueGoal 21 = .ok (.aload_n 0, 1) := dcr zo_dX7_queueGoal_0 12 rfl
theorem dX7_queueGoal_22 : decode cX7_queueGoal 22 = .ok (.getfield 21, 3) := dcr zo_dX7_queueGoal_0 13 rfl
theorem dX7_queueGoal_25 : decode cX7_queueGoal 25 = .ok (.iload_n 1, 1) := dcr zo_dX7_queueGoal_0 14 rfl
theorem dX7_queueGoal_26 : decode cX7_queueGoal 26 = .ok (.invokestatic 64, 3) := dcr zo_dX7_queueGoal_0 15 rfl
theorem zo_dX7_queueGoal_29 : ([(29, .istore_n 3, 1), (30, .iconst 0, 1), (31, .istore 4, 2), (33, .iload 4, 2), (35, .iconst 5, 1), (36, .if_icmp .ge 36, 3), (39, .iload_n 3, 1), (40, .iconst 5, 1), (41, .if_icmp .eq 9, 3), (44, .iload_n 3, 1), (45, .iload 4, 2), (47, .if_icmp .ne 19, 3), (50, .aload_n 0, 1), (51, .iload_n 1, 1), (52, .iconst 1, 1), (53, .iadd, 1)] : List (Nat × Instr × Nat)).all (dOk (decode cX7_queueGoal)) = true := by decide +kernel
theorem dX7_queueGoal_29 : decode cX7_queueGoal 29 = .ok (.istore_n 3, 1) := dcr zo_dX7_queueGoal_29 0 rfl
theorem dX7_queueGoal_30 : decode cX7_queueGoal 30 = .ok (.iconst 0, 1) := dcr zo_dX7_queueGoal_29 1 rfl
theorem dX7_queueGoal_31 : decode cX7_queueGoal 31 = .ok (.istore 4, 2) := dcr zo_dX7_queueGoal_29 2 rfl
theorem dX7_queueGoal_33 : decode cX7_queueGoal 33 = .ok (.iload 4, 2) := dcr zo_dX7_queueGoal_29 3 rfl
theorem dX7_queueGoal_35 : decode cX7_queueGoal 35 = .ok (.iconst 5, 1) := dcr zo_dX7_queueGoal_29 4 rfl
theorem dX7_queueGoal_36 : decode cX7_queueGoal 36 = .ok (.if_icmp .ge 36, 3) := dcr zo_dX7_queueGoal_29 5 rfl
theorem dX7_queueGoal_39 : decode cX7_queueGoal 39 = .ok (.iload_n 3, 1) := dcr zo_dX7_queueGoal_29 6 rfl
theorem dX7_queueGoal_40 : decode cX7_queueGoal 40 = .ok (.iconst 5, 1) := dcr zo_dX7_queueGoal_29 7 rfl
theorem dX7_queueGoal_41 : decode cX7_queueGoal 41 = .ok (.if_icmp .eq 9, 3) := dcr zo_dX7_queueGoal_29 8 rfl
theorem dX7_queueGoal_44 : decode cX7_queueGoal 44 = .ok (.iload_n 3, 1) := dcr zo_dX7_queueGoal_29 9 rfl
theorem dX7_queueGoal_45 : decode cX7_queueGoal 45 = .ok (.iload 4, 2) := dcr zo_dX7_queueGoal_29 10 rfl
theorem dX7_queueGoal_47 : decode cX7_queueGoal 47 = .ok (.if_icmp .ne 19, 3) := dcr zo_dX7_queueGoal_29 11 rfl
theorem dX7_queueGoal_50 : decode cX7_queueGoal 50 = .ok (.aload_n 0, 1) := dcr zo_dX7_queueGoal_29 12 rfl
theorem dX7_queueGoal_51 : decode cX7_queueGoal 51 = .ok (.iload_n 1, 1) := dcr zo_dX7_queueGoal_29 13 rfl
theorem dX7_queueGoal_52 : decode cX7_queueGoal 52 = .ok (.iconst 1, 1) := dcr zo_dX7_queueGoal_29 14 rfl
theorem dX7_queueGoal_53 : decode cX7_queueGoal 53 = .ok (.iadd, 1) := dcr zo_dX7_queueGoal_29 15 rfl
theorem zo_dX7_queueGoal_54 : ([(54, .iload_n 2, 1), (55, .iload 4, 2), (57, .iload_n 1, 1), (58, .invokestatic 70, 3), (61, .imul, 1), (62, .iadd, 1), (63, .invokevirtual 43, 3), (66, .iinc 4 1, 3), (69, .goto (-36), 3), (72, .return_, 1)] : List (Nat × Instr × Nat)).all (dOk (decode cX7_queueGoal)) = true := by decide +kernel
theorem dX7_queueGoal_54 : decode cX7_queueGoal 54 = .ok (.iload_n 2, 1) := dcr zo_dX7_queueGoal_54 0 rfl
theorem dX7_queueGoal_55 : decode cX7_queueGoal 55 = .ok (.iload 4, 2) := dcr zo_dX7_queueGoal_54 1 rfl
theorem dX7_queueGoal_57 : decode cX7_queueGoal 57 = .ok (.iload_n 1, 1) := dcr zo_dX7_queueGoal_54 2 rfl
theorem dX7_queueGoal_58 : decode cX7_queueGoal 58 = .ok (.invokestatic 70, 3) := dcr zo_dX7_queueGoal_54 3 rfl
theorem dX7_queueGoal_61 : decode cX7_queueGoal 61 = .ok (.imul, 1) := dcr zo_dX7_queueGoal_54 4 rfl
theorem dX7_queueGoal_62 : decode cX7_queueGoal 62 = .ok (.iadd, 1) := dcr zo_dX7_queueGoal_54 5 rfl
theorem dX7_queueGoal_63 : decode cX7_queueGoal 63 = .ok (.invokevirtual 43, 3) := dcr zo_dX7_queueGoal_54 6 rfl
theorem dX7_queueGoal_66 : decode cX7_queueGoal 66 = .ok (.iinc 4 1, 3) := dcr zo_dX7_queueGoal_54 7 rfl
theorem dX7_queueGoal_69 : decode cX7_queueGoal 69 = .ok (.goto (-36), 3) := dcr zo_dX7_queueGoal_54 8 rfl
theorem dX7_queueGoal_72 : decode cX7_queueGoal 72 = .ok (.return_, 1) := dcr zo_dX7_queueGoal_54 9 rfl
def zt_wsX7_queueBefore : List (List Cond) := [[.code yX7_queueBefore cX7_queueBefore 9 none], wsX7_queueBefore_r1, wsX7_queueBefore_r2, wsX70]
theorem zt_wsX7_queueBefore_in : ∀ c ∈ zt_wsX7_queueBefore, ∀ w ∈ c, w ∈ wsX7_queueBefore := List.forall_mem_cons.mpr ⟨fun _ h => List.mem_cons.mpr (Or.inl (List.mem_singleton.mp h)), List.forall_mem_cons.mpr ⟨fun _ h => List.mem_cons_of_mem _ (List.mem_append_left _ (List.mem_append_left _ h)), List.forall_mem_cons.mpr ⟨fun _ h => List.mem_cons_of_mem _ (List.mem_append_left _ (List.mem_append_right _ (h))), List.forall_mem_cons.mpr ⟨fun _ h => List.mem_cons_of_mem _ (List.mem_append_right _ h), (fun _ h => absurd h List.not_mem_nil)⟩⟩⟩⟩
set_option maxRecDepth 20000 in
theorem ggX7_queueBefore_X7_known : GoodIn wsX7_queueBefore wsX7_known := goodIn_c zt_wsX7_queueBefore_in _ [(1, 6), (1, 7), (3, 0), (3, 1), (3, 2), (3, 3), (3, 4), (3, 5), (3, 6)] rfl zw_wsX7_known
set_option maxRecDepth 20000 in
theorem gX7_queueBefore_X7_known : GoodIn wsX7_queueBefore (wsV RX7 51 RX7 yX7_known wsX7_known) := goodIn_app (goodIn_of _ (by decide +kernel)) ggX7_queueBefore_X7_known
set_option maxRecDepth 20000 in
theorem ggX7_queueBefore_X1_weight : GoodIn wsX7_queueBefore wsX1_weight := goodIn_c zt_wsX7_queueBefore_in _ [(1, 11), (1, 12)] rfl zw_wsX1_weight
set_option maxRecDepth 20000 in
theorem gX7_queueBefore_X1_weight : GoodIn wsX7_queueBefore (va_wsS RX7 70 yX1_weight wsX1_weight) := goodIn_app (goodIn_of _ (by decide +kernel)) ggX7_queueBefore_X1_weight
set_option maxRecDepth 20000 in
theorem ggX7_queueBefore_X1_signBy : GoodIn wsX7_queueBefore wsX1_signBy := goodIn_c zt_wsX7_queueBefore_in _ [(1, 15)] rfl zw_wsX1_signBy
set_option maxRecDepth 20000 in
theorem gX7_queueBefore_X1_signBy : GoodIn wsX7_queueBefore (va_wsS RX7 73 yX1_signBy wsX1_signBy) := goodIn_app (goodIn_of _ (by decide +kernel)) ggX7_queueBefore_X1_signBy
set_option maxRecDepth 20000 in
theorem zw_wsX7_canHaveMade : wsX7_canHaveMade.all goodWord = true := by decide +kernel
set_option maxRecDepth 20000 in
theorem ggX7_queueBefore_X7_canHaveMade : GoodIn wsX7_queueBefore wsX7_canHaveMade := goodIn_c zt_wsX7_queueBefore_in _ [(1, 19), (1, 1), (3, 0), (3, 1), (3, 2), (3, 3), (3, 4), (3, 5), (3, 6)] rfl zw_wsX7_canHaveMade
set_option maxRecDepth 20000 in
theorem gX7_queueBefore_X7_canHaveMade : GoodIn wsX7_queueBefore (wsV RX7 76 RX7 yX7_canHaveMade wsX7_canHaveMade) := goodIn_app (goodIn_of _ (by decide +kernel)) ggX7_queueBefore_X7_canHaveMade
set_option maxRecDepth 20000 in
theorem ggX7_queueBefore_X7_reach : GoodIn wsX7_queueBefore wsX7_reach := goodIn_c zt_wsX7_queueBefore_in _ [(1, 23), (1, 7), (2, 0), (2, 1), (3, 0), (3, 1), (3, 2), (3, 3), (3, 4), (3, 5), (3, 6)] rfl zw_wsX7_reach
set_option maxRecDepth 20000 in
theorem gX7_queueBefore_X7_reach : GoodIn wsX7_queueBefore (wsV RX7 61 RX7 yX7_reach wsX7_reach) := goodIn_app (goodIn_of _ (by decide +kernel)) ggX7_queueBefore_X7_reach
theorem zo_dX7_queueBefore_0 : ([(0, .aload_n 0, 1), (1, .iload_n 1, 1), (2, .invokevirtual 51, 3), (5, .iconst 1, 1), (6, .iadd, 1), (7, .istore_n 2, 1), (8, .iconst (-1), 1), (9, .istore_n 3, 1), (10, .iconst 0, 1), (11, .istore 4, 2), (13, .iload 4, 2), (15, .aload_n 0, 1), (16, .getfield 28, 3), (19, .if_icmp .ge 118, 3), (22, .iload 4, 2), (24, .invokestatic 70, 3)] : List (Nat × Instr × Nat)).all (dOk (decode cX7_queueBefore)) = true := by decide +kernel
theorem dX7_queueBefore_0 : decode cX7_queueBefore 0 = .ok (.aload_n 0, 1) := dcr zo_dX7_queueBefore_0 0 rfl
theorem dX7_queueBefore_1 : decode cX7_queueBefore 1 = .ok (.iload_n 1, 1) := dcr zo_dX7_queueBefore_0 1 rfl
theorem dX7_queueBefore_2 : decode cX7_queueBefore 2 = .ok (.invokevirtual 51, 3) := dcr zo_dX7_queueBefore_0 2 rfl
theorem dX7_queueBefore_5 : decode cX7_queueBefore 5 = .ok (.iconst 1, 1) := dcr zo_dX7_queueBefore_0 3 rfl
theorem dX7_queueBefore_6 : decode cX7_queueBefore 6 = .ok (.iadd, 1) := dcr zo_dX7_queueBefore_0 4 rfl
theorem dX7_queueBefore_7 : decode cX7_queueBefore 7 = .ok (.istore_n 2, 1) := dcr zo_dX7_queueBefore_0 5 rfl
theorem dX7_queueBefore_8 : decode cX7_queueBefore 8 = .ok (.iconst (-1), 1) := dcr zo_dX7_queueBefore_0 6 rfl
theorem dX7_queueBefore_9 : decode cX7_queueBefore 9 = .ok (.istore_n 3, 1) := dcr zo_dX7_queueBefore_0 7 rfl
theorem dX7_queueBefore_10 : decode cX7_queueBefore 10 = .ok (.iconst 0, 1) := dcr zo_dX7_queueBefore_0 8 rfl
theorem dX7_queueBefore_11 : decode cX7_queueBefore 11 = .ok (.istore 4, 2) := dcr zo_dX7_queueBefore_0 9 rfl
theorem dX7_queueBefore_13 : decode cX7_queueBefore 13 = .ok (.iload 4, 2) := dcr zo_dX7_queueBefore_0 10 rfl
theorem dX7_queueBefore_15 : decode cX7_queueBefore 15 = .ok (.aload_n 0, 1) := dcr zo_dX7_queueBefore_0 11 rfl
theorem dX7_queueBefore_16 : decode cX7_queueBefore 16 = .ok (.getfield 28, 3) := dcr zo_dX7_queueBefore_0 12 rfl
theorem dX7_queueBefore_19 : decode cX7_queueBefore 19 = .ok (.if_icmp .ge 118, 3) := dcr zo_dX7_queueBefore_0 13 rfl
theorem dX7_queueBefore_22 : decode cX7_queueBefore 22 = .ok (.iload 4, 2) := dcr zo_dX7_queueBefore_0 14 rfl
theorem dX7_queueBefore_24 : decode cX7_queueBefore 24 = .ok (.invokestatic 70, 3) := dcr zo_dX7_queueBefore_0 15 rfl
theorem zo_dX7_queueBefore_27 : ([(27, .istore 5, 2), (29, .iload_n 1, 1), (30, .iload 5, 2), (32, .invokestatic 73, 3), (35, .istore 6, 2), (37, .aload_n 0, 1), (38, .iload_n 3, 1), (39, .iload 6, 2), (41, .invokevirtual 76, 3), (44, .ifCond .eq 40, 3), (47, .iload_n 1, 1), (48, .iload 6, 2), (50, .iload 5, 2), (52, .imul, 1), (53, .isub, 1), (54, .istore 7, 2)] : List (Nat × Instr × Nat)).all (dOk (decode cX7_queueBefore)) = true := by decide +kernel
theorem dX7_queueBefore_27 : decode cX7_queueBefore 27 = .ok (.istore 5, 2) := dcr zo_dX7_queueBefore_27 0 rfl
theorem dX7_queueBefore_29 : decode cX7_queueBefore 29 = .ok (.iload_n 1, 1) := dcr zo_dX7_queueBefore_27 1 rfl
theorem dX7_queueBefore_30 : decode cX7_queueBefore 30 = .ok (.iload 5, 2) := dcr zo_dX7_queueBefore_27 2 rfl
theorem dX7_queueBefore_32 : decode cX7_queueBefore 32 = .ok (.invokestatic 73, 3) := dcr zo_dX7_queueBefore_27 3 rfl
theorem dX7_queueBefore_35 : decode cX7_queueBefore 35 = .ok (.istore 6, 2) := dcr zo_dX7_queueBefore_27 4 rfl
theorem dX7_queueBefore_37 : decode cX7_queueBefore 37 = .ok (.aload_n 0, 1) := dcr zo_dX7_queueBefore_27 5 rfl
theorem dX7_queueBefore_38 : decode cX7_queueBefore 38 = .ok (.iload_n 3, 1) := dcr zo_dX7_queueBefore_27 6 rfl
theorem dX7_queueBefore_39 : decode cX7_queueBefore 39 = .ok (.iload 6, 2) := dcr zo_dX7_queueBefore_27 7 rfl
theorem dX7_queueBefore_41 : decode cX7_queueBefore 41 = .ok (.invokevirtual 76, 3) := dcr zo_dX7_queueBefore_27 8 rfl
theorem dX7_queueBefore_44 : decode cX7_queueBefore 44 = .ok (.ifCond .eq 40, 3) := dcr zo_dX7_queueBefore_27 9 rfl
theorem dX7_queueBefore_47 : decode cX7_queueBefore 47 = .ok (.iload_n 1, 1) := dcr zo_dX7_queueBefore_27 10 rfl
theorem dX7_queueBefore_48 : decode cX7_queueBefore 48 = .ok (.iload 6, 2) := dcr zo_dX7_queueBefore_27 11 rfl
theorem dX7_queueBefore_50 : decode cX7_queueBefore 50 = .ok (.iload 5, 2) := dcr zo_dX7_queueBefore_27 12 rfl
theorem dX7_queueBefore_52 : decode cX7_queueBefore 52 = .ok (.imul, 1) := dcr zo_dX7_queueBefore_27 13 rfl
theorem dX7_queueBefore_53 : decode cX7_queueBefore 53 = .ok (.isub, 1) := dcr zo_dX7_queueBefore_27 14 rfl
theorem dX7_queueBefore_54 : decode cX7_queueBefore 54 = .ok (.istore 7, 2) := dcr zo_dX7_queueBefore_27 15 rfl
theorem zo_dX7_queueBefore_56 : ([(56, .iconst 0, 1), (57, .istore 8, 2), (59, .iload 8, 2), (61, .iconst 5, 1), (62, .if_icmp .ge 22, 3), (65, .aload_n 0, 1), (66, .iload 7, 2), (68, .iload 8, 2), (70, .iload 5, 2), (72, .imul, 1), (73, .iadd, 1), (74, .iload_n 2, 1), (75, .invokevirtual 61, 3), (78, .iinc 8 1, 3), (81, .goto (-22), 3), (84, .iload_n 3, 1)] : List (Nat × Instr × Nat)).all (dOk (decode cX7_queueBefore)) = true := by decide +kernel
theorem dX7_queueBefore_56 : decode cX7_queueBefore 56 = .ok (.iconst 0, 1) := dcr zo_dX7_queueBefore_56 0 rfl
theorem dX7_queueBefore_57 : decode cX7_queueBefore 57 = .ok (.istore 8, 2) := dcr zo_dX7_queueBefore_56 1 rfl
theorem dX7_queueBefore_59 : decode cX7_queueBefore 59 = .ok (.iload 8, 2) := dcr zo_dX7_queueBefore_56 2 rfl
theorem dX7_queueBefore_61 : decode cX7_queueBefore 61 = .ok (.iconst 5, 1) := dcr zo_dX7_queueBefore_56 3 rfl
theorem dX7_queueBefore_62 : decode cX7_queueBefore 62 = .ok (.if_icmp .ge 22, 3) := dcr zo_dX7_queueBefore_56 4 rfl
theorem dX7_queueBefore_65 : decode cX7_queueBefore 65 = .ok (.aload_n 0, 1) := dcr zo_dX7_queueBefore_56 5 rfl
theorem dX7_queueBefore_66 : decode cX7_queueBefore 66 = .ok (.iload 7, 2) := dcr zo_dX7_queueBefore_56 6 rfl
theorem dX7_queueBefore_68 : decode cX7_queueBefore 68 = .ok (.iload 8, 2) := dcr zo_dX7_queueBefore_56 7 rfl
theorem dX7_queueBefore_70 : decode cX7_queueBefore 70 = .ok (.iload 5, 2) := dcr zo_dX7_queueBefore_56 8 rfl
theorem dX7_queueBefore_72 : decode cX7_queueBefore 72 = .ok (.imul, 1) := dcr zo_dX7_queueBefore_56 9 rfl
theorem dX7_queueBefore_73 : decode cX7_queueBefore 73 = .ok (.iadd, 1) := dcr zo_dX7_queueBefore_56 10 rfl
theorem dX7_queueBefore_74 : decode cX7_queueBefore 74 = .ok (.iload_n 2, 1) := dcr zo_dX7_queueBefore_56 11 rfl
theorem dX7_queueBefore_75 : decode cX7_queueBefore 75 = .ok (.invokevirtual 61, 3) := dcr zo_dX7_queueBefore_56 12 rfl
theorem dX7_queueBefore_78 : decode cX7_queueBefore 78 = .ok (.iinc 8 1, 3) := dcr zo_dX7_queueBefore_56 13 rfl
theorem dX7_queueBefore_81 : decode cX7_queueBefore 81 = .ok (.goto (-22), 3) := dcr zo_dX7_queueBefore_56 14 rfl
theorem dX7_queueBefore_84 : decode cX7_queueBefore 84 = .ok (.iload_n 3, 1) := dcr zo_dX7_queueBefore_56 15 rfl
theorem zo_dX7_queueBefore_85 : ([(85, .ifCond .lt 43, 3), (88, .iload_n 3, 1), (89, .iload 6, 2), (91, .if_icmp .eq 37, 3), (94, .aload_n 0, 1), (95, .getfield 25, 3), (98, .iconst 1, 1), (99, .ishr, 1), (100, .iconst 1, 1), (101, .iand, 1), (102, .ifCond .eq 26, 3), (105, .iconst 5, 1), (106, .iload 5, 2), (108, .imul, 1), (109, .istore 7, 2), (111, .aload_n 0, 1)] : List (Nat × Instr × Nat)).all (dOk (decode cX7_queueBefore)) = true := by decide +kernel
theorem dX7_queueBefore_85 : decode cX7_queueBefore 85 = .ok (.ifCond .lt 43, 3) := dcr zo_dX7_queueBefore_85 0 rfl
theorem dX7_queueBefore_88 : decode cX7_queueBefore 88 = .ok (.iload_n 3, 1) := dcr zo_dX7_queueBefore_85 1 rfl
theorem dX7_queueBefore_89 : decode cX7_queueBefore 89 = .ok (.iload 6, 2) := dcr zo_dX7_queueBefore_85 2 rfl
theorem dX7_queueBefore_91 : decode cX7_queueBefore 91 = .ok (.if_icmp .eq 37, 3) := dcr zo_dX7_queueBefore_85 3 rfl
theorem dX7_queueBefore_94 : decode cX7_queueBefore 94 = .ok (.aload_n 0, 1) := dcr zo_dX7_queueBefore_85 4 rfl
theorem dX7_queueBefore_95 : decode cX7_queueBefore 95 = .ok (.getfield 25, 3) := dcr zo_dX7_queueBefore_85 5 rfl
theorem dX7_queueBefore_98 : decode cX7_queueBefore 98 = .ok (.iconst 1, 1) := dcr zo_dX7_queueBefore_85 6 rfl
theorem dX7_queueBefore_99 : decode cX7_queueBefore 99 = .ok (.ishr, 1) := dcr zo_dX7_queueBefore_85 7 rfl
theorem dX7_queueBefore_100 : decode cX7_queueBefore 100 = .ok (.iconst 1, 1) := dcr zo_dX7_queueBefore_85 8 rfl
theorem dX7_queueBefore_101 : decode cX7_queueBefore 101 = .ok (.iand, 1) := dcr zo_dX7_queueBefore_85 9 rfl
theorem dX7_queueBefore_102 : decode cX7_queueBefore 102 = .ok (.ifCond .eq 26, 3) := dcr zo_dX7_queueBefore_85 10 rfl
theorem dX7_queueBefore_105 : decode cX7_queueBefore 105 = .ok (.iconst 5, 1) := dcr zo_dX7_queueBefore_85 11 rfl
theorem dX7_queueBefore_106 : decode cX7_queueBefore 106 = .ok (.iload 5, 2) := dcr zo_dX7_queueBefore_85 12 rfl
theorem dX7_queueBefore_108 : decode cX7_queueBefore 108 = .ok (.imul, 1) := dcr zo_dX7_queueBefore_85 13 rfl
theorem dX7_queueBefore_109 : decode cX7_queueBefore 109 = .ok (.istore 7, 2) := dcr zo_dX7_queueBefore_85 14 rfl
theorem dX7_queueBefore_111 : decode cX7_queueBefore 111 = .ok (.aload_n 0, 1) := dcr zo_dX7_queueBefore_85 15 rfl
theorem zo_dX7_queueBefore_112 : ([(112, .iload_n 1, 1), (113, .iload 6, 2), (115, .iload_n 3, 1), (116, .isub, 1), (117, .iload 7, 2), (119, .iload 5, 2), (121, .isub, 1), (122, .imul, 1), (123, .iadd, 1), (124, .iload_n 2, 1), (125, .invokevirtual 61, 3), (128, .iload 6, 2), (130, .istore_n 3, 1), (131, .iinc 4 1, 3), (134, .goto (-121), 3), (137, .return_, 1)] : List (Nat × Instr × Nat)).all (dOk (decode cX7_queueBefore)) = true := by decide +kernel
theorem dX7_queueBefore_112 : decode cX7_queueBefore 112 = .ok (.iload_n 1, 1) := dcr zo_dX7_queueBefore_112 0 rfl
theorem dX7_queueBefore_113 : decode cX7_queueBefore 113 = .ok (.iload 6, 2) := dcr zo_dX7_queueBefore_112 1 rfl
theorem dX7_queueBefore_115 : decode cX7_queueBefore 115 = .ok (.iload_n 3, 1) := dcr zo_dX7_queueBefore_112 2 rfl
theorem dX7_queueBefore_116 : decode cX7_queueBefore 116 = .ok (.isub, 1) := dcr zo_dX7_queueBefore_112 3 rfl
theorem dX7_queueBefore_117 : decode cX7_queueBefore 117 = .ok (.iload 7, 2) := dcr zo_dX7_queueBefore_112 4 rfl
theorem dX7_queueBefore_119 : decode cX7_queueBefore 119 = .ok (.iload 5, 2) := dcr zo_dX7_queueBefore_112 5 rfl
theorem dX7_queueBefore_121 : decode cX7_queueBefore 121 = .ok (.isub, 1) := dcr zo_dX7_queueBefore_112 6 rfl
theorem dX7_queueBefore_122 : decode cX7_queueBefore 122 = .ok (.imul, 1) := dcr zo_dX7_queueBefore_112 7 rfl
theorem dX7_queueBefore_123 : decode cX7_queueBefore 123 = .ok (.iadd, 1) := dcr zo_dX7_queueBefore_112 8 rfl
theorem dX7_queueBefore_124 : decode cX7_queueBefore 124 = .ok (.iload_n 2, 1) := dcr zo_dX7_queueBefore_112 9 rfl
theorem dX7_queueBefore_125 : decode cX7_queueBefore 125 = .ok (.invokevirtual 61, 3) := dcr zo_dX7_queueBefore_112 10 rfl
theorem dX7_queueBefore_128 : decode cX7_queueBefore 128 = .ok (.iload 6, 2) := dcr zo_dX7_queueBefore_112 11 rfl
theorem dX7_queueBefore_130 : decode cX7_queueBefore 130 = .ok (.istore_n 3, 1) := dcr zo_dX7_queueBefore_112 12 rfl
theorem dX7_queueBefore_131 : decode cX7_queueBefore 131 = .ok (.iinc 4 1, 3) := dcr zo_dX7_queueBefore_112 13 rfl
theorem dX7_queueBefore_134 : decode cX7_queueBefore 134 = .ok (.goto (-121), 3) := dcr zo_dX7_queueBefore_112 14 rfl
theorem dX7_queueBefore_137 : decode cX7_queueBefore 137 = .ok (.return_, 1) := dcr zo_dX7_queueBefore_112 15 rfl
theorem zo_dX7_canHaveMade_0 : ([(0, .iload_n 1, 1), (1, .iload_n 2, 1), (2, .if_icmp .ne 14, 3), (5, .aload_n 0, 1), (6, .getfield 25, 3), (9, .iconst 2, 1), (10, .ishr, 1), (11, .iconst 1, 1), (12, .iand, 1), (13, .ifCond .ne 23, 3), (16, .aload_n 0, 1), (17, .getfield 25, 3), (20, .iload_n 2, 1), (21, .iconst 4, 1), (22, .if_icmp .ne 7, 3), (25, .iconst 3, 1)] : List (Nat × Instr × Nat)).all (dOk (decode cX7_canHaveMade)) = true := by decide +kernel
theorem dX7_canHaveMade_0 : decode cX7_canHaveMade 0 = .ok (.iload_n 1, 1) := dcr zo_dX7_canHaveMade_0 0 rfl
theorem dX7_canHaveMade_1 : decode cX7_canHaveMade 1 = .ok (.iload_n 2, 1) := dcr zo_dX7_canHaveMade_0 1 rfl
theorem dX7_canHaveMade_2 : decode cX7_canHaveMade 2 = .ok (.if_icmp .ne 14, 3) := dcr zo_dX7_canHaveMade_0 2 rfl
theorem dX7_canHaveMade_5 : decode cX7_canHaveMade 5 = .ok (.aload_n 0, 1) := dcr zo_dX7_canHaveMade_0 3 rfl
theorem dX7_canHaveMade_6 : decode cX7_canHaveMade 6 = .ok (.getfield 25, 3) := dcr zo_dX7_canHaveMade_0 4 rfl
theorem dX7_canHaveMade_9 : decode cX7_canHaveMade 9 = .ok (.iconst 2, 1) := dcr zo_dX7_canHaveMade_0 5 rfl
theorem dX7_canHaveMade_10 : decode cX7_canHaveMade 10 = .ok (.ishr, 1) := dcr zo_dX7_canHaveMade_0 6 rfl
theorem dX7_canHaveMade_11 : decode cX7_canHaveMade 11 = .ok (.iconst 1, 1) := dcr zo_dX7_canHaveMade_0 7 rfl
theorem dX7_canHaveMade_12 : decode cX7_canHaveMade 12 = .ok (.iand, 1) := dcr zo_dX7_canHaveMade_0 8 rfl
theorem dX7_canHaveMade_13 : decode cX7_canHaveMade 13 = .ok (.ifCond .ne 23, 3) := dcr zo_dX7_canHaveMade_0 9 rfl
theorem dX7_canHaveMade_16 : decode cX7_canHaveMade 16 = .ok (.aload_n 0, 1) := dcr zo_dX7_canHaveMade_0 10 rfl
theorem dX7_canHaveMade_17 : decode cX7_canHaveMade 17 = .ok (.getfield 25, 3) := dcr zo_dX7_canHaveMade_0 11 rfl
theorem dX7_canHaveMade_20 : decode cX7_canHaveMade 20 = .ok (.iload_n 2, 1) := dcr zo_dX7_canHaveMade_0 12 rfl
theorem dX7_canHaveMade_21 : decode cX7_canHaveMade 21 = .ok (.iconst 4, 1) := dcr zo_dX7_canHaveMade_0 13 rfl
theorem dX7_canHaveMade_22 : decode cX7_canHaveMade 22 = .ok (.if_icmp .ne 7, 3) := dcr zo_dX7_canHaveMade_0 14 rfl
theorem dX7_canHaveMade_25 : decode cX7_canHaveMade 25 = .ok (.iconst 3, 1) := dcr zo_dX7_canHaveMade_0 15 rfl
theorem zo_dX7_canHaveMade_26 : ([(26, .goto 4, 3), (29, .iconst 0, 1), (30, .ishr, 1), (31, .iconst 1, 1), (32, .iand, 1), (33, .ifCond .eq 7, 3), (36, .iconst 1, 1), (37, .goto 4, 3), (40, .iconst 0, 1), (41, .ireturn, 1)] : List (Nat × Instr × Nat)).all (dOk (decode cX7_canHaveMade)) = true := by decide +kernel
theorem dX7_canHaveMade_26 : decode cX7_canHaveMade 26 = .ok (.goto 4, 3) := dcr zo_dX7_canHaveMade_26 0 rfl
theorem dX7_canHaveMade_29 : decode cX7_canHaveMade 29 = .ok (.iconst 0, 1) := dcr zo_dX7_canHaveMade_26 1 rfl
theorem dX7_canHaveMade_30 : decode cX7_canHaveMade 30 = .ok (.ishr, 1) := dcr zo_dX7_canHaveMade_26 2 rfl
theorem dX7_canHaveMade_31 : decode cX7_canHaveMade 31 = .ok (.iconst 1, 1) := dcr zo_dX7_canHaveMade_26 3 rfl
theorem dX7_canHaveMade_32 : decode cX7_canHaveMade 32 = .ok (.iand, 1) := dcr zo_dX7_canHaveMade_26 4 rfl
theorem dX7_canHaveMade_33 : decode cX7_canHaveMade 33 = .ok (.ifCond .eq 7, 3) := dcr zo_dX7_canHaveMade_26 5 rfl
theorem dX7_canHaveMade_36 : decode cX7_canHaveMade 36 = .ok (.iconst 1, 1) := dcr zo_dX7_canHaveMade_26 6 rfl
theorem dX7_canHaveMade_37 : decode cX7_canHaveMade 37 = .ok (.goto 4, 3) := dcr zo_dX7_canHaveMade_26 7 rfl
theorem dX7_canHaveMade_40 : decode cX7_canHaveMade 40 = .ok (.iconst 0, 1) := dcr zo_dX7_canHaveMade_26 8 rfl
theorem dX7_canHaveMade_41 : decode cX7_canHaveMade 41 = .ok (.ireturn, 1) := dcr zo_dX7_canHaveMade_26 9 rfl
theorem zo_dX7_reach_0 : ([(0, .iload_n 1, 1), (1, .ifCond .lt 23, 3), (4, .iload_n 1, 1), (5, .aload_n 0, 1), (6, .getfield 11, 3), (9, .arraylength, 1), (10, .if_icmp .ge 14, 3), (13, .aload_n 0, 1), (14, .getfield 11, 3), (17, .iload_n 1, 1), (18, .baload, 1), (19, .bipush (-6), 2), (21, .if_icmp .eq 4, 3), (24, .return_, 1), (25, .aload_n 0, 1), (26, .getfield 31, 3)] : List (Nat × Instr × Nat)).all (dOk (decode cX7_reach)) = true := by decide +kernel
theorem dX7_reach_0 : decode cX7_reach 0 = .ok (.iload_n 1, 1) := dcr zo_dX7_reach_0 0 rfl
theorem dX7_reach_1 : decode cX7_reach 1 = .ok (.ifCond .lt 23, 3) := dcr zo_dX7_reach_0 1 rfl
theorem dX7_reach_4 : decode cX7_reach 4 = .ok (.iload_n 1, 1) := dcr zo_dX7_reach_0 2 rfl
theorem dX7_reach_5 : decode cX7_reach 5 = .ok (.aload_n 0, 1) := dcr zo_dX7_reach_0 3 rfl
theorem dX7_reach_6 : decode cX7_reach 6 = .ok (.getfield 11, 3) := dcr zo_dX7_reach_0 4 rfl
theorem dX7_reach_9 : decode cX7_reach 9 = .ok (.arraylength, 1) := dcr zo_dX7_reach_0 5 rfl
theorem dX7_reach_10 : decode cX7_reach 10 = .ok (.if_icmp .ge 14, 3) := dcr zo_dX7_reach_0 6 rfl
theorem dX7_reach_13 : decode cX7_reach 13 = .ok (.aload_n 0, 1) := dcr zo_dX7_reach_0 7 rfl
theorem dX7_reach_14 : decode cX7_reach 14 = .ok (.getfield 11, 3) := dcr zo_dX7_reach_0 8 rfl
theorem dX7_reach_17 : decode cX7_reach 17 = .ok (.iload_n 1, 1) := dcr zo_dX7_reach_0 9 rfl
theorem dX7_reach_18 : decode cX7_reach 18 = .ok (.baload, 1) := dcr zo_dX7_reach_0 10 rfl
theorem dX7_reach_19 : decode cX7_reach 19 = .ok (.bipush (-6), 2) := dcr zo_dX7_reach_0 11 rfl
theorem dX7_reach_21 : decode cX7_reach 21 = .ok (.if_icmp .eq 4, 3) := dcr zo_dX7_reach_0 12 rfl
theorem dX7_reach_24 : decode cX7_reach 24 = .ok (.return_, 1) := dcr zo_dX7_reach_0 13 rfl
theorem dX7_reach_25 : decode cX7_reach 25 = .ok (.aload_n 0, 1) := dcr zo_dX7_reach_0 14 rfl
theorem dX7_reach_26 : decode cX7_reach 26 = .ok (.getfield 31, 3) := dcr zo_dX7_reach_0 15 rfl
theorem zo_dX7_reach_29 : ([(29, .ifCond .lt 43, 3), (32, .aload_n 0, 1), (33, .getfield 31, 3), (36, .aload_n 0, 1), (37, .getfield 17, 3), (40, .arraylength, 1), (41, .if_icmp .ge 31, 3), (44, .aload_n 0, 1), (45, .getfield 11, 3), (48, .iload_n 1, 1), (49, .iload_n 2, 1), (50, .i2b, 1), (51, .bastore, 1), (52, .aload_n 0, 1), (53, .getfield 17, 3), (56, .aload_n 0, 1)] : List (Nat × Instr × Nat)).all (dOk (decode cX7_reach)) = true := by decide +kernel
theorem dX7_reach_29 : decode cX7_reach 29 = .ok (.ifCond .lt 43, 3) := dcr zo_dX7_reach_29 0 rfl
theorem dX7_reach_32 : decode cX7_reach 32 = .ok (.aload_n 0, 1) := dcr zo_dX7_reach_29 1 rfl
theorem dX7_reach_33 : decode cX7_reach 33 = .ok (.getfield 31, 3) := dcr zo_dX7_reach_29 2 rfl
theorem dX7_reach_36 : decode cX7_reach 36 = .ok (.aload_n 0, 1) := dcr zo_dX7_reach_29 3 rfl
theorem dX7_reach_37 : decode cX7_reach 37 = .ok (.getfield 17, 3) := dcr zo_dX7_reach_29 4 rfl
theorem dX7_reach_40 : decode cX7_reach 40 = .ok (.arraylength, 1) := dcr zo_dX7_reach_29 5 rfl
theorem dX7_reach_41 : decode cX7_reach 41 = .ok (.if_icmp .ge 31, 3) := dcr zo_dX7_reach_29 6 rfl
theorem dX7_reach_44 : decode cX7_reach 44 = .ok (.aload_n 0, 1) := dcr zo_dX7_reach_29 7 rfl
theorem dX7_reach_45 : decode cX7_reach 45 = .ok (.getfield 11, 3) := dcr zo_dX7_reach_29 8 rfl
theorem dX7_reach_48 : decode cX7_reach 48 = .ok (.iload_n 1, 1) := dcr zo_dX7_reach_29 9 rfl
theorem dX7_reach_49 : decode cX7_reach 49 = .ok (.iload_n 2, 1) := dcr zo_dX7_reach_29 10 rfl
theorem dX7_reach_50 : decode cX7_reach 50 = .ok (.i2b, 1) := dcr zo_dX7_reach_29 11 rfl
theorem dX7_reach_51 : decode cX7_reach 51 = .ok (.bastore, 1) := dcr zo_dX7_reach_29 12 rfl
theorem dX7_reach_52 : decode cX7_reach 52 = .ok (.aload_n 0, 1) := dcr zo_dX7_reach_29 13 rfl
theorem dX7_reach_53 : decode cX7_reach 53 = .ok (.getfield 17, 3) := dcr zo_dX7_reach_29 14 rfl
theorem dX7_reach_56 : decode cX7_reach 56 = .ok (.aload_n 0, 1) := dcr zo_dX7_reach_29 15 rfl
theorem zo_dX7_reach_57 : ([(57, .getfield 31, 3), (60, .iload_n 1, 1), (61, .iastore, 1), (62, .aload_n 0, 1), (63, .dup, 1), (64, .getfield 31, 3), (67, .iconst 1, 1), (68, .iadd, 1), (69, .putfield 31, 3), (72, .return_, 1)] : List (Nat × Instr × Nat)).all (dOk (decode cX7_reach)) = true := by decide +kernel
theorem dX7_reach_57 : decode cX7_reach 57 = .ok (.getfield 31, 3) := dcr zo_dX7_reach_57 0 rfl
theorem dX7_reach_60 : decode cX7_reach 60 = .ok (.iload_n 1, 1) := dcr zo_dX7_reach_57 1 rfl
theorem dX7_reach_61 : decode cX7_reach 61 = .ok (.iastore, 1) := dcr zo_dX7_reach_57 2 rfl
theorem dX7_reach_62 : decode cX7_reach 62 = .ok (.aload_n 0, 1) := dcr zo_dX7_reach_57 3 rfl
theorem dX7_reach_63 : decode cX7_reach 63 = .ok (.dup, 1) := dcr zo_dX7_reach_57 4 rfl
theorem dX7_reach_64 : decode cX7_reach 64 = .ok (.getfield 31, 3) := dcr zo_dX7_reach_57 5 rfl
theorem dX7_reach_67 : decode cX7_reach 67 = .ok (.iconst 1, 1) := dcr zo_dX7_reach_57 6 rfl
theorem dX7_reach_68 : decode cX7_reach 68 = .ok (.iadd, 1) := dcr zo_dX7_reach_57 7 rfl
theorem dX7_reach_69 : decode cX7_reach 69 = .ok (.putfield 31, 3) := dcr zo_dX7_reach_57 8 rfl
theorem dX7_reach_72 : decode cX7_reach 72 = .ok (.return_, 1) := dcr zo_dX7_reach_57 9 rfl
theorem zo_dX8_init_0 : ([(0, .aload_n 0, 1), (1, .invokespecial 3, 3), (4, .aload_n 0, 1), (5, .bipush 36, 2), (7, .newarray .int, 2), (9, .putfield 9, 3), (12, .aload_n 0, 1), (13, .bipush 6, 2), (15, .newarray .int, 2), (17, .putfield 15, 3), (20, .aload_n 0, 1), (21, .bipush 6, 2), (23, .newarray .int, 2), (25, .putfield 18, 3), (28, .return_, 1)] : List (Nat × Instr × Nat)).all (dOk (decode cX8_init)) = true := by decide +kernel
theorem dX8_init_0 : decode cX8_init 0 = .ok (.aload_n 0, 1) := dcr zo_dX8_init_0 0 rfl
theorem dX8_init_1 : decode cX8_init 1 = .ok (.invokespecial 3, 3) := dcr zo_dX8_init_0 1 rfl
theorem dX8_init_4 : decode cX8_init 4 = .ok (.aload_n 0, 1) := dcr zo_dX8_init_0 2 rfl
theorem dX8_init_5 : decode cX8_init 5 = .ok (.bipush 36, 2) := dcr zo_dX8_init_0 3 rfl
theorem dX8_init_7 : decode cX8_init 7 = .ok (.newarray .int, 2) := dcr zo_dX8_init_0 4 rfl
theorem dX8_init_9 : decode cX8_init 9 = .ok (.putfield 9, 3) := dcr zo_dX8_init_0 5 rfl
theorem dX8_init_12 : decode cX8_init 12 = .ok (.aload_n 0, 1) := dcr zo_dX8_init_0 6 rfl
theorem dX8_init_13 : decode cX8_init 13 = .ok (.bipush 6, 2) := dcr zo_dX8_init_0 7 rfl
theorem dX8_init_15 : decode cX8_init 15 = .ok (.newarray .int, 2) := dcr zo_dX8_init_0 8 rfl
theorem dX8_init_17 : decode cX8_init 17 = .ok (.putfield 15, 3) := dcr zo_dX8_init_0 9 rfl
theorem dX8_init_20 : decode cX8_init 20 = .ok (.aload_n 0, 1) := dcr zo_dX8_init_0 10 rfl
theorem dX8_init_21 : decode cX8_init 21 = .ok (.bipush 6, 2) := dcr zo_dX8_init_0 11 rfl
theorem dX8_init_23 : decode cX8_init 23 = .ok (.newarray .int, 2) := dcr zo_dX8_init_0 12 rfl
theorem dX8_init_25 : decode cX8_init 25 = .ok (.putfield 18, 3) := dcr zo_dX8_init_0 13 rfl
theorem dX8_init_28 : decode cX8_init 28 = .ok (.return_, 1) := dcr zo_dX8_init_0 14 rfl
def zt_wsX8_note : List (List Cond) := [[.code yX8_note cX8_note 4 none], [.fieldLink RX8 9 "LastMap$Trees" "slips" "[I", .static yX9_isMap, .initialized RX9, .code yX9_isMap cX9_isMap 1 (some .boolean)], wsX80]
theorem zt_wsX8_note_in : ∀ c ∈ zt_wsX8_note, ∀ w ∈ c, w ∈ wsX8_note := List.forall_mem_cons.mpr ⟨fun _ h => List.mem_cons.mpr (Or.inl (List.mem_singleton.mp h)), List.forall_mem_cons.mpr ⟨fun _ h => List.mem_cons_of_mem _ (List.mem_append_left _ (h)), List.forall_mem_cons.mpr ⟨fun _ h => List.mem_cons_of_mem _ (List.mem_append_right _ h), (fun _ h => absurd h List.not_mem_nil)⟩⟩⟩
set_option maxRecDepth 20000 in
theorem zw_wsX9_isMap : wsX9_isMap.all goodWord = true := by decide +kernel
set_option maxRecDepth 20000 in
theorem ggX8_note_X9_isMap : GoodIn wsX8_note wsX9_isMap := goodIn_c zt_wsX8_note_in _ [(1, 3)] rfl zw_wsX9_isMap
set_option maxRecDepth 20000 in
theorem gX8_note_X9_isMap_n21 : GoodIn wsX8_note (wsX9_isMap) := ggX8_note_X9_isMap
theorem zo_dX8_note_0 : ([(0, .iload_n 1, 1), (1, .invokestatic 21, 3), (4, .ifCond .eq 22, 3), (7, .iload_n 2, 1), (8, .invokestatic 21, 3), (11, .ifCond .eq 15, 3), (14, .aload_n 0, 1), (15, .getfield 9, 3), (18, .iload_n 1, 1), (19, .bipush 6, 2), (21, .imul, 1), (22, .iload_n 2, 1), (23, .iadd, 1), (24, .iload_n 3, 1), (25, .iastore, 1), (26, .return_, 1)] : List (Nat × Instr × Nat)).all (dOk (decode cX8_note)) = true := by decide +kernel
theorem dX8_note_0 : decode cX8_note 0 = .ok (.iload_n 1, 1) := dcr zo_dX8_note_0 0 rfl
theorem dX8_note_1 : decode cX8_note 1 = .ok (.invokestatic 21, 3) := dcr zo_dX8_note_0 1 rfl
theorem dX8_note_4 : decode cX8_note 4 = .ok (.ifCond .eq 22, 3) := dcr zo_dX8_note_0 2 rfl
theorem dX8_note_7 : decode cX8_note 7 = .ok (.iload_n 2, 1) := dcr zo_dX8_note_0 3 rfl
theorem dX8_note_8 : decode cX8_note 8 = .ok (.invokestatic 21, 3) := dcr zo_dX8_note_0 4 rfl
theorem dX8_note_11 : decode cX8_note 11 = .ok (.ifCond .eq 15, 3) := dcr zo_dX8_note_0 5 rfl
theorem dX8_note_14 : decode cX8_note 14 = .ok (.aload_n 0, 1) := dcr zo_dX8_note_0 6 rfl
theorem dX8_note_15 : decode cX8_note 15 = .ok (.getfield 9, 3) := dcr zo_dX8_note_0 7 rfl
theorem dX8_note_18 : decode cX8_note 18 = .ok (.iload_n 1, 1) := dcr zo_dX8_note_0 8 rfl
theorem dX8_note_19 : decode cX8_note 19 = .ok (.bipush 6, 2) := dcr zo_dX8_note_0 9 rfl
theorem dX8_note_21 : decode cX8_note 21 = .ok (.imul, 1) := dcr zo_dX8_note_0 10 rfl
theorem dX8_note_22 : decode cX8_note 22 = .ok (.iload_n 2, 1) := dcr zo_dX8_note_0 11 rfl
theorem dX8_note_23 : decode cX8_note 23 = .ok (.iadd, 1) := dcr zo_dX8_note_0 12 rfl
theorem dX8_note_24 : decode cX8_note 24 = .ok (.iload_n 3, 1) := dcr zo_dX8_note_0 13 rfl
theorem dX8_note_25 : decode cX8_note 25 = .ok (.iastore, 1) := dcr zo_dX8_note_0 14 rfl
theorem dX8_note_26 : decode cX8_note 26 = .ok (.return_, 1) := dcr zo_dX8_note_0 15 rfl
def zt_wsX8_slipsOf : List (List Cond) := [[.code yX8_slipsOf cX8_slipsOf 3 (some .int)], [.fieldLink RX8 9 "LastMap$Trees" "slips" "[I", .static yX9_isMap, .initialized RX9, .code yX9_isMap cX9_isMap 1 (some .boolean)], wsX80]
theorem zt_wsX8_slipsOf_in : ∀ c ∈ zt_wsX8_slipsOf, ∀ w ∈ c, w ∈ wsX8_slipsOf := List.forall_mem_cons.mpr ⟨fun _ h => List.mem_cons.mpr (Or.inl (List.mem_singleton.mp h)), List.forall_mem_cons.mpr ⟨fun _ h => List.mem_cons_of_mem _ (List.mem_append_left _ (h)), List.forall_mem_cons.mpr ⟨fun _ h => List.mem_cons_of_mem _ (List.mem_append_right _ h), (fun _ h => absurd h List.not_mem_nil)⟩⟩⟩
set_option maxRecDepth 20000 in
theorem ggX8_slipsOf_X9_isMap : GoodIn wsX8_slipsOf wsX9_isMap := goodIn_c zt_wsX8_slipsOf_in _ [(1, 3)] rfl zw_wsX9_isMap
set_option maxRecDepth 20000 in
theorem gX8_slipsOf_X9_isMap_n21 : GoodIn wsX8_slipsOf (wsX9_isMap) := ggX8_slipsOf_X9_isMap
theorem zo_dX8_slipsOf_0 : ([(0, .iload_n 1, 1), (1, .invokestatic 21, 3), (4, .ifCond .eq 24, 3), (7, .iload_n 2, 1), (8, .invokestatic 21, 3), (11, .ifCond .eq 17, 3), (14, .aload_n 0, 1), (15, .getfield 9, 3), (18, .iload_n 1, 1), (19, .bipush 6, 2), (21, .imul, 1), (22, .iload_n 2, 1), (23, .iadd, 1), (24, .iaload, 1), (25, .goto 5, 3), (28, .bipush (-6), 2)] : List (Nat × Instr × Nat)).all (dOk (decode cX8_slipsOf)) = true := by decide +kernel
theorem dX8_slipsOf_0 : decode cX8_slipsOf 0 = .ok (.iload_n 1, 1) := dcr zo_dX8_slipsOf_0 0 rfl
theorem dX8_slipsOf_1 : decode cX8_slipsOf 1 = .ok (.invokestatic 21, 3) := dcr zo_dX8_slipsOf_0 1 rfl
theorem dX8_slipsOf_4 : decode cX8_slipsOf 4 = .ok (.ifCond .eq 24, 3) := dcr zo_dX8_slipsOf_0 2 rfl
theorem dX8_slipsOf_7 : decode cX8_slipsOf 7 = .ok (.iload_n 2, 1) := dcr zo_dX8_slipsOf_0 3 rfl
theorem dX8_slipsOf_8 : decode cX8_slipsOf 8 = .ok (.invokestatic 21, 3) := dcr zo_dX8_slipsOf_0 4 rfl
theorem dX8_slipsOf_11 : decode cX8_slipsOf 11 = .ok (.ifCond .eq 17, 3) := dcr zo_dX8_slipsOf_0 5 rfl
theorem dX8_slipsOf_14 : decode cX8_slipsOf 14 = .ok (.aload_n 0, 1) := dcr zo_dX8_slipsOf_0 6 rfl
theorem dX8_slipsOf_15 : decode cX8_slipsOf 15 = .ok (.getfield 9, 3) := dcr zo_dX8_slipsOf_0 7 rfl
theorem dX8_slipsOf_18 : decode cX8_slipsOf 18 = .ok (.iload_n 1, 1) := dcr zo_dX8_slipsOf_0 8 rfl
theorem dX8_slipsOf_19 : decode cX8_slipsOf 19 = .ok (.bipush 6, 2) := dcr zo_dX8_slipsOf_0 9 rfl
theorem dX8_slipsOf_21 : decode cX8_slipsOf 21 = .ok (.imul, 1) := dcr zo_dX8_slipsOf_0 10 rfl
theorem dX8_slipsOf_22 : decode cX8_slipsOf 22 = .ok (.iload_n 2, 1) := dcr zo_dX8_slipsOf_0 11 rfl
theorem dX8_slipsOf_23 : decode cX8_slipsOf 23 = .ok (.iadd, 1) := dcr zo_dX8_slipsOf_0 12 rfl
theorem dX8_slipsOf_24 : decode cX8_slipsOf 24 = .ok (.iaload, 1) := dcr zo_dX8_slipsOf_0 13 rfl
theorem dX8_slipsOf_25 : decode cX8_slipsOf 25 = .ok (.goto 5, 3) := dcr zo_dX8_slipsOf_0 14 rfl
theorem dX8_slipsOf_28 : decode cX8_slipsOf 28 = .ok (.bipush (-6), 2) := dcr zo_dX8_slipsOf_0 15 rfl
theorem zo_dX8_slipsOf_30 : ([(30, .ireturn, 1)] : List (Nat × Instr × Nat)).all (dOk (decode cX8_slipsOf)) = true := by decide +kernel
theorem dX8_slipsOf_30 : decode cX8_slipsOf 30 = .ok (.ireturn, 1) := dcr zo_dX8_slipsOf_30 0 rfl
def zt_wsX8_seek : List (List Cond) := [[.code yX8_seek cX8_seek 2 none], wsX8_seek_r1, wsX8_seek_r2, wsX80]
theorem zt_wsX8_seek_in : ∀ c ∈ zt_wsX8_seek, ∀ w ∈ c, w ∈ wsX8_seek := List.forall_mem_cons.mpr ⟨fun _ h => List.mem_cons.mpr (Or.inl (List.mem_singleton.mp h)), List.forall_mem_cons.mpr ⟨fun _ h => List.mem_cons_of_mem _ (List.mem_append_left _ (List.mem_append_left _ h)), List.forall_mem_cons.mpr ⟨fun _ h => List.mem_cons_of_mem _ (List.mem_append_left _ (List.mem_append_right _ (h))), List.forall_mem_cons.mpr ⟨fun _ h => List.mem_cons_of_mem _ (List.mem_append_right _ h), (fun _ h => absurd h List.not_mem_nil)⟩⟩⟩⟩
set_option maxRecDepth 20000 in
theorem ggX8_seek_J7_fill_53178 : GoodIn wsX8_seek wsJ7_fill_53178 := goodIn_c zt_wsX8_seek_in _ [(1, 6)] rfl zw_wsJ7_fill_53178
set_option maxRecDepth 20000 in
theorem gX8_seek_J7_fill_53178 : GoodIn wsX8_seek (va_wsS RX8 32 yJ7_fill_53178 wsJ7_fill_53178) := goodIn_app (goodIn_of _ (by decide +kernel)) ggX8_seek_J7_fill_53178
set_option maxRecDepth 20000 in
theorem zw_wsX8_draw : wsX8_draw.all goodWord = true := by decide +kernel
set_option maxRecDepth 20000 in
theorem ggX8_seek_X8_draw : GoodIn wsX8_seek wsX8_draw := goodIn_c zt_wsX8_seek_in _ [(1, 11), (1, 0), (1, 2), (1, 12), (1, 13), (1, 14), (1, 10), (1, 15), (1, 1), (1, 16), (1, 17), (1, 18), (1, 19), (1, 20), (1, 21), (1, 22), (1, 23), (2, 0), (2, 1), (2, 2), (1, 7), (1, 8), (1, 9), (2, 3), (2, 4), (2, 5), (2, 6), (2, 7), (2, 8), (2, 9), (2, 10), (2, 11), (3, 0), (3, 1), (3, 2), (3, 3), (3, 4)] rfl zw_wsX8_draw
set_option maxRecDepth 20000 in
theorem gX8_seek_X8_draw : GoodIn wsX8_seek (wsV RX8 38 RX8 yX8_draw wsX8_draw) := goodIn_app (goodIn_of _ (by decide +kernel)) ggX8_seek_X8_draw
theorem zo_dX8_seek_0 : ([(0, .aload_n 0, 1), (1, .bipush (-6), 2), (3, .putfield 25, 3), (6, .aload_n 0, 1), (7, .iconst 0, 1), (8, .putfield 29, 3), (11, .aload_n 0, 1), (12, .getfield 15, 3), (15, .bipush 7, 2), (17, .invokestatic 32, 3), (20, .aload_n 0, 1), (21, .iload_n 1, 1), (22, .iconst 0, 1), (23, .iconst 0, 1), (24, .iconst 0, 1), (25, .invokevirtual 38, 3)] : List (Nat × Instr × Nat)).all (dOk (decode cX8_seek)) = true := by decide +kernel
theorem dX8_seek_0 : decode cX8_seek 0 = .ok (.aload_n 0, 1) := dcr zo_dX8_seek_0 0 rfl
theorem dX8_seek_1 : decode cX8_seek 1 = .ok (.bipush (-6), 2) := dcr zo_dX8_seek_0 1 rfl
theorem dX8_seek_3 : decode cX8_seek 3 = .ok (.putfield 25, 3) := dcr zo_dX8_seek_0 2 rfl
theorem dX8_seek_6 : decode cX8_seek 6 = .ok (.aload_n 0, 1) := dcr zo_dX8_seek_0 3 rfl
theorem dX8_seek_7 : decode cX8_seek 7 = .ok (.iconst 0, 1) := dcr zo_dX8_seek_0 4 rfl
theorem dX8_seek_8 : decode cX8_seek 8 = .ok (.putfield 29, 3) := dcr zo_dX8_seek_0 5 rfl
theorem dX8_seek_11 : decode cX8_seek 11 = .ok (.aload_n 0, 1) := dcr zo_dX8_seek_0 6 rfl
theorem dX8_seek_12 : decode cX8_seek 12 = .ok (.getfield 15, 3) := dcr zo_dX8_seek_0 7 rfl
theorem dX8_seek_15 : decode cX8_seek 15 = .ok (.bipush 7, 2) := dcr zo_dX8_seek_0 8 rfl
theorem dX8_seek_17 : decode cX8_seek 17 = .ok (.invokestatic 32, 3) := dcr zo_dX8_seek_0 9 rfl
theorem dX8_seek_20 : decode cX8_seek 20 = .ok (.aload_n 0, 1) := dcr zo_dX8_seek_0 10 rfl
theorem dX8_seek_21 : decode cX8_seek 21 = .ok (.iload_n 1, 1) := dcr zo_dX8_seek_0 11 rfl
theorem dX8_seek_22 : decode cX8_seek 22 = .ok (.iconst 0, 1) := dcr zo_dX8_seek_0 12 rfl
theorem dX8_seek_23 : decode cX8_seek 23 = .ok (.iconst 0, 1) := dcr zo_dX8_seek_0 13 rfl
theorem dX8_seek_24 : decode cX8_seek 24 = .ok (.iconst 0, 1) := dcr zo_dX8_seek_0 14 rfl
theorem dX8_seek_25 : decode cX8_seek 25 = .ok (.invokevirtual 38, 3) := dcr zo_dX8_seek_0 15 rfl
theorem zo_dX8_seek_28 : ([(28, .return_, 1)] : List (Nat × Instr × Nat)).all (dOk (decode cX8_seek)) = true := by decide +kernel
theorem dX8_seek_28 : decode cX8_seek 28 = .ok (.return_, 1) := dcr zo_dX8_seek_28 0 rfl
def zt_wsX8_draw : List (List Cond) := [[.code yX8_draw cX8_draw 7 none], wsX8_draw_r1, wsX8_draw_r2, wsX80]
theorem zt_wsX8_draw_in : ∀ c ∈ zt_wsX8_draw, ∀ w ∈ c, w ∈ wsX8_draw := List.forall_mem_cons.mpr ⟨fun _ h => List.mem_cons.mpr (Or.inl (List.mem_singleton.mp h)), List.forall_mem_cons.mpr ⟨fun _ h => List.mem_cons_of_mem _ (List.mem_append_left _ (List.mem_append_left _ h)), List.forall_mem_cons.mpr ⟨fun _ h => List.mem_cons_of_mem _ (List.mem_append_left _ (List.mem_append_right _ (h))), List.forall_mem_cons.mpr ⟨fun _ h => List.mem_cons_of_mem _ (List.mem_append_right _ h), (fun _ h => absurd h List.not_mem_nil)⟩⟩⟩⟩
set_option maxRecDepth 20000 in
theorem zw_wsX8_weigh : wsX8_weigh.all goodWord = true := by decide +kernel
set_option maxRecDepth 20000 in
theorem ggX8_draw_X8_weigh : GoodIn wsX8_draw wsX8_weigh := goodIn_c zt_wsX8_draw_in _ [(1, 6), (1, 0), (1, 7), (1, 1), (1, 8), (1, 9), (1, 10), (1, 11), (1, 12), (3, 0), (3, 1), (3, 2), (3, 3), (3, 4)] rfl zw_wsX8_weigh
set_option maxRecDepth 20000 in
theorem gX8_draw_X8_weigh : GoodIn wsX8_draw (wsV RX8 42 RX8 yX8_weigh wsX8_weigh) := goodIn_app (goodIn_of _ (by decide +kernel)) ggX8_draw_X8_weigh
set_option maxRecDepth 20000 in
theorem zw_wsX9_isOf : wsX9_isOf.all goodWord = true := by decide +kernel
set_option maxRecDepth 20000 in
theorem ggX8_draw_X9_isOf : GoodIn wsX8_draw wsX9_isOf := goodIn_c zt_wsX8_draw_in _ [(1, 15), (1, 16), (1, 17), (1, 14), (1, 18)] rfl zw_wsX9_isOf
set_option maxRecDepth 20000 in
theorem gX8_draw_X9_isOf_n46 : GoodIn wsX8_draw (wsX9_isOf) := ggX8_draw_X9_isOf
set_option maxRecDepth 20000 in
theorem ggX8_draw_X8_draw : GoodIn wsX8_draw wsX8_draw := goodIn_c zt_wsX8_draw_in _ [(0, 0), (1, 0), (1, 1), (1, 2), (1, 3), (1, 4), (1, 5), (1, 6), (1, 7), (1, 8), (1, 9), (1, 10), (1, 11), (1, 12), (1, 13), (1, 14), (1, 15), (1, 16), (1, 17), (1, 18), (1, 19), (1, 20), (1, 21), (1, 22), (1, 23), (2, 0), (2, 1), (2, 2), (2, 3), (2, 4), (2, 5), (2, 6), (3, 0), (3, 1), (3, 2), (3, 3), (3, 4)] rfl zw_wsX8_draw
set_option maxRecDepth 20000 in
theorem gX8_draw_X8_draw : GoodIn wsX8_draw (wsV RX8 38 RX8 yX8_draw wsX8_draw) := goodIn_app (goodIn_of _ (by decide +kernel)) ggX8_draw_X8_draw
set_option maxRecDepth 20000 in
theorem zw_wsX8_slipsOf : wsX8_slipsOf.all goodWord = true := by decide +kernel
set_option maxRecDepth 20000 in
theorem ggX8_draw_X8_slipsOf : GoodIn wsX8_draw wsX8_slipsOf := goodIn_c zt_wsX8_draw_in _ [(2, 1), (2, 2), (1, 17), (1, 14), (1, 18), (3, 0), (3, 1), (3, 2), (3, 3), (3, 4)] rfl zw_wsX8_slipsOf
set_option maxRecDepth 20000 in
theorem gX8_draw_X8_slipsOf : GoodIn wsX8_draw (wsV RX8 50 RX8 yX8_slipsOf wsX8_slipsOf) := goodIn_app (goodIn_of _ (by decide +kernel)) ggX8_draw_X8_slipsOf
set_option maxRecDepth 20000 in
theorem zw_wsX8_comesOf : wsX8_comesOf.all goodWord = true := by decide +kernel
set_option maxRecDepth 20000 in
theorem ggX8_draw_X8_comesOf : GoodIn wsX8_draw wsX8_comesOf := goodIn_c zt_wsX8_draw_in _ [(2, 6), (1, 1), (1, 17), (1, 14), (1, 18), (3, 0), (3, 1), (3, 2), (3, 3), (3, 4)] rfl zw_wsX8_comesOf
set_option maxRecDepth 20000 in
theorem gX8_draw_X8_comesOf : GoodIn wsX8_draw (wsV RX8 54 RX8 yX8_comesOf wsX8_comesOf) := goodIn_app (goodIn_of _ (by decide +kernel)) ggX8_draw_X8_comesOf
theorem zo_dX8_draw_0 : ([(0, .aload_n 0, 1), (1, .getfield 25, 3), (4, .ifCond .lt 12, 3), (7, .iload_n 3, 1), (8, .aload_n 0, 1), (9, .getfield 25, 3), (12, .if_icmp .le 4, 3), (15, .return_, 1), (16, .iload_n 2, 1), (17, .ifCond .lt 9, 3), (20, .iload_n 2, 1), (21, .bipush 6, 2), (23, .if_icmp .lt 14, 3), (26, .iload 4, 2), (28, .ifCond .eq 8, 3), (31, .aload_n 0, 1)] : List (Nat × Instr × Nat)).all (dOk (decode cX8_draw)) = true := by decide +kernel
theorem dX8_draw_0 : decode cX8_draw 0 = .ok (.aload_n 0, 1) := dcr zo_dX8_draw_0 0 rfl
theorem dX8_draw_1 : decode cX8_draw 1 = .ok (.getfield 25, 3) := dcr zo_dX8_draw_0 1 rfl
theorem dX8_draw_4 : decode cX8_draw 4 = .ok (.ifCond .lt 12, 3) := dcr zo_dX8_draw_0 2 rfl
theorem dX8_draw_7 : decode cX8_draw 7 = .ok (.iload_n 3, 1) := dcr zo_dX8_draw_0 3 rfl
theorem dX8_draw_8 : decode cX8_draw 8 = .ok (.aload_n 0, 1) := dcr zo_dX8_draw_0 4 rfl
theorem dX8_draw_9 : decode cX8_draw 9 = .ok (.getfield 25, 3) := dcr zo_dX8_draw_0 5 rfl
theorem dX8_draw_12 : decode cX8_draw 12 = .ok (.if_icmp .le 4, 3) := dcr zo_dX8_draw_0 6 rfl
theorem dX8_draw_15 : decode cX8_draw 15 = .ok (.return_, 1) := dcr zo_dX8_draw_0 7 rfl
theorem dX8_draw_16 : decode cX8_draw 16 = .ok (.iload_n 2, 1) := dcr zo_dX8_draw_0 8 rfl
theorem dX8_draw_17 : decode cX8_draw 17 = .ok (.ifCond .lt 9, 3) := dcr zo_dX8_draw_0 9 rfl
theorem dX8_draw_20 : decode cX8_draw 20 = .ok (.iload_n 2, 1) := dcr zo_dX8_draw_0 10 rfl
theorem dX8_draw_21 : decode cX8_draw 21 = .ok (.bipush 6, 2) := dcr zo_dX8_draw_0 11 rfl
theorem dX8_draw_23 : decode cX8_draw 23 = .ok (.if_icmp .lt 14, 3) := dcr zo_dX8_draw_0 12 rfl
theorem dX8_draw_26 : decode cX8_draw 26 = .ok (.iload 4, 2) := dcr zo_dX8_draw_0 13 rfl
theorem dX8_draw_28 : decode cX8_draw 28 = .ok (.ifCond .eq 8, 3) := dcr zo_dX8_draw_0 14 rfl
theorem dX8_draw_31 : decode cX8_draw 31 = .ok (.aload_n 0, 1) := dcr zo_dX8_draw_0 15 rfl
theorem zo_dX8_draw_32 : ([(32, .iload_n 3, 1), (33, .invokevirtual 42, 3), (36, .return_, 1), (37, .iload_n 1, 1), (38, .iload_n 2, 1), (39, .invokestatic 46, 3), (42, .ifCond .ne 15, 3), (45, .aload_n 0, 1), (46, .iload_n 1, 1), (47, .iload_n 2, 1), (48, .iconst 1, 1), (49, .iadd, 1), (50, .iload_n 3, 1), (51, .iload 4, 2), (53, .invokevirtual 38, 3), (56, .return_, 1)] : List (Nat × Instr × Nat)).all (dOk (decode cX8_draw)) = true := by decide +kernel
theorem dX8_draw_32 : decode cX8_draw 32 = .ok (.iload_n 3, 1) := dcr zo_dX8_draw_32 0 rfl
theorem dX8_draw_33 : decode cX8_draw 33 = .ok (.invokevirtual 42, 3) := dcr zo_dX8_draw_32 1 rfl
theorem dX8_draw_36 : decode cX8_draw 36 = .ok (.return_, 1) := dcr zo_dX8_draw_32 2 rfl
theorem dX8_draw_37 : decode cX8_draw 37 = .ok (.iload_n 1, 1) := dcr zo_dX8_draw_32 3 rfl
theorem dX8_draw_38 : decode cX8_draw 38 = .ok (.iload_n 2, 1) := dcr zo_dX8_draw_32 4 rfl
theorem dX8_draw_39 : decode cX8_draw 39 = .ok (.invokestatic 46, 3) := dcr zo_dX8_draw_32 5 rfl
theorem dX8_draw_42 : decode cX8_draw 42 = .ok (.ifCond .ne 15, 3) := dcr zo_dX8_draw_32 6 rfl
theorem dX8_draw_45 : decode cX8_draw 45 = .ok (.aload_n 0, 1) := dcr zo_dX8_draw_32 7 rfl
theorem dX8_draw_46 : decode cX8_draw 46 = .ok (.iload_n 1, 1) := dcr zo_dX8_draw_32 8 rfl
theorem dX8_draw_47 : decode cX8_draw 47 = .ok (.iload_n 2, 1) := dcr zo_dX8_draw_32 9 rfl
theorem dX8_draw_48 : decode cX8_draw 48 = .ok (.iconst 1, 1) := dcr zo_dX8_draw_32 10 rfl
theorem dX8_draw_49 : decode cX8_draw 49 = .ok (.iadd, 1) := dcr zo_dX8_draw_32 11 rfl
theorem dX8_draw_50 : decode cX8_draw 50 = .ok (.iload_n 3, 1) := dcr zo_dX8_draw_32 12 rfl
theorem dX8_draw_51 : decode cX8_draw 51 = .ok (.iload 4, 2) := dcr zo_dX8_draw_32 13 rfl
theorem dX8_draw_53 : decode cX8_draw 53 = .ok (.invokevirtual 38, 3) := dcr zo_dX8_draw_32 14 rfl
theorem dX8_draw_56 : decode cX8_draw 56 = .ok (.return_, 1) := dcr zo_dX8_draw_32 15 rfl
theorem zo_dX8_draw_57 : ([(57, .iconst 0, 1), (58, .istore 5, 2), (60, .iload 5, 2), (62, .bipush 6, 2), (64, .if_icmp .ge 64, 3), (67, .aload_n 0, 1), (68, .iload 5, 2), (70, .iload_n 2, 1), (71, .invokevirtual 50, 3), (74, .istore 6, 2), (76, .iload_n 1, 1), (77, .iload 5, 2), (79, .invokestatic 46, 3), (82, .ifCond .eq 40, 3), (85, .iload 6, 2), (87, .ifCond .lt 35, 3)] : List (Nat × Instr × Nat)).all (dOk (decode cX8_draw)) = true := by decide +kernel
theorem dX8_draw_57 : decode cX8_draw 57 = .ok (.iconst 0, 1) := dcr zo_dX8_draw_57 0 rfl
theorem dX8_draw_58 : decode cX8_draw 58 = .ok (.istore 5, 2) := dcr zo_dX8_draw_57 1 rfl
theorem dX8_draw_60 : decode cX8_draw 60 = .ok (.iload 5, 2) := dcr zo_dX8_draw_57 2 rfl
theorem dX8_draw_62 : decode cX8_draw 62 = .ok (.bipush 6, 2) := dcr zo_dX8_draw_57 3 rfl
theorem dX8_draw_64 : decode cX8_draw 64 = .ok (.if_icmp .ge 64, 3) := dcr zo_dX8_draw_57 4 rfl
theorem dX8_draw_67 : decode cX8_draw 67 = .ok (.aload_n 0, 1) := dcr zo_dX8_draw_57 5 rfl
theorem dX8_draw_68 : decode cX8_draw 68 = .ok (.iload 5, 2) := dcr zo_dX8_draw_57 6 rfl
theorem dX8_draw_70 : decode cX8_draw 70 = .ok (.iload_n 2, 1) := dcr zo_dX8_draw_57 7 rfl
theorem dX8_draw_71 : decode cX8_draw 71 = .ok (.invokevirtual 50, 3) := dcr zo_dX8_draw_57 8 rfl
theorem dX8_draw_74 : decode cX8_draw 74 = .ok (.istore 6, 2) := dcr zo_dX8_draw_57 9 rfl
theorem dX8_draw_76 : decode cX8_draw 76 = .ok (.iload_n 1, 1) := dcr zo_dX8_draw_57 10 rfl
theorem dX8_draw_77 : decode cX8_draw 77 = .ok (.iload 5, 2) := dcr zo_dX8_draw_57 11 rfl
theorem dX8_draw_79 : decode cX8_draw 79 = .ok (.invokestatic 46, 3) := dcr zo_dX8_draw_57 12 rfl
theorem dX8_draw_82 : decode cX8_draw 82 = .ok (.ifCond .eq 40, 3) := dcr zo_dX8_draw_57 13 rfl
theorem dX8_draw_85 : decode cX8_draw 85 = .ok (.iload 6, 2) := dcr zo_dX8_draw_57 14 rfl
theorem dX8_draw_87 : decode cX8_draw 87 = .ok (.ifCond .lt 35, 3) := dcr zo_dX8_draw_57 15 rfl
theorem zo_dX8_draw_90 : ([(90, .aload_n 0, 1), (91, .iload 5, 2), (93, .iload_n 2, 1), (94, .invokevirtual 54, 3), (97, .ifCond .ne 25, 3), (100, .aload_n 0, 1), (101, .getfield 15, 3), (104, .iload_n 2, 1), (105, .iload 5, 2), (107, .iastore, 1), (108, .aload_n 0, 1), (109, .iload_n 1, 1), (110, .iload_n 2, 1), (111, .iconst 1, 1), (112, .iadd, 1), (113, .iload_n 3, 1)] : List (Nat × Instr × Nat)).all (dOk (decode cX8_draw)) = true := by decide +kernel
theorem dX8_draw_90 : decode cX8_draw 90 = .ok (.aload_n 0, 1) := dcr zo_dX8_draw_90 0 rfl
theorem dX8_draw_91 : decode cX8_draw 91 = .ok (.iload 5, 2) := dcr zo_dX8_draw_90 1 rfl
theorem dX8_draw_93 : decode cX8_draw 93 = .ok (.iload_n 2, 1) := dcr zo_dX8_draw_90 2 rfl
theorem dX8_draw_94 : decode cX8_draw 94 = .ok (.invokevirtual 54, 3) := dcr zo_dX8_draw_90 3 rfl
theorem dX8_draw_97 : decode cX8_draw 97 = .ok (.ifCond .ne 25, 3) := dcr zo_dX8_draw_90 4 rfl
theorem dX8_draw_100 : decode cX8_draw 100 = .ok (.aload_n 0, 1) := dcr zo_dX8_draw_90 5 rfl
theorem dX8_draw_101 : decode cX8_draw 101 = .ok (.getfield 15, 3) := dcr zo_dX8_draw_90 6 rfl
theorem dX8_draw_104 : decode cX8_draw 104 = .ok (.iload_n 2, 1) := dcr zo_dX8_draw_90 7 rfl
theorem dX8_draw_105 : decode cX8_draw 105 = .ok (.iload 5, 2) := dcr zo_dX8_draw_90 8 rfl
theorem dX8_draw_107 : decode cX8_draw 107 = .ok (.iastore, 1) := dcr zo_dX8_draw_90 9 rfl
theorem dX8_draw_108 : decode cX8_draw 108 = .ok (.aload_n 0, 1) := dcr zo_dX8_draw_90 10 rfl
theorem dX8_draw_109 : decode cX8_draw 109 = .ok (.iload_n 1, 1) := dcr zo_dX8_draw_90 11 rfl
theorem dX8_draw_110 : decode cX8_draw 110 = .ok (.iload_n 2, 1) := dcr zo_dX8_draw_90 12 rfl
theorem dX8_draw_111 : decode cX8_draw 111 = .ok (.iconst 1, 1) := dcr zo_dX8_draw_90 13 rfl
theorem dX8_draw_112 : decode cX8_draw 112 = .ok (.iadd, 1) := dcr zo_dX8_draw_90 14 rfl
theorem dX8_draw_113 : decode cX8_draw 113 = .ok (.iload_n 3, 1) := dcr zo_dX8_draw_90 15 rfl
theorem zo_dX8_draw_114 : ([(114, .iload 6, 2), (116, .iadd, 1), (117, .iload 4, 2), (119, .invokevirtual 38, 3), (122, .iinc 5 1, 3), (125, .goto (-65), 3), (128, .iload 4, 2), (130, .ifCond .ne 21, 3), (133, .aload_n 0, 1), (134, .getfield 15, 3), (137, .iload_n 2, 1), (138, .bipush 6, 2), (140, .iastore, 1), (141, .aload_n 0, 1), (142, .iload_n 1, 1), (143, .iload_n 2, 1)] : List (Nat × Instr × Nat)).all (dOk (decode cX8_draw)) = true := by decide +kernel
theorem dX8_draw_114 : decode cX8_draw 114 = .ok (.iload 6, 2) := dcr zo_dX8_draw_114 0 rfl
theorem dX8_draw_116 : decode cX8_draw 116 = .ok (.iadd, 1) := dcr zo_dX8_draw_114 1 rfl
theorem dX8_draw_117 : decode cX8_draw 117 = .ok (.iload 4, 2) := dcr zo_dX8_draw_114 2 rfl
theorem dX8_draw_119 : decode cX8_draw 119 = .ok (.invokevirtual 38, 3) := dcr zo_dX8_draw_114 3 rfl
theorem dX8_draw_122 : decode cX8_draw 122 = .ok (.iinc 5 1, 3) := dcr zo_dX8_draw_114 4 rfl
theorem dX8_draw_125 : decode cX8_draw 125 = .ok (.goto (-65), 3) := dcr zo_dX8_draw_114 5 rfl
theorem dX8_draw_128 : decode cX8_draw 128 = .ok (.iload 4, 2) := dcr zo_dX8_draw_114 6 rfl
theorem dX8_draw_130 : decode cX8_draw 130 = .ok (.ifCond .ne 21, 3) := dcr zo_dX8_draw_114 7 rfl
theorem dX8_draw_133 : decode cX8_draw 133 = .ok (.aload_n 0, 1) := dcr zo_dX8_draw_114 8 rfl
theorem dX8_draw_134 : decode cX8_draw 134 = .ok (.getfield 15, 3) := dcr zo_dX8_draw_114 9 rfl
theorem dX8_draw_137 : decode cX8_draw 137 = .ok (.iload_n 2, 1) := dcr zo_dX8_draw_114 10 rfl
theorem dX8_draw_138 : decode cX8_draw 138 = .ok (.bipush 6, 2) := dcr zo_dX8_draw_114 11 rfl
theorem dX8_draw_140 : decode cX8_draw 140 = .ok (.iastore, 1) := dcr zo_dX8_draw_114 12 rfl
theorem dX8_draw_141 : decode cX8_draw 141 = .ok (.aload_n 0, 1) := dcr zo_dX8_draw_114 13 rfl
theorem dX8_draw_142 : decode cX8_draw 142 = .ok (.iload_n 1, 1) := dcr zo_dX8_draw_114 14 rfl
theorem dX8_draw_143 : decode cX8_draw 143 = .ok (.iload_n 2, 1) := dcr zo_dX8_draw_114 15 rfl
theorem zo_dX8_draw_144 : ([(144, .iconst 1, 1), (145, .iadd, 1), (146, .iload_n 3, 1), (147, .iconst 1, 1), (148, .invokevirtual 38, 3), (151, .aload_n 0, 1), (152, .getfield 15, 3), (155, .iload_n 2, 1), (156, .bipush 7, 2), (158, .iastore, 1), (159, .return_, 1)] : List (Nat × Instr × Nat)).all (dOk (decode cX8_draw)) = true := by decide +kernel
theorem dX8_draw_144 : decode cX8_draw 144 = .ok (.iconst 1, 1) := dcr zo_dX8_draw_144 0 rfl
theorem dX8_draw_145 : decode cX8_draw 145 = .ok (.iadd, 1) := dcr zo_dX8_draw_144 1 rfl
theorem dX8_draw_146 : decode cX8_draw 146 = .ok (.iload_n 3, 1) := dcr zo_dX8_draw_144 2 rfl
theorem dX8_draw_147 : decode cX8_draw 147 = .ok (.iconst 1, 1) := dcr zo_dX8_draw_144 3 rfl
theorem dX8_draw_148 : decode cX8_draw 148 = .ok (.invokevirtual 38, 3) := dcr zo_dX8_draw_144 4 rfl
theorem dX8_draw_151 : decode cX8_draw 151 = .ok (.aload_n 0, 1) := dcr zo_dX8_draw_144 5 rfl
theorem dX8_draw_152 : decode cX8_draw 152 = .ok (.getfield 15, 3) := dcr zo_dX8_draw_144 6 rfl
theorem dX8_draw_155 : decode cX8_draw 155 = .ok (.iload_n 2, 1) := dcr zo_dX8_draw_144 7 rfl
theorem dX8_draw_156 : decode cX8_draw 156 = .ok (.bipush 7, 2) := dcr zo_dX8_draw_144 8 rfl
theorem dX8_draw_158 : decode cX8_draw 158 = .ok (.iastore, 1) := dcr zo_dX8_draw_144 9 rfl
theorem dX8_draw_159 : decode cX8_draw 159 = .ok (.return_, 1) := dcr zo_dX8_draw_144 10 rfl
def zt_wsX8_comesOf : List (List Cond) := [[.code yX8_comesOf cX8_comesOf 5 (some .boolean)], [.fieldLink RX8 15 "LastMap$Trees" "from" "[I", .static yX9_isMap, .initialized RX9, .code yX9_isMap cX9_isMap 1 (some .boolean)], wsX80]
theorem zt_wsX8_comesOf_in : ∀ c ∈ zt_wsX8_comesOf, ∀ w ∈ c, w ∈ wsX8_comesOf := List.forall_mem_cons.mpr ⟨fun _ h => List.mem_cons.mpr (Or.inl (List.mem_singleton.mp h)), List.forall_mem_cons.mpr ⟨fun _ h => List.mem_cons_of_mem _ (List.mem_append_left _ (h)), List.forall_mem_cons.mpr ⟨fun _ h => List.mem_cons_of_mem _ (List.mem_append_right _ h), (fun _ h => absurd h List.not_mem_nil)⟩⟩⟩
set_option maxRecDepth 20000 in
theorem ggX8_comesOf_X9_isMap : GoodIn wsX8_comesOf wsX9_isMap := goodIn_c zt_wsX8_comesOf_in _ [(1, 3)] rfl zw_wsX9_isMap
set_option maxRecDepth 20000 in
theorem gX8_comesOf_X9_isMap_n21 : GoodIn wsX8_comesOf (wsX9_isMap) := ggX8_comesOf_X9_isMap
theorem zo_dX8_comesOf_0 : ([(0, .iload_n 1, 1), (1, .istore_n 3, 1), (2, .iconst 0, 1), (3, .istore 4, 2), (5, .iload 4, 2), (7, .bipush 6, 2), (9, .if_icmp .ge 30, 3), (12, .iload_n 3, 1), (13, .invokestatic 21, 3), (16, .ifCond .eq 23, 3), (19, .iload_n 3, 1), (20, .iload_n 2, 1), (21, .if_icmp .ne 5, 3), (24, .iconst 1, 1), (25, .ireturn, 1), (26, .aload_n 0, 1)] : List (Nat × Instr × Nat)).all (dOk (decode cX8_comesOf)) = true := by decide +kernel
theorem dX8_comesOf_0 : decode cX8_comesOf 0 = .ok (.iload_n 1, 1) := dcr zo_dX8_comesOf_0 0 rfl
theorem dX8_comesOf_1 : decode cX8_comesOf 1 = .ok (.istore_n 3, 1) := dcr zo_dX8_comesOf_0 1 rfl
theorem dX8_comesOf_2 : decode cX8_comesOf 2 = .ok (.iconst 0, 1) := dcr zo_dX8_comesOf_0 2 rfl
theorem dX8_comesOf_3 : decode cX8_comesOf 3 = .ok (.istore 4, 2) := dcr zo_dX8_comesOf_0 3 rfl
theorem dX8_comesOf_5 : decode cX8_comesOf 5 = .ok (.iload 4, 2) := dcr zo_dX8_comesOf_0 4 rfl
theorem dX8_comesOf_7 : decode cX8_comesOf 7 = .ok (.bipush 6, 2) := dcr zo_dX8_comesOf_0 5 rfl
theorem dX8_comesOf_9 : decode cX8_comesOf 9 = .ok (.if_icmp .ge 30, 3) := dcr zo_dX8_comesOf_0 6 rfl
theorem dX8_comesOf_12 : decode cX8_comesOf 12 = .ok (.iload_n 3, 1) := dcr zo_dX8_comesOf_0 7 rfl
theorem dX8_comesOf_13 : decode cX8_comesOf 13 = .ok (.invokestatic 21, 3) := dcr zo_dX8_comesOf_0 8 rfl
theorem dX8_comesOf_16 : decode cX8_comesOf 16 = .ok (.ifCond .eq 23, 3) := dcr zo_dX8_comesOf_0 9 rfl
theorem dX8_comesOf_19 : decode cX8_comesOf 19 = .ok (.iload_n 3, 1) := dcr zo_dX8_comesOf_0 10 rfl
theorem dX8_comesOf_20 : decode cX8_comesOf 20 = .ok (.iload_n 2, 1) := dcr zo_dX8_comesOf_0 11 rfl
theorem dX8_comesOf_21 : decode cX8_comesOf 21 = .ok (.if_icmp .ne 5, 3) := dcr zo_dX8_comesOf_0 12 rfl
theorem dX8_comesOf_24 : decode cX8_comesOf 24 = .ok (.iconst 1, 1) := dcr zo_dX8_comesOf_0 13 rfl
theorem dX8_comesOf_25 : decode cX8_comesOf 25 = .ok (.ireturn, 1) := dcr zo_dX8_comesOf_0 14 rfl
theorem dX8_comesOf_26 : decode cX8_comesOf 26 = .ok (.aload_n 0, 1) := dcr zo_dX8_comesOf_0 15 rfl
theorem zo_dX8_comesOf_27 : ([(27, .getfield 15, 3), (30, .iload_n 3, 1), (31, .iaload, 1), (32, .istore_n 3, 1), (33, .iinc 4 1, 3), (36, .goto (-31), 3), (39, .iconst 0, 1), (40, .ireturn, 1)] : List (Nat × Instr × Nat)).all (dOk (decode cX8_comesOf)) = true := by decide +kernel
theorem dX8_comesOf_27 : decode cX8_comesOf 27 = .ok (.getfield 15, 3) := dcr zo_dX8_comesOf_27 0 rfl
theorem dX8_comesOf_30 : decode cX8_comesOf 30 = .ok (.iload_n 3, 1) := dcr zo_dX8_comesOf_27 1 rfl
theorem dX8_comesOf_31 : decode cX8_comesOf 31 = .ok (.iaload, 1) := dcr zo_dX8_comesOf_27 2 rfl
theorem dX8_comesOf_32 : decode cX8_comesOf 32 = .ok (.istore_n 3, 1) := dcr zo_dX8_comesOf_27 3 rfl
theorem dX8_comesOf_33 : decode cX8_comesOf 33 = .ok (.iinc 4 1, 3) := dcr zo_dX8_comesOf_27 4 rfl
theorem dX8_comesOf_36 : decode cX8_comesOf 36 = .ok (.goto (-31), 3) := dcr zo_dX8_comesOf_27 5 rfl
theorem dX8_comesOf_39 : decode cX8_comesOf 39 = .ok (.iconst 0, 1) := dcr zo_dX8_comesOf_27 6 rfl
theorem dX8_comesOf_40 : decode cX8_comesOf 40 = .ok (.ireturn, 1) := dcr zo_dX8_comesOf_27 7 rfl
theorem zo_dX8_weigh_0 : ([(0, .aload_n 0, 1), (1, .getfield 25, 3), (4, .ifCond .lt 11, 3), (7, .iload_n 1, 1), (8, .aload_n 0, 1), (9, .getfield 25, 3), (12, .if_icmp .ge 28, 3), (15, .aload_n 0, 1), (16, .iload_n 1, 1), (17, .putfield 25, 3), (20, .aload_n 0, 1), (21, .iconst 0, 1), (22, .putfield 29, 3), (25, .aload_n 0, 1), (26, .getfield 15, 3), (29, .iconst 0, 1)] : List (Nat × Instr × Nat)).all (dOk (decode cX8_weigh)) = true := by decide +kernel
theorem dX8_weigh_0 : decode cX8_weigh 0 = .ok (.aload_n 0, 1) := dcr zo_dX8_weigh_0 0 rfl
theorem dX8_weigh_1 : decode cX8_weigh 1 = .ok (.getfield 25, 3) := dcr zo_dX8_weigh_0 1 rfl
theorem dX8_weigh_4 : decode cX8_weigh 4 = .ok (.ifCond .lt 11, 3) := dcr zo_dX8_weigh_0 2 rfl
theorem dX8_weigh_7 : decode cX8_weigh 7 = .ok (.iload_n 1, 1) := dcr zo_dX8_weigh_0 3 rfl
theorem dX8_weigh_8 : decode cX8_weigh 8 = .ok (.aload_n 0, 1) := dcr zo_dX8_weigh_0 4 rfl
theorem dX8_weigh_9 : decode cX8_weigh 9 = .ok (.getfield 25, 3) := dcr zo_dX8_weigh_0 5 rfl
theorem dX8_weigh_12 : decode cX8_weigh 12 = .ok (.if_icmp .ge 28, 3) := dcr zo_dX8_weigh_0 6 rfl
theorem dX8_weigh_15 : decode cX8_weigh 15 = .ok (.aload_n 0, 1) := dcr zo_dX8_weigh_0 7 rfl
theorem dX8_weigh_16 : decode cX8_weigh 16 = .ok (.iload_n 1, 1) := dcr zo_dX8_weigh_0 8 rfl
theorem dX8_weigh_17 : decode cX8_weigh 17 = .ok (.putfield 25, 3) := dcr zo_dX8_weigh_0 9 rfl
theorem dX8_weigh_20 : decode cX8_weigh 20 = .ok (.aload_n 0, 1) := dcr zo_dX8_weigh_0 10 rfl
theorem dX8_weigh_21 : decode cX8_weigh 21 = .ok (.iconst 0, 1) := dcr zo_dX8_weigh_0 11 rfl
theorem dX8_weigh_22 : decode cX8_weigh 22 = .ok (.putfield 29, 3) := dcr zo_dX8_weigh_0 12 rfl
theorem dX8_weigh_25 : decode cX8_weigh 25 = .ok (.aload_n 0, 1) := dcr zo_dX8_weigh_0 13 rfl
theorem dX8_weigh_26 : decode cX8_weigh 26 = .ok (.getfield 15, 3) := dcr zo_dX8_weigh_0 14 rfl
theorem dX8_weigh_29 : decode cX8_weigh 29 = .ok (.iconst 0, 1) := dcr zo_dX8_weigh_0 15 rfl
theorem zo_dX8_weigh_30 : ([(30, .aload_n 0, 1), (31, .getfield 18, 3), (34, .iconst 0, 1), (35, .bipush 6, 2), (37, .invokestatic 57, 3), (40, .aload_n 0, 1), (41, .dup, 1), (42, .getfield 29, 3), (45, .iconst 1, 1), (46, .iadd, 1), (47, .putfield 29, 3), (50, .return_, 1)] : List (Nat × Instr × Nat)).all (dOk (decode cX8_weigh)) = true := by decide +kernel
theorem dX8_weigh_30 : decode cX8_weigh 30 = .ok (.aload_n 0, 1) := dcr zo_dX8_weigh_30 0 rfl
theorem dX8_weigh_31 : decode cX8_weigh 31 = .ok (.getfield 18, 3) := dcr zo_dX8_weigh_30 1 rfl
theorem dX8_weigh_34 : decode cX8_weigh 34 = .ok (.iconst 0, 1) := dcr zo_dX8_weigh_30 2 rfl
theorem dX8_weigh_35 : decode cX8_weigh 35 = .ok (.bipush 6, 2) := dcr zo_dX8_weigh_30 3 rfl
theorem dX8_weigh_37 : decode cX8_weigh 37 = .ok (.invokestatic 57, 3) := dcr zo_dX8_weigh_30 4 rfl
theorem dX8_weigh_40 : decode cX8_weigh 40 = .ok (.aload_n 0, 1) := dcr zo_dX8_weigh_30 5 rfl
theorem dX8_weigh_41 : decode cX8_weigh 41 = .ok (.dup, 1) := dcr zo_dX8_weigh_30 6 rfl
theorem dX8_weigh_42 : decode cX8_weigh 42 = .ok (.getfield 29, 3) := dcr zo_dX8_weigh_30 7 rfl
theorem dX8_weigh_45 : decode cX8_weigh 45 = .ok (.iconst 1, 1) := dcr zo_dX8_weigh_30 8 rfl
theorem dX8_weigh_46 : decode cX8_weigh 46 = .ok (.iadd, 1) := dcr zo_dX8_weigh_30 9 rfl
theorem dX8_weigh_47 : decode cX8_weigh 47 = .ok (.putfield 29, 3) := dcr zo_dX8_weigh_30 10 rfl
theorem dX8_weigh_50 : decode cX8_weigh 50 = .ok (.return_, 1) := dcr zo_dX8_weigh_30 11 rfl
def zt_wsX8_answer : List (List Cond) := [[.code yX8_answer cX8_answer 3 (some .int)], [.fieldLink RX8 25 "LastMap$Trees" "least" "I", .fieldLink RX8 29 "LastMap$Trees" "many" "I", .fieldLink RX8 18 "LastMap$Trees" "best" "[I", .static yX9_isMap, .initialized RX9, .code yX9_isMap cX9_isMap 1 (some .boolean)], wsX80]
theorem zt_wsX8_answer_in : ∀ c ∈ zt_wsX8_answer, ∀ w ∈ c, w ∈ wsX8_answer := List.forall_mem_cons.mpr ⟨fun _ h => List.mem_cons.mpr (Or.inl (List.mem_singleton.mp h)), List.forall_mem_cons.mpr ⟨fun _ h => List.mem_cons_of_mem _ (List.mem_append_left _ (h)), List.forall_mem_cons.mpr ⟨fun _ h => List.mem_cons_of_mem _ (List.mem_append_right _ h), (fun _ h => absurd h List.not_mem_nil)⟩⟩⟩
set_option maxRecDepth 20000 in
theorem ggX8_answer_X9_isMap : GoodIn wsX8_answer wsX9_isMap := goodIn_c zt_wsX8_answer_in _ [(1, 5)] rfl zw_wsX9_isMap
set_option maxRecDepth 20000 in
theorem gX8_answer_X9_isMap_n21 : GoodIn wsX8_answer (wsX9_isMap) := ggX8_answer_X9_isMap
theorem zo_dX8_answer_0 : ([(0, .aload_n 0, 1), (1, .getfield 25, 3), (4, .ifCond .ge 6, 3), (7, .bipush (-6), 2), (9, .ireturn, 1), (10, .iload_n 1, 1), (11, .bipush 10, 2), (13, .if_icmp .ge 19, 3), (16, .iload_n 1, 1), (17, .ifCond .ne 10, 3), (20, .aload_n 0, 1), (21, .getfield 25, 3), (24, .goto 7, 3), (27, .aload_n 0, 1), (28, .getfield 29, 3), (31, .ireturn, 1)] : List (Nat × Instr × Nat)).all (dOk (decode cX8_answer)) = true := by decide +kernel
theorem dX8_answer_0 : decode cX8_answer 0 = .ok (.aload_n 0, 1) := dcr zo_dX8_answer_0 0 rfl
theorem dX8_answer_1 : decode cX8_answer 1 = .ok (.getfield 25, 3) := dcr zo_dX8_answer_0 1 rfl
theorem dX8_answer_4 : decode cX8_answer 4 = .ok (.ifCond .ge 6, 3) := dcr zo_dX8_answer_0 2 rfl
theorem dX8_answer_7 : decode cX8_answer 7 = .ok (.bipush (-6), 2) := dcr zo_dX8_answer_0 3 rfl
theorem dX8_answer_9 : decode cX8_answer 9 = .ok (.ireturn, 1) := dcr zo_dX8_answer_0 4 rfl
theorem dX8_answer_10 : decode cX8_answer 10 = .ok (.iload_n 1, 1) := dcr zo_dX8_answer_0 5 rfl
theorem dX8_answer_11 : decode cX8_answer 11 = .ok (.bipush 10, 2) := dcr zo_dX8_answer_0 6 rfl
theorem dX8_answer_13 : decode cX8_answer 13 = .ok (.if_icmp .ge 19, 3) := dcr zo_dX8_answer_0 7 rfl
theorem dX8_answer_16 : decode cX8_answer 16 = .ok (.iload_n 1, 1) := dcr zo_dX8_answer_0 8 rfl
theorem dX8_answer_17 : decode cX8_answer 17 = .ok (.ifCond .ne 10, 3) := dcr zo_dX8_answer_0 9 rfl
theorem dX8_answer_20 : decode cX8_answer 20 = .ok (.aload_n 0, 1) := dcr zo_dX8_answer_0 10 rfl
theorem dX8_answer_21 : decode cX8_answer 21 = .ok (.getfield 25, 3) := dcr zo_dX8_answer_0 11 rfl
theorem dX8_answer_24 : decode cX8_answer 24 = .ok (.goto 7, 3) := dcr zo_dX8_answer_0 12 rfl
theorem dX8_answer_27 : decode cX8_answer 27 = .ok (.aload_n 0, 1) := dcr zo_dX8_answer_0 13 rfl
theorem dX8_answer_28 : decode cX8_answer 28 = .ok (.getfield 29, 3) := dcr zo_dX8_answer_0 14 rfl
theorem dX8_answer_31 : decode cX8_answer 31 = .ok (.ireturn, 1) := dcr zo_dX8_answer_0 15 rfl
theorem zo_dX8_answer_32 : ([(32, .iload_n 1, 1), (33, .bipush 10, 2), (35, .isub, 1), (36, .istore_n 2, 1), (37, .iload_n 2, 1), (38, .invokestatic 21, 3), (41, .ifCond .eq 24, 3), (44, .aload_n 0, 1), (45, .getfield 18, 3), (48, .iload_n 2, 1), (49, .iaload, 1), (50, .invokestatic 21, 3), (53, .ifCond .eq 12, 3), (56, .aload_n 0, 1), (57, .getfield 18, 3), (60, .iload_n 2, 1)] : List (Nat × Instr × Nat)).all (dOk (decode cX8_answer)) = true := by decide +kernel
theorem dX8_answer_32 : decode cX8_answer 32 = .ok (.iload_n 1, 1) := dcr zo_dX8_answer_32 0 rfl
theorem dX8_answer_33 : decode cX8_answer 33 = .ok (.bipush 10, 2) := dcr zo_dX8_answer_32 1 rfl
theorem dX8_answer_35 : decode cX8_answer 35 = .ok (.isub, 1) := dcr zo_dX8_answer_32 2 rfl
theorem dX8_answer_36 : decode cX8_answer 36 = .ok (.istore_n 2, 1) := dcr zo_dX8_answer_32 3 rfl
theorem dX8_answer_37 : decode cX8_answer 37 = .ok (.iload_n 2, 1) := dcr zo_dX8_answer_32 4 rfl
theorem dX8_answer_38 : decode cX8_answer 38 = .ok (.invokestatic 21, 3) := dcr zo_dX8_answer_32 5 rfl
theorem dX8_answer_41 : decode cX8_answer 41 = .ok (.ifCond .eq 24, 3) := dcr zo_dX8_answer_32 6 rfl
theorem dX8_answer_44 : decode cX8_answer 44 = .ok (.aload_n 0, 1) := dcr zo_dX8_answer_32 7 rfl
theorem dX8_answer_45 : decode cX8_answer 45 = .ok (.getfield 18, 3) := dcr zo_dX8_answer_32 8 rfl
theorem dX8_answer_48 : decode cX8_answer 48 = .ok (.iload_n 2, 1) := dcr zo_dX8_answer_32 9 rfl
theorem dX8_answer_49 : decode cX8_answer 49 = .ok (.iaload, 1) := dcr zo_dX8_answer_32 10 rfl
theorem dX8_answer_50 : decode cX8_answer 50 = .ok (.invokestatic 21, 3) := dcr zo_dX8_answer_32 11 rfl
theorem dX8_answer_53 : decode cX8_answer 53 = .ok (.ifCond .eq 12, 3) := dcr zo_dX8_answer_32 12 rfl
theorem dX8_answer_56 : decode cX8_answer 56 = .ok (.aload_n 0, 1) := dcr zo_dX8_answer_32 13 rfl
theorem dX8_answer_57 : decode cX8_answer 57 = .ok (.getfield 18, 3) := dcr zo_dX8_answer_32 14 rfl
theorem dX8_answer_60 : decode cX8_answer 60 = .ok (.iload_n 2, 1) := dcr zo_dX8_answer_32 15 rfl
theorem zo_dX8_answer_61 : ([(61, .iaload, 1), (62, .goto 5, 3), (65, .bipush (-6), 2), (67, .ireturn, 1)] : List (Nat × Instr × Nat)).all (dOk (decode cX8_answer)) = true := by decide +kernel
theorem dX8_answer_61 : decode cX8_answer 61 = .ok (.iaload, 1) := dcr zo_dX8_answer_61 0 rfl
theorem dX8_answer_62 : decode cX8_answer 62 = .ok (.goto 5, 3) := dcr zo_dX8_answer_61 1 rfl
theorem dX8_answer_65 : decode cX8_answer 65 = .ok (.bipush (-6), 2) := dcr zo_dX8_answer_61 2 rfl
theorem dX8_answer_67 : decode cX8_answer 67 = .ok (.ireturn, 1) := dcr zo_dX8_answer_61 3 rfl
