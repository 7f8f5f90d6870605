/-! words of the tables that the constructors need; their code -/
theorem oi_in : Cond.instanceMethod objectInit ∈ tb := tm_1 (List.mem_of_getElem? (i := 27) rfl) (by decide)
theorem oi_cd : Cond.code objectInit ⟨#[0xb1]⟩ 1 none ∈ tb := tm_1 (List.mem_of_getElem? (i := 28) rfl) (by decide)
theorem aw_int : Cond.arrayClass .int ∈ tb := tm_1 (List.mem_of_getElem? (i := 70) rfl) (by decide)
theorem aw_byte : Cond.arrayClass .byte ∈ tb := tm_2 (List.mem_of_getElem? (i := 197) rfl) (by decide)
theorem aw_boolean : Cond.arrayClass .boolean ∈ tb := tm_1 (List.mem_of_getElem? (i := 113) rfl) (by decide)
def m_0_init : mt := (RX0, cX0_init, 1, none)
theorem cal_0_init : Cal yX0_init m_0_init 0 := ⟨tm_2 (List.mem_of_getElem? (i := 202) rfl) (by decide), tm_1 (List.mem_of_getElem? (i := 13) rfl) (by decide), ⟨by decide +kernel, by decide +kernel⟩, by decide +kernel, by decide⟩
theorem in_0_init : Cond.instanceMethod yX0_init ∈ tb := tm_2 (List.mem_of_getElem? (i := 201) rfl) (by decide)
theorem ist_0 : Cond.instantiable RX0 7 ∈ tb := tm_2 (List.mem_of_getElem? (i := 199) rfl) (by decide)
theorem izt_0 : Cond.initialized RX0 ∈ tb := tm_1 (List.mem_of_getElem? (i := 13) rfl) (by decide)
def tab_0_init : List (Nat × Instr × Nat) := [(0, .aload_n 0, 1), (1, .invokespecial 3, 3), (4, .aload_n 0, 1), (5, .bipush 30, 2), (7, .newarray .int, 2), (9, .putfield 11, 3), (12, .aload_n 0, 1), (13, .iconst 0, 1), (14, .putfield 15, 3), (17, .aload_n 0, 1), (18, .iconst 0, 1), (19, .putfield 19, 3), (22, .aload_n 0, 1), (23, .iconst 0, 1), (24, .putfield 22, 3), (27, .aload_n 0, 1), (28, .iconst 0, 1), (29, .putfield 25, 3), (32, .aload_n 0, 1), (33, .iconst 0, 1), (34, .putfield 28, 3), (37, .aload_n 0, 1), (38, .iconst 0, 1), (39, .putfield 31, 3), (42, .return_, 1)]
set_option maxRecDepth 100000 in
theorem dt_0_init : ∀ q ∈ tab_0_init, decode m_0_init.2.1 q.1 = .ok q.2 := by decide +kernel
theorem mi_0_3 : Cond.methodLink RX0 3 objectInit ∈ tb := tm_2 (List.mem_of_getElem? (i := 203) rfl) (by decide)
def m_1_init : mt := (RX1, cX1_init, 1, none)
theorem cal_1_init : Cal yX1_init m_1_init 0 := ⟨tm_1 (List.mem_of_getElem? (i := 233) rfl) (by decide), tm_1 (List.mem_of_getElem? (i := 10) rfl) (by decide), ⟨by decide +kernel, by decide +kernel⟩, by decide +kernel, by decide⟩
theorem in_1_init : Cond.instanceMethod yX1_init ∈ tb := tm_1 (List.mem_of_getElem? (i := 232) rfl) (by decide)
theorem ist_1 : Cond.instantiable RX1 12 ∈ tb := tm_1 (List.mem_of_getElem? (i := 230) rfl) (by decide)
theorem izt_1 : Cond.initialized RX1 ∈ tb := tm_1 (List.mem_of_getElem? (i := 10) rfl) (by decide)
def tab_1_init : List (Nat × Instr × Nat) := [(0, .aload_n 0, 1), (1, .invokespecial 1, 3), (4, .return_, 1)]
set_option maxRecDepth 100000 in
theorem dt_1_init : ∀ q ∈ tab_1_init, decode m_1_init.2.1 q.1 = .ok q.2 := by decide +kernel
theorem mi_1_1 : Cond.methodLink RX1 1 objectInit ∈ tb := tm_1 (List.mem_of_getElem? (i := 234) rfl) (by decide)
def m_2_init : mt := (RX2, cX2_init, 1, none)
theorem cal_2_init : Cal yX2_init m_2_init 0 := ⟨tm_1 (List.mem_of_getElem? (i := 151) rfl) (by decide), tm_1 (List.mem_of_getElem? (i := 6) rfl) (by decide), ⟨by decide +kernel, by decide +kernel⟩, by decide +kernel, by decide⟩
theorem in_2_init : Cond.instanceMethod yX2_init ∈ tb := tm_1 (List.mem_of_getElem? (i := 150) rfl) (by decide)
theorem ist_2 : Cond.instantiable RX2 6 ∈ tb := tm_1 (List.mem_of_getElem? (i := 148) rfl) (by decide)
theorem izt_2 : Cond.initialized RX2 ∈ tb := tm_1 (List.mem_of_getElem? (i := 6) rfl) (by decide)
def tab_2_init : List (Nat × Instr × Nat) := [(0, .aload_n 0, 1), (1, .invokespecial 3, 3), (4, .aload_n 0, 1), (5, .iconst 0, 1), (6, .putfield 9, 3), (9, .aload_n 0, 1), (10, .bipush 9, 2), (12, .newarray .int, 2), (14, .putfield 15, 3), (17, .aload_n 0, 1), (18, .bipush 9, 2), (20, .iconst 4, 1), (21, .multianewarray 19 2, 4), (25, .putfield 21, 3), (28, .aload_n 0, 1), (29, .iconst 0, 1), (30, .putfield 24, 3), (33, .aload_n 0, 1), (34, .iconst 0, 1), (35, .putfield 27, 3), (38, .aload_n 0, 1), (39, .iconst 4, 1), (40, .newarray .int, 2), (42, .putfield 30, 3), (45, .return_, 1)]
set_option maxRecDepth 100000 in
theorem dt_2_init : ∀ q ∈ tab_2_init, decode m_2_init.2.1 q.1 = .ok q.2 := by decide +kernel
theorem mi_2_3 : Cond.methodLink RX2 3 objectInit ∈ tb := tm_1 (List.mem_of_getElem? (i := 152) rfl) (by decide)
theorem ci_2_19 : Cond.classLink RX2 19 "[[I" ∈ tb := tm_1 (List.mem_of_getElem? (i := 153) rfl) (by decide)
def m_3_init : mt := (RX3, cX3_init, 1, none)
theorem cal_3_init : Cal yX3_init m_3_init 0 := ⟨tm_1 (List.mem_of_getElem? (i := 118) rfl) (by decide), tm_1 (List.mem_of_getElem? (i := 5) rfl) (by decide), ⟨by decide +kernel, by decide +kernel⟩, by decide +kernel, by decide⟩
theorem in_3_init : Cond.instanceMethod yX3_init ∈ tb := tm_1 (List.mem_of_getElem? (i := 117) rfl) (by decide)
theorem ist_3 : Cond.instantiable RX3 7 ∈ tb := tm_1 (List.mem_of_getElem? (i := 115) rfl) (by decide)
theorem izt_3 : Cond.initialized RX3 ∈ tb := tm_1 (List.mem_of_getElem? (i := 5) rfl) (by decide)
def tab_3_init : List (Nat × Instr × Nat) := [(0, .aload_n 0, 1), (1, .invokespecial 3, 3), (4, .aload_n 0, 1), (5, .bipush 9, 2), (7, .putfield 9, 3), (10, .aload_n 0, 1), (11, .iconst 0, 1), (12, .putfield 15, 3), (15, .aload_n 0, 1), (16, .iconst 0, 1), (17, .putfield 18, 3), (20, .aload_n 0, 1), (21, .iconst 4, 1), (22, .newarray .int, 2), (24, .putfield 21, 3), (27, .aload_n 0, 1), (28, .bipush 8, 2), (30, .newarray .int, 2), (32, .putfield 25, 3), (35, .aload_n 0, 1), (36, .bipush 8, 2), (38, .newarray .int, 2), (40, .putfield 28, 3), (43, .aload_n 0, 1), (44, .bipush 9, 2), (46, .bipush 16, 2), (48, .multianewarray 31 2, 4), (52, .putfield 33, 3), (55, .return_, 1)]
set_option maxRecDepth 100000 in
theorem dt_3_init : ∀ q ∈ tab_3_init, decode m_3_init.2.1 q.1 = .ok q.2 := by decide +kernel
theorem mi_3_3 : Cond.methodLink RX3 3 objectInit ∈ tb := tm_1 (List.mem_of_getElem? (i := 119) rfl) (by decide)
theorem ci_3_31 : Cond.classLink RX3 31 "[[I" ∈ tb := tm_1 (List.mem_of_getElem? (i := 120) rfl) (by decide)
def m_4_init : mt := (RX4, cX4_init, 1, none)
theorem cal_4_init : Cal yX4_init m_4_init 0 := ⟨tm_1 (List.mem_of_getElem? (i := 181) rfl) (by decide), tm_1 (List.mem_of_getElem? (i := 8) rfl) (by decide), ⟨by decide +kernel, by decide +kernel⟩, by decide +kernel, by decide⟩
theorem in_4_init : Cond.instanceMethod yX4_init ∈ tb := tm_1 (List.mem_of_getElem? (i := 180) rfl) (by decide)
theorem ist_4 : Cond.instantiable RX4 7 ∈ tb := tm_1 (List.mem_of_getElem? (i := 178) rfl) (by decide)
theorem izt_4 : Cond.initialized RX4 ∈ tb := tm_1 (List.mem_of_getElem? (i := 8) rfl) (by decide)
def tab_4_init : List (Nat × Instr × Nat) := [(0, .aload_n 0, 1), (1, .invokespecial 1, 3), (4, .return_, 1)]
set_option maxRecDepth 100000 in
theorem dt_4_init : ∀ q ∈ tab_4_init, decode m_4_init.2.1 q.1 = .ok q.2 := by decide +kernel
theorem mi_4_1 : Cond.methodLink RX4 1 objectInit ∈ tb := tm_1 (List.mem_of_getElem? (i := 182) rfl) (by decide)
def m_5_init : mt := (RX5, cX5_init, 1, none)
theorem cal_5_init : Cal yX5_init m_5_init 0 := ⟨tm_2 (List.mem_of_getElem? (i := 56) rfl) (by decide), tm_1 (List.mem_of_getElem? (i := 11) rfl) (by decide), ⟨by decide +kernel, by decide +kernel⟩, by decide +kernel, by decide⟩
theorem in_5_init : Cond.instanceMethod yX5_init ∈ tb := tm_2 (List.mem_of_getElem? (i := 55) rfl) (by decide)
theorem ist_5 : Cond.instantiable RX5 7 ∈ tb := tm_2 (List.mem_of_getElem? (i := 53) rfl) (by decide)
theorem izt_5 : Cond.initialized RX5 ∈ tb := tm_1 (List.mem_of_getElem? (i := 11) rfl) (by decide)
def tab_5_init : List (Nat × Instr × Nat) := [(0, .aload_n 0, 1), (1, .invokespecial 1, 3), (4, .aload_n 0, 1), (5, .iconst 0, 1), (6, .putfield 7, 3), (9, .aload_n 0, 1), (10, .bipush 10, 2), (12, .newarray .int, 2), (14, .putfield 13, 3), (17, .aload_n 0, 1), (18, .bipush 10, 2), (20, .newarray .int, 2), (22, .putfield 17, 3), (25, .aload_n 0, 1), (26, .bipush 10, 2), (28, .newarray .int, 2), (30, .putfield 20, 3), (33, .aload_n 0, 1), (34, .bipush 10, 2), (36, .newarray .int, 2), (38, .putfield 23, 3), (41, .aload_n 0, 1), (42, .iconst 0, 1), (43, .putfield 26, 3), (46, .aload_n 0, 1), (47, .sipush 300, 3), (50, .newarray .int, 2), (52, .putfield 31, 3), (55, .return_, 1)]
set_option maxRecDepth 100000 in
theorem dt_5_init : ∀ q ∈ tab_5_init, decode m_5_init.2.1 q.1 = .ok q.2 := by decide +kernel
theorem mi_5_1 : Cond.methodLink RX5 1 objectInit ∈ tb := tm_2 (List.mem_of_getElem? (i := 57) rfl) (by decide)
def m_6_init : mt := (RX6, cX6_init, 1, none)
theorem cal_6_init : Cal yX6_init m_6_init 0 := ⟨tm_1 (List.mem_of_getElem? (i := 214) rfl) (by decide), tm_1 (List.mem_of_getElem? (i := 9) rfl) (by decide), ⟨by decide +kernel, by decide +kernel⟩, by decide +kernel, by decide⟩
theorem in_6_init : Cond.instanceMethod yX6_init ∈ tb := tm_1 (List.mem_of_getElem? (i := 213) rfl) (by decide)
theorem ist_6 : Cond.instantiable RX6 3 ∈ tb := tm_1 (List.mem_of_getElem? (i := 211) rfl) (by decide)
theorem izt_6 : Cond.initialized RX6 ∈ tb := tm_1 (List.mem_of_getElem? (i := 9) rfl) (by decide)
def tab_6_init : List (Nat × Instr × Nat) := [(0, .aload_n 0, 1), (1, .invokespecial 1, 3), (4, .return_, 1)]
set_option maxRecDepth 100000 in
theorem dt_6_init : ∀ q ∈ tab_6_init, decode m_6_init.2.1 q.1 = .ok q.2 := by decide +kernel
theorem mi_6_1 : Cond.methodLink RX6 1 objectInit ∈ tb := tm_1 (List.mem_of_getElem? (i := 215) rfl) (by decide)
def m_7_init : mt := (RX7, cX7_init, 1, none)
theorem cal_7_init : Cal yX7_init m_7_init 0 := ⟨tm_1 (List.mem_of_getElem? (i := 75) rfl) (by decide), tm_1 (List.mem_of_getElem? (i := 4) rfl) (by decide), ⟨by decide +kernel, by decide +kernel⟩, by decide +kernel, by decide⟩
theorem in_7_init : Cond.instanceMethod yX7_init ∈ tb := tm_1 (List.mem_of_getElem? (i := 74) rfl) (by decide)
theorem ist_7 : Cond.instantiable RX7 10 ∈ tb := tm_1 (List.mem_of_getElem? (i := 72) rfl) (by decide)
theorem izt_7 : Cond.initialized RX7 ∈ tb := tm_1 (List.mem_of_getElem? (i := 4) rfl) (by decide)
def tab_7_init : List (Nat × Instr × Nat) := [(0, .aload_n 0, 1), (1, .invokespecial 3, 3), (4, .aload_n 0, 1), (5, .iconst 0, 1), (6, .putfield 9, 3), (9, .aload_n 0, 1), (10, .bipush 12, 2), (12, .newarray .int, 2), (14, .putfield 15, 3), (17, .aload_n 0, 1), (18, .bipush 12, 2), (20, .newarray .int, 2), (22, .putfield 19, 3), (25, .aload_n 0, 1), (26, .bipush 12, 2), (28, .newarray .int, 2), (30, .putfield 22, 3), (33, .aload_n 0, 1), (34, .iconst 0, 1), (35, .putfield 25, 3), (38, .aload_n 0, 1), (39, .bipush 12, 2), (41, .newarray .int, 2), (43, .putfield 28, 3), (46, .aload_n 0, 1), (47, .bipush 12, 2), (49, .newarray .int, 2), (51, .putfield 31, 3), (54, .aload_n 0, 1), (55, .bipush 12, 2), (57, .newarray .boolean, 2), (59, .putfield 34, 3), (62, .aload_n 0, 1), (63, .iconst 0, 1), (64, .putfield 38, 3), (67, .aload_n 0, 1), (68, .iconst 0, 1), (69, .putfield 41, 3), (72, .return_, 1)]
set_option maxRecDepth 100000 in
theorem dt_7_init : ∀ q ∈ tab_7_init, decode m_7_init.2.1 q.1 = .ok q.2 := by decide +kernel
theorem mi_7_3 : Cond.methodLink RX7 3 objectInit ∈ tb := tm_1 (List.mem_of_getElem? (i := 76) rfl) (by decide)
def m_8_init : mt := (RX8, cX8_init, 1, none)
theorem cal_8_init : Cal yX8_init m_8_init 0 := ⟨tm_2 (List.mem_of_getElem? (i := 166) rfl) (by decide), tm_1 (List.mem_of_getElem? (i := 12) rfl) (by decide), ⟨by decide +kernel, by decide +kernel⟩, by decide +kernel, by decide⟩
theorem in_8_init : Cond.instanceMethod yX8_init ∈ tb := tm_2 (List.mem_of_getElem? (i := 165) rfl) (by decide)
theorem ist_8 : Cond.instantiable RX8 8 ∈ tb := tm_2 (List.mem_of_getElem? (i := 163) rfl) (by decide)
theorem izt_8 : Cond.initialized RX8 ∈ tb := tm_1 (List.mem_of_getElem? (i := 12) rfl) (by decide)
def tab_8_init : List (Nat × Instr × Nat) := [(0, .aload_n 0, 1), (1, .invokespecial 1, 3), (4, .aload_n 0, 1), (5, .sipush 300, 3), (8, .newarray .byte, 2), (10, .putfield 9, 3), (13, .aload_n 0, 1), (14, .iconst 0, 1), (15, .putfield 13, 3), (18, .aload_n 0, 1), (19, .new 17, 3), (22, .dup, 1), (23, .invokespecial 19, 3), (26, .putfield 20, 3), (29, .aload_n 0, 1), (30, .sipush 301, 3), (33, .newarray .int, 2), (35, .putfield 24, 3), (38, .aload_n 0, 1), (39, .sipush 301, 3), (42, .newarray .int, 2), (44, .putfield 28, 3), (47, .aload_n 0, 1), (48, .sipush 301, 3), (51, .newarray .int, 2), (53, .putfield 31, 3), (56, .aload_n 0, 1), (57, .iconst 0, 1), (58, .putfield 34, 3), (61, .aload_n 0, 1), (62, .iconst (-1), 1), (63, .putfield 37, 3), (66, .return_, 1)]
set_option maxRecDepth 100000 in
theorem dt_8_init : ∀ q ∈ tab_8_init, decode m_8_init.2.1 q.1 = .ok q.2 := by decide +kernel
theorem mi_8_1 : Cond.methodLink RX8 1 objectInit ∈ tb := tm_2 (List.mem_of_getElem? (i := 167) rfl) (by decide)
theorem ci_8_17 : Cond.classLink RX8 17 RX5 ∈ tb := tm_2 (List.mem_of_getElem? (i := 168) rfl) (by decide)
theorem mi_8_19 : Cond.methodLinkNest RX8 19 yX5_init "LongStrike" ∈ nwc := List.mem_of_getElem? (i := 9) rfl
def m_9_init : mt := (RX9, cX9_init, 2, none)
theorem cal_9_init : Cal yX9_init m_9_init 0 := ⟨tm_1 (List.mem_of_getElem? (i := 33) rfl) (by decide), tm_1 (List.mem_of_getElem? (i := 2) rfl) (by decide), ⟨by decide +kernel, by decide +kernel⟩, by decide +kernel, by decide⟩
theorem in_9_init : Cond.instanceMethod yX9_init ∈ tb := tm_1 (List.mem_of_getElem? (i := 32) rfl) (by decide)
theorem ist_9 : Cond.instantiable RX9 19 ∈ tb := tm_1 (List.mem_of_getElem? (i := 30) rfl) (by decide)
theorem izt_9 : Cond.initialized RX9 ∈ tb := tm_1 (List.mem_of_getElem? (i := 2) rfl) (by decide)
def tab_9_init : List (Nat × Instr × Nat) := [(0, .aload_n 0, 1), (1, .invokespecial 3, 3), (4, .aload_n 0, 1), (5, .iconst 0, 1), (6, .putfield 9, 3), (9, .aload_n 0, 1), (10, .iconst 0, 1), (11, .putfield 15, 3), (14, .aload_n 0, 1), (15, .iconst 0, 1), (16, .putfield 18, 3), (19, .aload_n 0, 1), (20, .iconst 0, 1), (21, .putfield 21, 3), (24, .aload_n 0, 1), (25, .iconst 0, 1), (26, .putfield 24, 3), (29, .aload_n 0, 1), (30, .iconst 0, 1), (31, .putfield 27, 3), (34, .aload_n 0, 1), (35, .iconst 0, 1), (36, .putfield 30, 3), (39, .aload_n 0, 1), (40, .bipush 6, 2), (42, .bipush 6, 2), (44, .multianewarray 34 2, 4), (48, .putfield 36, 3), (51, .aload_n 0, 1), (52, .iconst 4, 1), (53, .anewarray 39, 3), (56, .putfield 41, 3), (59, .aload_n 0, 1), (60, .iconst 4, 1), (61, .anewarray 45, 3), (64, .putfield 47, 3), (67, .aload_n 0, 1), (68, .bipush 16, 2), (70, .anewarray 51, 3), (73, .putfield 53, 3), (76, .aload_n 0, 1), (77, .iconst 3, 1), (78, .anewarray 57, 3), (81, .putfield 59, 3), (84, .aload_n 0, 1), (85, .new 63, 3), (88, .dup, 1), (89, .invokespecial 65, 3), (92, .putfield 66, 3), (95, .aload_n 0, 1), (96, .new 70, 3), (99, .dup, 1), (100, .invokespecial 72, 3), (103, .putfield 73, 3), (106, .aload_n 0, 1), (107, .new 77, 3), (110, .dup, 1), (111, .invokespecial 79, 3), (114, .putfield 80, 3), (117, .aload_n 0, 1), (118, .new 84, 3), (121, .dup, 1), (122, .invokespecial 86, 3), (125, .putfield 87, 3), (128, .aload_n 0, 1), (129, .bipush 16, 2), (131, .newarray .int, 2), (133, .putfield 91, 3), (136, .aload_n 0, 1), (137, .bipush 16, 2), (139, .newarray .int, 2), (141, .putfield 95, 3), (144, .aload_n 0, 1), (145, .bipush 16, 2), (147, .newarray .int, 2), (149, .putfield 98, 3), (152, .iconst 0, 1), (153, .istore_n 1, 1), (154, .iload_n 1, 1), (155, .bipush 6, 2), (157, .if_icmp .ge 28, 3), (160, .aload_n 0, 1), (161, .getfield 36, 3), (164, .iload_n 1, 1), (165, .aaload, 1), (166, .iconst 1, 1), (167, .invokestatic 101, 3), (170, .aload_n 0, 1), (171, .getfield 36, 3), (174, .iload_n 1, 1), (175, .aaload, 1), (176, .iload_n 1, 1), (177, .iconst 0, 1), (178, .iastore, 1), (179, .iinc 1 1, 3), (182, .goto (-28), 3), (185, .iconst 0, 1), (186, .istore_n 1, 1), (187, .iload_n 1, 1), (188, .iconst 4, 1), (189, .if_icmp .ge 22, 3), (192, .aload_n 0, 1), (193, .getfield 41, 3), (196, .iload_n 1, 1), (197, .new 39, 3), (200, .dup, 1), (201, .invokespecial 107, 3), (204, .aastore, 1), (205, .iinc 1 1, 3), (208, .goto (-21), 3), (211, .iconst 0, 1), (212, .istore_n 1, 1), (213, .iload_n 1, 1), (214, .iconst 4, 1), (215, .if_icmp .ge 22, 3), (218, .aload_n 0, 1), (219, .getfield 47, 3), (222, .iload_n 1, 1), (223, .new 45, 3), (226, .dup, 1), (227, .invokespecial 108, 3), (230, .aastore, 1), (231, .iinc 1 1, 3), (234, .goto (-21), 3), (237, .iconst 0, 1), (238, .istore_n 1, 1), (239, .iload_n 1, 1), (240, .bipush 16, 2), (242, .if_icmp .ge 22, 3), (245, .aload_n 0, 1), (246, .getfield 53, 3), (249, .iload_n 1, 1), (250, .new 51, 3), (253, .dup, 1), (254, .invokespecial 109, 3), (257, .aastore, 1), (258, .iinc 1 1, 3), (261, .goto (-22), 3), (264, .iconst 0, 1), (265, .istore_n 1, 1), (266, .iload_n 1, 1), (267, .iconst 3, 1), (268, .if_icmp .ge 22, 3), (271, .aload_n 0, 1), (272, .getfield 59, 3), (275, .iload_n 1, 1), (276, .new 57, 3), (279, .dup, 1), (280, .invokespecial 110, 3), (283, .aastore, 1), (284, .iinc 1 1, 3), (287, .goto (-21), 3), (290, .return_, 1)]
set_option maxRecDepth 100000 in
theorem dt_9_init : ∀ q ∈ tab_9_init, decode m_9_init.2.1 q.1 = .ok q.2 := by decide +kernel
theorem mi_9_3 : Cond.methodLink RX9 3 objectInit ∈ tb := tm_1 (List.mem_of_getElem? (i := 34) rfl) (by decide)
theorem ci_9_34 : Cond.classLink RX9 34 "[[I" ∈ tb := tm_1 (List.mem_of_getElem? (i := 35) rfl) (by decide)
theorem ci_9_39 : Cond.classLink RX9 39 RX4 ∈ tb := tm_1 (List.mem_of_getElem? (i := 37) rfl) (by decide)
theorem ci_9_45 : Cond.classLink RX9 45 RX6 ∈ tb := tm_1 (List.mem_of_getElem? (i := 39) rfl) (by decide)
theorem ci_9_51 : Cond.classLink RX9 51 RX1 ∈ tb := tm_1 (List.mem_of_getElem? (i := 41) rfl) (by decide)
theorem ci_9_57 : Cond.classLink RX9 57 RX5 ∈ tb := tm_1 (List.mem_of_getElem? (i := 43) rfl) (by decide)
theorem ci_9_63 : Cond.classLink RX9 63 RX10 ∈ tb := tm_1 (List.mem_of_getElem? (i := 45) rfl) (by decide)
theorem mi_9_65 : Cond.methodLinkNest RX9 65 yX10_init "LongStrike" ∈ nwc := List.mem_of_getElem? (i := 0) rfl
theorem ci_9_70 : Cond.classLink RX9 70 RX7 ∈ tb := tm_1 (List.mem_of_getElem? (i := 71) rfl) (by decide)
theorem mi_9_72 : Cond.methodLinkNest RX9 72 yX7_init "LongStrike" ∈ nwc := List.mem_of_getElem? (i := 1) rfl
theorem ci_9_77 : Cond.classLink RX9 77 RX3 ∈ tb := tm_1 (List.mem_of_getElem? (i := 114) rfl) (by decide)
theorem mi_9_79 : Cond.methodLinkNest RX9 79 yX3_init "LongStrike" ∈ nwc := List.mem_of_getElem? (i := 2) rfl
theorem ci_9_84 : Cond.classLink RX9 84 RX2 ∈ tb := tm_1 (List.mem_of_getElem? (i := 147) rfl) (by decide)
theorem mi_9_86 : Cond.methodLinkNest RX9 86 yX2_init "LongStrike" ∈ nwc := List.mem_of_getElem? (i := 3) rfl
theorem mi_9_107 : Cond.methodLinkNest RX9 107 yX4_init "LongStrike" ∈ nwc := List.mem_of_getElem? (i := 4) rfl
theorem mi_9_108 : Cond.methodLinkNest RX9 108 yX6_init "LongStrike" ∈ nwc := List.mem_of_getElem? (i := 5) rfl
theorem mi_9_109 : Cond.methodLinkNest RX9 109 yX1_init "LongStrike" ∈ nwc := List.mem_of_getElem? (i := 6) rfl
theorem mi_9_110 : Cond.methodLinkNest RX9 110 yX5_init "LongStrike" ∈ nwc := List.mem_of_getElem? (i := 7) rfl
def m_10_init : mt := (RX10, cX10_init, 1, none)
theorem cal_10_init : Cal yX10_init m_10_init 0 := ⟨tm_1 (List.mem_of_getElem? (i := 49) rfl) (by decide), tm_1 (List.mem_of_getElem? (i := 3) rfl) (by decide), ⟨by decide +kernel, by decide +kernel⟩, by decide +kernel, by decide⟩
theorem in_10_init : Cond.instanceMethod yX10_init ∈ tb := tm_1 (List.mem_of_getElem? (i := 48) rfl) (by decide)
theorem ist_10 : Cond.instantiable RX10 5 ∈ tb := tm_1 (List.mem_of_getElem? (i := 46) rfl) (by decide)
theorem izt_10 : Cond.initialized RX10 ∈ tb := tm_1 (List.mem_of_getElem? (i := 3) rfl) (by decide)
def tab_10_init : List (Nat × Instr × Nat) := [(0, .aload_n 0, 1), (1, .invokespecial 3, 3), (4, .aload_n 0, 1), (5, .iconst 0, 1), (6, .putfield 9, 3), (9, .aload_n 0, 1), (10, .iconst 0, 1), (11, .putfield 15, 3), (14, .aload_n 0, 1), (15, .iconst 0, 1), (16, .putfield 18, 3), (19, .aload_n 0, 1), (20, .bipush 6, 2), (22, .newarray .int, 2), (24, .putfield 21, 3), (27, .aload_n 0, 1), (28, .bipush 6, 2), (30, .newarray .int, 2), (32, .putfield 25, 3), (35, .return_, 1)]
set_option maxRecDepth 100000 in
theorem dt_10_init : ∀ q ∈ tab_10_init, decode m_10_init.2.1 q.1 = .ok q.2 := by decide +kernel
theorem mi_10_3 : Cond.methodLink RX10 3 objectInit ∈ tb := tm_1 (List.mem_of_getElem? (i := 50) rfl) (by decide)
def m_11_init : mt := (RX11, cX11_init, 1, none)
theorem cal_11_init : Cal yX11_init m_11_init 0 := ⟨tm_1 (List.mem_of_getElem? (i := 25) rfl) (by decide), tm_1 (List.mem_of_getElem? (i := 1) rfl) (by decide), ⟨by decide +kernel, by decide +kernel⟩, by decide +kernel, by decide⟩
theorem in_11_init : Cond.instanceMethod yX11_init ∈ tb := tm_1 (List.mem_of_getElem? (i := 24) rfl) (by decide)
theorem ist_11 : Cond.instantiable RX11 17 ∈ tb := tm_1 (List.mem_of_getElem? (i := 22) rfl) (by decide)
theorem izt_11 : Cond.initialized RX11 ∈ tb := tm_1 (List.mem_of_getElem? (i := 1) rfl) (by decide)
def tab_11_init : List (Nat × Instr × Nat) := [(0, .aload_n 0, 1), (1, .invokespecial 1, 3), (4, .aload_n 0, 1), (5, .new 7, 3), (8, .dup, 1), (9, .invokespecial 9, 3), (12, .putfield 10, 3), (15, .aload_n 0, 1), (16, .new 7, 3), (19, .dup, 1), (20, .invokespecial 9, 3), (23, .putfield 16, 3), (26, .aload_n 0, 1), (27, .new 7, 3), (30, .dup, 1), (31, .invokespecial 9, 3), (34, .putfield 19, 3), (37, .aload_n 0, 1), (38, .iconst 0, 1), (39, .putfield 22, 3), (42, .aload_n 0, 1), (43, .new 26, 3), (46, .dup, 1), (47, .invokespecial 28, 3), (50, .putfield 29, 3), (53, .aload_n 0, 1), (54, .new 33, 3), (57, .dup, 1), (58, .invokespecial 35, 3), (61, .putfield 36, 3), (64, .aload_n 0, 1), (65, .bipush 8, 2), (67, .newarray .int, 2), (69, .putfield 40, 3), (72, .aload_n 0, 1), (73, .bipush 8, 2), (75, .newarray .int, 2), (77, .putfield 44, 3), (80, .aload_n 0, 1), (81, .iconst 0, 1), (82, .putfield 47, 3), (85, .aload_n 0, 1), (86, .iconst 0, 1), (87, .putfield 51, 3), (90, .aload_n 0, 1), (91, .iconst 0, 1), (92, .putfield 54, 3), (95, .aload_n 0, 1), (96, .iconst 4, 1), (97, .newarray .int, 2), (99, .putfield 57, 3), (102, .aload_n 0, 1), (103, .iconst 4, 1), (104, .newarray .int, 2), (106, .putfield 60, 3), (109, .aload_n 0, 1), (110, .iconst 4, 1), (111, .bipush 40, 2), (113, .multianewarray 63 2, 4), (117, .putfield 65, 3), (120, .aload_n 0, 1), (121, .iconst 4, 1), (122, .newarray .int, 2), (124, .putfield 68, 3), (127, .aload_n 0, 1), (128, .iconst 4, 1), (129, .newarray .int, 2), (131, .putfield 71, 3), (134, .aload_n 0, 1), (135, .iconst 4, 1), (136, .newarray .int, 2), (138, .putfield 74, 3), (141, .aload_n 0, 1), (142, .getfield 57, 3), (145, .iconst (-1), 1), (146, .invokestatic 77, 3), (149, .aload_n 0, 1), (150, .getfield 68, 3), (153, .iconst 4, 1), (154, .invokestatic 77, 3), (157, .return_, 1)]
set_option maxRecDepth 100000 in
theorem dt_11_init : ∀ q ∈ tab_11_init, decode m_11_init.2.1 q.1 = .ok q.2 := by decide +kernel
theorem mi_11_1 : Cond.methodLink RX11 1 objectInit ∈ tb := tm_1 (List.mem_of_getElem? (i := 26) rfl) (by decide)
theorem ci_11_7 : Cond.classLink RX11 7 RX9 ∈ tb := tm_1 (List.mem_of_getElem? (i := 29) rfl) (by decide)
theorem mi_11_9 : Cond.methodLink RX11 9 yX9_init ∈ tb := tm_1 (List.mem_of_getElem? (i := 31) rfl) (by decide)
theorem ci_11_26 : Cond.classLink RX11 26 RX8 ∈ tb := tm_2 (List.mem_of_getElem? (i := 162) rfl) (by decide)
theorem mi_11_28 : Cond.methodLinkNest RX11 28 yX8_init "LongStrike" ∈ nwc := List.mem_of_getElem? (i := 8) rfl
theorem ci_11_33 : Cond.classLink RX11 33 RX0 ∈ tb := tm_2 (List.mem_of_getElem? (i := 198) rfl) (by decide)
theorem mi_11_35 : Cond.methodLinkNest RX11 35 yX0_init "LongStrike" ∈ nwc := List.mem_of_getElem? (i := 10) rfl
theorem ci_11_63 : Cond.classLink RX11 63 "[[I" ∈ tb := tm_2 (List.mem_of_getElem? (i := 228) rfl) (by decide)
def m_12_init : mt := (RX12, cX12_init, 2, none)
theorem cal_12_init : Cal yX12_init m_12_init 0 := ⟨tm_6 (List.mem_of_getElem? (i := 91) rfl) (by decide), tm_1 (List.mem_of_getElem? (i := 14) rfl) (by decide), ⟨by decide +kernel, by decide +kernel⟩, by decide +kernel, by decide⟩
theorem in_12_init : Cond.instanceMethod yX12_init ∈ tb := tm_6 (List.mem_of_getElem? (i := 90) rfl) (by decide)
theorem ist_12 : Cond.instantiable RX12 39 ∈ tb := tm_6 (List.mem_of_getElem? (i := 88) rfl) (by decide)
theorem izt_12 : Cond.initialized RX12 ∈ tb := tm_1 (List.mem_of_getElem? (i := 14) rfl) (by decide)
def tab_12_init : List (Nat × Instr × Nat) := [(0, .aload_n 0, 1), (1, .invokespecial 1, 3), (4, .aload_n 0, 1), (5, .sipush 912, 3), (8, .newarray .int, 2), (10, .putfield 9, 3), (13, .aload_n 0, 1), (14, .sipush 912, 3), (17, .newarray .int, 2), (19, .putfield 13, 3), (22, .aload_n 0, 1), (23, .sipush 912, 3), (26, .newarray .int, 2), (28, .putfield 16, 3), (31, .aload_n 0, 1), (32, .sipush 300, 3), (35, .newarray .int, 2), (37, .putfield 19, 3), (40, .aload_n 0, 1), (41, .bipush 8, 2), (43, .newarray .int, 2), (45, .putfield 22, 3), (48, .aload_n 0, 1), (49, .bipush 8, 2), (51, .newarray .int, 2), (53, .putfield 25, 3), (56, .aload_n 0, 1), (57, .iconst (-1), 1), (58, .putfield 28, 3), (61, .aload_n 0, 1), (62, .bipush 40, 2), (64, .newarray .int, 2), (66, .putfield 32, 3), (69, .aload_n 0, 1), (70, .bipush 120, 2), (72, .newarray .int, 2), (74, .putfield 35, 3), (77, .aload_n 0, 1), (78, .bipush 120, 2), (80, .newarray .int, 2), (82, .putfield 38, 3), (85, .aload_n 0, 1), (86, .bipush 16, 2), (88, .newarray .int, 2), (90, .putfield 41, 3), (93, .aload_n 0, 1), (94, .bipush 16, 2), (96, .newarray .int, 2), (98, .putfield 44, 3), (101, .aload_n 0, 1), (102, .bipush 16, 2), (104, .newarray .int, 2), (106, .putfield 47, 3), (109, .aload_n 0, 1), (110, .bipush 16, 2), (112, .newarray .int, 2), (114, .putfield 50, 3), (117, .aload_n 0, 1), (118, .sipush 144, 3), (121, .newarray .int, 2), (123, .putfield 53, 3), (126, .aload_n 0, 1), (127, .bipush 8, 2), (129, .newarray .int, 2), (131, .putfield 56, 3), (134, .aload_n 0, 1), (135, .iconst 4, 1), (136, .newarray .int, 2), (138, .putfield 59, 3), (141, .aload_n 0, 1), (142, .iconst 4, 1), (143, .newarray .int, 2), (145, .putfield 62, 3), (148, .aload_n 0, 1), (149, .sipush 160, 3), (152, .newarray .int, 2), (154, .putfield 65, 3), (157, .aload_n 0, 1), (158, .iconst 4, 1), (159, .newarray .int, 2), (161, .putfield 68, 3), (164, .aload_n 0, 1), (165, .iconst 4, 1), (166, .newarray .int, 2), (168, .putfield 71, 3), (171, .aload_n 0, 1), (172, .iconst 4, 1), (173, .newarray .int, 2), (175, .putfield 74, 3), (178, .aload_n 0, 1), (179, .bipush 30, 2), (181, .newarray .int, 2), (183, .putfield 77, 3), (186, .aload_n 0, 1), (187, .getfield 9, 3), (190, .iconst 5, 1), (191, .bipush 9, 2), (193, .iastore, 1), (194, .iconst 0, 1), (195, .istore_n 1, 1), (196, .iload_n 1, 1), (197, .bipush 36, 2), (199, .if_icmp .ge 30, 3), (202, .aload_n 0, 1), (203, .getfield 9, 3), (206, .bipush 20, 2), (208, .iload_n 1, 1), (209, .iadd, 1), (210, .iload_n 1, 1), (211, .bipush 7, 2), (213, .irem, 1), (214, .ifCond .ne 7, 3), (217, .iconst 0, 1), (218, .goto 4, 3), (221, .iconst 1, 1), (222, .iastore, 1), (223, .iinc 1 1, 3), (226, .goto (-30), 3), (229, .iconst 0, 1), (230, .istore_n 1, 1), (231, .iload_n 1, 1), (232, .iconst 4, 1), (233, .if_icmp .ge 16, 3), (236, .aload_n 0, 1), (237, .getfield 59, 3), (240, .iload_n 1, 1), (241, .iconst (-1), 1), (242, .iastore, 1), (243, .iinc 1 1, 3), (246, .goto (-15), 3), (249, .return_, 1)]
set_option maxRecDepth 100000 in
theorem dt_12_init : ∀ q ∈ tab_12_init, decode m_12_init.2.1 q.1 = .ok q.2 := by decide +kernel
theorem mi_12_1 : Cond.methodLink RX12 1 objectInit ∈ tb := tm_6 (List.mem_of_getElem? (i := 92) rfl) (by decide)
