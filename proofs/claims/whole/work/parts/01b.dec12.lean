def dlX11_worksBy_0 : List (Nat × Instr × Nat) := [(0, .iload_n 1, 1), (1, .iconst 0, 1), (2, .iconst 3, 1), (3, .invokestatic 134, 3), (6, .ifCond .eq 23, 3), (9, .iload_n 2, 1), (10, .iconst 0, 1), (11, .iconst 2, 1), (12, .invokestatic 134, 3), (15, .ifCond .eq 14, 3), (18, .iload 4, 2), (20, .iconst 0, 1), (21, .bipush 10, 2), (23, .invokestatic 134, 3), (26, .ifCond .ne 6, 3), (29, .bipush (-2), 2), (31, .ireturn, 1), (32, .aload_n 0, 1), (33, .getfield 68, 3), (36, .iload_n 1, 1), (37, .iaload, 1), (38, .iconst (-1), 1), (39, .if_icmp .ne 6, 3), (42, .bipush (-11), 2), (44, .ireturn, 1), (45, .aload_n 0, 1), (46, .getfield 68, 3), (49, .iload_n 1, 1), (50, .iaload, 1), (51, .iload_n 2, 1), (52, .if_icmp .eq 6, 3), (55, .bipush (-13), 2), (57, .ireturn, 1), (58, .iconst 0, 1), (59, .istore 5, 2), (61, .iconst 0, 1), (62, .istore 6, 2), (64, .iload 6, 2), (66, .iload 4, 2), (68, .if_icmp .ge 94, 3)]
set_option maxRecDepth 100000 in
theorem dkX11_worksBy_0 : dlX11_worksBy_0.all (fun r => decide (decode cX11_worksBy r.1 = .ok (r.2.1, r.2.2))) = true := by decide +kernel
def dlX11_worksBy_1 : List (Nat × Instr × Nat) := [(71, .iload_n 3, 1), (72, .iconst 3, 1), (73, .iload 6, 2), (75, .imul, 1), (76, .iadd, 1), (77, .istore 7, 2), (79, .iload_n 3, 1), (80, .ifCond .lt 22, 3), (83, .iload 7, 2), (85, .iload_n 3, 1), (86, .if_icmp .lt 16, 3), (89, .iload 7, 2), (91, .aload_n 0, 1), (92, .getfield 71, 3), (95, .iload_n 1, 1), (96, .iaload, 1), (97, .iconst 3, 1), (98, .isub, 1), (99, .if_icmp .le 6, 3), (102, .bipush (-12), 2), (104, .ireturn, 1), (105, .bipush 40, 2), (107, .iload_n 1, 1), (108, .imul, 1), (109, .iload 7, 2), (111, .iadd, 1), (112, .istore 8, 2), (114, .iload 5, 2), (116, .aload_n 0, 1), (117, .aload_n 0, 1), (118, .getfield 74, 3), (121, .iload 8, 2), (123, .iaload, 1), (124, .aload_n 0, 1), (125, .getfield 74, 3), (128, .iload 8, 2), (130, .iconst 1, 1), (131, .iadd, 1), (132, .iaload, 1), (133, .aload_n 0, 1)]
set_option maxRecDepth 100000 in
theorem dkX11_worksBy_1 : dlX11_worksBy_1.all (fun r => decide (decode cX11_worksBy r.1 = .ok (r.2.1, r.2.2))) = true := by decide +kernel
def dlX11_worksBy_2 : List (Nat × Instr × Nat) := [(134, .getfield 74, 3), (137, .iload 8, 2), (139, .iconst 2, 1), (140, .iadd, 1), (141, .iaload, 1), (142, .invokevirtual 389, 3), (145, .ifCond .lt 7, 3), (148, .iconst 1, 1), (149, .goto 4, 3), (152, .iconst 0, 1), (153, .iadd, 1), (154, .istore 5, 2), (156, .iinc 6 1, 3), (159, .goto (-95), 3), (162, .iload 5, 2), (164, .ireturn, 1)]
set_option maxRecDepth 100000 in
theorem dkX11_worksBy_2 : dlX11_worksBy_2.all (fun r => decide (decode cX11_worksBy r.1 = .ok (r.2.1, r.2.2))) = true := by decide +kernel
def dlX11_isUnder_0 : List (Nat × Instr × Nat) := [(0, .iload_n 1, 1), (1, .ifCond .eq 28, 3), (4, .iload_n 0, 1), (5, .iload_n 1, 1), (6, .if_icmp .eq 23, 3), (9, .iload_n 1, 1), (10, .iconst 1, 1), (11, .if_icmp .ne 8, 3), (14, .iload_n 0, 1), (15, .iconst 2, 1), (16, .if_icmp .eq 13, 3), (19, .iload_n 1, 1), (20, .iconst 4, 1), (21, .if_icmp .ne 12, 3), (24, .iload_n 0, 1), (25, .iconst 5, 1), (26, .if_icmp .ne 7, 3), (29, .iconst 1, 1), (30, .goto 4, 3), (33, .iconst 0, 1), (34, .ireturn, 1)]
set_option maxRecDepth 100000 in
theorem dkX11_isUnder_0 : dlX11_isUnder_0.all (fun r => decide (decode cX11_isUnder r.1 = .ok (r.2.1, r.2.2))) = true := by decide +kernel
def dlX11_taken_0 : List (Nat × Instr × Nat) := [(0, .iload_n 2, 1), (1, .iconst 0, 1), (2, .bipush 6, 2), (4, .invokestatic 134, 3), (7, .ifCond .ne 6, 3), (10, .bipush (-2), 2), (12, .ireturn, 1), (13, .iload_n 1, 1), (14, .iconst 0, 1), (15, .bipush 15, 2), (17, .invokestatic 134, 3), (20, .ifCond .ne 6, 3), (23, .bipush (-12), 2), (25, .ireturn, 1), (26, .iload_n 1, 1), (27, .bipush 6, 2), (29, .if_icmp .ge 34, 3), (32, .iload_n 1, 1), (33, .aload_n 0, 1), (34, .getfield 159, 3), (37, .if_icmp .lt 8, 3), (40, .bipush (-11), 2), (42, .goto 20, 3), (45, .iload_n 2, 1), (46, .bipush 6, 2), (48, .if_icmp .ne 12, 3), (51, .aload_n 0, 1), (52, .getfield 32, 3), (55, .iload_n 1, 1), (56, .iaload, 1), (57, .goto 5, 3), (60, .bipush (-13), 2), (62, .ireturn, 1), (63, .iload_n 1, 1), (64, .bipush 6, 2), (66, .isub, 1), (67, .aload_n 0, 1), (68, .getfield 138, 3), (71, .if_icmp .lt 8, 3), (74, .bipush (-11), 2)]
set_option maxRecDepth 100000 in
theorem dkX11_taken_0 : dlX11_taken_0.all (fun r => decide (decode cX11_taken r.1 = .ok (r.2.1, r.2.2))) = true := by decide +kernel
def dlX11_taken_1 : List (Nat × Instr × Nat) := [(76, .goto 34, 3), (79, .iload_n 2, 1), (80, .bipush 6, 2), (82, .if_icmp .ge 26, 3), (85, .aload_n 0, 1), (86, .getfield 23, 3), (89, .iload_n 1, 1), (90, .bipush 6, 2), (92, .isub, 1), (93, .iaload, 1), (94, .iload_n 2, 1), (95, .invokestatic 392, 3), (98, .ifCond .eq 10, 3), (101, .iload_n 1, 1), (102, .bipush 6, 2), (104, .isub, 1), (105, .goto 5, 3), (108, .bipush (-13), 2), (110, .ireturn, 1)]
set_option maxRecDepth 100000 in
theorem dkX11_taken_1 : dlX11_taken_1.all (fun r => decide (decode cX11_taken r.1 = .ok (r.2.1, r.2.2))) = true := by decide +kernel
def dlJ9_abs_0f7a4_0 : List (Nat × Instr × Nat) := [(0, .iload_n 0, 1), (1, .ifCond .ge 8, 3), (4, .iload_n 0, 1), (5, .ineg, 1), (6, .goto 4, 3), (9, .iload_n 0, 1), (10, .ireturn, 1)]
set_option maxRecDepth 100000 in
theorem dkJ9_abs_0f7a4_0 : dlJ9_abs_0f7a4_0.all (fun r => decide (decode cJ9_abs_0f7a4 r.1 = .ok (r.2.1, r.2.2))) = true := by decide +kernel
def dlJ9_max_7cf53_0 : List (Nat × Instr × Nat) := [(0, .iload_n 0, 1), (1, .iload_n 1, 1), (2, .if_icmp .lt 7, 3), (5, .iload_n 0, 1), (6, .goto 4, 3), (9, .iload_n 1, 1), (10, .ireturn, 1)]
set_option maxRecDepth 100000 in
theorem dkJ9_max_7cf53_0 : dlJ9_max_7cf53_0.all (fun r => decide (decode cJ9_max_7cf53 r.1 = .ok (r.2.1, r.2.2))) = true := by decide +kernel
def dlJ9_max_f86c9_0 : List (Nat × Instr × Nat) := [(0, .lload_n 0, 1), (1, .lload_n 2, 1), (2, .lcmp, 1), (3, .ifCond .lt 7, 3), (6, .lload_n 0, 1), (7, .goto 4, 3), (10, .lload_n 2, 1), (11, .lreturn, 1)]
set_option maxRecDepth 100000 in
theorem dkJ9_max_f86c9_0 : dlJ9_max_f86c9_0.all (fun r => decide (decode cJ9_max_f86c9 r.1 = .ok (r.2.1, r.2.2))) = true := by decide +kernel
def dlJ9_min_7cf53_0 : List (Nat × Instr × Nat) := [(0, .iload_n 0, 1), (1, .iload_n 1, 1), (2, .if_icmp .gt 7, 3), (5, .iload_n 0, 1), (6, .goto 4, 3), (9, .iload_n 1, 1), (10, .ireturn, 1)]
set_option maxRecDepth 100000 in
theorem dkJ9_min_7cf53_0 : dlJ9_min_7cf53_0.all (fun r => decide (decode cJ9_min_7cf53 r.1 = .ok (r.2.1, r.2.2))) = true := by decide +kernel
def dlJ0_length_8abf5_0 : List (Nat × Instr × Nat) := [(0, .aload_n 0, 1), (1, .getfield 9, 3), (4, .arraylength, 1), (5, .aload_n 0, 1), (6, .invokevirtual 335, 3), (9, .ishr, 1), (10, .ireturn, 1)]
set_option maxRecDepth 100000 in
theorem dkJ0_length_8abf5_0 : dlJ0_length_8abf5_0.all (fun r => decide (decode cJ0_length_8abf5 r.1 = .ok (r.2.1, r.2.2))) = true := by decide +kernel
def dlJ0_charAt_5068e_0 : List (Nat × Instr × Nat) := [(0, .aload_n 0, 1), (1, .invokevirtual 492, 3), (4, .ifCond .eq 12, 3), (7, .aload_n 0, 1), (8, .getfield 9, 3), (11, .iload_n 1, 1), (12, .invokestatic 495, 3), (15, .ireturn, 1), (16, .aload_n 0, 1), (17, .getfield 9, 3), (20, .iload_n 1, 1), (21, .invokestatic 498, 3), (24, .ireturn, 1)]
set_option maxRecDepth 100000 in
theorem dkJ0_charAt_5068e_0 : dlJ0_charAt_5068e_0.all (fun r => decide (decode cJ0_charAt_5068e r.1 = .ok (r.2.1, r.2.2))) = true := by decide +kernel
def dlJ0_coder_7d493_0 : List (Nat × Instr × Nat) := [(0, .getstatic 38, 3), (3, .ifCond .eq 10, 3), (6, .aload_n 0, 1), (7, .getfield 15, 3), (10, .goto 4, 3), (13, .iconst 1, 1), (14, .ireturn, 1)]
set_option maxRecDepth 100000 in
theorem dkJ0_coder_7d493_0 : dlJ0_coder_7d493_0.all (fun r => decide (decode cJ0_coder_7d493 r.1 = .ok (r.2.1, r.2.2))) = true := by decide +kernel
def dlJ0_isLatin1_aae02_0 : List (Nat × Instr × Nat) := [(0, .getstatic 38, 3), (3, .ifCond .eq 14, 3), (6, .aload_n 0, 1), (7, .getfield 15, 3), (10, .ifCond .ne 7, 3), (13, .iconst 1, 1), (14, .goto 4, 3), (17, .iconst 0, 1), (18, .ireturn, 1)]
set_option maxRecDepth 100000 in
theorem dkJ0_isLatin1_aae02_0 : dlJ0_isLatin1_aae02_0.all (fun r => decide (decode cJ0_isLatin1_aae02 r.1 = .ok (r.2.1, r.2.2))) = true := by decide +kernel
def dlJ0_checkIndex_df160_0 : List (Nat × Instr × Nat) := [(0, .iload_n 0, 1), (1, .iload_n 1, 1), (2, .getstatic 1053, 3), (5, .invokestatic 1059, 3), (8, .pop, 1), (9, .return_, 1)]
set_option maxRecDepth 100000 in
theorem dkJ0_checkIndex_df160_0 : dlJ0_checkIndex_df160_0.all (fun r => decide (decode cJ0_checkIndex_df160 r.1 = .ok (r.2.1, r.2.2))) = true := by decide +kernel
def dlJ1_charAt_3b067_0 : List (Nat × Instr × Nat) := [(0, .iload_n 1, 1), (1, .aload_n 0, 1), (2, .arraylength, 1), (3, .invokestatic 9, 3), (6, .aload_n 0, 1), (7, .iload_n 1, 1), (8, .baload, 1), (9, .sipush 255, 3), (12, .iand, 1), (13, .i2c, 1), (14, .ireturn, 1)]
set_option maxRecDepth 100000 in
theorem dkJ1_charAt_3b067_0 : dlJ1_charAt_3b067_0.all (fun r => decide (decode cJ1_charAt_3b067 r.1 = .ok (r.2.1, r.2.2))) = true := by decide +kernel
def dlJ2_getChar_3b067_0 : List (Nat × Instr × Nat) := [(0, .getstatic 44, 3), (3, .ifCond .ne 25, 3), (6, .iload_n 1, 1), (7, .ifCond .lt 11, 3), (10, .iload_n 1, 1), (11, .aload_n 0, 1), (12, .invokestatic 48, 3), (15, .if_icmp .lt 13, 3), (18, .new 52, 3), (21, .dup, 1), (22, .ldc 54, 2), (24, .invokespecial 56, 3), (27, .athrow, 1), (28, .iload_n 1, 1), (29, .iconst 1, 1), (30, .ishl, 1), (31, .istore_n 1, 1), (32, .aload_n 0, 1), (33, .iload_n 1, 1), (34, .iinc 1 1, 3), (37, .baload, 1), (38, .sipush 255, 3), (41, .iand, 1), (42, .getstatic 59, 3), (45, .ishl, 1), (46, .aload_n 0, 1), (47, .iload_n 1, 1), (48, .baload, 1), (49, .sipush 255, 3), (52, .iand, 1), (53, .getstatic 63, 3), (56, .ishl, 1), (57, .ior, 1), (58, .i2c, 1), (59, .ireturn, 1)]
set_option maxRecDepth 100000 in
theorem dkJ2_getChar_3b067_0 : dlJ2_getChar_3b067_0.all (fun r => decide (decode cJ2_getChar_3b067 r.1 = .ok (r.2.1, r.2.2))) = true := by decide +kernel
def dlJ2_length_9d52b_0 : List (Nat × Instr × Nat) := [(0, .aload_n 0, 1), (1, .arraylength, 1), (2, .iconst 1, 1), (3, .ishr, 1), (4, .ireturn, 1)]
set_option maxRecDepth 100000 in
theorem dkJ2_length_9d52b_0 : dlJ2_length_9d52b_0.all (fun r => decide (decode cJ2_length_9d52b r.1 = .ok (r.2.1, r.2.2))) = true := by decide +kernel
def dlJ2_charAt_3b067_0 : List (Nat × Instr × Nat) := [(0, .iload_n 1, 1), (1, .aload_n 0, 1), (2, .invokestatic 67, 3), (5, .aload_n 0, 1), (6, .iload_n 1, 1), (7, .invokestatic 71, 3), (10, .ireturn, 1)]
set_option maxRecDepth 100000 in
theorem dkJ2_charAt_3b067_0 : dlJ2_charAt_3b067_0.all (fun r => decide (decode cJ2_charAt_3b067 r.1 = .ok (r.2.1, r.2.2))) = true := by decide +kernel
def dlJ2_checkIndex_2214a_0 : List (Nat × Instr × Nat) := [(0, .iload_n 0, 1), (1, .aload_n 1, 1), (2, .invokestatic 48, 3), (5, .invokestatic 414, 3), (8, .return_, 1)]
set_option maxRecDepth 100000 in
theorem dkJ2_checkIndex_2214a_0 : dlJ2_checkIndex_2214a_0.all (fun r => decide (decode cJ2_checkIndex_2214a r.1 = .ok (r.2.1, r.2.2))) = true := by decide +kernel
def dlJ3_checkIndex_8e157_0 : List (Nat × Instr × Nat) := [(0, .iload_n 0, 1), (1, .ifCond .lt 8, 3), (4, .iload_n 0, 1), (5, .iload_n 1, 1), (6, .if_icmp .lt 10, 3), (9, .aload_n 2, 1), (10, .iload_n 0, 1), (11, .iload_n 1, 1), (12, .invokestatic 95, 3), (15, .athrow, 1), (16, .iload_n 0, 1), (17, .ireturn, 1)]
set_option maxRecDepth 100000 in
theorem dkJ3_checkIndex_8e157_0 : dlJ3_checkIndex_8e157_0.all (fun r => decide (decode cJ3_checkIndex_8e157 r.1 = .ok (r.2.1, r.2.2))) = true := by decide +kernel
