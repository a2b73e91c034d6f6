def dl_X12_acknowledged_0 : List (Nat × (Instr × Nat)) := [(0, (.aload_n 0, 1)), (1, (.getfield 184, 3)), (4, (.iload_n 1, 1)), (5, (.baload, 1)), (6, (.ifCond .ne 4, 3)), (9, (.return_, 1)), (10, (.aload_n 0, 1)), (11, (.getfield 184, 3)), (14, (.iload_n 1, 1)), (15, (.iconst 0, 1)), (16, (.bastore, 1)), (17, (.aload_n 0, 1)), (18, (.getfield 159, 3)), (21, (.iload_n 1, 1)), (22, (.iconst 0, 1)), (23, (.iastore, 1)), (24, (.aload_n 0, 1)), (25, (.getfield 138, 3)), (28, (.iload_n 1, 1)), (29, (.iaload, 1)), (30, (.aload_n 0, 1)), (31, (.iload_n 1, 1)), (32, (.invokevirtual 424, 3)), (35, (.iconst 1, 1)), (36, (.isub, 1)), (37, (.if_icmp .ge 42, 3)), (40, (.aload_n 0, 1)), (41, (.getfield 138, 3)), (44, (.iload_n 1, 1)), (45, (.dup2, 1)), (46, (.iaload, 1)), (47, (.iconst 1, 1)), (48, (.iadd, 1)), (49, (.iastore, 1)), (50, (.aload_n 0, 1)), (51, (.getfield 141, 3)), (54, (.iload_n 1, 1)), (55, (.iconst 0, 1)), (56, (.bastore, 1)), (57, (.aload_n 0, 1)), (58, (.getfield 190, 3)), (61, (.iload_n 1, 1)), (62, (.iconst 2, 1)), (63, (.iastore, 1)), (64, (.aload_n 0, 1)), (65, (.getfield 193, 3)), (68, (.iload_n 1, 1)), (69, (.aload_n 0, 1)), (70, (.getfield 454, 3)), (73, (.iconst 2, 1)), (74, (.iadd, 1)), (75, (.iastore, 1)), (76, (.goto 9, 3)), (79, (.aload_n 0, 1)), (80, (.iload_n 1, 1)), (81, (.iconst 1, 1)), (82, (.invokevirtual 467, 3)), (85, (.return_, 1))]
set_option maxRecDepth 100000 in
theorem da_X12_acknowledged_0 : dl_X12_acknowledged_0.all (fun q => decide (decode cX12_acknowledged q.1 = .ok q.2)) = true := by decide +kernel
theorem dX12_acknowledged_0 : decode cX12_acknowledged 0 = .ok (.aload_n 0, 1) := dec_of da_X12_acknowledged_0 (k := 0) rfl
theorem dX12_acknowledged_1 : decode cX12_acknowledged 1 = .ok (.getfield 184, 3) := dec_of da_X12_acknowledged_0 (k := 1) rfl
theorem dX12_acknowledged_4 : decode cX12_acknowledged 4 = .ok (.iload_n 1, 1) := dec_of da_X12_acknowledged_0 (k := 2) rfl
theorem dX12_acknowledged_5 : decode cX12_acknowledged 5 = .ok (.baload, 1) := dec_of da_X12_acknowledged_0 (k := 3) rfl
theorem dX12_acknowledged_6 : decode cX12_acknowledged 6 = .ok (.ifCond .ne 4, 3) := dec_of da_X12_acknowledged_0 (k := 4) rfl
theorem dX12_acknowledged_9 : decode cX12_acknowledged 9 = .ok (.return_, 1) := dec_of da_X12_acknowledged_0 (k := 5) rfl
theorem dX12_acknowledged_10 : decode cX12_acknowledged 10 = .ok (.aload_n 0, 1) := dec_of da_X12_acknowledged_0 (k := 6) rfl
theorem dX12_acknowledged_11 : decode cX12_acknowledged 11 = .ok (.getfield 184, 3) := dec_of da_X12_acknowledged_0 (k := 7) rfl
theorem dX12_acknowledged_14 : decode cX12_acknowledged 14 = .ok (.iload_n 1, 1) := dec_of da_X12_acknowledged_0 (k := 8) rfl
theorem dX12_acknowledged_15 : decode cX12_acknowledged 15 = .ok (.iconst 0, 1) := dec_of da_X12_acknowledged_0 (k := 9) rfl
theorem dX12_acknowledged_16 : decode cX12_acknowledged 16 = .ok (.bastore, 1) := dec_of da_X12_acknowledged_0 (k := 10) rfl
theorem dX12_acknowledged_17 : decode cX12_acknowledged 17 = .ok (.aload_n 0, 1) := dec_of da_X12_acknowledged_0 (k := 11) rfl
theorem dX12_acknowledged_18 : decode cX12_acknowledged 18 = .ok (.getfield 159, 3) := dec_of da_X12_acknowledged_0 (k := 12) rfl
theorem dX12_acknowledged_21 : decode cX12_acknowledged 21 = .ok (.iload_n 1, 1) := dec_of da_X12_acknowledged_0 (k := 13) rfl
theorem dX12_acknowledged_22 : decode cX12_acknowledged 22 = .ok (.iconst 0, 1) := dec_of da_X12_acknowledged_0 (k := 14) rfl
theorem dX12_acknowledged_23 : decode cX12_acknowledged 23 = .ok (.iastore, 1) := dec_of da_X12_acknowledged_0 (k := 15) rfl
theorem dX12_acknowledged_24 : decode cX12_acknowledged 24 = .ok (.aload_n 0, 1) := dec_of da_X12_acknowledged_0 (k := 16) rfl
theorem dX12_acknowledged_25 : decode cX12_acknowledged 25 = .ok (.getfield 138, 3) := dec_of da_X12_acknowledged_0 (k := 17) rfl
theorem dX12_acknowledged_28 : decode cX12_acknowledged 28 = .ok (.iload_n 1, 1) := dec_of da_X12_acknowledged_0 (k := 18) rfl
theorem dX12_acknowledged_29 : decode cX12_acknowledged 29 = .ok (.iaload, 1) := dec_of da_X12_acknowledged_0 (k := 19) rfl
theorem dX12_acknowledged_30 : decode cX12_acknowledged 30 = .ok (.aload_n 0, 1) := dec_of da_X12_acknowledged_0 (k := 20) rfl
theorem dX12_acknowledged_31 : decode cX12_acknowledged 31 = .ok (.iload_n 1, 1) := dec_of da_X12_acknowledged_0 (k := 21) rfl
theorem dX12_acknowledged_32 : decode cX12_acknowledged 32 = .ok (.invokevirtual 424, 3) := dec_of da_X12_acknowledged_0 (k := 22) rfl
theorem dX12_acknowledged_35 : decode cX12_acknowledged 35 = .ok (.iconst 1, 1) := dec_of da_X12_acknowledged_0 (k := 23) rfl
theorem dX12_acknowledged_36 : decode cX12_acknowledged 36 = .ok (.isub, 1) := dec_of da_X12_acknowledged_0 (k := 24) rfl
theorem dX12_acknowledged_37 : decode cX12_acknowledged 37 = .ok (.if_icmp .ge 42, 3) := dec_of da_X12_acknowledged_0 (k := 25) rfl
theorem dX12_acknowledged_40 : decode cX12_acknowledged 40 = .ok (.aload_n 0, 1) := dec_of da_X12_acknowledged_0 (k := 26) rfl
theorem dX12_acknowledged_41 : decode cX12_acknowledged 41 = .ok (.getfield 138, 3) := dec_of da_X12_acknowledged_0 (k := 27) rfl
theorem dX12_acknowledged_44 : decode cX12_acknowledged 44 = .ok (.iload_n 1, 1) := dec_of da_X12_acknowledged_0 (k := 28) rfl
theorem dX12_acknowledged_45 : decode cX12_acknowledged 45 = .ok (.dup2, 1) := dec_of da_X12_acknowledged_0 (k := 29) rfl
theorem dX12_acknowledged_46 : decode cX12_acknowledged 46 = .ok (.iaload, 1) := dec_of da_X12_acknowledged_0 (k := 30) rfl
theorem dX12_acknowledged_47 : decode cX12_acknowledged 47 = .ok (.iconst 1, 1) := dec_of da_X12_acknowledged_0 (k := 31) rfl
theorem dX12_acknowledged_48 : decode cX12_acknowledged 48 = .ok (.iadd, 1) := dec_of da_X12_acknowledged_0 (k := 32) rfl
theorem dX12_acknowledged_49 : decode cX12_acknowledged 49 = .ok (.iastore, 1) := dec_of da_X12_acknowledged_0 (k := 33) rfl
theorem dX12_acknowledged_50 : decode cX12_acknowledged 50 = .ok (.aload_n 0, 1) := dec_of da_X12_acknowledged_0 (k := 34) rfl
theorem dX12_acknowledged_51 : decode cX12_acknowledged 51 = .ok (.getfield 141, 3) := dec_of da_X12_acknowledged_0 (k := 35) rfl
theorem dX12_acknowledged_54 : decode cX12_acknowledged 54 = .ok (.iload_n 1, 1) := dec_of da_X12_acknowledged_0 (k := 36) rfl
theorem dX12_acknowledged_55 : decode cX12_acknowledged 55 = .ok (.iconst 0, 1) := dec_of da_X12_acknowledged_0 (k := 37) rfl
theorem dX12_acknowledged_56 : decode cX12_acknowledged 56 = .ok (.bastore, 1) := dec_of da_X12_acknowledged_0 (k := 38) rfl
theorem dX12_acknowledged_57 : decode cX12_acknowledged 57 = .ok (.aload_n 0, 1) := dec_of da_X12_acknowledged_0 (k := 39) rfl
theorem dX12_acknowledged_58 : decode cX12_acknowledged 58 = .ok (.getfield 190, 3) := dec_of da_X12_acknowledged_0 (k := 40) rfl
theorem dX12_acknowledged_61 : decode cX12_acknowledged 61 = .ok (.iload_n 1, 1) := dec_of da_X12_acknowledged_0 (k := 41) rfl
theorem dX12_acknowledged_62 : decode cX12_acknowledged 62 = .ok (.iconst 2, 1) := dec_of da_X12_acknowledged_0 (k := 42) rfl
theorem dX12_acknowledged_63 : decode cX12_acknowledged 63 = .ok (.iastore, 1) := dec_of da_X12_acknowledged_0 (k := 43) rfl
theorem dX12_acknowledged_64 : decode cX12_acknowledged 64 = .ok (.aload_n 0, 1) := dec_of da_X12_acknowledged_0 (k := 44) rfl
theorem dX12_acknowledged_65 : decode cX12_acknowledged 65 = .ok (.getfield 193, 3) := dec_of da_X12_acknowledged_0 (k := 45) rfl
theorem dX12_acknowledged_68 : decode cX12_acknowledged 68 = .ok (.iload_n 1, 1) := dec_of da_X12_acknowledged_0 (k := 46) rfl
theorem dX12_acknowledged_69 : decode cX12_acknowledged 69 = .ok (.aload_n 0, 1) := dec_of da_X12_acknowledged_0 (k := 47) rfl
theorem dX12_acknowledged_70 : decode cX12_acknowledged 70 = .ok (.getfield 454, 3) := dec_of da_X12_acknowledged_0 (k := 48) rfl
theorem dX12_acknowledged_73 : decode cX12_acknowledged 73 = .ok (.iconst 2, 1) := dec_of da_X12_acknowledged_0 (k := 49) rfl
theorem dX12_acknowledged_74 : decode cX12_acknowledged 74 = .ok (.iadd, 1) := dec_of da_X12_acknowledged_0 (k := 50) rfl
theorem dX12_acknowledged_75 : decode cX12_acknowledged 75 = .ok (.iastore, 1) := dec_of da_X12_acknowledged_0 (k := 51) rfl
theorem dX12_acknowledged_76 : decode cX12_acknowledged 76 = .ok (.goto 9, 3) := dec_of da_X12_acknowledged_0 (k := 52) rfl
theorem dX12_acknowledged_79 : decode cX12_acknowledged 79 = .ok (.aload_n 0, 1) := dec_of da_X12_acknowledged_0 (k := 53) rfl
theorem dX12_acknowledged_80 : decode cX12_acknowledged 80 = .ok (.iload_n 1, 1) := dec_of da_X12_acknowledged_0 (k := 54) rfl
theorem dX12_acknowledged_81 : decode cX12_acknowledged 81 = .ok (.iconst 1, 1) := dec_of da_X12_acknowledged_0 (k := 55) rfl
theorem dX12_acknowledged_82 : decode cX12_acknowledged 82 = .ok (.invokevirtual 467, 3) := dec_of da_X12_acknowledged_0 (k := 56) rfl
theorem dX12_acknowledged_85 : decode cX12_acknowledged 85 = .ok (.return_, 1) := dec_of da_X12_acknowledged_0 (k := 57) rfl
def dl_X12_isBody_0 : List (Nat × (Instr × Nat)) := [(0, (.aload_n 0, 1)), (1, (.getfield 482, 3)), (4, (.bipush 28, 2)), (6, (.iload_n 1, 1)), (7, (.iadd, 1)), (8, (.if_icmp .ne 53, 3)), (11, (.aload_n 0, 1)), (12, (.getfield 254, 3)), (15, (.bipush 24, 2)), (17, (.iaload, 1)), (18, (.iload_n 2, 1)), (19, (.if_icmp .ne 42, 3)), (22, (.aload_n 0, 1)), (23, (.getfield 254, 3)), (26, (.bipush 25, 2)), (28, (.iaload, 1)), (29, (.iload_n 3, 1)), (30, (.if_icmp .ne 31, 3)), (33, (.aload_n 0, 1)), (34, (.getfield 254, 3)), (37, (.bipush 26, 2)), (39, (.iaload, 1)), (40, (.iload 4, 2)), (42, (.if_icmp .ne 19, 3)), (45, (.aload_n 0, 1)), (46, (.getfield 254, 3)), (49, (.bipush 27, 2)), (51, (.iaload, 1)), (52, (.iload 5, 2)), (54, (.if_icmp .ne 7, 3)), (57, (.iconst 1, 1)), (58, (.goto 4, 3)), (61, (.iconst 0, 1)), (62, (.ireturn, 1))]
set_option maxRecDepth 100000 in
theorem da_X12_isBody_0 : dl_X12_isBody_0.all (fun q => decide (decode cX12_isBody q.1 = .ok q.2)) = true := by decide +kernel
theorem dX12_isBody_0 : decode cX12_isBody 0 = .ok (.aload_n 0, 1) := dec_of da_X12_isBody_0 (k := 0) rfl
theorem dX12_isBody_1 : decode cX12_isBody 1 = .ok (.getfield 482, 3) := dec_of da_X12_isBody_0 (k := 1) rfl
theorem dX12_isBody_4 : decode cX12_isBody 4 = .ok (.bipush 28, 2) := dec_of da_X12_isBody_0 (k := 2) rfl
theorem dX12_isBody_6 : decode cX12_isBody 6 = .ok (.iload_n 1, 1) := dec_of da_X12_isBody_0 (k := 3) rfl
theorem dX12_isBody_7 : decode cX12_isBody 7 = .ok (.iadd, 1) := dec_of da_X12_isBody_0 (k := 4) rfl
theorem dX12_isBody_8 : decode cX12_isBody 8 = .ok (.if_icmp .ne 53, 3) := dec_of da_X12_isBody_0 (k := 5) rfl
theorem dX12_isBody_11 : decode cX12_isBody 11 = .ok (.aload_n 0, 1) := dec_of da_X12_isBody_0 (k := 6) rfl
theorem dX12_isBody_12 : decode cX12_isBody 12 = .ok (.getfield 254, 3) := dec_of da_X12_isBody_0 (k := 7) rfl
theorem dX12_isBody_15 : decode cX12_isBody 15 = .ok (.bipush 24, 2) := dec_of da_X12_isBody_0 (k := 8) rfl
theorem dX12_isBody_17 : decode cX12_isBody 17 = .ok (.iaload, 1) := dec_of da_X12_isBody_0 (k := 9) rfl
theorem dX12_isBody_18 : decode cX12_isBody 18 = .ok (.iload_n 2, 1) := dec_of da_X12_isBody_0 (k := 10) rfl
theorem dX12_isBody_19 : decode cX12_isBody 19 = .ok (.if_icmp .ne 42, 3) := dec_of da_X12_isBody_0 (k := 11) rfl
theorem dX12_isBody_22 : decode cX12_isBody 22 = .ok (.aload_n 0, 1) := dec_of da_X12_isBody_0 (k := 12) rfl
theorem dX12_isBody_23 : decode cX12_isBody 23 = .ok (.getfield 254, 3) := dec_of da_X12_isBody_0 (k := 13) rfl
theorem dX12_isBody_26 : decode cX12_isBody 26 = .ok (.bipush 25, 2) := dec_of da_X12_isBody_0 (k := 14) rfl
theorem dX12_isBody_28 : decode cX12_isBody 28 = .ok (.iaload, 1) := dec_of da_X12_isBody_0 (k := 15) rfl
theorem dX12_isBody_29 : decode cX12_isBody 29 = .ok (.iload_n 3, 1) := dec_of da_X12_isBody_0 (k := 16) rfl
theorem dX12_isBody_30 : decode cX12_isBody 30 = .ok (.if_icmp .ne 31, 3) := dec_of da_X12_isBody_0 (k := 17) rfl
theorem dX12_isBody_33 : decode cX12_isBody 33 = .ok (.aload_n 0, 1) := dec_of da_X12_isBody_0 (k := 18) rfl
theorem dX12_isBody_34 : decode cX12_isBody 34 = .ok (.getfield 254, 3) := dec_of da_X12_isBody_0 (k := 19) rfl
theorem dX12_isBody_37 : decode cX12_isBody 37 = .ok (.bipush 26, 2) := dec_of da_X12_isBody_0 (k := 20) rfl
theorem dX12_isBody_39 : decode cX12_isBody 39 = .ok (.iaload, 1) := dec_of da_X12_isBody_0 (k := 21) rfl
theorem dX12_isBody_40 : decode cX12_isBody 40 = .ok (.iload 4, 2) := dec_of da_X12_isBody_0 (k := 22) rfl
theorem dX12_isBody_42 : decode cX12_isBody 42 = .ok (.if_icmp .ne 19, 3) := dec_of da_X12_isBody_0 (k := 23) rfl
theorem dX12_isBody_45 : decode cX12_isBody 45 = .ok (.aload_n 0, 1) := dec_of da_X12_isBody_0 (k := 24) rfl
theorem dX12_isBody_46 : decode cX12_isBody 46 = .ok (.getfield 254, 3) := dec_of da_X12_isBody_0 (k := 25) rfl
theorem dX12_isBody_49 : decode cX12_isBody 49 = .ok (.bipush 27, 2) := dec_of da_X12_isBody_0 (k := 26) rfl
theorem dX12_isBody_51 : decode cX12_isBody 51 = .ok (.iaload, 1) := dec_of da_X12_isBody_0 (k := 27) rfl
theorem dX12_isBody_52 : decode cX12_isBody 52 = .ok (.iload 5, 2) := dec_of da_X12_isBody_0 (k := 28) rfl
theorem dX12_isBody_54 : decode cX12_isBody 54 = .ok (.if_icmp .ne 7, 3) := dec_of da_X12_isBody_0 (k := 29) rfl
theorem dX12_isBody_57 : decode cX12_isBody 57 = .ok (.iconst 1, 1) := dec_of da_X12_isBody_0 (k := 30) rfl
theorem dX12_isBody_58 : decode cX12_isBody 58 = .ok (.goto 4, 3) := dec_of da_X12_isBody_0 (k := 31) rfl
theorem dX12_isBody_61 : decode cX12_isBody 61 = .ok (.iconst 0, 1) := dec_of da_X12_isBody_0 (k := 32) rfl
theorem dX12_isBody_62 : decode cX12_isBody 62 = .ok (.ireturn, 1) := dec_of da_X12_isBody_0 (k := 33) rfl
def dl_X12_handOf_0 : List (Nat × (Instr × Nat)) := [(0, (.aload_n 0, 1)), (1, (.getfield 254, 3)), (4, (.bipush 22, 2)), (6, (.iaload, 1)), (7, (.bipush 15, 2)), (9, (.iand, 1)), (10, (.ifCond .ne 24, 3)), (13, (.aload_n 0, 1)), (14, (.getfield 254, 3)), (17, (.iconst 1, 1)), (18, (.iaload, 1)), (19, (.bipush 68, 2)), (21, (.iand, 1)), (22, (.ifCond .ne 12, 3)), (25, (.aload_n 0, 1)), (26, (.getfield 482, 3)), (29, (.bipush 37, 2)), (31, (.if_icmp .ge 5, 3)), (34, (.iconst 0, 1)), (35, (.ireturn, 1)), (36, (.aload_n 0, 1)), (37, (.getfield 254, 3)), (40, (.bipush 24, 2)), (42, (.iaload, 1)), (43, (.sipush 170, 3)), (46, (.if_icmp .ne 87, 3)), (49, (.aload_n 0, 1)), (50, (.getfield 254, 3)), (53, (.bipush 25, 2)), (55, (.iaload, 1)), (56, (.sipush 170, 3)), (59, (.if_icmp .ne 74, 3)), (62, (.aload_n 0, 1)), (63, (.getfield 254, 3)), (66, (.bipush 26, 2)), (68, (.iaload, 1)), (69, (.iconst 3, 1)), (70, (.if_icmp .ne 63, 3)), (73, (.aload_n 0, 1)), (74, (.getfield 254, 3)), (77, (.bipush 27, 2)), (79, (.iaload, 1)), (80, (.ifCond .ne 53, 3)), (83, (.aload_n 0, 1)), (84, (.getfield 254, 3)), (87, (.bipush 28, 2)), (89, (.iaload, 1)), (90, (.ifCond .ne 43, 3)), (93, (.aload_n 0, 1)), (94, (.getfield 254, 3)), (97, (.bipush 29, 2)), (99, (.iaload, 1)), (100, (.ifCond .ne 33, 3)), (103, (.aload_n 0, 1)), (104, (.getfield 254, 3)), (107, (.bipush 30, 2)), (109, (.iaload, 1)), (110, (.sipush 136, 3)), (113, (.if_icmp .ne 20, 3)), (116, (.aload_n 0, 1))]
set_option maxRecDepth 100000 in
theorem da_X12_handOf_0 : dl_X12_handOf_0.all (fun q => decide (decode cX12_handOf q.1 = .ok q.2)) = true := by decide +kernel
theorem dX12_handOf_0 : decode cX12_handOf 0 = .ok (.aload_n 0, 1) := dec_of da_X12_handOf_0 (k := 0) rfl
theorem dX12_handOf_1 : decode cX12_handOf 1 = .ok (.getfield 254, 3) := dec_of da_X12_handOf_0 (k := 1) rfl
theorem dX12_handOf_4 : decode cX12_handOf 4 = .ok (.bipush 22, 2) := dec_of da_X12_handOf_0 (k := 2) rfl
theorem dX12_handOf_6 : decode cX12_handOf 6 = .ok (.iaload, 1) := dec_of da_X12_handOf_0 (k := 3) rfl
theorem dX12_handOf_7 : decode cX12_handOf 7 = .ok (.bipush 15, 2) := dec_of da_X12_handOf_0 (k := 4) rfl
theorem dX12_handOf_9 : decode cX12_handOf 9 = .ok (.iand, 1) := dec_of da_X12_handOf_0 (k := 5) rfl
theorem dX12_handOf_10 : decode cX12_handOf 10 = .ok (.ifCond .ne 24, 3) := dec_of da_X12_handOf_0 (k := 6) rfl
theorem dX12_handOf_13 : decode cX12_handOf 13 = .ok (.aload_n 0, 1) := dec_of da_X12_handOf_0 (k := 7) rfl
theorem dX12_handOf_14 : decode cX12_handOf 14 = .ok (.getfield 254, 3) := dec_of da_X12_handOf_0 (k := 8) rfl
theorem dX12_handOf_17 : decode cX12_handOf 17 = .ok (.iconst 1, 1) := dec_of da_X12_handOf_0 (k := 9) rfl
theorem dX12_handOf_18 : decode cX12_handOf 18 = .ok (.iaload, 1) := dec_of da_X12_handOf_0 (k := 10) rfl
theorem dX12_handOf_19 : decode cX12_handOf 19 = .ok (.bipush 68, 2) := dec_of da_X12_handOf_0 (k := 11) rfl
theorem dX12_handOf_21 : decode cX12_handOf 21 = .ok (.iand, 1) := dec_of da_X12_handOf_0 (k := 12) rfl
theorem dX12_handOf_22 : decode cX12_handOf 22 = .ok (.ifCond .ne 12, 3) := dec_of da_X12_handOf_0 (k := 13) rfl
theorem dX12_handOf_25 : decode cX12_handOf 25 = .ok (.aload_n 0, 1) := dec_of da_X12_handOf_0 (k := 14) rfl
theorem dX12_handOf_26 : decode cX12_handOf 26 = .ok (.getfield 482, 3) := dec_of da_X12_handOf_0 (k := 15) rfl
theorem dX12_handOf_29 : decode cX12_handOf 29 = .ok (.bipush 37, 2) := dec_of da_X12_handOf_0 (k := 16) rfl
theorem dX12_handOf_31 : decode cX12_handOf 31 = .ok (.if_icmp .ge 5, 3) := dec_of da_X12_handOf_0 (k := 17) rfl
theorem dX12_handOf_34 : decode cX12_handOf 34 = .ok (.iconst 0, 1) := dec_of da_X12_handOf_0 (k := 18) rfl
theorem dX12_handOf_35 : decode cX12_handOf 35 = .ok (.ireturn, 1) := dec_of da_X12_handOf_0 (k := 19) rfl
theorem dX12_handOf_36 : decode cX12_handOf 36 = .ok (.aload_n 0, 1) := dec_of da_X12_handOf_0 (k := 20) rfl
theorem dX12_handOf_37 : decode cX12_handOf 37 = .ok (.getfield 254, 3) := dec_of da_X12_handOf_0 (k := 21) rfl
theorem dX12_handOf_40 : decode cX12_handOf 40 = .ok (.bipush 24, 2) := dec_of da_X12_handOf_0 (k := 22) rfl
theorem dX12_handOf_42 : decode cX12_handOf 42 = .ok (.iaload, 1) := dec_of da_X12_handOf_0 (k := 23) rfl
theorem dX12_handOf_43 : decode cX12_handOf 43 = .ok (.sipush 170, 3) := dec_of da_X12_handOf_0 (k := 24) rfl
theorem dX12_handOf_46 : decode cX12_handOf 46 = .ok (.if_icmp .ne 87, 3) := dec_of da_X12_handOf_0 (k := 25) rfl
theorem dX12_handOf_49 : decode cX12_handOf 49 = .ok (.aload_n 0, 1) := dec_of da_X12_handOf_0 (k := 26) rfl
theorem dX12_handOf_50 : decode cX12_handOf 50 = .ok (.getfield 254, 3) := dec_of da_X12_handOf_0 (k := 27) rfl
theorem dX12_handOf_53 : decode cX12_handOf 53 = .ok (.bipush 25, 2) := dec_of da_X12_handOf_0 (k := 28) rfl
theorem dX12_handOf_55 : decode cX12_handOf 55 = .ok (.iaload, 1) := dec_of da_X12_handOf_0 (k := 29) rfl
theorem dX12_handOf_56 : decode cX12_handOf 56 = .ok (.sipush 170, 3) := dec_of da_X12_handOf_0 (k := 30) rfl
theorem dX12_handOf_59 : decode cX12_handOf 59 = .ok (.if_icmp .ne 74, 3) := dec_of da_X12_handOf_0 (k := 31) rfl
theorem dX12_handOf_62 : decode cX12_handOf 62 = .ok (.aload_n 0, 1) := dec_of da_X12_handOf_0 (k := 32) rfl
theorem dX12_handOf_63 : decode cX12_handOf 63 = .ok (.getfield 254, 3) := dec_of da_X12_handOf_0 (k := 33) rfl
theorem dX12_handOf_66 : decode cX12_handOf 66 = .ok (.bipush 26, 2) := dec_of da_X12_handOf_0 (k := 34) rfl
theorem dX12_handOf_68 : decode cX12_handOf 68 = .ok (.iaload, 1) := dec_of da_X12_handOf_0 (k := 35) rfl
theorem dX12_handOf_69 : decode cX12_handOf 69 = .ok (.iconst 3, 1) := dec_of da_X12_handOf_0 (k := 36) rfl
theorem dX12_handOf_70 : decode cX12_handOf 70 = .ok (.if_icmp .ne 63, 3) := dec_of da_X12_handOf_0 (k := 37) rfl
theorem dX12_handOf_73 : decode cX12_handOf 73 = .ok (.aload_n 0, 1) := dec_of da_X12_handOf_0 (k := 38) rfl
theorem dX12_handOf_74 : decode cX12_handOf 74 = .ok (.getfield 254, 3) := dec_of da_X12_handOf_0 (k := 39) rfl
theorem dX12_handOf_77 : decode cX12_handOf 77 = .ok (.bipush 27, 2) := dec_of da_X12_handOf_0 (k := 40) rfl
theorem dX12_handOf_79 : decode cX12_handOf 79 = .ok (.iaload, 1) := dec_of da_X12_handOf_0 (k := 41) rfl
theorem dX12_handOf_80 : decode cX12_handOf 80 = .ok (.ifCond .ne 53, 3) := dec_of da_X12_handOf_0 (k := 42) rfl
theorem dX12_handOf_83 : decode cX12_handOf 83 = .ok (.aload_n 0, 1) := dec_of da_X12_handOf_0 (k := 43) rfl
theorem dX12_handOf_84 : decode cX12_handOf 84 = .ok (.getfield 254, 3) := dec_of da_X12_handOf_0 (k := 44) rfl
theorem dX12_handOf_87 : decode cX12_handOf 87 = .ok (.bipush 28, 2) := dec_of da_X12_handOf_0 (k := 45) rfl
theorem dX12_handOf_89 : decode cX12_handOf 89 = .ok (.iaload, 1) := dec_of da_X12_handOf_0 (k := 46) rfl
theorem dX12_handOf_90 : decode cX12_handOf 90 = .ok (.ifCond .ne 43, 3) := dec_of da_X12_handOf_0 (k := 47) rfl
theorem dX12_handOf_93 : decode cX12_handOf 93 = .ok (.aload_n 0, 1) := dec_of da_X12_handOf_0 (k := 48) rfl
theorem dX12_handOf_94 : decode cX12_handOf 94 = .ok (.getfield 254, 3) := dec_of da_X12_handOf_0 (k := 49) rfl
theorem dX12_handOf_97 : decode cX12_handOf 97 = .ok (.bipush 29, 2) := dec_of da_X12_handOf_0 (k := 50) rfl
theorem dX12_handOf_99 : decode cX12_handOf 99 = .ok (.iaload, 1) := dec_of da_X12_handOf_0 (k := 51) rfl
theorem dX12_handOf_100 : decode cX12_handOf 100 = .ok (.ifCond .ne 33, 3) := dec_of da_X12_handOf_0 (k := 52) rfl
theorem dX12_handOf_103 : decode cX12_handOf 103 = .ok (.aload_n 0, 1) := dec_of da_X12_handOf_0 (k := 53) rfl
theorem dX12_handOf_104 : decode cX12_handOf 104 = .ok (.getfield 254, 3) := dec_of da_X12_handOf_0 (k := 54) rfl
theorem dX12_handOf_107 : decode cX12_handOf 107 = .ok (.bipush 30, 2) := dec_of da_X12_handOf_0 (k := 55) rfl
theorem dX12_handOf_109 : decode cX12_handOf 109 = .ok (.iaload, 1) := dec_of da_X12_handOf_0 (k := 56) rfl
theorem dX12_handOf_110 : decode cX12_handOf 110 = .ok (.sipush 136, 3) := dec_of da_X12_handOf_0 (k := 57) rfl
theorem dX12_handOf_113 : decode cX12_handOf 113 = .ok (.if_icmp .ne 20, 3) := dec_of da_X12_handOf_0 (k := 58) rfl
theorem dX12_handOf_116 : decode cX12_handOf 116 = .ok (.aload_n 0, 1) := dec_of da_X12_handOf_0 (k := 59) rfl
def dl_X12_handOf_1 : List (Nat × (Instr × Nat)) := [(117, (.getfield 254, 3)), (120, (.bipush 31, 2)), (122, (.iaload, 1)), (123, (.sipush 142, 3)), (126, (.if_icmp .ne 7, 3)), (129, (.iconst 1, 1)), (130, (.goto 4, 3)), (133, (.iconst 0, 1)), (134, (.istore_n 1, 1)), (135, (.aload_n 0, 1)), (136, (.getfield 254, 3)), (139, (.bipush 32, 2)), (141, (.iaload, 1)), (142, (.istore_n 2, 1)), (143, (.iload_n 2, 1)), (144, (.iconst 1, 1)), (145, (.if_icmp .ne 8, 3)), (148, (.bipush 41, 2)), (150, (.goto 29, 3)), (153, (.iload_n 2, 1)), (154, (.iconst 2, 1)), (155, (.if_icmp .eq 8, 3)), (158, (.iload_n 2, 1)), (159, (.iconst 3, 1)), (160, (.if_icmp .ne 8, 3)), (163, (.bipush 57, 2)), (165, (.goto 14, 3)), (168, (.iload_n 2, 1)), (169, (.iconst 4, 1)), (170, (.if_icmp .ne 8, 3)), (173, (.bipush 25, 2)), (175, (.goto 4, 3)), (178, (.iconst (-1), 1)), (179, (.istore_n 3, 1)), (180, (.iload_n 1, 1)), (181, (.ifCond .eq 18, 3)), (184, (.aload_n 0, 1)), (185, (.getfield 482, 3)), (188, (.bipush 28, 2)), (190, (.isub, 1)), (191, (.iload_n 3, 1)), (192, (.if_icmp .ne 7, 3)), (195, (.iload_n 2, 1)), (196, (.goto 4, 3)), (199, (.iconst 0, 1)), (200, (.ireturn, 1))]
set_option maxRecDepth 100000 in
theorem da_X12_handOf_1 : dl_X12_handOf_1.all (fun q => decide (decode cX12_handOf q.1 = .ok q.2)) = true := by decide +kernel
theorem dX12_handOf_117 : decode cX12_handOf 117 = .ok (.getfield 254, 3) := dec_of da_X12_handOf_1 (k := 0) rfl
theorem dX12_handOf_120 : decode cX12_handOf 120 = .ok (.bipush 31, 2) := dec_of da_X12_handOf_1 (k := 1) rfl
theorem dX12_handOf_122 : decode cX12_handOf 122 = .ok (.iaload, 1) := dec_of da_X12_handOf_1 (k := 2) rfl
theorem dX12_handOf_123 : decode cX12_handOf 123 = .ok (.sipush 142, 3) := dec_of da_X12_handOf_1 (k := 3) rfl
theorem dX12_handOf_126 : decode cX12_handOf 126 = .ok (.if_icmp .ne 7, 3) := dec_of da_X12_handOf_1 (k := 4) rfl
theorem dX12_handOf_129 : decode cX12_handOf 129 = .ok (.iconst 1, 1) := dec_of da_X12_handOf_1 (k := 5) rfl
theorem dX12_handOf_130 : decode cX12_handOf 130 = .ok (.goto 4, 3) := dec_of da_X12_handOf_1 (k := 6) rfl
theorem dX12_handOf_133 : decode cX12_handOf 133 = .ok (.iconst 0, 1) := dec_of da_X12_handOf_1 (k := 7) rfl
theorem dX12_handOf_134 : decode cX12_handOf 134 = .ok (.istore_n 1, 1) := dec_of da_X12_handOf_1 (k := 8) rfl
theorem dX12_handOf_135 : decode cX12_handOf 135 = .ok (.aload_n 0, 1) := dec_of da_X12_handOf_1 (k := 9) rfl
theorem dX12_handOf_136 : decode cX12_handOf 136 = .ok (.getfield 254, 3) := dec_of da_X12_handOf_1 (k := 10) rfl
theorem dX12_handOf_139 : decode cX12_handOf 139 = .ok (.bipush 32, 2) := dec_of da_X12_handOf_1 (k := 11) rfl
theorem dX12_handOf_141 : decode cX12_handOf 141 = .ok (.iaload, 1) := dec_of da_X12_handOf_1 (k := 12) rfl
theorem dX12_handOf_142 : decode cX12_handOf 142 = .ok (.istore_n 2, 1) := dec_of da_X12_handOf_1 (k := 13) rfl
theorem dX12_handOf_143 : decode cX12_handOf 143 = .ok (.iload_n 2, 1) := dec_of da_X12_handOf_1 (k := 14) rfl
theorem dX12_handOf_144 : decode cX12_handOf 144 = .ok (.iconst 1, 1) := dec_of da_X12_handOf_1 (k := 15) rfl
theorem dX12_handOf_145 : decode cX12_handOf 145 = .ok (.if_icmp .ne 8, 3) := dec_of da_X12_handOf_1 (k := 16) rfl
theorem dX12_handOf_148 : decode cX12_handOf 148 = .ok (.bipush 41, 2) := dec_of da_X12_handOf_1 (k := 17) rfl
theorem dX12_handOf_150 : decode cX12_handOf 150 = .ok (.goto 29, 3) := dec_of da_X12_handOf_1 (k := 18) rfl
theorem dX12_handOf_153 : decode cX12_handOf 153 = .ok (.iload_n 2, 1) := dec_of da_X12_handOf_1 (k := 19) rfl
theorem dX12_handOf_154 : decode cX12_handOf 154 = .ok (.iconst 2, 1) := dec_of da_X12_handOf_1 (k := 20) rfl
theorem dX12_handOf_155 : decode cX12_handOf 155 = .ok (.if_icmp .eq 8, 3) := dec_of da_X12_handOf_1 (k := 21) rfl
theorem dX12_handOf_158 : decode cX12_handOf 158 = .ok (.iload_n 2, 1) := dec_of da_X12_handOf_1 (k := 22) rfl
theorem dX12_handOf_159 : decode cX12_handOf 159 = .ok (.iconst 3, 1) := dec_of da_X12_handOf_1 (k := 23) rfl
theorem dX12_handOf_160 : decode cX12_handOf 160 = .ok (.if_icmp .ne 8, 3) := dec_of da_X12_handOf_1 (k := 24) rfl
theorem dX12_handOf_163 : decode cX12_handOf 163 = .ok (.bipush 57, 2) := dec_of da_X12_handOf_1 (k := 25) rfl
theorem dX12_handOf_165 : decode cX12_handOf 165 = .ok (.goto 14, 3) := dec_of da_X12_handOf_1 (k := 26) rfl
theorem dX12_handOf_168 : decode cX12_handOf 168 = .ok (.iload_n 2, 1) := dec_of da_X12_handOf_1 (k := 27) rfl
theorem dX12_handOf_169 : decode cX12_handOf 169 = .ok (.iconst 4, 1) := dec_of da_X12_handOf_1 (k := 28) rfl
theorem dX12_handOf_170 : decode cX12_handOf 170 = .ok (.if_icmp .ne 8, 3) := dec_of da_X12_handOf_1 (k := 29) rfl
theorem dX12_handOf_173 : decode cX12_handOf 173 = .ok (.bipush 25, 2) := dec_of da_X12_handOf_1 (k := 30) rfl
theorem dX12_handOf_175 : decode cX12_handOf 175 = .ok (.goto 4, 3) := dec_of da_X12_handOf_1 (k := 31) rfl
theorem dX12_handOf_178 : decode cX12_handOf 178 = .ok (.iconst (-1), 1) := dec_of da_X12_handOf_1 (k := 32) rfl
theorem dX12_handOf_179 : decode cX12_handOf 179 = .ok (.istore_n 3, 1) := dec_of da_X12_handOf_1 (k := 33) rfl
theorem dX12_handOf_180 : decode cX12_handOf 180 = .ok (.iload_n 1, 1) := dec_of da_X12_handOf_1 (k := 34) rfl
theorem dX12_handOf_181 : decode cX12_handOf 181 = .ok (.ifCond .eq 18, 3) := dec_of da_X12_handOf_1 (k := 35) rfl
theorem dX12_handOf_184 : decode cX12_handOf 184 = .ok (.aload_n 0, 1) := dec_of da_X12_handOf_1 (k := 36) rfl
theorem dX12_handOf_185 : decode cX12_handOf 185 = .ok (.getfield 482, 3) := dec_of da_X12_handOf_1 (k := 37) rfl
theorem dX12_handOf_188 : decode cX12_handOf 188 = .ok (.bipush 28, 2) := dec_of da_X12_handOf_1 (k := 38) rfl
theorem dX12_handOf_190 : decode cX12_handOf 190 = .ok (.isub, 1) := dec_of da_X12_handOf_1 (k := 39) rfl
theorem dX12_handOf_191 : decode cX12_handOf 191 = .ok (.iload_n 3, 1) := dec_of da_X12_handOf_1 (k := 40) rfl
theorem dX12_handOf_192 : decode cX12_handOf 192 = .ok (.if_icmp .ne 7, 3) := dec_of da_X12_handOf_1 (k := 41) rfl
theorem dX12_handOf_195 : decode cX12_handOf 195 = .ok (.iload_n 2, 1) := dec_of da_X12_handOf_1 (k := 42) rfl
theorem dX12_handOf_196 : decode cX12_handOf 196 = .ok (.goto 4, 3) := dec_of da_X12_handOf_1 (k := 43) rfl
theorem dX12_handOf_199 : decode cX12_handOf 199 = .ok (.iconst 0, 1) := dec_of da_X12_handOf_1 (k := 44) rfl
theorem dX12_handOf_200 : decode cX12_handOf 200 = .ok (.ireturn, 1) := dec_of da_X12_handOf_1 (k := 45) rfl
def dl_X12_beginsMessage_0 : List (Nat × (Instr × Nat)) := [(0, (.aload_n 0, 1)), (1, (.iconst 0, 1)), (2, (.putfield 404, 3)), (5, (.aload_n 0, 1)), (6, (.sipush 170, 3)), (9, (.invokevirtual 534, 3)), (12, (.aload_n 0, 1)), (13, (.sipush 170, 3)), (16, (.invokevirtual 534, 3)), (19, (.aload_n 0, 1)), (20, (.iconst 3, 1)), (21, (.invokevirtual 534, 3)), (24, (.aload_n 0, 1)), (25, (.iconst 0, 1)), (26, (.invokevirtual 534, 3)), (29, (.aload_n 0, 1)), (30, (.iconst 0, 1)), (31, (.invokevirtual 534, 3)), (34, (.aload_n 0, 1)), (35, (.iconst 0, 1)), (36, (.invokevirtual 534, 3)), (39, (.aload_n 0, 1)), (40, (.iload_n 1, 1)), (41, (.invokevirtual 534, 3)), (44, (.aload_n 0, 1)), (45, (.iload_n 2, 1)), (46, (.invokevirtual 534, 3)), (49, (.return_, 1))]
set_option maxRecDepth 100000 in
theorem da_X12_beginsMessage_0 : dl_X12_beginsMessage_0.all (fun q => decide (decode cX12_beginsMessage q.1 = .ok q.2)) = true := by decide +kernel
theorem dX12_beginsMessage_0 : decode cX12_beginsMessage 0 = .ok (.aload_n 0, 1) := dec_of da_X12_beginsMessage_0 (k := 0) rfl
theorem dX12_beginsMessage_1 : decode cX12_beginsMessage 1 = .ok (.iconst 0, 1) := dec_of da_X12_beginsMessage_0 (k := 1) rfl
theorem dX12_beginsMessage_2 : decode cX12_beginsMessage 2 = .ok (.putfield 404, 3) := dec_of da_X12_beginsMessage_0 (k := 2) rfl
theorem dX12_beginsMessage_5 : decode cX12_beginsMessage 5 = .ok (.aload_n 0, 1) := dec_of da_X12_beginsMessage_0 (k := 3) rfl
theorem dX12_beginsMessage_6 : decode cX12_beginsMessage 6 = .ok (.sipush 170, 3) := dec_of da_X12_beginsMessage_0 (k := 4) rfl
theorem dX12_beginsMessage_9 : decode cX12_beginsMessage 9 = .ok (.invokevirtual 534, 3) := dec_of da_X12_beginsMessage_0 (k := 5) rfl
theorem dX12_beginsMessage_12 : decode cX12_beginsMessage 12 = .ok (.aload_n 0, 1) := dec_of da_X12_beginsMessage_0 (k := 6) rfl
theorem dX12_beginsMessage_13 : decode cX12_beginsMessage 13 = .ok (.sipush 170, 3) := dec_of da_X12_beginsMessage_0 (k := 7) rfl
theorem dX12_beginsMessage_16 : decode cX12_beginsMessage 16 = .ok (.invokevirtual 534, 3) := dec_of da_X12_beginsMessage_0 (k := 8) rfl
theorem dX12_beginsMessage_19 : decode cX12_beginsMessage 19 = .ok (.aload_n 0, 1) := dec_of da_X12_beginsMessage_0 (k := 9) rfl
theorem dX12_beginsMessage_20 : decode cX12_beginsMessage 20 = .ok (.iconst 3, 1) := dec_of da_X12_beginsMessage_0 (k := 10) rfl
theorem dX12_beginsMessage_21 : decode cX12_beginsMessage 21 = .ok (.invokevirtual 534, 3) := dec_of da_X12_beginsMessage_0 (k := 11) rfl
theorem dX12_beginsMessage_24 : decode cX12_beginsMessage 24 = .ok (.aload_n 0, 1) := dec_of da_X12_beginsMessage_0 (k := 12) rfl
theorem dX12_beginsMessage_25 : decode cX12_beginsMessage 25 = .ok (.iconst 0, 1) := dec_of da_X12_beginsMessage_0 (k := 13) rfl
theorem dX12_beginsMessage_26 : decode cX12_beginsMessage 26 = .ok (.invokevirtual 534, 3) := dec_of da_X12_beginsMessage_0 (k := 14) rfl
theorem dX12_beginsMessage_29 : decode cX12_beginsMessage 29 = .ok (.aload_n 0, 1) := dec_of da_X12_beginsMessage_0 (k := 15) rfl
theorem dX12_beginsMessage_30 : decode cX12_beginsMessage 30 = .ok (.iconst 0, 1) := dec_of da_X12_beginsMessage_0 (k := 16) rfl
theorem dX12_beginsMessage_31 : decode cX12_beginsMessage 31 = .ok (.invokevirtual 534, 3) := dec_of da_X12_beginsMessage_0 (k := 17) rfl
theorem dX12_beginsMessage_34 : decode cX12_beginsMessage 34 = .ok (.aload_n 0, 1) := dec_of da_X12_beginsMessage_0 (k := 18) rfl
theorem dX12_beginsMessage_35 : decode cX12_beginsMessage 35 = .ok (.iconst 0, 1) := dec_of da_X12_beginsMessage_0 (k := 19) rfl
theorem dX12_beginsMessage_36 : decode cX12_beginsMessage 36 = .ok (.invokevirtual 534, 3) := dec_of da_X12_beginsMessage_0 (k := 20) rfl
theorem dX12_beginsMessage_39 : decode cX12_beginsMessage 39 = .ok (.aload_n 0, 1) := dec_of da_X12_beginsMessage_0 (k := 21) rfl
theorem dX12_beginsMessage_40 : decode cX12_beginsMessage 40 = .ok (.iload_n 1, 1) := dec_of da_X12_beginsMessage_0 (k := 22) rfl
theorem dX12_beginsMessage_41 : decode cX12_beginsMessage 41 = .ok (.invokevirtual 534, 3) := dec_of da_X12_beginsMessage_0 (k := 23) rfl
theorem dX12_beginsMessage_44 : decode cX12_beginsMessage 44 = .ok (.aload_n 0, 1) := dec_of da_X12_beginsMessage_0 (k := 24) rfl
theorem dX12_beginsMessage_45 : decode cX12_beginsMessage 45 = .ok (.iload_n 2, 1) := dec_of da_X12_beginsMessage_0 (k := 25) rfl
theorem dX12_beginsMessage_46 : decode cX12_beginsMessage 46 = .ok (.invokevirtual 534, 3) := dec_of da_X12_beginsMessage_0 (k := 26) rfl
theorem dX12_beginsMessage_49 : decode cX12_beginsMessage 49 = .ok (.return_, 1) := dec_of da_X12_beginsMessage_0 (k := 27) rfl
def dl_X12_sendsHand_0 : List (Nat × (Instr × Nat)) := [(0, (.aload_n 0, 1)), (1, (.sipush 136, 3)), (4, (.sipush 142, 3)), (7, (.invokevirtual 537, 3)), (10, (.aload_n 0, 1)), (11, (.iload_n 3, 1)), (12, (.invokevirtual 534, 3)), (15, (.iconst 0, 1)), (16, (.istore 6, 2)), (18, (.iload 6, 2)), (20, (.bipush 32, 2)), (22, (.if_icmp .ge 31, 3)), (25, (.iload 4, 2)), (27, (.ifCond .lt 26, 3)), (30, (.aload_n 0, 1)), (31, (.aload_n 0, 1)), (32, (.getfield 58, 3)), (35, (.bipush 32, 2)), (37, (.iload 4, 2)), (39, (.imul, 1)), (40, (.iload 6, 2)), (42, (.iadd, 1)), (43, (.iaload, 1)), (44, (.invokevirtual 534, 3)), (47, (.iinc 6 1, 3)), (50, (.goto (-32), 3)), (53, (.iload_n 3, 1)), (54, (.iconst 1, 1)), (55, (.if_icmp .le 56, 3)), (58, (.aload_n 0, 1)), (59, (.aload_n 0, 1)), (60, (.getfield 77, 3)), (63, (.bipush 48, 2)), (65, (.iload 5, 2)), (67, (.imul, 1)), (68, (.aload_n 0, 1)), (69, (.getfield 175, 3)), (72, (.bipush 8, 2)), (74, (.aload_n 0, 1)), (75, (.getfield 404, 3)), (78, (.bipush 8, 2)), (80, (.isub, 1)), (81, (.invokevirtual 394, 3)), (84, (.iconst 0, 1)), (85, (.istore 6, 2)), (87, (.iload 6, 2)), (89, (.bipush 16, 2)), (91, (.if_icmp .ge 20, 3)), (94, (.aload_n 0, 1)), (95, (.aload_n 0, 1)), (96, (.getfield 19, 3)), (99, (.iload 6, 2)), (101, (.iaload, 1)), (102, (.invokevirtual 534, 3)), (105, (.iinc 6 1, 3)), (108, (.goto (-21), 3)), (111, (.aload_n 0, 1)), (112, (.iload_n 1, 1)), (113, (.bipush 8, 2)), (115, (.iload_n 2, 1))]
set_option maxRecDepth 100000 in
theorem da_X12_sendsHand_0 : dl_X12_sendsHand_0.all (fun q => decide (decode cX12_sendsHand q.1 = .ok q.2)) = true := by decide +kernel
theorem dX12_sendsHand_0 : decode cX12_sendsHand 0 = .ok (.aload_n 0, 1) := dec_of da_X12_sendsHand_0 (k := 0) rfl
theorem dX12_sendsHand_1 : decode cX12_sendsHand 1 = .ok (.sipush 136, 3) := dec_of da_X12_sendsHand_0 (k := 1) rfl
theorem dX12_sendsHand_4 : decode cX12_sendsHand 4 = .ok (.sipush 142, 3) := dec_of da_X12_sendsHand_0 (k := 2) rfl
theorem dX12_sendsHand_7 : decode cX12_sendsHand 7 = .ok (.invokevirtual 537, 3) := dec_of da_X12_sendsHand_0 (k := 3) rfl
theorem dX12_sendsHand_10 : decode cX12_sendsHand 10 = .ok (.aload_n 0, 1) := dec_of da_X12_sendsHand_0 (k := 4) rfl
theorem dX12_sendsHand_11 : decode cX12_sendsHand 11 = .ok (.iload_n 3, 1) := dec_of da_X12_sendsHand_0 (k := 5) rfl
theorem dX12_sendsHand_12 : decode cX12_sendsHand 12 = .ok (.invokevirtual 534, 3) := dec_of da_X12_sendsHand_0 (k := 6) rfl
theorem dX12_sendsHand_15 : decode cX12_sendsHand 15 = .ok (.iconst 0, 1) := dec_of da_X12_sendsHand_0 (k := 7) rfl
theorem dX12_sendsHand_16 : decode cX12_sendsHand 16 = .ok (.istore 6, 2) := dec_of da_X12_sendsHand_0 (k := 8) rfl
theorem dX12_sendsHand_18 : decode cX12_sendsHand 18 = .ok (.iload 6, 2) := dec_of da_X12_sendsHand_0 (k := 9) rfl
theorem dX12_sendsHand_20 : decode cX12_sendsHand 20 = .ok (.bipush 32, 2) := dec_of da_X12_sendsHand_0 (k := 10) rfl
theorem dX12_sendsHand_22 : decode cX12_sendsHand 22 = .ok (.if_icmp .ge 31, 3) := dec_of da_X12_sendsHand_0 (k := 11) rfl
theorem dX12_sendsHand_25 : decode cX12_sendsHand 25 = .ok (.iload 4, 2) := dec_of da_X12_sendsHand_0 (k := 12) rfl
theorem dX12_sendsHand_27 : decode cX12_sendsHand 27 = .ok (.ifCond .lt 26, 3) := dec_of da_X12_sendsHand_0 (k := 13) rfl
theorem dX12_sendsHand_30 : decode cX12_sendsHand 30 = .ok (.aload_n 0, 1) := dec_of da_X12_sendsHand_0 (k := 14) rfl
theorem dX12_sendsHand_31 : decode cX12_sendsHand 31 = .ok (.aload_n 0, 1) := dec_of da_X12_sendsHand_0 (k := 15) rfl
theorem dX12_sendsHand_32 : decode cX12_sendsHand 32 = .ok (.getfield 58, 3) := dec_of da_X12_sendsHand_0 (k := 16) rfl
theorem dX12_sendsHand_35 : decode cX12_sendsHand 35 = .ok (.bipush 32, 2) := dec_of da_X12_sendsHand_0 (k := 17) rfl
theorem dX12_sendsHand_37 : decode cX12_sendsHand 37 = .ok (.iload 4, 2) := dec_of da_X12_sendsHand_0 (k := 18) rfl
theorem dX12_sendsHand_39 : decode cX12_sendsHand 39 = .ok (.imul, 1) := dec_of da_X12_sendsHand_0 (k := 19) rfl
theorem dX12_sendsHand_40 : decode cX12_sendsHand 40 = .ok (.iload 6, 2) := dec_of da_X12_sendsHand_0 (k := 20) rfl
theorem dX12_sendsHand_42 : decode cX12_sendsHand 42 = .ok (.iadd, 1) := dec_of da_X12_sendsHand_0 (k := 21) rfl
theorem dX12_sendsHand_43 : decode cX12_sendsHand 43 = .ok (.iaload, 1) := dec_of da_X12_sendsHand_0 (k := 22) rfl
theorem dX12_sendsHand_44 : decode cX12_sendsHand 44 = .ok (.invokevirtual 534, 3) := dec_of da_X12_sendsHand_0 (k := 23) rfl
theorem dX12_sendsHand_47 : decode cX12_sendsHand 47 = .ok (.iinc 6 1, 3) := dec_of da_X12_sendsHand_0 (k := 24) rfl
theorem dX12_sendsHand_50 : decode cX12_sendsHand 50 = .ok (.goto (-32), 3) := dec_of da_X12_sendsHand_0 (k := 25) rfl
theorem dX12_sendsHand_53 : decode cX12_sendsHand 53 = .ok (.iload_n 3, 1) := dec_of da_X12_sendsHand_0 (k := 26) rfl
theorem dX12_sendsHand_54 : decode cX12_sendsHand 54 = .ok (.iconst 1, 1) := dec_of da_X12_sendsHand_0 (k := 27) rfl
theorem dX12_sendsHand_55 : decode cX12_sendsHand 55 = .ok (.if_icmp .le 56, 3) := dec_of da_X12_sendsHand_0 (k := 28) rfl
theorem dX12_sendsHand_58 : decode cX12_sendsHand 58 = .ok (.aload_n 0, 1) := dec_of da_X12_sendsHand_0 (k := 29) rfl
theorem dX12_sendsHand_59 : decode cX12_sendsHand 59 = .ok (.aload_n 0, 1) := dec_of da_X12_sendsHand_0 (k := 30) rfl
theorem dX12_sendsHand_60 : decode cX12_sendsHand 60 = .ok (.getfield 77, 3) := dec_of da_X12_sendsHand_0 (k := 31) rfl
theorem dX12_sendsHand_63 : decode cX12_sendsHand 63 = .ok (.bipush 48, 2) := dec_of da_X12_sendsHand_0 (k := 32) rfl
theorem dX12_sendsHand_65 : decode cX12_sendsHand 65 = .ok (.iload 5, 2) := dec_of da_X12_sendsHand_0 (k := 33) rfl
theorem dX12_sendsHand_67 : decode cX12_sendsHand 67 = .ok (.imul, 1) := dec_of da_X12_sendsHand_0 (k := 34) rfl
theorem dX12_sendsHand_68 : decode cX12_sendsHand 68 = .ok (.aload_n 0, 1) := dec_of da_X12_sendsHand_0 (k := 35) rfl
theorem dX12_sendsHand_69 : decode cX12_sendsHand 69 = .ok (.getfield 175, 3) := dec_of da_X12_sendsHand_0 (k := 36) rfl
theorem dX12_sendsHand_72 : decode cX12_sendsHand 72 = .ok (.bipush 8, 2) := dec_of da_X12_sendsHand_0 (k := 37) rfl
theorem dX12_sendsHand_74 : decode cX12_sendsHand 74 = .ok (.aload_n 0, 1) := dec_of da_X12_sendsHand_0 (k := 38) rfl
theorem dX12_sendsHand_75 : decode cX12_sendsHand 75 = .ok (.getfield 404, 3) := dec_of da_X12_sendsHand_0 (k := 39) rfl
theorem dX12_sendsHand_78 : decode cX12_sendsHand 78 = .ok (.bipush 8, 2) := dec_of da_X12_sendsHand_0 (k := 40) rfl
theorem dX12_sendsHand_80 : decode cX12_sendsHand 80 = .ok (.isub, 1) := dec_of da_X12_sendsHand_0 (k := 41) rfl
theorem dX12_sendsHand_81 : decode cX12_sendsHand 81 = .ok (.invokevirtual 394, 3) := dec_of da_X12_sendsHand_0 (k := 42) rfl
theorem dX12_sendsHand_84 : decode cX12_sendsHand 84 = .ok (.iconst 0, 1) := dec_of da_X12_sendsHand_0 (k := 43) rfl
theorem dX12_sendsHand_85 : decode cX12_sendsHand 85 = .ok (.istore 6, 2) := dec_of da_X12_sendsHand_0 (k := 44) rfl
theorem dX12_sendsHand_87 : decode cX12_sendsHand 87 = .ok (.iload 6, 2) := dec_of da_X12_sendsHand_0 (k := 45) rfl
theorem dX12_sendsHand_89 : decode cX12_sendsHand 89 = .ok (.bipush 16, 2) := dec_of da_X12_sendsHand_0 (k := 46) rfl
theorem dX12_sendsHand_91 : decode cX12_sendsHand 91 = .ok (.if_icmp .ge 20, 3) := dec_of da_X12_sendsHand_0 (k := 47) rfl
theorem dX12_sendsHand_94 : decode cX12_sendsHand 94 = .ok (.aload_n 0, 1) := dec_of da_X12_sendsHand_0 (k := 48) rfl
theorem dX12_sendsHand_95 : decode cX12_sendsHand 95 = .ok (.aload_n 0, 1) := dec_of da_X12_sendsHand_0 (k := 49) rfl
theorem dX12_sendsHand_96 : decode cX12_sendsHand 96 = .ok (.getfield 19, 3) := dec_of da_X12_sendsHand_0 (k := 50) rfl
theorem dX12_sendsHand_99 : decode cX12_sendsHand 99 = .ok (.iload 6, 2) := dec_of da_X12_sendsHand_0 (k := 51) rfl
theorem dX12_sendsHand_101 : decode cX12_sendsHand 101 = .ok (.iaload, 1) := dec_of da_X12_sendsHand_0 (k := 52) rfl
theorem dX12_sendsHand_102 : decode cX12_sendsHand 102 = .ok (.invokevirtual 534, 3) := dec_of da_X12_sendsHand_0 (k := 53) rfl
theorem dX12_sendsHand_105 : decode cX12_sendsHand 105 = .ok (.iinc 6 1, 3) := dec_of da_X12_sendsHand_0 (k := 54) rfl
theorem dX12_sendsHand_108 : decode cX12_sendsHand 108 = .ok (.goto (-21), 3) := dec_of da_X12_sendsHand_0 (k := 55) rfl
theorem dX12_sendsHand_111 : decode cX12_sendsHand 111 = .ok (.aload_n 0, 1) := dec_of da_X12_sendsHand_0 (k := 56) rfl
theorem dX12_sendsHand_112 : decode cX12_sendsHand 112 = .ok (.iload_n 1, 1) := dec_of da_X12_sendsHand_0 (k := 57) rfl
theorem dX12_sendsHand_113 : decode cX12_sendsHand 113 = .ok (.bipush 8, 2) := dec_of da_X12_sendsHand_0 (k := 58) rfl
theorem dX12_sendsHand_115 : decode cX12_sendsHand 115 = .ok (.iload_n 2, 1) := dec_of da_X12_sendsHand_0 (k := 59) rfl
def dl_X12_sendsHand_1 : List (Nat × (Instr × Nat)) := [(116, (.iconst 0, 1)), (117, (.iconst (-1), 1)), (118, (.invokevirtual 540, 3)), (121, (.return_, 1))]
set_option maxRecDepth 100000 in
theorem da_X12_sendsHand_1 : dl_X12_sendsHand_1.all (fun q => decide (decode cX12_sendsHand q.1 = .ok q.2)) = true := by decide +kernel
theorem dX12_sendsHand_116 : decode cX12_sendsHand 116 = .ok (.iconst 0, 1) := dec_of da_X12_sendsHand_1 (k := 0) rfl
theorem dX12_sendsHand_117 : decode cX12_sendsHand 117 = .ok (.iconst (-1), 1) := dec_of da_X12_sendsHand_1 (k := 1) rfl
theorem dX12_sendsHand_118 : decode cX12_sendsHand 118 = .ok (.invokevirtual 540, 3) := dec_of da_X12_sendsHand_1 (k := 2) rfl
theorem dX12_sendsHand_121 : decode cX12_sendsHand 121 = .ok (.return_, 1) := dec_of da_X12_sendsHand_1 (k := 3) rfl
def dl_X12_sendsEnd_0 : List (Nat × (Instr × Nat)) := [(0, (.aload_n 0, 1)), (1, (.iconst 0, 1)), (2, (.putfield 404, 3)), (5, (.aload_n 0, 1)), (6, (.iload_n 3, 1)), (7, (.invokevirtual 534, 3)), (10, (.aload_n 0, 1)), (11, (.iconst 0, 1)), (12, (.invokevirtual 534, 3)), (15, (.aload_n 0, 1)), (16, (.iload_n 1, 1)), (17, (.sipush 192, 3)), (20, (.iload_n 2, 1)), (21, (.iconst 0, 1)), (22, (.iconst (-1), 1)), (23, (.invokevirtual 540, 3)), (26, (.return_, 1))]
set_option maxRecDepth 100000 in
theorem da_X12_sendsEnd_0 : dl_X12_sendsEnd_0.all (fun q => decide (decode cX12_sendsEnd q.1 = .ok q.2)) = true := by decide +kernel
theorem dX12_sendsEnd_0 : decode cX12_sendsEnd 0 = .ok (.aload_n 0, 1) := dec_of da_X12_sendsEnd_0 (k := 0) rfl
theorem dX12_sendsEnd_1 : decode cX12_sendsEnd 1 = .ok (.iconst 0, 1) := dec_of da_X12_sendsEnd_0 (k := 1) rfl
theorem dX12_sendsEnd_2 : decode cX12_sendsEnd 2 = .ok (.putfield 404, 3) := dec_of da_X12_sendsEnd_0 (k := 2) rfl
theorem dX12_sendsEnd_5 : decode cX12_sendsEnd 5 = .ok (.aload_n 0, 1) := dec_of da_X12_sendsEnd_0 (k := 3) rfl
theorem dX12_sendsEnd_6 : decode cX12_sendsEnd 6 = .ok (.iload_n 3, 1) := dec_of da_X12_sendsEnd_0 (k := 4) rfl
theorem dX12_sendsEnd_7 : decode cX12_sendsEnd 7 = .ok (.invokevirtual 534, 3) := dec_of da_X12_sendsEnd_0 (k := 5) rfl
theorem dX12_sendsEnd_10 : decode cX12_sendsEnd 10 = .ok (.aload_n 0, 1) := dec_of da_X12_sendsEnd_0 (k := 6) rfl
theorem dX12_sendsEnd_11 : decode cX12_sendsEnd 11 = .ok (.iconst 0, 1) := dec_of da_X12_sendsEnd_0 (k := 7) rfl
theorem dX12_sendsEnd_12 : decode cX12_sendsEnd 12 = .ok (.invokevirtual 534, 3) := dec_of da_X12_sendsEnd_0 (k := 8) rfl
theorem dX12_sendsEnd_15 : decode cX12_sendsEnd 15 = .ok (.aload_n 0, 1) := dec_of da_X12_sendsEnd_0 (k := 9) rfl
theorem dX12_sendsEnd_16 : decode cX12_sendsEnd 16 = .ok (.iload_n 1, 1) := dec_of da_X12_sendsEnd_0 (k := 10) rfl
theorem dX12_sendsEnd_17 : decode cX12_sendsEnd 17 = .ok (.sipush 192, 3) := dec_of da_X12_sendsEnd_0 (k := 11) rfl
theorem dX12_sendsEnd_20 : decode cX12_sendsEnd 20 = .ok (.iload_n 2, 1) := dec_of da_X12_sendsEnd_0 (k := 12) rfl
theorem dX12_sendsEnd_21 : decode cX12_sendsEnd 21 = .ok (.iconst 0, 1) := dec_of da_X12_sendsEnd_0 (k := 13) rfl
theorem dX12_sendsEnd_22 : decode cX12_sendsEnd 22 = .ok (.iconst (-1), 1) := dec_of da_X12_sendsEnd_0 (k := 14) rfl
theorem dX12_sendsEnd_23 : decode cX12_sendsEnd 23 = .ok (.invokevirtual 540, 3) := dec_of da_X12_sendsEnd_0 (k := 15) rfl
theorem dX12_sendsEnd_26 : decode cX12_sendsEnd 26 = .ok (.return_, 1) := dec_of da_X12_sendsEnd_0 (k := 16) rfl
def dl_X12_actsAp_0 : List (Nat × (Instr × Nat)) := [(0, (.aload_n 0, 1)), (1, (.getfield 254, 3)), (4, (.iconst 0, 1)), (5, (.iaload, 1)), (6, (.istore_n 2, 1)), (7, (.bipush 9, 2)), (9, (.iload_n 1, 1)), (10, (.iadd, 1)), (11, (.istore_n 3, 1)), (12, (.iload_n 2, 1)), (13, (.sipush 176, 3)), (16, (.if_icmp .ne 98, 3)), (19, (.aload_n 0, 1)), (20, (.bipush 6, 2)), (22, (.iconst 0, 1)), (23, (.iconst 0, 1)), (24, (.iconst 1, 1)), (25, (.iconst 0, 1)), (26, (.invokevirtual 544, 3)), (29, (.ifCond .eq 226, 3)), (32, (.aload_n 0, 1)), (33, (.getfield 254, 3)), (36, (.bipush 28, 2)), (38, (.iaload, 1)), (39, (.ifCond .ne 216, 3)), (42, (.aload_n 0, 1)), (43, (.getfield 254, 3)), (46, (.bipush 29, 2)), (48, (.iaload, 1)), (49, (.ifCond .ne 206, 3)), (52, (.aload_n 0, 1)), (53, (.getfield 64, 3)), (56, (.iload_n 1, 1)), (57, (.iconst 2, 1)), (58, (.iastore, 1)), (59, (.aload_n 0, 1)), (60, (.iload_n 3, 1)), (61, (.invokevirtual 548, 3)), (64, (.aload_n 0, 1)), (65, (.iconst 0, 1)), (66, (.putfield 404, 3)), (69, (.iconst 0, 1)), (70, (.istore 4, 2)), (72, (.iload 4, 2)), (74, (.bipush 6, 2)), (76, (.if_icmp .ge 24, 3)), (79, (.aload_n 0, 1)), (80, (.iload 4, 2)), (82, (.iconst 2, 1)), (83, (.if_icmp .ne 7, 3)), (86, (.iconst 2, 1)), (87, (.goto 4, 3)), (90, (.iconst 0, 1)), (91, (.invokevirtual 534, 3)), (94, (.iinc 4 1, 3)), (97, (.goto (-25), 3)), (100, (.aload_n 0, 1)), (101, (.iconst 0, 1)), (102, (.sipush 176, 3)), (105, (.iload_n 1, 1))]
set_option maxRecDepth 100000 in
theorem da_X12_actsAp_0 : dl_X12_actsAp_0.all (fun q => decide (decode cX12_actsAp q.1 = .ok q.2)) = true := by decide +kernel
theorem dX12_actsAp_0 : decode cX12_actsAp 0 = .ok (.aload_n 0, 1) := dec_of da_X12_actsAp_0 (k := 0) rfl
theorem dX12_actsAp_1 : decode cX12_actsAp 1 = .ok (.getfield 254, 3) := dec_of da_X12_actsAp_0 (k := 1) rfl
theorem dX12_actsAp_4 : decode cX12_actsAp 4 = .ok (.iconst 0, 1) := dec_of da_X12_actsAp_0 (k := 2) rfl
theorem dX12_actsAp_5 : decode cX12_actsAp 5 = .ok (.iaload, 1) := dec_of da_X12_actsAp_0 (k := 3) rfl
theorem dX12_actsAp_6 : decode cX12_actsAp 6 = .ok (.istore_n 2, 1) := dec_of da_X12_actsAp_0 (k := 4) rfl
theorem dX12_actsAp_7 : decode cX12_actsAp 7 = .ok (.bipush 9, 2) := dec_of da_X12_actsAp_0 (k := 5) rfl
theorem dX12_actsAp_9 : decode cX12_actsAp 9 = .ok (.iload_n 1, 1) := dec_of da_X12_actsAp_0 (k := 6) rfl
theorem dX12_actsAp_10 : decode cX12_actsAp 10 = .ok (.iadd, 1) := dec_of da_X12_actsAp_0 (k := 7) rfl
theorem dX12_actsAp_11 : decode cX12_actsAp 11 = .ok (.istore_n 3, 1) := dec_of da_X12_actsAp_0 (k := 8) rfl
theorem dX12_actsAp_12 : decode cX12_actsAp 12 = .ok (.iload_n 2, 1) := dec_of da_X12_actsAp_0 (k := 9) rfl
theorem dX12_actsAp_13 : decode cX12_actsAp 13 = .ok (.sipush 176, 3) := dec_of da_X12_actsAp_0 (k := 10) rfl
theorem dX12_actsAp_16 : decode cX12_actsAp 16 = .ok (.if_icmp .ne 98, 3) := dec_of da_X12_actsAp_0 (k := 11) rfl
theorem dX12_actsAp_19 : decode cX12_actsAp 19 = .ok (.aload_n 0, 1) := dec_of da_X12_actsAp_0 (k := 12) rfl
theorem dX12_actsAp_20 : decode cX12_actsAp 20 = .ok (.bipush 6, 2) := dec_of da_X12_actsAp_0 (k := 13) rfl
theorem dX12_actsAp_22 : decode cX12_actsAp 22 = .ok (.iconst 0, 1) := dec_of da_X12_actsAp_0 (k := 14) rfl
theorem dX12_actsAp_23 : decode cX12_actsAp 23 = .ok (.iconst 0, 1) := dec_of da_X12_actsAp_0 (k := 15) rfl
theorem dX12_actsAp_24 : decode cX12_actsAp 24 = .ok (.iconst 1, 1) := dec_of da_X12_actsAp_0 (k := 16) rfl
theorem dX12_actsAp_25 : decode cX12_actsAp 25 = .ok (.iconst 0, 1) := dec_of da_X12_actsAp_0 (k := 17) rfl
theorem dX12_actsAp_26 : decode cX12_actsAp 26 = .ok (.invokevirtual 544, 3) := dec_of da_X12_actsAp_0 (k := 18) rfl
theorem dX12_actsAp_29 : decode cX12_actsAp 29 = .ok (.ifCond .eq 226, 3) := dec_of da_X12_actsAp_0 (k := 19) rfl
theorem dX12_actsAp_32 : decode cX12_actsAp 32 = .ok (.aload_n 0, 1) := dec_of da_X12_actsAp_0 (k := 20) rfl
theorem dX12_actsAp_33 : decode cX12_actsAp 33 = .ok (.getfield 254, 3) := dec_of da_X12_actsAp_0 (k := 21) rfl
theorem dX12_actsAp_36 : decode cX12_actsAp 36 = .ok (.bipush 28, 2) := dec_of da_X12_actsAp_0 (k := 22) rfl
theorem dX12_actsAp_38 : decode cX12_actsAp 38 = .ok (.iaload, 1) := dec_of da_X12_actsAp_0 (k := 23) rfl
theorem dX12_actsAp_39 : decode cX12_actsAp 39 = .ok (.ifCond .ne 216, 3) := dec_of da_X12_actsAp_0 (k := 24) rfl
theorem dX12_actsAp_42 : decode cX12_actsAp 42 = .ok (.aload_n 0, 1) := dec_of da_X12_actsAp_0 (k := 25) rfl
theorem dX12_actsAp_43 : decode cX12_actsAp 43 = .ok (.getfield 254, 3) := dec_of da_X12_actsAp_0 (k := 26) rfl
theorem dX12_actsAp_46 : decode cX12_actsAp 46 = .ok (.bipush 29, 2) := dec_of da_X12_actsAp_0 (k := 27) rfl
theorem dX12_actsAp_48 : decode cX12_actsAp 48 = .ok (.iaload, 1) := dec_of da_X12_actsAp_0 (k := 28) rfl
theorem dX12_actsAp_49 : decode cX12_actsAp 49 = .ok (.ifCond .ne 206, 3) := dec_of da_X12_actsAp_0 (k := 29) rfl
theorem dX12_actsAp_52 : decode cX12_actsAp 52 = .ok (.aload_n 0, 1) := dec_of da_X12_actsAp_0 (k := 30) rfl
theorem dX12_actsAp_53 : decode cX12_actsAp 53 = .ok (.getfield 64, 3) := dec_of da_X12_actsAp_0 (k := 31) rfl
theorem dX12_actsAp_56 : decode cX12_actsAp 56 = .ok (.iload_n 1, 1) := dec_of da_X12_actsAp_0 (k := 32) rfl
theorem dX12_actsAp_57 : decode cX12_actsAp 57 = .ok (.iconst 2, 1) := dec_of da_X12_actsAp_0 (k := 33) rfl
theorem dX12_actsAp_58 : decode cX12_actsAp 58 = .ok (.iastore, 1) := dec_of da_X12_actsAp_0 (k := 34) rfl
theorem dX12_actsAp_59 : decode cX12_actsAp 59 = .ok (.aload_n 0, 1) := dec_of da_X12_actsAp_0 (k := 35) rfl
theorem dX12_actsAp_60 : decode cX12_actsAp 60 = .ok (.iload_n 3, 1) := dec_of da_X12_actsAp_0 (k := 36) rfl
theorem dX12_actsAp_61 : decode cX12_actsAp 61 = .ok (.invokevirtual 548, 3) := dec_of da_X12_actsAp_0 (k := 37) rfl
theorem dX12_actsAp_64 : decode cX12_actsAp 64 = .ok (.aload_n 0, 1) := dec_of da_X12_actsAp_0 (k := 38) rfl
theorem dX12_actsAp_65 : decode cX12_actsAp 65 = .ok (.iconst 0, 1) := dec_of da_X12_actsAp_0 (k := 39) rfl
theorem dX12_actsAp_66 : decode cX12_actsAp 66 = .ok (.putfield 404, 3) := dec_of da_X12_actsAp_0 (k := 40) rfl
theorem dX12_actsAp_69 : decode cX12_actsAp 69 = .ok (.iconst 0, 1) := dec_of da_X12_actsAp_0 (k := 41) rfl
theorem dX12_actsAp_70 : decode cX12_actsAp 70 = .ok (.istore 4, 2) := dec_of da_X12_actsAp_0 (k := 42) rfl
theorem dX12_actsAp_72 : decode cX12_actsAp 72 = .ok (.iload 4, 2) := dec_of da_X12_actsAp_0 (k := 43) rfl
theorem dX12_actsAp_74 : decode cX12_actsAp 74 = .ok (.bipush 6, 2) := dec_of da_X12_actsAp_0 (k := 44) rfl
theorem dX12_actsAp_76 : decode cX12_actsAp 76 = .ok (.if_icmp .ge 24, 3) := dec_of da_X12_actsAp_0 (k := 45) rfl
theorem dX12_actsAp_79 : decode cX12_actsAp 79 = .ok (.aload_n 0, 1) := dec_of da_X12_actsAp_0 (k := 46) rfl
theorem dX12_actsAp_80 : decode cX12_actsAp 80 = .ok (.iload 4, 2) := dec_of da_X12_actsAp_0 (k := 47) rfl
theorem dX12_actsAp_82 : decode cX12_actsAp 82 = .ok (.iconst 2, 1) := dec_of da_X12_actsAp_0 (k := 48) rfl
theorem dX12_actsAp_83 : decode cX12_actsAp 83 = .ok (.if_icmp .ne 7, 3) := dec_of da_X12_actsAp_0 (k := 49) rfl
theorem dX12_actsAp_86 : decode cX12_actsAp 86 = .ok (.iconst 2, 1) := dec_of da_X12_actsAp_0 (k := 50) rfl
theorem dX12_actsAp_87 : decode cX12_actsAp 87 = .ok (.goto 4, 3) := dec_of da_X12_actsAp_0 (k := 51) rfl
theorem dX12_actsAp_90 : decode cX12_actsAp 90 = .ok (.iconst 0, 1) := dec_of da_X12_actsAp_0 (k := 52) rfl
theorem dX12_actsAp_91 : decode cX12_actsAp 91 = .ok (.invokevirtual 534, 3) := dec_of da_X12_actsAp_0 (k := 53) rfl
theorem dX12_actsAp_94 : decode cX12_actsAp 94 = .ok (.iinc 4 1, 3) := dec_of da_X12_actsAp_0 (k := 54) rfl
theorem dX12_actsAp_97 : decode cX12_actsAp 97 = .ok (.goto (-25), 3) := dec_of da_X12_actsAp_0 (k := 55) rfl
theorem dX12_actsAp_100 : decode cX12_actsAp 100 = .ok (.aload_n 0, 1) := dec_of da_X12_actsAp_0 (k := 56) rfl
theorem dX12_actsAp_101 : decode cX12_actsAp 101 = .ok (.iconst 0, 1) := dec_of da_X12_actsAp_0 (k := 57) rfl
theorem dX12_actsAp_102 : decode cX12_actsAp 102 = .ok (.sipush 176, 3) := dec_of da_X12_actsAp_0 (k := 58) rfl
theorem dX12_actsAp_105 : decode cX12_actsAp 105 = .ok (.iload_n 1, 1) := dec_of da_X12_actsAp_0 (k := 59) rfl
def dl_X12_actsAp_1 : List (Nat × (Instr × Nat)) := [(106, (.iconst 0, 1)), (107, (.iconst (-1), 1)), (108, (.invokevirtual 540, 3)), (111, (.goto 144, 3)), (114, (.iload_n 2, 1)), (115, (.ifCond .ne 24, 3)), (118, (.aload_n 0, 1)), (119, (.iconst 4, 1)), (120, (.iconst 1, 1)), (121, (.iconst 0, 1)), (122, (.bipush 10, 2)), (124, (.iconst 0, 1)), (125, (.invokevirtual 544, 3)), (128, (.ifCond .eq 127, 3)), (131, (.aload_n 0, 1)), (132, (.iload_n 1, 1)), (133, (.invokevirtual 551, 3)), (136, (.goto 119, 3)), (139, (.iload_n 2, 1)), (140, (.sipush 192, 3)), (143, (.if_icmp .ne 37, 3)), (146, (.aload_n 0, 1)), (147, (.getfield 482, 3)), (150, (.bipush 30, 2)), (152, (.if_icmp .ne 103, 3)), (155, (.aload_n 0, 1)), (156, (.getfield 254, 3)), (159, (.bipush 25, 2)), (161, (.iaload, 1)), (162, (.ifCond .ne 93, 3)), (165, (.aload_n 0, 1)), (166, (.getfield 64, 3)), (169, (.iload_n 1, 1)), (170, (.iconst 1, 1)), (171, (.iastore, 1)), (172, (.aload_n 0, 1)), (173, (.iload_n 3, 1)), (174, (.invokevirtual 548, 3)), (177, (.goto 78, 3)), (180, (.iload_n 2, 1)), (181, (.bipush 8, 2)), (183, (.if_icmp .ne 72, 3)), (186, (.aload_n 0, 1)), (187, (.getfield 254, 3)), (190, (.iconst 1, 1)), (191, (.iaload, 1)), (192, (.iconst 3, 1)), (193, (.iand, 1)), (194, (.iconst 1, 1)), (195, (.if_icmp .ne 60, 3)), (198, (.aload_n 0, 1)), (199, (.getfield 254, 3)), (202, (.iconst 1, 1)), (203, (.iaload, 1)), (204, (.bipush 64, 2)), (206, (.iand, 1)), (207, (.ifCond .eq 33, 3)), (210, (.aload_n 0, 1)), (211, (.getfield 64, 3)), (214, (.iload_n 1, 1))]
set_option maxRecDepth 100000 in
theorem da_X12_actsAp_1 : dl_X12_actsAp_1.all (fun q => decide (decode cX12_actsAp q.1 = .ok q.2)) = true := by decide +kernel
theorem dX12_actsAp_106 : decode cX12_actsAp 106 = .ok (.iconst 0, 1) := dec_of da_X12_actsAp_1 (k := 0) rfl
theorem dX12_actsAp_107 : decode cX12_actsAp 107 = .ok (.iconst (-1), 1) := dec_of da_X12_actsAp_1 (k := 1) rfl
theorem dX12_actsAp_108 : decode cX12_actsAp 108 = .ok (.invokevirtual 540, 3) := dec_of da_X12_actsAp_1 (k := 2) rfl
theorem dX12_actsAp_111 : decode cX12_actsAp 111 = .ok (.goto 144, 3) := dec_of da_X12_actsAp_1 (k := 3) rfl
theorem dX12_actsAp_114 : decode cX12_actsAp 114 = .ok (.iload_n 2, 1) := dec_of da_X12_actsAp_1 (k := 4) rfl
theorem dX12_actsAp_115 : decode cX12_actsAp 115 = .ok (.ifCond .ne 24, 3) := dec_of da_X12_actsAp_1 (k := 5) rfl
theorem dX12_actsAp_118 : decode cX12_actsAp 118 = .ok (.aload_n 0, 1) := dec_of da_X12_actsAp_1 (k := 6) rfl
theorem dX12_actsAp_119 : decode cX12_actsAp 119 = .ok (.iconst 4, 1) := dec_of da_X12_actsAp_1 (k := 7) rfl
theorem dX12_actsAp_120 : decode cX12_actsAp 120 = .ok (.iconst 1, 1) := dec_of da_X12_actsAp_1 (k := 8) rfl
theorem dX12_actsAp_121 : decode cX12_actsAp 121 = .ok (.iconst 0, 1) := dec_of da_X12_actsAp_1 (k := 9) rfl
theorem dX12_actsAp_122 : decode cX12_actsAp 122 = .ok (.bipush 10, 2) := dec_of da_X12_actsAp_1 (k := 10) rfl
theorem dX12_actsAp_124 : decode cX12_actsAp 124 = .ok (.iconst 0, 1) := dec_of da_X12_actsAp_1 (k := 11) rfl
theorem dX12_actsAp_125 : decode cX12_actsAp 125 = .ok (.invokevirtual 544, 3) := dec_of da_X12_actsAp_1 (k := 12) rfl
theorem dX12_actsAp_128 : decode cX12_actsAp 128 = .ok (.ifCond .eq 127, 3) := dec_of da_X12_actsAp_1 (k := 13) rfl
theorem dX12_actsAp_131 : decode cX12_actsAp 131 = .ok (.aload_n 0, 1) := dec_of da_X12_actsAp_1 (k := 14) rfl
theorem dX12_actsAp_132 : decode cX12_actsAp 132 = .ok (.iload_n 1, 1) := dec_of da_X12_actsAp_1 (k := 15) rfl
theorem dX12_actsAp_133 : decode cX12_actsAp 133 = .ok (.invokevirtual 551, 3) := dec_of da_X12_actsAp_1 (k := 16) rfl
theorem dX12_actsAp_136 : decode cX12_actsAp 136 = .ok (.goto 119, 3) := dec_of da_X12_actsAp_1 (k := 17) rfl
theorem dX12_actsAp_139 : decode cX12_actsAp 139 = .ok (.iload_n 2, 1) := dec_of da_X12_actsAp_1 (k := 18) rfl
theorem dX12_actsAp_140 : decode cX12_actsAp 140 = .ok (.sipush 192, 3) := dec_of da_X12_actsAp_1 (k := 19) rfl
theorem dX12_actsAp_143 : decode cX12_actsAp 143 = .ok (.if_icmp .ne 37, 3) := dec_of da_X12_actsAp_1 (k := 20) rfl
theorem dX12_actsAp_146 : decode cX12_actsAp 146 = .ok (.aload_n 0, 1) := dec_of da_X12_actsAp_1 (k := 21) rfl
theorem dX12_actsAp_147 : decode cX12_actsAp 147 = .ok (.getfield 482, 3) := dec_of da_X12_actsAp_1 (k := 22) rfl
theorem dX12_actsAp_150 : decode cX12_actsAp 150 = .ok (.bipush 30, 2) := dec_of da_X12_actsAp_1 (k := 23) rfl
theorem dX12_actsAp_152 : decode cX12_actsAp 152 = .ok (.if_icmp .ne 103, 3) := dec_of da_X12_actsAp_1 (k := 24) rfl
theorem dX12_actsAp_155 : decode cX12_actsAp 155 = .ok (.aload_n 0, 1) := dec_of da_X12_actsAp_1 (k := 25) rfl
theorem dX12_actsAp_156 : decode cX12_actsAp 156 = .ok (.getfield 254, 3) := dec_of da_X12_actsAp_1 (k := 26) rfl
theorem dX12_actsAp_159 : decode cX12_actsAp 159 = .ok (.bipush 25, 2) := dec_of da_X12_actsAp_1 (k := 27) rfl
theorem dX12_actsAp_161 : decode cX12_actsAp 161 = .ok (.iaload, 1) := dec_of da_X12_actsAp_1 (k := 28) rfl
theorem dX12_actsAp_162 : decode cX12_actsAp 162 = .ok (.ifCond .ne 93, 3) := dec_of da_X12_actsAp_1 (k := 29) rfl
theorem dX12_actsAp_165 : decode cX12_actsAp 165 = .ok (.aload_n 0, 1) := dec_of da_X12_actsAp_1 (k := 30) rfl
theorem dX12_actsAp_166 : decode cX12_actsAp 166 = .ok (.getfield 64, 3) := dec_of da_X12_actsAp_1 (k := 31) rfl
theorem dX12_actsAp_169 : decode cX12_actsAp 169 = .ok (.iload_n 1, 1) := dec_of da_X12_actsAp_1 (k := 32) rfl
theorem dX12_actsAp_170 : decode cX12_actsAp 170 = .ok (.iconst 1, 1) := dec_of da_X12_actsAp_1 (k := 33) rfl
theorem dX12_actsAp_171 : decode cX12_actsAp 171 = .ok (.iastore, 1) := dec_of da_X12_actsAp_1 (k := 34) rfl
theorem dX12_actsAp_172 : decode cX12_actsAp 172 = .ok (.aload_n 0, 1) := dec_of da_X12_actsAp_1 (k := 35) rfl
theorem dX12_actsAp_173 : decode cX12_actsAp 173 = .ok (.iload_n 3, 1) := dec_of da_X12_actsAp_1 (k := 36) rfl
theorem dX12_actsAp_174 : decode cX12_actsAp 174 = .ok (.invokevirtual 548, 3) := dec_of da_X12_actsAp_1 (k := 37) rfl
theorem dX12_actsAp_177 : decode cX12_actsAp 177 = .ok (.goto 78, 3) := dec_of da_X12_actsAp_1 (k := 38) rfl
theorem dX12_actsAp_180 : decode cX12_actsAp 180 = .ok (.iload_n 2, 1) := dec_of da_X12_actsAp_1 (k := 39) rfl
theorem dX12_actsAp_181 : decode cX12_actsAp 181 = .ok (.bipush 8, 2) := dec_of da_X12_actsAp_1 (k := 40) rfl
theorem dX12_actsAp_183 : decode cX12_actsAp 183 = .ok (.if_icmp .ne 72, 3) := dec_of da_X12_actsAp_1 (k := 41) rfl
theorem dX12_actsAp_186 : decode cX12_actsAp 186 = .ok (.aload_n 0, 1) := dec_of da_X12_actsAp_1 (k := 42) rfl
theorem dX12_actsAp_187 : decode cX12_actsAp 187 = .ok (.getfield 254, 3) := dec_of da_X12_actsAp_1 (k := 43) rfl
theorem dX12_actsAp_190 : decode cX12_actsAp 190 = .ok (.iconst 1, 1) := dec_of da_X12_actsAp_1 (k := 44) rfl
theorem dX12_actsAp_191 : decode cX12_actsAp 191 = .ok (.iaload, 1) := dec_of da_X12_actsAp_1 (k := 45) rfl
theorem dX12_actsAp_192 : decode cX12_actsAp 192 = .ok (.iconst 3, 1) := dec_of da_X12_actsAp_1 (k := 46) rfl
theorem dX12_actsAp_193 : decode cX12_actsAp 193 = .ok (.iand, 1) := dec_of da_X12_actsAp_1 (k := 47) rfl
theorem dX12_actsAp_194 : decode cX12_actsAp 194 = .ok (.iconst 1, 1) := dec_of da_X12_actsAp_1 (k := 48) rfl
theorem dX12_actsAp_195 : decode cX12_actsAp 195 = .ok (.if_icmp .ne 60, 3) := dec_of da_X12_actsAp_1 (k := 49) rfl
theorem dX12_actsAp_198 : decode cX12_actsAp 198 = .ok (.aload_n 0, 1) := dec_of da_X12_actsAp_1 (k := 50) rfl
theorem dX12_actsAp_199 : decode cX12_actsAp 199 = .ok (.getfield 254, 3) := dec_of da_X12_actsAp_1 (k := 51) rfl
theorem dX12_actsAp_202 : decode cX12_actsAp 202 = .ok (.iconst 1, 1) := dec_of da_X12_actsAp_1 (k := 52) rfl
theorem dX12_actsAp_203 : decode cX12_actsAp 203 = .ok (.iaload, 1) := dec_of da_X12_actsAp_1 (k := 53) rfl
theorem dX12_actsAp_204 : decode cX12_actsAp 204 = .ok (.bipush 64, 2) := dec_of da_X12_actsAp_1 (k := 54) rfl
theorem dX12_actsAp_206 : decode cX12_actsAp 206 = .ok (.iand, 1) := dec_of da_X12_actsAp_1 (k := 55) rfl
theorem dX12_actsAp_207 : decode cX12_actsAp 207 = .ok (.ifCond .eq 33, 3) := dec_of da_X12_actsAp_1 (k := 56) rfl
theorem dX12_actsAp_210 : decode cX12_actsAp 210 = .ok (.aload_n 0, 1) := dec_of da_X12_actsAp_1 (k := 57) rfl
theorem dX12_actsAp_211 : decode cX12_actsAp 211 = .ok (.getfield 64, 3) := dec_of da_X12_actsAp_1 (k := 58) rfl
theorem dX12_actsAp_214 : decode cX12_actsAp 214 = .ok (.iload_n 1, 1) := dec_of da_X12_actsAp_1 (k := 59) rfl
def dl_X12_actsAp_2 : List (Nat × (Instr × Nat)) := [(215, (.iaload, 1)), (216, (.iconst 4, 1)), (217, (.if_icmp .ne 12, 3)), (220, (.aload_n 0, 1)), (221, (.iload_n 3, 1)), (222, (.iload_n 1, 1)), (223, (.invokevirtual 554, 3)), (226, (.goto 29, 3)), (229, (.aload_n 0, 1)), (230, (.iconst 0, 1)), (231, (.iload_n 1, 1)), (232, (.bipush 7, 2)), (234, (.invokevirtual 557, 3)), (237, (.goto 18, 3)), (240, (.aload_n 0, 1)), (241, (.getfield 64, 3)), (244, (.iload_n 1, 1)), (245, (.iaload, 1)), (246, (.iconst 3, 1)), (247, (.if_icmp .lt 8, 3)), (250, (.aload_n 0, 1)), (251, (.iload_n 1, 1)), (252, (.invokevirtual 561, 3)), (255, (.return_, 1))]
set_option maxRecDepth 100000 in
theorem da_X12_actsAp_2 : dl_X12_actsAp_2.all (fun q => decide (decode cX12_actsAp q.1 = .ok q.2)) = true := by decide +kernel
theorem dX12_actsAp_215 : decode cX12_actsAp 215 = .ok (.iaload, 1) := dec_of da_X12_actsAp_2 (k := 0) rfl
theorem dX12_actsAp_216 : decode cX12_actsAp 216 = .ok (.iconst 4, 1) := dec_of da_X12_actsAp_2 (k := 1) rfl
theorem dX12_actsAp_217 : decode cX12_actsAp 217 = .ok (.if_icmp .ne 12, 3) := dec_of da_X12_actsAp_2 (k := 2) rfl
theorem dX12_actsAp_220 : decode cX12_actsAp 220 = .ok (.aload_n 0, 1) := dec_of da_X12_actsAp_2 (k := 3) rfl
theorem dX12_actsAp_221 : decode cX12_actsAp 221 = .ok (.iload_n 3, 1) := dec_of da_X12_actsAp_2 (k := 4) rfl
theorem dX12_actsAp_222 : decode cX12_actsAp 222 = .ok (.iload_n 1, 1) := dec_of da_X12_actsAp_2 (k := 5) rfl
theorem dX12_actsAp_223 : decode cX12_actsAp 223 = .ok (.invokevirtual 554, 3) := dec_of da_X12_actsAp_2 (k := 6) rfl
theorem dX12_actsAp_226 : decode cX12_actsAp 226 = .ok (.goto 29, 3) := dec_of da_X12_actsAp_2 (k := 7) rfl
theorem dX12_actsAp_229 : decode cX12_actsAp 229 = .ok (.aload_n 0, 1) := dec_of da_X12_actsAp_2 (k := 8) rfl
theorem dX12_actsAp_230 : decode cX12_actsAp 230 = .ok (.iconst 0, 1) := dec_of da_X12_actsAp_2 (k := 9) rfl
theorem dX12_actsAp_231 : decode cX12_actsAp 231 = .ok (.iload_n 1, 1) := dec_of da_X12_actsAp_2 (k := 10) rfl
theorem dX12_actsAp_232 : decode cX12_actsAp 232 = .ok (.bipush 7, 2) := dec_of da_X12_actsAp_2 (k := 11) rfl
theorem dX12_actsAp_234 : decode cX12_actsAp 234 = .ok (.invokevirtual 557, 3) := dec_of da_X12_actsAp_2 (k := 12) rfl
theorem dX12_actsAp_237 : decode cX12_actsAp 237 = .ok (.goto 18, 3) := dec_of da_X12_actsAp_2 (k := 13) rfl
theorem dX12_actsAp_240 : decode cX12_actsAp 240 = .ok (.aload_n 0, 1) := dec_of da_X12_actsAp_2 (k := 14) rfl
theorem dX12_actsAp_241 : decode cX12_actsAp 241 = .ok (.getfield 64, 3) := dec_of da_X12_actsAp_2 (k := 15) rfl
theorem dX12_actsAp_244 : decode cX12_actsAp 244 = .ok (.iload_n 1, 1) := dec_of da_X12_actsAp_2 (k := 16) rfl
theorem dX12_actsAp_245 : decode cX12_actsAp 245 = .ok (.iaload, 1) := dec_of da_X12_actsAp_2 (k := 17) rfl
theorem dX12_actsAp_246 : decode cX12_actsAp 246 = .ok (.iconst 3, 1) := dec_of da_X12_actsAp_2 (k := 18) rfl
theorem dX12_actsAp_247 : decode cX12_actsAp 247 = .ok (.if_icmp .lt 8, 3) := dec_of da_X12_actsAp_2 (k := 19) rfl
theorem dX12_actsAp_250 : decode cX12_actsAp 250 = .ok (.aload_n 0, 1) := dec_of da_X12_actsAp_2 (k := 20) rfl
theorem dX12_actsAp_251 : decode cX12_actsAp 251 = .ok (.iload_n 1, 1) := dec_of da_X12_actsAp_2 (k := 21) rfl
theorem dX12_actsAp_252 : decode cX12_actsAp 252 = .ok (.invokevirtual 561, 3) := dec_of da_X12_actsAp_2 (k := 22) rfl
theorem dX12_actsAp_255 : decode cX12_actsAp 255 = .ok (.return_, 1) := dec_of da_X12_actsAp_2 (k := 23) rfl
def dl_X12_asks_0 : List (Nat × (Instr × Nat)) := [(0, (.aload_n 0, 1)), (1, (.getfield 64, 3)), (4, (.iload_n 1, 1)), (5, (.iaload, 1)), (6, (.iconst 2, 1)), (7, (.if_icmp .ge 12, 3)), (10, (.aload_n 0, 1)), (11, (.iconst 0, 1)), (12, (.iload_n 1, 1)), (13, (.bipush 6, 2)), (15, (.invokevirtual 557, 3)), (18, (.return_, 1)), (19, (.aload_n 0, 1)), (20, (.getfield 64, 3)), (23, (.iload_n 1, 1)), (24, (.iconst 3, 1)), (25, (.iastore, 1)), (26, (.aload_n 0, 1)), (27, (.bipush 9, 2)), (29, (.iload_n 1, 1)), (30, (.iadd, 1)), (31, (.invokevirtual 548, 3)), (34, (.aload_n 0, 1)), (35, (.iconst 0, 1)), (36, (.putfield 404, 3)), (39, (.aload_n 0, 1)), (40, (.iconst 1, 1)), (41, (.invokevirtual 534, 3)), (44, (.aload_n 0, 1)), (45, (.iconst 0, 1)), (46, (.invokevirtual 534, 3)), (49, (.aload_n 0, 1)), (50, (.iconst 0, 1)), (51, (.invokevirtual 534, 3)), (54, (.aload_n 0, 1)), (55, (.iconst 0, 1)), (56, (.invokevirtual 534, 3)), (59, (.aload_n 0, 1)), (60, (.iload_n 1, 1)), (61, (.invokevirtual 534, 3)), (64, (.aload_n 0, 1)), (65, (.sipush 192, 3)), (68, (.invokevirtual 534, 3)), (71, (.aload_n 0, 1)), (72, (.iconst 0, 1)), (73, (.bipush 16, 2)), (75, (.iload_n 1, 1)), (76, (.iconst 0, 1)), (77, (.iconst (-1), 1)), (78, (.invokevirtual 540, 3)), (81, (.aload_n 0, 1)), (82, (.iconst 0, 1)), (83, (.iload_n 1, 1)), (84, (.iconst 1, 1)), (85, (.iconst 0, 1)), (86, (.bipush 9, 2)), (88, (.iload_n 1, 1)), (89, (.iadd, 1)), (90, (.invokevirtual 564, 3)), (93, (.return_, 1))]
set_option maxRecDepth 100000 in
theorem da_X12_asks_0 : dl_X12_asks_0.all (fun q => decide (decode cX12_asks q.1 = .ok q.2)) = true := by decide +kernel
theorem dX12_asks_0 : decode cX12_asks 0 = .ok (.aload_n 0, 1) := dec_of da_X12_asks_0 (k := 0) rfl
theorem dX12_asks_1 : decode cX12_asks 1 = .ok (.getfield 64, 3) := dec_of da_X12_asks_0 (k := 1) rfl
theorem dX12_asks_4 : decode cX12_asks 4 = .ok (.iload_n 1, 1) := dec_of da_X12_asks_0 (k := 2) rfl
theorem dX12_asks_5 : decode cX12_asks 5 = .ok (.iaload, 1) := dec_of da_X12_asks_0 (k := 3) rfl
theorem dX12_asks_6 : decode cX12_asks 6 = .ok (.iconst 2, 1) := dec_of da_X12_asks_0 (k := 4) rfl
theorem dX12_asks_7 : decode cX12_asks 7 = .ok (.if_icmp .ge 12, 3) := dec_of da_X12_asks_0 (k := 5) rfl
theorem dX12_asks_10 : decode cX12_asks 10 = .ok (.aload_n 0, 1) := dec_of da_X12_asks_0 (k := 6) rfl
theorem dX12_asks_11 : decode cX12_asks 11 = .ok (.iconst 0, 1) := dec_of da_X12_asks_0 (k := 7) rfl
theorem dX12_asks_12 : decode cX12_asks 12 = .ok (.iload_n 1, 1) := dec_of da_X12_asks_0 (k := 8) rfl
theorem dX12_asks_13 : decode cX12_asks 13 = .ok (.bipush 6, 2) := dec_of da_X12_asks_0 (k := 9) rfl
theorem dX12_asks_15 : decode cX12_asks 15 = .ok (.invokevirtual 557, 3) := dec_of da_X12_asks_0 (k := 10) rfl
theorem dX12_asks_18 : decode cX12_asks 18 = .ok (.return_, 1) := dec_of da_X12_asks_0 (k := 11) rfl
theorem dX12_asks_19 : decode cX12_asks 19 = .ok (.aload_n 0, 1) := dec_of da_X12_asks_0 (k := 12) rfl
theorem dX12_asks_20 : decode cX12_asks 20 = .ok (.getfield 64, 3) := dec_of da_X12_asks_0 (k := 13) rfl
theorem dX12_asks_23 : decode cX12_asks 23 = .ok (.iload_n 1, 1) := dec_of da_X12_asks_0 (k := 14) rfl
theorem dX12_asks_24 : decode cX12_asks 24 = .ok (.iconst 3, 1) := dec_of da_X12_asks_0 (k := 15) rfl
theorem dX12_asks_25 : decode cX12_asks 25 = .ok (.iastore, 1) := dec_of da_X12_asks_0 (k := 16) rfl
theorem dX12_asks_26 : decode cX12_asks 26 = .ok (.aload_n 0, 1) := dec_of da_X12_asks_0 (k := 17) rfl
theorem dX12_asks_27 : decode cX12_asks 27 = .ok (.bipush 9, 2) := dec_of da_X12_asks_0 (k := 18) rfl
theorem dX12_asks_29 : decode cX12_asks 29 = .ok (.iload_n 1, 1) := dec_of da_X12_asks_0 (k := 19) rfl
theorem dX12_asks_30 : decode cX12_asks 30 = .ok (.iadd, 1) := dec_of da_X12_asks_0 (k := 20) rfl
theorem dX12_asks_31 : decode cX12_asks 31 = .ok (.invokevirtual 548, 3) := dec_of da_X12_asks_0 (k := 21) rfl
theorem dX12_asks_34 : decode cX12_asks 34 = .ok (.aload_n 0, 1) := dec_of da_X12_asks_0 (k := 22) rfl
theorem dX12_asks_35 : decode cX12_asks 35 = .ok (.iconst 0, 1) := dec_of da_X12_asks_0 (k := 23) rfl
theorem dX12_asks_36 : decode cX12_asks 36 = .ok (.putfield 404, 3) := dec_of da_X12_asks_0 (k := 24) rfl
theorem dX12_asks_39 : decode cX12_asks 39 = .ok (.aload_n 0, 1) := dec_of da_X12_asks_0 (k := 25) rfl
theorem dX12_asks_40 : decode cX12_asks 40 = .ok (.iconst 1, 1) := dec_of da_X12_asks_0 (k := 26) rfl
theorem dX12_asks_41 : decode cX12_asks 41 = .ok (.invokevirtual 534, 3) := dec_of da_X12_asks_0 (k := 27) rfl
theorem dX12_asks_44 : decode cX12_asks 44 = .ok (.aload_n 0, 1) := dec_of da_X12_asks_0 (k := 28) rfl
theorem dX12_asks_45 : decode cX12_asks 45 = .ok (.iconst 0, 1) := dec_of da_X12_asks_0 (k := 29) rfl
theorem dX12_asks_46 : decode cX12_asks 46 = .ok (.invokevirtual 534, 3) := dec_of da_X12_asks_0 (k := 30) rfl
theorem dX12_asks_49 : decode cX12_asks 49 = .ok (.aload_n 0, 1) := dec_of da_X12_asks_0 (k := 31) rfl
theorem dX12_asks_50 : decode cX12_asks 50 = .ok (.iconst 0, 1) := dec_of da_X12_asks_0 (k := 32) rfl
theorem dX12_asks_51 : decode cX12_asks 51 = .ok (.invokevirtual 534, 3) := dec_of da_X12_asks_0 (k := 33) rfl
theorem dX12_asks_54 : decode cX12_asks 54 = .ok (.aload_n 0, 1) := dec_of da_X12_asks_0 (k := 34) rfl
theorem dX12_asks_55 : decode cX12_asks 55 = .ok (.iconst 0, 1) := dec_of da_X12_asks_0 (k := 35) rfl
theorem dX12_asks_56 : decode cX12_asks 56 = .ok (.invokevirtual 534, 3) := dec_of da_X12_asks_0 (k := 36) rfl
theorem dX12_asks_59 : decode cX12_asks 59 = .ok (.aload_n 0, 1) := dec_of da_X12_asks_0 (k := 37) rfl
theorem dX12_asks_60 : decode cX12_asks 60 = .ok (.iload_n 1, 1) := dec_of da_X12_asks_0 (k := 38) rfl
theorem dX12_asks_61 : decode cX12_asks 61 = .ok (.invokevirtual 534, 3) := dec_of da_X12_asks_0 (k := 39) rfl
theorem dX12_asks_64 : decode cX12_asks 64 = .ok (.aload_n 0, 1) := dec_of da_X12_asks_0 (k := 40) rfl
theorem dX12_asks_65 : decode cX12_asks 65 = .ok (.sipush 192, 3) := dec_of da_X12_asks_0 (k := 41) rfl
theorem dX12_asks_68 : decode cX12_asks 68 = .ok (.invokevirtual 534, 3) := dec_of da_X12_asks_0 (k := 42) rfl
theorem dX12_asks_71 : decode cX12_asks 71 = .ok (.aload_n 0, 1) := dec_of da_X12_asks_0 (k := 43) rfl
theorem dX12_asks_72 : decode cX12_asks 72 = .ok (.iconst 0, 1) := dec_of da_X12_asks_0 (k := 44) rfl
theorem dX12_asks_73 : decode cX12_asks 73 = .ok (.bipush 16, 2) := dec_of da_X12_asks_0 (k := 45) rfl
theorem dX12_asks_75 : decode cX12_asks 75 = .ok (.iload_n 1, 1) := dec_of da_X12_asks_0 (k := 46) rfl
theorem dX12_asks_76 : decode cX12_asks 76 = .ok (.iconst 0, 1) := dec_of da_X12_asks_0 (k := 47) rfl
theorem dX12_asks_77 : decode cX12_asks 77 = .ok (.iconst (-1), 1) := dec_of da_X12_asks_0 (k := 48) rfl
theorem dX12_asks_78 : decode cX12_asks 78 = .ok (.invokevirtual 540, 3) := dec_of da_X12_asks_0 (k := 49) rfl
theorem dX12_asks_81 : decode cX12_asks 81 = .ok (.aload_n 0, 1) := dec_of da_X12_asks_0 (k := 50) rfl
theorem dX12_asks_82 : decode cX12_asks 82 = .ok (.iconst 0, 1) := dec_of da_X12_asks_0 (k := 51) rfl
theorem dX12_asks_83 : decode cX12_asks 83 = .ok (.iload_n 1, 1) := dec_of da_X12_asks_0 (k := 52) rfl
theorem dX12_asks_84 : decode cX12_asks 84 = .ok (.iconst 1, 1) := dec_of da_X12_asks_0 (k := 53) rfl
theorem dX12_asks_85 : decode cX12_asks 85 = .ok (.iconst 0, 1) := dec_of da_X12_asks_0 (k := 54) rfl
theorem dX12_asks_86 : decode cX12_asks 86 = .ok (.bipush 9, 2) := dec_of da_X12_asks_0 (k := 55) rfl
theorem dX12_asks_88 : decode cX12_asks 88 = .ok (.iload_n 1, 1) := dec_of da_X12_asks_0 (k := 56) rfl
theorem dX12_asks_89 : decode cX12_asks 89 = .ok (.iadd, 1) := dec_of da_X12_asks_0 (k := 57) rfl
theorem dX12_asks_90 : decode cX12_asks 90 = .ok (.invokevirtual 564, 3) := dec_of da_X12_asks_0 (k := 58) rfl
theorem dX12_asks_93 : decode cX12_asks 93 = .ok (.return_, 1) := dec_of da_X12_asks_0 (k := 59) rfl
def dl_X12_handAp_0 : List (Nat × (Instr × Nat)) := [(0, (.aload_n 0, 1)), (1, (.invokevirtual 567, 3)), (4, (.istore_n 2, 1)), (5, (.bipush 9, 2)), (7, (.iload_n 1, 1)), (8, (.iadd, 1)), (9, (.istore_n 3, 1)), (10, (.iload_n 2, 1)), (11, (.iconst 2, 1)), (12, (.if_icmp .ne 56, 3)), (15, (.aload_n 0, 1)), (16, (.iload_n 3, 1)), (17, (.aload_n 0, 1)), (18, (.getfield 58, 3)), (21, (.iconst 0, 1)), (22, (.aload_n 0, 1)), (23, (.getfield 254, 3)), (26, (.bipush 33, 2)), (28, (.invokevirtual 570, 3)), (31, (.aload_n 0, 1)), (32, (.aload_n 0, 1)), (33, (.getfield 108, 3)), (36, (.iconst 0, 1)), (37, (.aload_n 0, 1)), (38, (.getfield 254, 3)), (41, (.bipush 32, 2)), (43, (.bipush 33, 2)), (45, (.invokevirtual 574, 3)), (48, (.ifCond .eq 68, 3)), (51, (.aload_n 0, 1)), (52, (.iload_n 3, 1)), (53, (.invokevirtual 578, 3)), (56, (.aload_n 0, 1)), (57, (.iconst 0, 1)), (58, (.iload_n 1, 1)), (59, (.iconst 3, 1)), (60, (.iconst 0, 1)), (61, (.iload_n 3, 1)), (62, (.invokevirtual 564, 3)), (65, (.goto 51, 3)), (68, (.iload_n 2, 1)), (69, (.iconst 4, 1)), (70, (.if_icmp .ne 46, 3)), (73, (.aload_n 0, 1)), (74, (.getfield 80, 3)), (77, (.iload_n 3, 1)), (78, (.baload, 1)), (79, (.ifCond .eq 37, 3)), (82, (.aload_n 0, 1)), (83, (.aload_n 0, 1)), (84, (.getfield 77, 3)), (87, (.bipush 48, 2)), (89, (.iload_n 3, 1)), (90, (.imul, 1)), (91, (.aload_n 0, 1)), (92, (.getfield 254, 3)), (95, (.bipush 32, 2)), (97, (.iconst 1, 1)), (98, (.invokevirtual 574, 3)), (101, (.ifCond .eq 15, 3))]
set_option maxRecDepth 100000 in
theorem da_X12_handAp_0 : dl_X12_handAp_0.all (fun q => decide (decode cX12_handAp q.1 = .ok q.2)) = true := by decide +kernel
theorem dX12_handAp_0 : decode cX12_handAp 0 = .ok (.aload_n 0, 1) := dec_of da_X12_handAp_0 (k := 0) rfl
theorem dX12_handAp_1 : decode cX12_handAp 1 = .ok (.invokevirtual 567, 3) := dec_of da_X12_handAp_0 (k := 1) rfl
theorem dX12_handAp_4 : decode cX12_handAp 4 = .ok (.istore_n 2, 1) := dec_of da_X12_handAp_0 (k := 2) rfl
theorem dX12_handAp_5 : decode cX12_handAp 5 = .ok (.bipush 9, 2) := dec_of da_X12_handAp_0 (k := 3) rfl
theorem dX12_handAp_7 : decode cX12_handAp 7 = .ok (.iload_n 1, 1) := dec_of da_X12_handAp_0 (k := 4) rfl
theorem dX12_handAp_8 : decode cX12_handAp 8 = .ok (.iadd, 1) := dec_of da_X12_handAp_0 (k := 5) rfl
theorem dX12_handAp_9 : decode cX12_handAp 9 = .ok (.istore_n 3, 1) := dec_of da_X12_handAp_0 (k := 6) rfl
theorem dX12_handAp_10 : decode cX12_handAp 10 = .ok (.iload_n 2, 1) := dec_of da_X12_handAp_0 (k := 7) rfl
theorem dX12_handAp_11 : decode cX12_handAp 11 = .ok (.iconst 2, 1) := dec_of da_X12_handAp_0 (k := 8) rfl
theorem dX12_handAp_12 : decode cX12_handAp 12 = .ok (.if_icmp .ne 56, 3) := dec_of da_X12_handAp_0 (k := 9) rfl
theorem dX12_handAp_15 : decode cX12_handAp 15 = .ok (.aload_n 0, 1) := dec_of da_X12_handAp_0 (k := 10) rfl
theorem dX12_handAp_16 : decode cX12_handAp 16 = .ok (.iload_n 3, 1) := dec_of da_X12_handAp_0 (k := 11) rfl
theorem dX12_handAp_17 : decode cX12_handAp 17 = .ok (.aload_n 0, 1) := dec_of da_X12_handAp_0 (k := 12) rfl
theorem dX12_handAp_18 : decode cX12_handAp 18 = .ok (.getfield 58, 3) := dec_of da_X12_handAp_0 (k := 13) rfl
theorem dX12_handAp_21 : decode cX12_handAp 21 = .ok (.iconst 0, 1) := dec_of da_X12_handAp_0 (k := 14) rfl
theorem dX12_handAp_22 : decode cX12_handAp 22 = .ok (.aload_n 0, 1) := dec_of da_X12_handAp_0 (k := 15) rfl
theorem dX12_handAp_23 : decode cX12_handAp 23 = .ok (.getfield 254, 3) := dec_of da_X12_handAp_0 (k := 16) rfl
theorem dX12_handAp_26 : decode cX12_handAp 26 = .ok (.bipush 33, 2) := dec_of da_X12_handAp_0 (k := 17) rfl
theorem dX12_handAp_28 : decode cX12_handAp 28 = .ok (.invokevirtual 570, 3) := dec_of da_X12_handAp_0 (k := 18) rfl
theorem dX12_handAp_31 : decode cX12_handAp 31 = .ok (.aload_n 0, 1) := dec_of da_X12_handAp_0 (k := 19) rfl
theorem dX12_handAp_32 : decode cX12_handAp 32 = .ok (.aload_n 0, 1) := dec_of da_X12_handAp_0 (k := 20) rfl
theorem dX12_handAp_33 : decode cX12_handAp 33 = .ok (.getfield 108, 3) := dec_of da_X12_handAp_0 (k := 21) rfl
theorem dX12_handAp_36 : decode cX12_handAp 36 = .ok (.iconst 0, 1) := dec_of da_X12_handAp_0 (k := 22) rfl
theorem dX12_handAp_37 : decode cX12_handAp 37 = .ok (.aload_n 0, 1) := dec_of da_X12_handAp_0 (k := 23) rfl
theorem dX12_handAp_38 : decode cX12_handAp 38 = .ok (.getfield 254, 3) := dec_of da_X12_handAp_0 (k := 24) rfl
theorem dX12_handAp_41 : decode cX12_handAp 41 = .ok (.bipush 32, 2) := dec_of da_X12_handAp_0 (k := 25) rfl
theorem dX12_handAp_43 : decode cX12_handAp 43 = .ok (.bipush 33, 2) := dec_of da_X12_handAp_0 (k := 26) rfl
theorem dX12_handAp_45 : decode cX12_handAp 45 = .ok (.invokevirtual 574, 3) := dec_of da_X12_handAp_0 (k := 27) rfl
theorem dX12_handAp_48 : decode cX12_handAp 48 = .ok (.ifCond .eq 68, 3) := dec_of da_X12_handAp_0 (k := 28) rfl
theorem dX12_handAp_51 : decode cX12_handAp 51 = .ok (.aload_n 0, 1) := dec_of da_X12_handAp_0 (k := 29) rfl
theorem dX12_handAp_52 : decode cX12_handAp 52 = .ok (.iload_n 3, 1) := dec_of da_X12_handAp_0 (k := 30) rfl
theorem dX12_handAp_53 : decode cX12_handAp 53 = .ok (.invokevirtual 578, 3) := dec_of da_X12_handAp_0 (k := 31) rfl
theorem dX12_handAp_56 : decode cX12_handAp 56 = .ok (.aload_n 0, 1) := dec_of da_X12_handAp_0 (k := 32) rfl
theorem dX12_handAp_57 : decode cX12_handAp 57 = .ok (.iconst 0, 1) := dec_of da_X12_handAp_0 (k := 33) rfl
theorem dX12_handAp_58 : decode cX12_handAp 58 = .ok (.iload_n 1, 1) := dec_of da_X12_handAp_0 (k := 34) rfl
theorem dX12_handAp_59 : decode cX12_handAp 59 = .ok (.iconst 3, 1) := dec_of da_X12_handAp_0 (k := 35) rfl
theorem dX12_handAp_60 : decode cX12_handAp 60 = .ok (.iconst 0, 1) := dec_of da_X12_handAp_0 (k := 36) rfl
theorem dX12_handAp_61 : decode cX12_handAp 61 = .ok (.iload_n 3, 1) := dec_of da_X12_handAp_0 (k := 37) rfl
theorem dX12_handAp_62 : decode cX12_handAp 62 = .ok (.invokevirtual 564, 3) := dec_of da_X12_handAp_0 (k := 38) rfl
theorem dX12_handAp_65 : decode cX12_handAp 65 = .ok (.goto 51, 3) := dec_of da_X12_handAp_0 (k := 39) rfl
theorem dX12_handAp_68 : decode cX12_handAp 68 = .ok (.iload_n 2, 1) := dec_of da_X12_handAp_0 (k := 40) rfl
theorem dX12_handAp_69 : decode cX12_handAp 69 = .ok (.iconst 4, 1) := dec_of da_X12_handAp_0 (k := 41) rfl
theorem dX12_handAp_70 : decode cX12_handAp 70 = .ok (.if_icmp .ne 46, 3) := dec_of da_X12_handAp_0 (k := 42) rfl
theorem dX12_handAp_73 : decode cX12_handAp 73 = .ok (.aload_n 0, 1) := dec_of da_X12_handAp_0 (k := 43) rfl
theorem dX12_handAp_74 : decode cX12_handAp 74 = .ok (.getfield 80, 3) := dec_of da_X12_handAp_0 (k := 44) rfl
theorem dX12_handAp_77 : decode cX12_handAp 77 = .ok (.iload_n 3, 1) := dec_of da_X12_handAp_0 (k := 45) rfl
theorem dX12_handAp_78 : decode cX12_handAp 78 = .ok (.baload, 1) := dec_of da_X12_handAp_0 (k := 46) rfl
theorem dX12_handAp_79 : decode cX12_handAp 79 = .ok (.ifCond .eq 37, 3) := dec_of da_X12_handAp_0 (k := 47) rfl
theorem dX12_handAp_82 : decode cX12_handAp 82 = .ok (.aload_n 0, 1) := dec_of da_X12_handAp_0 (k := 48) rfl
theorem dX12_handAp_83 : decode cX12_handAp 83 = .ok (.aload_n 0, 1) := dec_of da_X12_handAp_0 (k := 49) rfl
theorem dX12_handAp_84 : decode cX12_handAp 84 = .ok (.getfield 77, 3) := dec_of da_X12_handAp_0 (k := 50) rfl
theorem dX12_handAp_87 : decode cX12_handAp 87 = .ok (.bipush 48, 2) := dec_of da_X12_handAp_0 (k := 51) rfl
theorem dX12_handAp_89 : decode cX12_handAp 89 = .ok (.iload_n 3, 1) := dec_of da_X12_handAp_0 (k := 52) rfl
theorem dX12_handAp_90 : decode cX12_handAp 90 = .ok (.imul, 1) := dec_of da_X12_handAp_0 (k := 53) rfl
theorem dX12_handAp_91 : decode cX12_handAp 91 = .ok (.aload_n 0, 1) := dec_of da_X12_handAp_0 (k := 54) rfl
theorem dX12_handAp_92 : decode cX12_handAp 92 = .ok (.getfield 254, 3) := dec_of da_X12_handAp_0 (k := 55) rfl
theorem dX12_handAp_95 : decode cX12_handAp 95 = .ok (.bipush 32, 2) := dec_of da_X12_handAp_0 (k := 56) rfl
theorem dX12_handAp_97 : decode cX12_handAp 97 = .ok (.iconst 1, 1) := dec_of da_X12_handAp_0 (k := 57) rfl
theorem dX12_handAp_98 : decode cX12_handAp 98 = .ok (.invokevirtual 574, 3) := dec_of da_X12_handAp_0 (k := 58) rfl
theorem dX12_handAp_101 : decode cX12_handAp 101 = .ok (.ifCond .eq 15, 3) := dec_of da_X12_handAp_0 (k := 59) rfl
def dl_X12_handAp_1 : List (Nat × (Instr × Nat)) := [(104, (.aload_n 0, 1)), (105, (.iload_n 3, 1)), (106, (.invokevirtual 581, 3)), (109, (.aload_n 0, 1)), (110, (.getfield 64, 3)), (113, (.iload_n 1, 1)), (114, (.iconst 4, 1)), (115, (.iastore, 1)), (116, (.return_, 1))]
set_option maxRecDepth 100000 in
theorem da_X12_handAp_1 : dl_X12_handAp_1.all (fun q => decide (decode cX12_handAp q.1 = .ok q.2)) = true := by decide +kernel
theorem dX12_handAp_104 : decode cX12_handAp 104 = .ok (.aload_n 0, 1) := dec_of da_X12_handAp_1 (k := 0) rfl
theorem dX12_handAp_105 : decode cX12_handAp 105 = .ok (.iload_n 3, 1) := dec_of da_X12_handAp_1 (k := 1) rfl
theorem dX12_handAp_106 : decode cX12_handAp 106 = .ok (.invokevirtual 581, 3) := dec_of da_X12_handAp_1 (k := 2) rfl
theorem dX12_handAp_109 : decode cX12_handAp 109 = .ok (.aload_n 0, 1) := dec_of da_X12_handAp_1 (k := 3) rfl
theorem dX12_handAp_110 : decode cX12_handAp 110 = .ok (.getfield 64, 3) := dec_of da_X12_handAp_1 (k := 4) rfl
theorem dX12_handAp_113 : decode cX12_handAp 113 = .ok (.iload_n 1, 1) := dec_of da_X12_handAp_1 (k := 5) rfl
theorem dX12_handAp_114 : decode cX12_handAp 114 = .ok (.iconst 4, 1) := dec_of da_X12_handAp_1 (k := 6) rfl
theorem dX12_handAp_115 : decode cX12_handAp 115 = .ok (.iastore, 1) := dec_of da_X12_handAp_1 (k := 7) rfl
theorem dX12_handAp_116 : decode cX12_handAp 116 = .ok (.return_, 1) := dec_of da_X12_handAp_1 (k := 8) rfl
def dl_X12_actsStation_0 : List (Nat × (Instr × Nat)) := [(0, (.aload_n 0, 1)), (1, (.getfield 254, 3)), (4, (.iconst 0, 1)), (5, (.iaload, 1)), (6, (.istore_n 2, 1)), (7, (.iload_n 2, 1)), (8, (.sipush 176, 3)), (11, (.if_icmp .ne 100, 3)), (14, (.aload_n 0, 1)), (15, (.bipush 6, 2)), (17, (.iconst 0, 1)), (18, (.iconst 0, 1)), (19, (.iconst 2, 1)), (20, (.iconst 0, 1)), (21, (.invokevirtual 544, 3)), (24, (.ifCond .eq 255, 3)), (27, (.aload_n 0, 1)), (28, (.getfield 254, 3)), (31, (.bipush 28, 2)), (33, (.iaload, 1)), (34, (.ifCond .ne 245, 3)), (37, (.aload_n 0, 1)), (38, (.getfield 254, 3)), (41, (.bipush 29, 2)), (43, (.iaload, 1)), (44, (.ifCond .ne 235, 3)), (47, (.aload_n 0, 1)), (48, (.getfield 67, 3)), (51, (.iload_n 1, 1)), (52, (.baload, 1)), (53, (.ifCond .eq 226, 3)), (56, (.aload_n 0, 1)), (57, (.getfield 61, 3)), (60, (.iload_n 1, 1)), (61, (.iaload, 1)), (62, (.iconst 1, 1)), (63, (.if_icmp .ne 216, 3)), (66, (.aload_n 0, 1)), (67, (.getfield 61, 3)), (70, (.iload_n 1, 1)), (71, (.iconst 2, 1)), (72, (.iastore, 1)), (73, (.aload_n 0, 1)), (74, (.iconst 0, 1)), (75, (.putfield 404, 3)), (78, (.aload_n 0, 1)), (79, (.iconst 1, 1)), (80, (.invokevirtual 534, 3)), (83, (.aload_n 0, 1)), (84, (.iconst 0, 1)), (85, (.invokevirtual 534, 3)), (88, (.aload_n 0, 1)), (89, (.bipush 10, 2)), (91, (.invokevirtual 534, 3)), (94, (.aload_n 0, 1)), (95, (.iconst 0, 1)), (96, (.invokevirtual 534, 3)), (99, (.aload_n 0, 1)), (100, (.iload_n 1, 1)), (101, (.iconst 0, 1))]
set_option maxRecDepth 100000 in
theorem da_X12_actsStation_0 : dl_X12_actsStation_0.all (fun q => decide (decode cX12_actsStation q.1 = .ok q.2)) = true := by decide +kernel
theorem dX12_actsStation_0 : decode cX12_actsStation 0 = .ok (.aload_n 0, 1) := dec_of da_X12_actsStation_0 (k := 0) rfl
theorem dX12_actsStation_1 : decode cX12_actsStation 1 = .ok (.getfield 254, 3) := dec_of da_X12_actsStation_0 (k := 1) rfl
theorem dX12_actsStation_4 : decode cX12_actsStation 4 = .ok (.iconst 0, 1) := dec_of da_X12_actsStation_0 (k := 2) rfl
theorem dX12_actsStation_5 : decode cX12_actsStation 5 = .ok (.iaload, 1) := dec_of da_X12_actsStation_0 (k := 3) rfl
theorem dX12_actsStation_6 : decode cX12_actsStation 6 = .ok (.istore_n 2, 1) := dec_of da_X12_actsStation_0 (k := 4) rfl
theorem dX12_actsStation_7 : decode cX12_actsStation 7 = .ok (.iload_n 2, 1) := dec_of da_X12_actsStation_0 (k := 5) rfl
theorem dX12_actsStation_8 : decode cX12_actsStation 8 = .ok (.sipush 176, 3) := dec_of da_X12_actsStation_0 (k := 6) rfl
theorem dX12_actsStation_11 : decode cX12_actsStation 11 = .ok (.if_icmp .ne 100, 3) := dec_of da_X12_actsStation_0 (k := 7) rfl
theorem dX12_actsStation_14 : decode cX12_actsStation 14 = .ok (.aload_n 0, 1) := dec_of da_X12_actsStation_0 (k := 8) rfl
theorem dX12_actsStation_15 : decode cX12_actsStation 15 = .ok (.bipush 6, 2) := dec_of da_X12_actsStation_0 (k := 9) rfl
theorem dX12_actsStation_17 : decode cX12_actsStation 17 = .ok (.iconst 0, 1) := dec_of da_X12_actsStation_0 (k := 10) rfl
theorem dX12_actsStation_18 : decode cX12_actsStation 18 = .ok (.iconst 0, 1) := dec_of da_X12_actsStation_0 (k := 11) rfl
theorem dX12_actsStation_19 : decode cX12_actsStation 19 = .ok (.iconst 2, 1) := dec_of da_X12_actsStation_0 (k := 12) rfl
theorem dX12_actsStation_20 : decode cX12_actsStation 20 = .ok (.iconst 0, 1) := dec_of da_X12_actsStation_0 (k := 13) rfl
theorem dX12_actsStation_21 : decode cX12_actsStation 21 = .ok (.invokevirtual 544, 3) := dec_of da_X12_actsStation_0 (k := 14) rfl
theorem dX12_actsStation_24 : decode cX12_actsStation 24 = .ok (.ifCond .eq 255, 3) := dec_of da_X12_actsStation_0 (k := 15) rfl
theorem dX12_actsStation_27 : decode cX12_actsStation 27 = .ok (.aload_n 0, 1) := dec_of da_X12_actsStation_0 (k := 16) rfl
theorem dX12_actsStation_28 : decode cX12_actsStation 28 = .ok (.getfield 254, 3) := dec_of da_X12_actsStation_0 (k := 17) rfl
theorem dX12_actsStation_31 : decode cX12_actsStation 31 = .ok (.bipush 28, 2) := dec_of da_X12_actsStation_0 (k := 18) rfl
theorem dX12_actsStation_33 : decode cX12_actsStation 33 = .ok (.iaload, 1) := dec_of da_X12_actsStation_0 (k := 19) rfl
theorem dX12_actsStation_34 : decode cX12_actsStation 34 = .ok (.ifCond .ne 245, 3) := dec_of da_X12_actsStation_0 (k := 20) rfl
theorem dX12_actsStation_37 : decode cX12_actsStation 37 = .ok (.aload_n 0, 1) := dec_of da_X12_actsStation_0 (k := 21) rfl
theorem dX12_actsStation_38 : decode cX12_actsStation 38 = .ok (.getfield 254, 3) := dec_of da_X12_actsStation_0 (k := 22) rfl
theorem dX12_actsStation_41 : decode cX12_actsStation 41 = .ok (.bipush 29, 2) := dec_of da_X12_actsStation_0 (k := 23) rfl
theorem dX12_actsStation_43 : decode cX12_actsStation 43 = .ok (.iaload, 1) := dec_of da_X12_actsStation_0 (k := 24) rfl
theorem dX12_actsStation_44 : decode cX12_actsStation 44 = .ok (.ifCond .ne 235, 3) := dec_of da_X12_actsStation_0 (k := 25) rfl
theorem dX12_actsStation_47 : decode cX12_actsStation 47 = .ok (.aload_n 0, 1) := dec_of da_X12_actsStation_0 (k := 26) rfl
theorem dX12_actsStation_48 : decode cX12_actsStation 48 = .ok (.getfield 67, 3) := dec_of da_X12_actsStation_0 (k := 27) rfl
theorem dX12_actsStation_51 : decode cX12_actsStation 51 = .ok (.iload_n 1, 1) := dec_of da_X12_actsStation_0 (k := 28) rfl
theorem dX12_actsStation_52 : decode cX12_actsStation 52 = .ok (.baload, 1) := dec_of da_X12_actsStation_0 (k := 29) rfl
theorem dX12_actsStation_53 : decode cX12_actsStation 53 = .ok (.ifCond .eq 226, 3) := dec_of da_X12_actsStation_0 (k := 30) rfl
theorem dX12_actsStation_56 : decode cX12_actsStation 56 = .ok (.aload_n 0, 1) := dec_of da_X12_actsStation_0 (k := 31) rfl
theorem dX12_actsStation_57 : decode cX12_actsStation 57 = .ok (.getfield 61, 3) := dec_of da_X12_actsStation_0 (k := 32) rfl
theorem dX12_actsStation_60 : decode cX12_actsStation 60 = .ok (.iload_n 1, 1) := dec_of da_X12_actsStation_0 (k := 33) rfl
theorem dX12_actsStation_61 : decode cX12_actsStation 61 = .ok (.iaload, 1) := dec_of da_X12_actsStation_0 (k := 34) rfl
theorem dX12_actsStation_62 : decode cX12_actsStation 62 = .ok (.iconst 1, 1) := dec_of da_X12_actsStation_0 (k := 35) rfl
theorem dX12_actsStation_63 : decode cX12_actsStation 63 = .ok (.if_icmp .ne 216, 3) := dec_of da_X12_actsStation_0 (k := 36) rfl
theorem dX12_actsStation_66 : decode cX12_actsStation 66 = .ok (.aload_n 0, 1) := dec_of da_X12_actsStation_0 (k := 37) rfl
theorem dX12_actsStation_67 : decode cX12_actsStation 67 = .ok (.getfield 61, 3) := dec_of da_X12_actsStation_0 (k := 38) rfl
theorem dX12_actsStation_70 : decode cX12_actsStation 70 = .ok (.iload_n 1, 1) := dec_of da_X12_actsStation_0 (k := 39) rfl
theorem dX12_actsStation_71 : decode cX12_actsStation 71 = .ok (.iconst 2, 1) := dec_of da_X12_actsStation_0 (k := 40) rfl
theorem dX12_actsStation_72 : decode cX12_actsStation 72 = .ok (.iastore, 1) := dec_of da_X12_actsStation_0 (k := 41) rfl
theorem dX12_actsStation_73 : decode cX12_actsStation 73 = .ok (.aload_n 0, 1) := dec_of da_X12_actsStation_0 (k := 42) rfl
theorem dX12_actsStation_74 : decode cX12_actsStation 74 = .ok (.iconst 0, 1) := dec_of da_X12_actsStation_0 (k := 43) rfl
theorem dX12_actsStation_75 : decode cX12_actsStation 75 = .ok (.putfield 404, 3) := dec_of da_X12_actsStation_0 (k := 44) rfl
theorem dX12_actsStation_78 : decode cX12_actsStation 78 = .ok (.aload_n 0, 1) := dec_of da_X12_actsStation_0 (k := 45) rfl
theorem dX12_actsStation_79 : decode cX12_actsStation 79 = .ok (.iconst 1, 1) := dec_of da_X12_actsStation_0 (k := 46) rfl
theorem dX12_actsStation_80 : decode cX12_actsStation 80 = .ok (.invokevirtual 534, 3) := dec_of da_X12_actsStation_0 (k := 47) rfl
theorem dX12_actsStation_83 : decode cX12_actsStation 83 = .ok (.aload_n 0, 1) := dec_of da_X12_actsStation_0 (k := 48) rfl
theorem dX12_actsStation_84 : decode cX12_actsStation 84 = .ok (.iconst 0, 1) := dec_of da_X12_actsStation_0 (k := 49) rfl
theorem dX12_actsStation_85 : decode cX12_actsStation 85 = .ok (.invokevirtual 534, 3) := dec_of da_X12_actsStation_0 (k := 50) rfl
theorem dX12_actsStation_88 : decode cX12_actsStation 88 = .ok (.aload_n 0, 1) := dec_of da_X12_actsStation_0 (k := 51) rfl
theorem dX12_actsStation_89 : decode cX12_actsStation 89 = .ok (.bipush 10, 2) := dec_of da_X12_actsStation_0 (k := 52) rfl
theorem dX12_actsStation_91 : decode cX12_actsStation 91 = .ok (.invokevirtual 534, 3) := dec_of da_X12_actsStation_0 (k := 53) rfl
theorem dX12_actsStation_94 : decode cX12_actsStation 94 = .ok (.aload_n 0, 1) := dec_of da_X12_actsStation_0 (k := 54) rfl
theorem dX12_actsStation_95 : decode cX12_actsStation 95 = .ok (.iconst 0, 1) := dec_of da_X12_actsStation_0 (k := 55) rfl
theorem dX12_actsStation_96 : decode cX12_actsStation 96 = .ok (.invokevirtual 534, 3) := dec_of da_X12_actsStation_0 (k := 56) rfl
theorem dX12_actsStation_99 : decode cX12_actsStation 99 = .ok (.aload_n 0, 1) := dec_of da_X12_actsStation_0 (k := 57) rfl
theorem dX12_actsStation_100 : decode cX12_actsStation 100 = .ok (.iload_n 1, 1) := dec_of da_X12_actsStation_0 (k := 58) rfl
theorem dX12_actsStation_101 : decode cX12_actsStation 101 = .ok (.iconst 0, 1) := dec_of da_X12_actsStation_0 (k := 59) rfl
def dl_X12_actsStation_1 : List (Nat × (Instr × Nat)) := [(102, (.iconst 0, 1)), (103, (.iconst 0, 1)), (104, (.iconst (-1), 1)), (105, (.invokevirtual 540, 3)), (108, (.goto 171, 3)), (111, (.iload_n 2, 1)), (112, (.bipush 16, 2)), (114, (.if_icmp .ne 60, 3)), (117, (.aload_n 0, 1)), (118, (.bipush 6, 2)), (120, (.iconst 1, 1)), (121, (.iconst 0, 1)), (122, (.iconst 0, 1)), (123, (.iconst 0, 1)), (124, (.invokevirtual 544, 3)), (127, (.ifCond .eq 152, 3)), (130, (.aload_n 0, 1)), (131, (.getfield 254, 3)), (134, (.bipush 28, 2)), (136, (.iaload, 1)), (137, (.iload_n 1, 1)), (138, (.if_icmp .ne 141, 3)), (141, (.aload_n 0, 1)), (142, (.getfield 254, 3)), (145, (.bipush 29, 2)), (147, (.iaload, 1)), (148, (.sipush 192, 3)), (151, (.if_icmp .ne 128, 3)), (154, (.aload_n 0, 1)), (155, (.getfield 61, 3)), (158, (.iload_n 1, 1)), (159, (.iaload, 1)), (160, (.iconst 2, 1)), (161, (.if_icmp .ne 118, 3)), (164, (.aload_n 0, 1)), (165, (.getfield 61, 3)), (168, (.iload_n 1, 1)), (169, (.iconst 3, 1)), (170, (.iastore, 1)), (171, (.goto 108, 3)), (174, (.iload_n 2, 1)), (175, (.sipush 192, 3)), (178, (.if_icmp .ne 37, 3)), (181, (.aload_n 0, 1)), (182, (.getfield 482, 3)), (185, (.bipush 30, 2)), (187, (.if_icmp .ne 92, 3)), (190, (.aload_n 0, 1)), (191, (.getfield 254, 3)), (194, (.bipush 25, 2)), (196, (.iaload, 1)), (197, (.ifCond .ne 82, 3)), (200, (.aload_n 0, 1)), (201, (.getfield 61, 3)), (204, (.iload_n 1, 1)), (205, (.iconst 1, 1)), (206, (.iastore, 1)), (207, (.aload_n 0, 1)), (208, (.iload_n 1, 1)), (209, (.invokevirtual 548, 3))]
set_option maxRecDepth 100000 in
theorem da_X12_actsStation_1 : dl_X12_actsStation_1.all (fun q => decide (decode cX12_actsStation q.1 = .ok q.2)) = true := by decide +kernel
theorem dX12_actsStation_102 : decode cX12_actsStation 102 = .ok (.iconst 0, 1) := dec_of da_X12_actsStation_1 (k := 0) rfl
theorem dX12_actsStation_103 : decode cX12_actsStation 103 = .ok (.iconst 0, 1) := dec_of da_X12_actsStation_1 (k := 1) rfl
theorem dX12_actsStation_104 : decode cX12_actsStation 104 = .ok (.iconst (-1), 1) := dec_of da_X12_actsStation_1 (k := 2) rfl
theorem dX12_actsStation_105 : decode cX12_actsStation 105 = .ok (.invokevirtual 540, 3) := dec_of da_X12_actsStation_1 (k := 3) rfl
theorem dX12_actsStation_108 : decode cX12_actsStation 108 = .ok (.goto 171, 3) := dec_of da_X12_actsStation_1 (k := 4) rfl
theorem dX12_actsStation_111 : decode cX12_actsStation 111 = .ok (.iload_n 2, 1) := dec_of da_X12_actsStation_1 (k := 5) rfl
theorem dX12_actsStation_112 : decode cX12_actsStation 112 = .ok (.bipush 16, 2) := dec_of da_X12_actsStation_1 (k := 6) rfl
theorem dX12_actsStation_114 : decode cX12_actsStation 114 = .ok (.if_icmp .ne 60, 3) := dec_of da_X12_actsStation_1 (k := 7) rfl
theorem dX12_actsStation_117 : decode cX12_actsStation 117 = .ok (.aload_n 0, 1) := dec_of da_X12_actsStation_1 (k := 8) rfl
theorem dX12_actsStation_118 : decode cX12_actsStation 118 = .ok (.bipush 6, 2) := dec_of da_X12_actsStation_1 (k := 9) rfl
theorem dX12_actsStation_120 : decode cX12_actsStation 120 = .ok (.iconst 1, 1) := dec_of da_X12_actsStation_1 (k := 10) rfl
theorem dX12_actsStation_121 : decode cX12_actsStation 121 = .ok (.iconst 0, 1) := dec_of da_X12_actsStation_1 (k := 11) rfl
theorem dX12_actsStation_122 : decode cX12_actsStation 122 = .ok (.iconst 0, 1) := dec_of da_X12_actsStation_1 (k := 12) rfl
theorem dX12_actsStation_123 : decode cX12_actsStation 123 = .ok (.iconst 0, 1) := dec_of da_X12_actsStation_1 (k := 13) rfl
theorem dX12_actsStation_124 : decode cX12_actsStation 124 = .ok (.invokevirtual 544, 3) := dec_of da_X12_actsStation_1 (k := 14) rfl
theorem dX12_actsStation_127 : decode cX12_actsStation 127 = .ok (.ifCond .eq 152, 3) := dec_of da_X12_actsStation_1 (k := 15) rfl
theorem dX12_actsStation_130 : decode cX12_actsStation 130 = .ok (.aload_n 0, 1) := dec_of da_X12_actsStation_1 (k := 16) rfl
theorem dX12_actsStation_131 : decode cX12_actsStation 131 = .ok (.getfield 254, 3) := dec_of da_X12_actsStation_1 (k := 17) rfl
theorem dX12_actsStation_134 : decode cX12_actsStation 134 = .ok (.bipush 28, 2) := dec_of da_X12_actsStation_1 (k := 18) rfl
theorem dX12_actsStation_136 : decode cX12_actsStation 136 = .ok (.iaload, 1) := dec_of da_X12_actsStation_1 (k := 19) rfl
theorem dX12_actsStation_137 : decode cX12_actsStation 137 = .ok (.iload_n 1, 1) := dec_of da_X12_actsStation_1 (k := 20) rfl
theorem dX12_actsStation_138 : decode cX12_actsStation 138 = .ok (.if_icmp .ne 141, 3) := dec_of da_X12_actsStation_1 (k := 21) rfl
theorem dX12_actsStation_141 : decode cX12_actsStation 141 = .ok (.aload_n 0, 1) := dec_of da_X12_actsStation_1 (k := 22) rfl
theorem dX12_actsStation_142 : decode cX12_actsStation 142 = .ok (.getfield 254, 3) := dec_of da_X12_actsStation_1 (k := 23) rfl
theorem dX12_actsStation_145 : decode cX12_actsStation 145 = .ok (.bipush 29, 2) := dec_of da_X12_actsStation_1 (k := 24) rfl
theorem dX12_actsStation_147 : decode cX12_actsStation 147 = .ok (.iaload, 1) := dec_of da_X12_actsStation_1 (k := 25) rfl
theorem dX12_actsStation_148 : decode cX12_actsStation 148 = .ok (.sipush 192, 3) := dec_of da_X12_actsStation_1 (k := 26) rfl
theorem dX12_actsStation_151 : decode cX12_actsStation 151 = .ok (.if_icmp .ne 128, 3) := dec_of da_X12_actsStation_1 (k := 27) rfl
theorem dX12_actsStation_154 : decode cX12_actsStation 154 = .ok (.aload_n 0, 1) := dec_of da_X12_actsStation_1 (k := 28) rfl
theorem dX12_actsStation_155 : decode cX12_actsStation 155 = .ok (.getfield 61, 3) := dec_of da_X12_actsStation_1 (k := 29) rfl
theorem dX12_actsStation_158 : decode cX12_actsStation 158 = .ok (.iload_n 1, 1) := dec_of da_X12_actsStation_1 (k := 30) rfl
theorem dX12_actsStation_159 : decode cX12_actsStation 159 = .ok (.iaload, 1) := dec_of da_X12_actsStation_1 (k := 31) rfl
theorem dX12_actsStation_160 : decode cX12_actsStation 160 = .ok (.iconst 2, 1) := dec_of da_X12_actsStation_1 (k := 32) rfl
theorem dX12_actsStation_161 : decode cX12_actsStation 161 = .ok (.if_icmp .ne 118, 3) := dec_of da_X12_actsStation_1 (k := 33) rfl
theorem dX12_actsStation_164 : decode cX12_actsStation 164 = .ok (.aload_n 0, 1) := dec_of da_X12_actsStation_1 (k := 34) rfl
theorem dX12_actsStation_165 : decode cX12_actsStation 165 = .ok (.getfield 61, 3) := dec_of da_X12_actsStation_1 (k := 35) rfl
theorem dX12_actsStation_168 : decode cX12_actsStation 168 = .ok (.iload_n 1, 1) := dec_of da_X12_actsStation_1 (k := 36) rfl
theorem dX12_actsStation_169 : decode cX12_actsStation 169 = .ok (.iconst 3, 1) := dec_of da_X12_actsStation_1 (k := 37) rfl
theorem dX12_actsStation_170 : decode cX12_actsStation 170 = .ok (.iastore, 1) := dec_of da_X12_actsStation_1 (k := 38) rfl
theorem dX12_actsStation_171 : decode cX12_actsStation 171 = .ok (.goto 108, 3) := dec_of da_X12_actsStation_1 (k := 39) rfl
theorem dX12_actsStation_174 : decode cX12_actsStation 174 = .ok (.iload_n 2, 1) := dec_of da_X12_actsStation_1 (k := 40) rfl
theorem dX12_actsStation_175 : decode cX12_actsStation 175 = .ok (.sipush 192, 3) := dec_of da_X12_actsStation_1 (k := 41) rfl
theorem dX12_actsStation_178 : decode cX12_actsStation 178 = .ok (.if_icmp .ne 37, 3) := dec_of da_X12_actsStation_1 (k := 42) rfl
theorem dX12_actsStation_181 : decode cX12_actsStation 181 = .ok (.aload_n 0, 1) := dec_of da_X12_actsStation_1 (k := 43) rfl
theorem dX12_actsStation_182 : decode cX12_actsStation 182 = .ok (.getfield 482, 3) := dec_of da_X12_actsStation_1 (k := 44) rfl
theorem dX12_actsStation_185 : decode cX12_actsStation 185 = .ok (.bipush 30, 2) := dec_of da_X12_actsStation_1 (k := 45) rfl
theorem dX12_actsStation_187 : decode cX12_actsStation 187 = .ok (.if_icmp .ne 92, 3) := dec_of da_X12_actsStation_1 (k := 46) rfl
theorem dX12_actsStation_190 : decode cX12_actsStation 190 = .ok (.aload_n 0, 1) := dec_of da_X12_actsStation_1 (k := 47) rfl
theorem dX12_actsStation_191 : decode cX12_actsStation 191 = .ok (.getfield 254, 3) := dec_of da_X12_actsStation_1 (k := 48) rfl
theorem dX12_actsStation_194 : decode cX12_actsStation 194 = .ok (.bipush 25, 2) := dec_of da_X12_actsStation_1 (k := 49) rfl
theorem dX12_actsStation_196 : decode cX12_actsStation 196 = .ok (.iaload, 1) := dec_of da_X12_actsStation_1 (k := 50) rfl
theorem dX12_actsStation_197 : decode cX12_actsStation 197 = .ok (.ifCond .ne 82, 3) := dec_of da_X12_actsStation_1 (k := 51) rfl
theorem dX12_actsStation_200 : decode cX12_actsStation 200 = .ok (.aload_n 0, 1) := dec_of da_X12_actsStation_1 (k := 52) rfl
theorem dX12_actsStation_201 : decode cX12_actsStation 201 = .ok (.getfield 61, 3) := dec_of da_X12_actsStation_1 (k := 53) rfl
theorem dX12_actsStation_204 : decode cX12_actsStation 204 = .ok (.iload_n 1, 1) := dec_of da_X12_actsStation_1 (k := 54) rfl
theorem dX12_actsStation_205 : decode cX12_actsStation 205 = .ok (.iconst 1, 1) := dec_of da_X12_actsStation_1 (k := 55) rfl
theorem dX12_actsStation_206 : decode cX12_actsStation 206 = .ok (.iastore, 1) := dec_of da_X12_actsStation_1 (k := 56) rfl
theorem dX12_actsStation_207 : decode cX12_actsStation 207 = .ok (.aload_n 0, 1) := dec_of da_X12_actsStation_1 (k := 57) rfl
theorem dX12_actsStation_208 : decode cX12_actsStation 208 = .ok (.iload_n 1, 1) := dec_of da_X12_actsStation_1 (k := 58) rfl
theorem dX12_actsStation_209 : decode cX12_actsStation 209 = .ok (.invokevirtual 548, 3) := dec_of da_X12_actsStation_1 (k := 59) rfl
def dl_X12_actsStation_2 : List (Nat × (Instr × Nat)) := [(212, (.goto 67, 3)), (215, (.iload_n 2, 1)), (216, (.bipush 8, 2)), (218, (.if_icmp .ne 61, 3)), (221, (.aload_n 0, 1)), (222, (.getfield 254, 3)), (225, (.iconst 1, 1)), (226, (.iaload, 1)), (227, (.iconst 3, 1)), (228, (.iand, 1)), (229, (.iconst 2, 1)), (230, (.if_icmp .ne 49, 3)), (233, (.aload_n 0, 1)), (234, (.getfield 254, 3)), (237, (.iconst 1, 1)), (238, (.iaload, 1)), (239, (.bipush 64, 2)), (241, (.iand, 1)), (242, (.ifCond .eq 22, 3)), (245, (.aload_n 0, 1)), (246, (.getfield 61, 3)), (249, (.iload_n 1, 1)), (250, (.iaload, 1)), (251, (.iconst 4, 1)), (252, (.if_icmp .ne 27, 3)), (255, (.aload_n 0, 1)), (256, (.iload_n 1, 1)), (257, (.iload_n 1, 1)), (258, (.invokevirtual 554, 3)), (261, (.goto 18, 3)), (264, (.aload_n 0, 1)), (265, (.getfield 61, 3)), (268, (.iload_n 1, 1)), (269, (.iaload, 1)), (270, (.iconst 3, 1)), (271, (.if_icmp .lt 8, 3)), (274, (.aload_n 0, 1)), (275, (.iload_n 1, 1)), (276, (.invokevirtual 584, 3)), (279, (.return_, 1))]
set_option maxRecDepth 100000 in
theorem da_X12_actsStation_2 : dl_X12_actsStation_2.all (fun q => decide (decode cX12_actsStation q.1 = .ok q.2)) = true := by decide +kernel
theorem dX12_actsStation_212 : decode cX12_actsStation 212 = .ok (.goto 67, 3) := dec_of da_X12_actsStation_2 (k := 0) rfl
theorem dX12_actsStation_215 : decode cX12_actsStation 215 = .ok (.iload_n 2, 1) := dec_of da_X12_actsStation_2 (k := 1) rfl
theorem dX12_actsStation_216 : decode cX12_actsStation 216 = .ok (.bipush 8, 2) := dec_of da_X12_actsStation_2 (k := 2) rfl
theorem dX12_actsStation_218 : decode cX12_actsStation 218 = .ok (.if_icmp .ne 61, 3) := dec_of da_X12_actsStation_2 (k := 3) rfl
theorem dX12_actsStation_221 : decode cX12_actsStation 221 = .ok (.aload_n 0, 1) := dec_of da_X12_actsStation_2 (k := 4) rfl
theorem dX12_actsStation_222 : decode cX12_actsStation 222 = .ok (.getfield 254, 3) := dec_of da_X12_actsStation_2 (k := 5) rfl
theorem dX12_actsStation_225 : decode cX12_actsStation 225 = .ok (.iconst 1, 1) := dec_of da_X12_actsStation_2 (k := 6) rfl
theorem dX12_actsStation_226 : decode cX12_actsStation 226 = .ok (.iaload, 1) := dec_of da_X12_actsStation_2 (k := 7) rfl
theorem dX12_actsStation_227 : decode cX12_actsStation 227 = .ok (.iconst 3, 1) := dec_of da_X12_actsStation_2 (k := 8) rfl
theorem dX12_actsStation_228 : decode cX12_actsStation 228 = .ok (.iand, 1) := dec_of da_X12_actsStation_2 (k := 9) rfl
theorem dX12_actsStation_229 : decode cX12_actsStation 229 = .ok (.iconst 2, 1) := dec_of da_X12_actsStation_2 (k := 10) rfl
theorem dX12_actsStation_230 : decode cX12_actsStation 230 = .ok (.if_icmp .ne 49, 3) := dec_of da_X12_actsStation_2 (k := 11) rfl
theorem dX12_actsStation_233 : decode cX12_actsStation 233 = .ok (.aload_n 0, 1) := dec_of da_X12_actsStation_2 (k := 12) rfl
theorem dX12_actsStation_234 : decode cX12_actsStation 234 = .ok (.getfield 254, 3) := dec_of da_X12_actsStation_2 (k := 13) rfl
theorem dX12_actsStation_237 : decode cX12_actsStation 237 = .ok (.iconst 1, 1) := dec_of da_X12_actsStation_2 (k := 14) rfl
theorem dX12_actsStation_238 : decode cX12_actsStation 238 = .ok (.iaload, 1) := dec_of da_X12_actsStation_2 (k := 15) rfl
theorem dX12_actsStation_239 : decode cX12_actsStation 239 = .ok (.bipush 64, 2) := dec_of da_X12_actsStation_2 (k := 16) rfl
theorem dX12_actsStation_241 : decode cX12_actsStation 241 = .ok (.iand, 1) := dec_of da_X12_actsStation_2 (k := 17) rfl
theorem dX12_actsStation_242 : decode cX12_actsStation 242 = .ok (.ifCond .eq 22, 3) := dec_of da_X12_actsStation_2 (k := 18) rfl
theorem dX12_actsStation_245 : decode cX12_actsStation 245 = .ok (.aload_n 0, 1) := dec_of da_X12_actsStation_2 (k := 19) rfl
theorem dX12_actsStation_246 : decode cX12_actsStation 246 = .ok (.getfield 61, 3) := dec_of da_X12_actsStation_2 (k := 20) rfl
theorem dX12_actsStation_249 : decode cX12_actsStation 249 = .ok (.iload_n 1, 1) := dec_of da_X12_actsStation_2 (k := 21) rfl
theorem dX12_actsStation_250 : decode cX12_actsStation 250 = .ok (.iaload, 1) := dec_of da_X12_actsStation_2 (k := 22) rfl
theorem dX12_actsStation_251 : decode cX12_actsStation 251 = .ok (.iconst 4, 1) := dec_of da_X12_actsStation_2 (k := 23) rfl
theorem dX12_actsStation_252 : decode cX12_actsStation 252 = .ok (.if_icmp .ne 27, 3) := dec_of da_X12_actsStation_2 (k := 24) rfl
theorem dX12_actsStation_255 : decode cX12_actsStation 255 = .ok (.aload_n 0, 1) := dec_of da_X12_actsStation_2 (k := 25) rfl
theorem dX12_actsStation_256 : decode cX12_actsStation 256 = .ok (.iload_n 1, 1) := dec_of da_X12_actsStation_2 (k := 26) rfl
theorem dX12_actsStation_257 : decode cX12_actsStation 257 = .ok (.iload_n 1, 1) := dec_of da_X12_actsStation_2 (k := 27) rfl
theorem dX12_actsStation_258 : decode cX12_actsStation 258 = .ok (.invokevirtual 554, 3) := dec_of da_X12_actsStation_2 (k := 28) rfl
theorem dX12_actsStation_261 : decode cX12_actsStation 261 = .ok (.goto 18, 3) := dec_of da_X12_actsStation_2 (k := 29) rfl
theorem dX12_actsStation_264 : decode cX12_actsStation 264 = .ok (.aload_n 0, 1) := dec_of da_X12_actsStation_2 (k := 30) rfl
theorem dX12_actsStation_265 : decode cX12_actsStation 265 = .ok (.getfield 61, 3) := dec_of da_X12_actsStation_2 (k := 31) rfl
theorem dX12_actsStation_268 : decode cX12_actsStation 268 = .ok (.iload_n 1, 1) := dec_of da_X12_actsStation_2 (k := 32) rfl
theorem dX12_actsStation_269 : decode cX12_actsStation 269 = .ok (.iaload, 1) := dec_of da_X12_actsStation_2 (k := 33) rfl
theorem dX12_actsStation_270 : decode cX12_actsStation 270 = .ok (.iconst 3, 1) := dec_of da_X12_actsStation_2 (k := 34) rfl
theorem dX12_actsStation_271 : decode cX12_actsStation 271 = .ok (.if_icmp .lt 8, 3) := dec_of da_X12_actsStation_2 (k := 35) rfl
theorem dX12_actsStation_274 : decode cX12_actsStation 274 = .ok (.aload_n 0, 1) := dec_of da_X12_actsStation_2 (k := 36) rfl
theorem dX12_actsStation_275 : decode cX12_actsStation 275 = .ok (.iload_n 1, 1) := dec_of da_X12_actsStation_2 (k := 37) rfl
theorem dX12_actsStation_276 : decode cX12_actsStation 276 = .ok (.invokevirtual 584, 3) := dec_of da_X12_actsStation_2 (k := 38) rfl
theorem dX12_actsStation_279 : decode cX12_actsStation 279 = .ok (.return_, 1) := dec_of da_X12_actsStation_2 (k := 39) rfl
def dl_X12_handStation_0 : List (Nat × (Instr × Nat)) := [(0, (.aload_n 0, 1)), (1, (.invokevirtual 567, 3)), (4, (.istore_n 2, 1)), (5, (.iload_n 2, 1)), (6, (.iconst 1, 1)), (7, (.if_icmp .ne 73, 3)), (10, (.aload_n 0, 1)), (11, (.iload_n 1, 1)), (12, (.aload_n 0, 1)), (13, (.getfield 254, 3)), (16, (.bipush 33, 2)), (18, (.aload_n 0, 1)), (19, (.getfield 58, 3)), (22, (.bipush 32, 2)), (24, (.iload_n 1, 1)), (25, (.imul, 1)), (26, (.invokevirtual 570, 3)), (29, (.aload_n 0, 1)), (30, (.iload_n 1, 1)), (31, (.invokevirtual 578, 3)), (34, (.iconst 0, 1)), (35, (.istore_n 3, 1)), (36, (.iload_n 3, 1)), (37, (.bipush 32, 2)), (39, (.if_icmp .ge 29, 3)), (42, (.aload_n 0, 1)), (43, (.getfield 83, 3)), (46, (.bipush 32, 2)), (48, (.iload_n 1, 1)), (49, (.imul, 1)), (50, (.iload_n 3, 1)), (51, (.iadd, 1)), (52, (.aload_n 0, 1)), (53, (.getfield 254, 3)), (56, (.bipush 33, 2)), (58, (.iload_n 3, 1)), (59, (.iadd, 1)), (60, (.iaload, 1)), (61, (.iastore, 1)), (62, (.iinc 3 1, 3)), (65, (.goto (-29), 3)), (68, (.aload_n 0, 1)), (69, (.iload_n 1, 1)), (70, (.iconst 0, 1)), (71, (.iconst 2, 1)), (72, (.iload_n 1, 1)), (73, (.iload_n 1, 1)), (74, (.invokevirtual 564, 3)), (77, (.goto 118, 3)), (80, (.iload_n 2, 1)), (81, (.iconst 3, 1)), (82, (.if_icmp .ne 113, 3)), (85, (.aload_n 0, 1)), (86, (.getfield 80, 3)), (89, (.iload_n 1, 1)), (90, (.baload, 1)), (91, (.ifCond .eq 104, 3)), (94, (.iconst 1, 1)), (95, (.istore_n 3, 1)), (96, (.iconst 0, 1))]
set_option maxRecDepth 100000 in
theorem da_X12_handStation_0 : dl_X12_handStation_0.all (fun q => decide (decode cX12_handStation q.1 = .ok q.2)) = true := by decide +kernel
theorem dX12_handStation_0 : decode cX12_handStation 0 = .ok (.aload_n 0, 1) := dec_of da_X12_handStation_0 (k := 0) rfl
theorem dX12_handStation_1 : decode cX12_handStation 1 = .ok (.invokevirtual 567, 3) := dec_of da_X12_handStation_0 (k := 1) rfl
theorem dX12_handStation_4 : decode cX12_handStation 4 = .ok (.istore_n 2, 1) := dec_of da_X12_handStation_0 (k := 2) rfl
theorem dX12_handStation_5 : decode cX12_handStation 5 = .ok (.iload_n 2, 1) := dec_of da_X12_handStation_0 (k := 3) rfl
theorem dX12_handStation_6 : decode cX12_handStation 6 = .ok (.iconst 1, 1) := dec_of da_X12_handStation_0 (k := 4) rfl
theorem dX12_handStation_7 : decode cX12_handStation 7 = .ok (.if_icmp .ne 73, 3) := dec_of da_X12_handStation_0 (k := 5) rfl
theorem dX12_handStation_10 : decode cX12_handStation 10 = .ok (.aload_n 0, 1) := dec_of da_X12_handStation_0 (k := 6) rfl
theorem dX12_handStation_11 : decode cX12_handStation 11 = .ok (.iload_n 1, 1) := dec_of da_X12_handStation_0 (k := 7) rfl
theorem dX12_handStation_12 : decode cX12_handStation 12 = .ok (.aload_n 0, 1) := dec_of da_X12_handStation_0 (k := 8) rfl
theorem dX12_handStation_13 : decode cX12_handStation 13 = .ok (.getfield 254, 3) := dec_of da_X12_handStation_0 (k := 9) rfl
theorem dX12_handStation_16 : decode cX12_handStation 16 = .ok (.bipush 33, 2) := dec_of da_X12_handStation_0 (k := 10) rfl
theorem dX12_handStation_18 : decode cX12_handStation 18 = .ok (.aload_n 0, 1) := dec_of da_X12_handStation_0 (k := 11) rfl
theorem dX12_handStation_19 : decode cX12_handStation 19 = .ok (.getfield 58, 3) := dec_of da_X12_handStation_0 (k := 12) rfl
theorem dX12_handStation_22 : decode cX12_handStation 22 = .ok (.bipush 32, 2) := dec_of da_X12_handStation_0 (k := 13) rfl
theorem dX12_handStation_24 : decode cX12_handStation 24 = .ok (.iload_n 1, 1) := dec_of da_X12_handStation_0 (k := 14) rfl
theorem dX12_handStation_25 : decode cX12_handStation 25 = .ok (.imul, 1) := dec_of da_X12_handStation_0 (k := 15) rfl
theorem dX12_handStation_26 : decode cX12_handStation 26 = .ok (.invokevirtual 570, 3) := dec_of da_X12_handStation_0 (k := 16) rfl
theorem dX12_handStation_29 : decode cX12_handStation 29 = .ok (.aload_n 0, 1) := dec_of da_X12_handStation_0 (k := 17) rfl
theorem dX12_handStation_30 : decode cX12_handStation 30 = .ok (.iload_n 1, 1) := dec_of da_X12_handStation_0 (k := 18) rfl
theorem dX12_handStation_31 : decode cX12_handStation 31 = .ok (.invokevirtual 578, 3) := dec_of da_X12_handStation_0 (k := 19) rfl
theorem dX12_handStation_34 : decode cX12_handStation 34 = .ok (.iconst 0, 1) := dec_of da_X12_handStation_0 (k := 20) rfl
theorem dX12_handStation_35 : decode cX12_handStation 35 = .ok (.istore_n 3, 1) := dec_of da_X12_handStation_0 (k := 21) rfl
theorem dX12_handStation_36 : decode cX12_handStation 36 = .ok (.iload_n 3, 1) := dec_of da_X12_handStation_0 (k := 22) rfl
theorem dX12_handStation_37 : decode cX12_handStation 37 = .ok (.bipush 32, 2) := dec_of da_X12_handStation_0 (k := 23) rfl
theorem dX12_handStation_39 : decode cX12_handStation 39 = .ok (.if_icmp .ge 29, 3) := dec_of da_X12_handStation_0 (k := 24) rfl
theorem dX12_handStation_42 : decode cX12_handStation 42 = .ok (.aload_n 0, 1) := dec_of da_X12_handStation_0 (k := 25) rfl
theorem dX12_handStation_43 : decode cX12_handStation 43 = .ok (.getfield 83, 3) := dec_of da_X12_handStation_0 (k := 26) rfl
theorem dX12_handStation_46 : decode cX12_handStation 46 = .ok (.bipush 32, 2) := dec_of da_X12_handStation_0 (k := 27) rfl
theorem dX12_handStation_48 : decode cX12_handStation 48 = .ok (.iload_n 1, 1) := dec_of da_X12_handStation_0 (k := 28) rfl
theorem dX12_handStation_49 : decode cX12_handStation 49 = .ok (.imul, 1) := dec_of da_X12_handStation_0 (k := 29) rfl
theorem dX12_handStation_50 : decode cX12_handStation 50 = .ok (.iload_n 3, 1) := dec_of da_X12_handStation_0 (k := 30) rfl
theorem dX12_handStation_51 : decode cX12_handStation 51 = .ok (.iadd, 1) := dec_of da_X12_handStation_0 (k := 31) rfl
theorem dX12_handStation_52 : decode cX12_handStation 52 = .ok (.aload_n 0, 1) := dec_of da_X12_handStation_0 (k := 32) rfl
theorem dX12_handStation_53 : decode cX12_handStation 53 = .ok (.getfield 254, 3) := dec_of da_X12_handStation_0 (k := 33) rfl
theorem dX12_handStation_56 : decode cX12_handStation 56 = .ok (.bipush 33, 2) := dec_of da_X12_handStation_0 (k := 34) rfl
theorem dX12_handStation_58 : decode cX12_handStation 58 = .ok (.iload_n 3, 1) := dec_of da_X12_handStation_0 (k := 35) rfl
theorem dX12_handStation_59 : decode cX12_handStation 59 = .ok (.iadd, 1) := dec_of da_X12_handStation_0 (k := 36) rfl
theorem dX12_handStation_60 : decode cX12_handStation 60 = .ok (.iaload, 1) := dec_of da_X12_handStation_0 (k := 37) rfl
theorem dX12_handStation_61 : decode cX12_handStation 61 = .ok (.iastore, 1) := dec_of da_X12_handStation_0 (k := 38) rfl
theorem dX12_handStation_62 : decode cX12_handStation 62 = .ok (.iinc 3 1, 3) := dec_of da_X12_handStation_0 (k := 39) rfl
theorem dX12_handStation_65 : decode cX12_handStation 65 = .ok (.goto (-29), 3) := dec_of da_X12_handStation_0 (k := 40) rfl
theorem dX12_handStation_68 : decode cX12_handStation 68 = .ok (.aload_n 0, 1) := dec_of da_X12_handStation_0 (k := 41) rfl
theorem dX12_handStation_69 : decode cX12_handStation 69 = .ok (.iload_n 1, 1) := dec_of da_X12_handStation_0 (k := 42) rfl
theorem dX12_handStation_70 : decode cX12_handStation 70 = .ok (.iconst 0, 1) := dec_of da_X12_handStation_0 (k := 43) rfl
theorem dX12_handStation_71 : decode cX12_handStation 71 = .ok (.iconst 2, 1) := dec_of da_X12_handStation_0 (k := 44) rfl
theorem dX12_handStation_72 : decode cX12_handStation 72 = .ok (.iload_n 1, 1) := dec_of da_X12_handStation_0 (k := 45) rfl
theorem dX12_handStation_73 : decode cX12_handStation 73 = .ok (.iload_n 1, 1) := dec_of da_X12_handStation_0 (k := 46) rfl
theorem dX12_handStation_74 : decode cX12_handStation 74 = .ok (.invokevirtual 564, 3) := dec_of da_X12_handStation_0 (k := 47) rfl
theorem dX12_handStation_77 : decode cX12_handStation 77 = .ok (.goto 118, 3) := dec_of da_X12_handStation_0 (k := 48) rfl
theorem dX12_handStation_80 : decode cX12_handStation 80 = .ok (.iload_n 2, 1) := dec_of da_X12_handStation_0 (k := 49) rfl
theorem dX12_handStation_81 : decode cX12_handStation 81 = .ok (.iconst 3, 1) := dec_of da_X12_handStation_0 (k := 50) rfl
theorem dX12_handStation_82 : decode cX12_handStation 82 = .ok (.if_icmp .ne 113, 3) := dec_of da_X12_handStation_0 (k := 51) rfl
theorem dX12_handStation_85 : decode cX12_handStation 85 = .ok (.aload_n 0, 1) := dec_of da_X12_handStation_0 (k := 52) rfl
theorem dX12_handStation_86 : decode cX12_handStation 86 = .ok (.getfield 80, 3) := dec_of da_X12_handStation_0 (k := 53) rfl
theorem dX12_handStation_89 : decode cX12_handStation 89 = .ok (.iload_n 1, 1) := dec_of da_X12_handStation_0 (k := 54) rfl
theorem dX12_handStation_90 : decode cX12_handStation 90 = .ok (.baload, 1) := dec_of da_X12_handStation_0 (k := 55) rfl
theorem dX12_handStation_91 : decode cX12_handStation 91 = .ok (.ifCond .eq 104, 3) := dec_of da_X12_handStation_0 (k := 56) rfl
theorem dX12_handStation_94 : decode cX12_handStation 94 = .ok (.iconst 1, 1) := dec_of da_X12_handStation_0 (k := 57) rfl
theorem dX12_handStation_95 : decode cX12_handStation 95 = .ok (.istore_n 3, 1) := dec_of da_X12_handStation_0 (k := 58) rfl
theorem dX12_handStation_96 : decode cX12_handStation 96 = .ok (.iconst 0, 1) := dec_of da_X12_handStation_0 (k := 59) rfl
def dl_X12_handStation_1 : List (Nat × (Instr × Nat)) := [(97, (.istore 4, 2)), (99, (.iload 4, 2)), (101, (.bipush 32, 2)), (103, (.if_icmp .ge 44, 3)), (106, (.iload_n 3, 1)), (107, (.ifCond .eq 32, 3)), (110, (.aload_n 0, 1)), (111, (.getfield 83, 3)), (114, (.bipush 32, 2)), (116, (.iload_n 1, 1)), (117, (.imul, 1)), (118, (.iload 4, 2)), (120, (.iadd, 1)), (121, (.iaload, 1)), (122, (.aload_n 0, 1)), (123, (.getfield 254, 3)), (126, (.bipush 33, 2)), (128, (.iload 4, 2)), (130, (.iadd, 1)), (131, (.iaload, 1)), (132, (.if_icmp .ne 7, 3)), (135, (.iconst 1, 1)), (136, (.goto 4, 3)), (139, (.iconst 0, 1)), (140, (.istore_n 3, 1)), (141, (.iinc 4 1, 3)), (144, (.goto (-45), 3)), (147, (.iload_n 3, 1)), (148, (.ifCond .eq 47, 3)), (151, (.aload_n 0, 1)), (152, (.aload_n 0, 1)), (153, (.getfield 77, 3)), (156, (.bipush 48, 2)), (158, (.iload_n 1, 1)), (159, (.imul, 1)), (160, (.aload_n 0, 1)), (161, (.getfield 254, 3)), (164, (.bipush 32, 2)), (166, (.bipush 33, 2)), (168, (.invokevirtual 574, 3)), (171, (.ifCond .eq 24, 3)), (174, (.aload_n 0, 1)), (175, (.iload_n 1, 1)), (176, (.invokevirtual 581, 3)), (179, (.aload_n 0, 1)), (180, (.getfield 61, 3)), (183, (.iload_n 1, 1)), (184, (.iconst 4, 1)), (185, (.iastore, 1)), (186, (.aload_n 0, 1)), (187, (.iload_n 1, 1)), (188, (.iconst 0, 1)), (189, (.iconst 4, 1)), (190, (.iconst (-1), 1)), (191, (.iload_n 1, 1)), (192, (.invokevirtual 564, 3)), (195, (.return_, 1))]
set_option maxRecDepth 100000 in
theorem da_X12_handStation_1 : dl_X12_handStation_1.all (fun q => decide (decode cX12_handStation q.1 = .ok q.2)) = true := by decide +kernel
theorem dX12_handStation_97 : decode cX12_handStation 97 = .ok (.istore 4, 2) := dec_of da_X12_handStation_1 (k := 0) rfl
theorem dX12_handStation_99 : decode cX12_handStation 99 = .ok (.iload 4, 2) := dec_of da_X12_handStation_1 (k := 1) rfl
theorem dX12_handStation_101 : decode cX12_handStation 101 = .ok (.bipush 32, 2) := dec_of da_X12_handStation_1 (k := 2) rfl
theorem dX12_handStation_103 : decode cX12_handStation 103 = .ok (.if_icmp .ge 44, 3) := dec_of da_X12_handStation_1 (k := 3) rfl
theorem dX12_handStation_106 : decode cX12_handStation 106 = .ok (.iload_n 3, 1) := dec_of da_X12_handStation_1 (k := 4) rfl
theorem dX12_handStation_107 : decode cX12_handStation 107 = .ok (.ifCond .eq 32, 3) := dec_of da_X12_handStation_1 (k := 5) rfl
theorem dX12_handStation_110 : decode cX12_handStation 110 = .ok (.aload_n 0, 1) := dec_of da_X12_handStation_1 (k := 6) rfl
theorem dX12_handStation_111 : decode cX12_handStation 111 = .ok (.getfield 83, 3) := dec_of da_X12_handStation_1 (k := 7) rfl
theorem dX12_handStation_114 : decode cX12_handStation 114 = .ok (.bipush 32, 2) := dec_of da_X12_handStation_1 (k := 8) rfl
theorem dX12_handStation_116 : decode cX12_handStation 116 = .ok (.iload_n 1, 1) := dec_of da_X12_handStation_1 (k := 9) rfl
theorem dX12_handStation_117 : decode cX12_handStation 117 = .ok (.imul, 1) := dec_of da_X12_handStation_1 (k := 10) rfl
theorem dX12_handStation_118 : decode cX12_handStation 118 = .ok (.iload 4, 2) := dec_of da_X12_handStation_1 (k := 11) rfl
theorem dX12_handStation_120 : decode cX12_handStation 120 = .ok (.iadd, 1) := dec_of da_X12_handStation_1 (k := 12) rfl
theorem dX12_handStation_121 : decode cX12_handStation 121 = .ok (.iaload, 1) := dec_of da_X12_handStation_1 (k := 13) rfl
theorem dX12_handStation_122 : decode cX12_handStation 122 = .ok (.aload_n 0, 1) := dec_of da_X12_handStation_1 (k := 14) rfl
theorem dX12_handStation_123 : decode cX12_handStation 123 = .ok (.getfield 254, 3) := dec_of da_X12_handStation_1 (k := 15) rfl
theorem dX12_handStation_126 : decode cX12_handStation 126 = .ok (.bipush 33, 2) := dec_of da_X12_handStation_1 (k := 16) rfl
theorem dX12_handStation_128 : decode cX12_handStation 128 = .ok (.iload 4, 2) := dec_of da_X12_handStation_1 (k := 17) rfl
theorem dX12_handStation_130 : decode cX12_handStation 130 = .ok (.iadd, 1) := dec_of da_X12_handStation_1 (k := 18) rfl
theorem dX12_handStation_131 : decode cX12_handStation 131 = .ok (.iaload, 1) := dec_of da_X12_handStation_1 (k := 19) rfl
theorem dX12_handStation_132 : decode cX12_handStation 132 = .ok (.if_icmp .ne 7, 3) := dec_of da_X12_handStation_1 (k := 20) rfl
theorem dX12_handStation_135 : decode cX12_handStation 135 = .ok (.iconst 1, 1) := dec_of da_X12_handStation_1 (k := 21) rfl
theorem dX12_handStation_136 : decode cX12_handStation 136 = .ok (.goto 4, 3) := dec_of da_X12_handStation_1 (k := 22) rfl
theorem dX12_handStation_139 : decode cX12_handStation 139 = .ok (.iconst 0, 1) := dec_of da_X12_handStation_1 (k := 23) rfl
theorem dX12_handStation_140 : decode cX12_handStation 140 = .ok (.istore_n 3, 1) := dec_of da_X12_handStation_1 (k := 24) rfl
theorem dX12_handStation_141 : decode cX12_handStation 141 = .ok (.iinc 4 1, 3) := dec_of da_X12_handStation_1 (k := 25) rfl
theorem dX12_handStation_144 : decode cX12_handStation 144 = .ok (.goto (-45), 3) := dec_of da_X12_handStation_1 (k := 26) rfl
theorem dX12_handStation_147 : decode cX12_handStation 147 = .ok (.iload_n 3, 1) := dec_of da_X12_handStation_1 (k := 27) rfl
theorem dX12_handStation_148 : decode cX12_handStation 148 = .ok (.ifCond .eq 47, 3) := dec_of da_X12_handStation_1 (k := 28) rfl
theorem dX12_handStation_151 : decode cX12_handStation 151 = .ok (.aload_n 0, 1) := dec_of da_X12_handStation_1 (k := 29) rfl
theorem dX12_handStation_152 : decode cX12_handStation 152 = .ok (.aload_n 0, 1) := dec_of da_X12_handStation_1 (k := 30) rfl
theorem dX12_handStation_153 : decode cX12_handStation 153 = .ok (.getfield 77, 3) := dec_of da_X12_handStation_1 (k := 31) rfl
theorem dX12_handStation_156 : decode cX12_handStation 156 = .ok (.bipush 48, 2) := dec_of da_X12_handStation_1 (k := 32) rfl
theorem dX12_handStation_158 : decode cX12_handStation 158 = .ok (.iload_n 1, 1) := dec_of da_X12_handStation_1 (k := 33) rfl
theorem dX12_handStation_159 : decode cX12_handStation 159 = .ok (.imul, 1) := dec_of da_X12_handStation_1 (k := 34) rfl
theorem dX12_handStation_160 : decode cX12_handStation 160 = .ok (.aload_n 0, 1) := dec_of da_X12_handStation_1 (k := 35) rfl
theorem dX12_handStation_161 : decode cX12_handStation 161 = .ok (.getfield 254, 3) := dec_of da_X12_handStation_1 (k := 36) rfl
theorem dX12_handStation_164 : decode cX12_handStation 164 = .ok (.bipush 32, 2) := dec_of da_X12_handStation_1 (k := 37) rfl
theorem dX12_handStation_166 : decode cX12_handStation 166 = .ok (.bipush 33, 2) := dec_of da_X12_handStation_1 (k := 38) rfl
theorem dX12_handStation_168 : decode cX12_handStation 168 = .ok (.invokevirtual 574, 3) := dec_of da_X12_handStation_1 (k := 39) rfl
theorem dX12_handStation_171 : decode cX12_handStation 171 = .ok (.ifCond .eq 24, 3) := dec_of da_X12_handStation_1 (k := 40) rfl
theorem dX12_handStation_174 : decode cX12_handStation 174 = .ok (.aload_n 0, 1) := dec_of da_X12_handStation_1 (k := 41) rfl
theorem dX12_handStation_175 : decode cX12_handStation 175 = .ok (.iload_n 1, 1) := dec_of da_X12_handStation_1 (k := 42) rfl
theorem dX12_handStation_176 : decode cX12_handStation 176 = .ok (.invokevirtual 581, 3) := dec_of da_X12_handStation_1 (k := 43) rfl
theorem dX12_handStation_179 : decode cX12_handStation 179 = .ok (.aload_n 0, 1) := dec_of da_X12_handStation_1 (k := 44) rfl
theorem dX12_handStation_180 : decode cX12_handStation 180 = .ok (.getfield 61, 3) := dec_of da_X12_handStation_1 (k := 45) rfl
theorem dX12_handStation_183 : decode cX12_handStation 183 = .ok (.iload_n 1, 1) := dec_of da_X12_handStation_1 (k := 46) rfl
theorem dX12_handStation_184 : decode cX12_handStation 184 = .ok (.iconst 4, 1) := dec_of da_X12_handStation_1 (k := 47) rfl
theorem dX12_handStation_185 : decode cX12_handStation 185 = .ok (.iastore, 1) := dec_of da_X12_handStation_1 (k := 48) rfl
theorem dX12_handStation_186 : decode cX12_handStation 186 = .ok (.aload_n 0, 1) := dec_of da_X12_handStation_1 (k := 49) rfl
theorem dX12_handStation_187 : decode cX12_handStation 187 = .ok (.iload_n 1, 1) := dec_of da_X12_handStation_1 (k := 50) rfl
theorem dX12_handStation_188 : decode cX12_handStation 188 = .ok (.iconst 0, 1) := dec_of da_X12_handStation_1 (k := 51) rfl
theorem dX12_handStation_189 : decode cX12_handStation 189 = .ok (.iconst 4, 1) := dec_of da_X12_handStation_1 (k := 52) rfl
theorem dX12_handStation_190 : decode cX12_handStation 190 = .ok (.iconst (-1), 1) := dec_of da_X12_handStation_1 (k := 53) rfl
theorem dX12_handStation_191 : decode cX12_handStation 191 = .ok (.iload_n 1, 1) := dec_of da_X12_handStation_1 (k := 54) rfl
theorem dX12_handStation_192 : decode cX12_handStation 192 = .ok (.invokevirtual 564, 3) := dec_of da_X12_handStation_1 (k := 55) rfl
theorem dX12_handStation_195 : decode cX12_handStation 195 = .ok (.return_, 1) := dec_of da_X12_handStation_1 (k := 56) rfl
def dl_X12_isRight_0 : List (Nat × (Instr × Nat)) := [(0, (.aload_n 0, 1)), (1, (.getfield 482, 3)), (4, (.bipush 28, 2)), (6, (.isub, 1)), (7, (.bipush 16, 2)), (9, (.isub, 1)), (10, (.istore_n 2, 1)), (11, (.iload_n 2, 1)), (12, (.ifCond .lt 25, 3)), (15, (.aload_n 0, 1)), (16, (.getfield 254, 3)), (19, (.bipush 26, 2)), (21, (.iaload, 1)), (22, (.ifCond .ne 15, 3)), (25, (.aload_n 0, 1)), (26, (.getfield 254, 3)), (29, (.bipush 27, 2)), (31, (.iaload, 1)), (32, (.bipush 32, 2)), (34, (.if_icmp .eq 5, 3)), (37, (.iconst 0, 1)), (38, (.ireturn, 1)), (39, (.lconst 0, 1)), (40, (.lstore_n 3, 1)), (41, (.iconst 5, 1)), (42, (.istore 5, 2)), (44, (.iload 5, 2)), (46, (.ifCond .lt 40, 3)), (49, (.lload_n 3, 1)), (50, (.bipush 8, 2)), (52, (.lshl, 1)), (53, (.aload_n 0, 1)), (54, (.getfield 254, 3)), (57, (.iload 5, 2)), (59, (.iconst 2, 1)), (60, (.if_icmp .ge 11, 3)), (63, (.bipush 24, 2)), (65, (.iload 5, 2)), (67, (.iadd, 1)), (68, (.goto 8, 3)), (71, (.bipush 26, 2)), (73, (.iload 5, 2)), (75, (.iadd, 1)), (76, (.iaload, 1)), (77, (.i2l, 1)), (78, (.lor, 1)), (79, (.lstore_n 3, 1)), (80, (.iinc 5 (-1), 3)), (83, (.goto (-39), 3)), (86, (.lload_n 3, 1)), (87, (.aload_n 0, 1)), (88, (.getfield 86, 3)), (91, (.iload_n 1, 1)), (92, (.laload, 1)), (93, (.lcmp, 1)), (94, (.ifCond .gt 5, 3)), (97, (.iconst 0, 1)), (98, (.ireturn, 1)), (99, (.aload_n 0, 1)), (100, (.aload_n 0, 1))]
set_option maxRecDepth 100000 in
theorem da_X12_isRight_0 : dl_X12_isRight_0.all (fun q => decide (decode cX12_isRight q.1 = .ok q.2)) = true := by decide +kernel
theorem dX12_isRight_0 : decode cX12_isRight 0 = .ok (.aload_n 0, 1) := dec_of da_X12_isRight_0 (k := 0) rfl
theorem dX12_isRight_1 : decode cX12_isRight 1 = .ok (.getfield 482, 3) := dec_of da_X12_isRight_0 (k := 1) rfl
theorem dX12_isRight_4 : decode cX12_isRight 4 = .ok (.bipush 28, 2) := dec_of da_X12_isRight_0 (k := 2) rfl
theorem dX12_isRight_6 : decode cX12_isRight 6 = .ok (.isub, 1) := dec_of da_X12_isRight_0 (k := 3) rfl
theorem dX12_isRight_7 : decode cX12_isRight 7 = .ok (.bipush 16, 2) := dec_of da_X12_isRight_0 (k := 4) rfl
theorem dX12_isRight_9 : decode cX12_isRight 9 = .ok (.isub, 1) := dec_of da_X12_isRight_0 (k := 5) rfl
theorem dX12_isRight_10 : decode cX12_isRight 10 = .ok (.istore_n 2, 1) := dec_of da_X12_isRight_0 (k := 6) rfl
theorem dX12_isRight_11 : decode cX12_isRight 11 = .ok (.iload_n 2, 1) := dec_of da_X12_isRight_0 (k := 7) rfl
theorem dX12_isRight_12 : decode cX12_isRight 12 = .ok (.ifCond .lt 25, 3) := dec_of da_X12_isRight_0 (k := 8) rfl
theorem dX12_isRight_15 : decode cX12_isRight 15 = .ok (.aload_n 0, 1) := dec_of da_X12_isRight_0 (k := 9) rfl
theorem dX12_isRight_16 : decode cX12_isRight 16 = .ok (.getfield 254, 3) := dec_of da_X12_isRight_0 (k := 10) rfl
theorem dX12_isRight_19 : decode cX12_isRight 19 = .ok (.bipush 26, 2) := dec_of da_X12_isRight_0 (k := 11) rfl
theorem dX12_isRight_21 : decode cX12_isRight 21 = .ok (.iaload, 1) := dec_of da_X12_isRight_0 (k := 12) rfl
theorem dX12_isRight_22 : decode cX12_isRight 22 = .ok (.ifCond .ne 15, 3) := dec_of da_X12_isRight_0 (k := 13) rfl
theorem dX12_isRight_25 : decode cX12_isRight 25 = .ok (.aload_n 0, 1) := dec_of da_X12_isRight_0 (k := 14) rfl
theorem dX12_isRight_26 : decode cX12_isRight 26 = .ok (.getfield 254, 3) := dec_of da_X12_isRight_0 (k := 15) rfl
theorem dX12_isRight_29 : decode cX12_isRight 29 = .ok (.bipush 27, 2) := dec_of da_X12_isRight_0 (k := 16) rfl
theorem dX12_isRight_31 : decode cX12_isRight 31 = .ok (.iaload, 1) := dec_of da_X12_isRight_0 (k := 17) rfl
theorem dX12_isRight_32 : decode cX12_isRight 32 = .ok (.bipush 32, 2) := dec_of da_X12_isRight_0 (k := 18) rfl
theorem dX12_isRight_34 : decode cX12_isRight 34 = .ok (.if_icmp .eq 5, 3) := dec_of da_X12_isRight_0 (k := 19) rfl
theorem dX12_isRight_37 : decode cX12_isRight 37 = .ok (.iconst 0, 1) := dec_of da_X12_isRight_0 (k := 20) rfl
theorem dX12_isRight_38 : decode cX12_isRight 38 = .ok (.ireturn, 1) := dec_of da_X12_isRight_0 (k := 21) rfl
theorem dX12_isRight_39 : decode cX12_isRight 39 = .ok (.lconst 0, 1) := dec_of da_X12_isRight_0 (k := 22) rfl
theorem dX12_isRight_40 : decode cX12_isRight 40 = .ok (.lstore_n 3, 1) := dec_of da_X12_isRight_0 (k := 23) rfl
theorem dX12_isRight_41 : decode cX12_isRight 41 = .ok (.iconst 5, 1) := dec_of da_X12_isRight_0 (k := 24) rfl
theorem dX12_isRight_42 : decode cX12_isRight 42 = .ok (.istore 5, 2) := dec_of da_X12_isRight_0 (k := 25) rfl
theorem dX12_isRight_44 : decode cX12_isRight 44 = .ok (.iload 5, 2) := dec_of da_X12_isRight_0 (k := 26) rfl
theorem dX12_isRight_46 : decode cX12_isRight 46 = .ok (.ifCond .lt 40, 3) := dec_of da_X12_isRight_0 (k := 27) rfl
theorem dX12_isRight_49 : decode cX12_isRight 49 = .ok (.lload_n 3, 1) := dec_of da_X12_isRight_0 (k := 28) rfl
theorem dX12_isRight_50 : decode cX12_isRight 50 = .ok (.bipush 8, 2) := dec_of da_X12_isRight_0 (k := 29) rfl
theorem dX12_isRight_52 : decode cX12_isRight 52 = .ok (.lshl, 1) := dec_of da_X12_isRight_0 (k := 30) rfl
theorem dX12_isRight_53 : decode cX12_isRight 53 = .ok (.aload_n 0, 1) := dec_of da_X12_isRight_0 (k := 31) rfl
theorem dX12_isRight_54 : decode cX12_isRight 54 = .ok (.getfield 254, 3) := dec_of da_X12_isRight_0 (k := 32) rfl
theorem dX12_isRight_57 : decode cX12_isRight 57 = .ok (.iload 5, 2) := dec_of da_X12_isRight_0 (k := 33) rfl
theorem dX12_isRight_59 : decode cX12_isRight 59 = .ok (.iconst 2, 1) := dec_of da_X12_isRight_0 (k := 34) rfl
theorem dX12_isRight_60 : decode cX12_isRight 60 = .ok (.if_icmp .ge 11, 3) := dec_of da_X12_isRight_0 (k := 35) rfl
theorem dX12_isRight_63 : decode cX12_isRight 63 = .ok (.bipush 24, 2) := dec_of da_X12_isRight_0 (k := 36) rfl
theorem dX12_isRight_65 : decode cX12_isRight 65 = .ok (.iload 5, 2) := dec_of da_X12_isRight_0 (k := 37) rfl
theorem dX12_isRight_67 : decode cX12_isRight 67 = .ok (.iadd, 1) := dec_of da_X12_isRight_0 (k := 38) rfl
theorem dX12_isRight_68 : decode cX12_isRight 68 = .ok (.goto 8, 3) := dec_of da_X12_isRight_0 (k := 39) rfl
theorem dX12_isRight_71 : decode cX12_isRight 71 = .ok (.bipush 26, 2) := dec_of da_X12_isRight_0 (k := 40) rfl
theorem dX12_isRight_73 : decode cX12_isRight 73 = .ok (.iload 5, 2) := dec_of da_X12_isRight_0 (k := 41) rfl
theorem dX12_isRight_75 : decode cX12_isRight 75 = .ok (.iadd, 1) := dec_of da_X12_isRight_0 (k := 42) rfl
theorem dX12_isRight_76 : decode cX12_isRight 76 = .ok (.iaload, 1) := dec_of da_X12_isRight_0 (k := 43) rfl
theorem dX12_isRight_77 : decode cX12_isRight 77 = .ok (.i2l, 1) := dec_of da_X12_isRight_0 (k := 44) rfl
theorem dX12_isRight_78 : decode cX12_isRight 78 = .ok (.lor, 1) := dec_of da_X12_isRight_0 (k := 45) rfl
theorem dX12_isRight_79 : decode cX12_isRight 79 = .ok (.lstore_n 3, 1) := dec_of da_X12_isRight_0 (k := 46) rfl
theorem dX12_isRight_80 : decode cX12_isRight 80 = .ok (.iinc 5 (-1), 3) := dec_of da_X12_isRight_0 (k := 47) rfl
theorem dX12_isRight_83 : decode cX12_isRight 83 = .ok (.goto (-39), 3) := dec_of da_X12_isRight_0 (k := 48) rfl
theorem dX12_isRight_86 : decode cX12_isRight 86 = .ok (.lload_n 3, 1) := dec_of da_X12_isRight_0 (k := 49) rfl
theorem dX12_isRight_87 : decode cX12_isRight 87 = .ok (.aload_n 0, 1) := dec_of da_X12_isRight_0 (k := 50) rfl
theorem dX12_isRight_88 : decode cX12_isRight 88 = .ok (.getfield 86, 3) := dec_of da_X12_isRight_0 (k := 51) rfl
theorem dX12_isRight_91 : decode cX12_isRight 91 = .ok (.iload_n 1, 1) := dec_of da_X12_isRight_0 (k := 52) rfl
theorem dX12_isRight_92 : decode cX12_isRight 92 = .ok (.laload, 1) := dec_of da_X12_isRight_0 (k := 53) rfl
theorem dX12_isRight_93 : decode cX12_isRight 93 = .ok (.lcmp, 1) := dec_of da_X12_isRight_0 (k := 54) rfl
theorem dX12_isRight_94 : decode cX12_isRight 94 = .ok (.ifCond .gt 5, 3) := dec_of da_X12_isRight_0 (k := 55) rfl
theorem dX12_isRight_97 : decode cX12_isRight 97 = .ok (.iconst 0, 1) := dec_of da_X12_isRight_0 (k := 56) rfl
theorem dX12_isRight_98 : decode cX12_isRight 98 = .ok (.ireturn, 1) := dec_of da_X12_isRight_0 (k := 57) rfl
theorem dX12_isRight_99 : decode cX12_isRight 99 = .ok (.aload_n 0, 1) := dec_of da_X12_isRight_0 (k := 58) rfl
theorem dX12_isRight_100 : decode cX12_isRight 100 = .ok (.aload_n 0, 1) := dec_of da_X12_isRight_0 (k := 59) rfl
def dl_X12_isRight_1 : List (Nat × (Instr × Nat)) := [(101, (.getfield 71, 3)), (104, (.bipush 16, 2)), (106, (.iload_n 1, 1)), (107, (.imul, 1)), (108, (.invokevirtual 437, 3)), (111, (.aload_n 0, 1)), (112, (.aload_n 0, 1)), (113, (.getfield 254, 3)), (116, (.iconst 0, 1)), (117, (.lload_n 3, 1)), (118, (.invokevirtual 441, 3)), (121, (.aload_n 0, 1)), (122, (.aload_n 0, 1)), (123, (.getfield 254, 3)), (126, (.bipush 32, 2)), (128, (.aload_n 0, 1)), (129, (.getfield 269, 3)), (132, (.iconst 0, 1)), (133, (.iload_n 2, 1)), (134, (.invokevirtual 448, 3)), (137, (.aload_n 0, 1)), (138, (.aload_n 0, 1)), (139, (.getfield 254, 3)), (142, (.iconst 0, 1)), (143, (.aload_n 0, 1)), (144, (.getfield 269, 3)), (147, (.iconst 0, 1)), (148, (.iload_n 2, 1)), (149, (.invokevirtual 445, 3)), (152, (.iconst 1, 1)), (153, (.istore 5, 2)), (155, (.iconst 0, 1)), (156, (.istore 6, 2)), (158, (.iload 6, 2)), (160, (.bipush 8, 2)), (162, (.if_icmp .ge 43, 3)), (165, (.iload 5, 2)), (167, (.ifCond .eq 29, 3)), (170, (.aload_n 0, 1)), (171, (.getfield 49, 3)), (174, (.iload 6, 2)), (176, (.iaload, 1)), (177, (.aload_n 0, 1)), (178, (.getfield 254, 3)), (181, (.bipush 32, 2)), (183, (.iload_n 2, 1)), (184, (.iadd, 1)), (185, (.iload 6, 2)), (187, (.iadd, 1)), (188, (.iaload, 1)), (189, (.if_icmp .ne 7, 3)), (192, (.iconst 1, 1)), (193, (.goto 4, 3)), (196, (.iconst 0, 1)), (197, (.istore 5, 2)), (199, (.iinc 6 1, 3)), (202, (.goto (-44), 3)), (205, (.aload_n 0, 1)), (206, (.getfield 86, 3)), (209, (.iload_n 1, 1))]
set_option maxRecDepth 100000 in
theorem da_X12_isRight_1 : dl_X12_isRight_1.all (fun q => decide (decode cX12_isRight q.1 = .ok q.2)) = true := by decide +kernel
theorem dX12_isRight_101 : decode cX12_isRight 101 = .ok (.getfield 71, 3) := dec_of da_X12_isRight_1 (k := 0) rfl
theorem dX12_isRight_104 : decode cX12_isRight 104 = .ok (.bipush 16, 2) := dec_of da_X12_isRight_1 (k := 1) rfl
theorem dX12_isRight_106 : decode cX12_isRight 106 = .ok (.iload_n 1, 1) := dec_of da_X12_isRight_1 (k := 2) rfl
theorem dX12_isRight_107 : decode cX12_isRight 107 = .ok (.imul, 1) := dec_of da_X12_isRight_1 (k := 3) rfl
theorem dX12_isRight_108 : decode cX12_isRight 108 = .ok (.invokevirtual 437, 3) := dec_of da_X12_isRight_1 (k := 4) rfl
theorem dX12_isRight_111 : decode cX12_isRight 111 = .ok (.aload_n 0, 1) := dec_of da_X12_isRight_1 (k := 5) rfl
theorem dX12_isRight_112 : decode cX12_isRight 112 = .ok (.aload_n 0, 1) := dec_of da_X12_isRight_1 (k := 6) rfl
theorem dX12_isRight_113 : decode cX12_isRight 113 = .ok (.getfield 254, 3) := dec_of da_X12_isRight_1 (k := 7) rfl
theorem dX12_isRight_116 : decode cX12_isRight 116 = .ok (.iconst 0, 1) := dec_of da_X12_isRight_1 (k := 8) rfl
theorem dX12_isRight_117 : decode cX12_isRight 117 = .ok (.lload_n 3, 1) := dec_of da_X12_isRight_1 (k := 9) rfl
theorem dX12_isRight_118 : decode cX12_isRight 118 = .ok (.invokevirtual 441, 3) := dec_of da_X12_isRight_1 (k := 10) rfl
theorem dX12_isRight_121 : decode cX12_isRight 121 = .ok (.aload_n 0, 1) := dec_of da_X12_isRight_1 (k := 11) rfl
theorem dX12_isRight_122 : decode cX12_isRight 122 = .ok (.aload_n 0, 1) := dec_of da_X12_isRight_1 (k := 12) rfl
theorem dX12_isRight_123 : decode cX12_isRight 123 = .ok (.getfield 254, 3) := dec_of da_X12_isRight_1 (k := 13) rfl
theorem dX12_isRight_126 : decode cX12_isRight 126 = .ok (.bipush 32, 2) := dec_of da_X12_isRight_1 (k := 14) rfl
theorem dX12_isRight_128 : decode cX12_isRight 128 = .ok (.aload_n 0, 1) := dec_of da_X12_isRight_1 (k := 15) rfl
theorem dX12_isRight_129 : decode cX12_isRight 129 = .ok (.getfield 269, 3) := dec_of da_X12_isRight_1 (k := 16) rfl
theorem dX12_isRight_132 : decode cX12_isRight 132 = .ok (.iconst 0, 1) := dec_of da_X12_isRight_1 (k := 17) rfl
theorem dX12_isRight_133 : decode cX12_isRight 133 = .ok (.iload_n 2, 1) := dec_of da_X12_isRight_1 (k := 18) rfl
theorem dX12_isRight_134 : decode cX12_isRight 134 = .ok (.invokevirtual 448, 3) := dec_of da_X12_isRight_1 (k := 19) rfl
theorem dX12_isRight_137 : decode cX12_isRight 137 = .ok (.aload_n 0, 1) := dec_of da_X12_isRight_1 (k := 20) rfl
theorem dX12_isRight_138 : decode cX12_isRight 138 = .ok (.aload_n 0, 1) := dec_of da_X12_isRight_1 (k := 21) rfl
theorem dX12_isRight_139 : decode cX12_isRight 139 = .ok (.getfield 254, 3) := dec_of da_X12_isRight_1 (k := 22) rfl
theorem dX12_isRight_142 : decode cX12_isRight 142 = .ok (.iconst 0, 1) := dec_of da_X12_isRight_1 (k := 23) rfl
theorem dX12_isRight_143 : decode cX12_isRight 143 = .ok (.aload_n 0, 1) := dec_of da_X12_isRight_1 (k := 24) rfl
theorem dX12_isRight_144 : decode cX12_isRight 144 = .ok (.getfield 269, 3) := dec_of da_X12_isRight_1 (k := 25) rfl
theorem dX12_isRight_147 : decode cX12_isRight 147 = .ok (.iconst 0, 1) := dec_of da_X12_isRight_1 (k := 26) rfl
theorem dX12_isRight_148 : decode cX12_isRight 148 = .ok (.iload_n 2, 1) := dec_of da_X12_isRight_1 (k := 27) rfl
theorem dX12_isRight_149 : decode cX12_isRight 149 = .ok (.invokevirtual 445, 3) := dec_of da_X12_isRight_1 (k := 28) rfl
theorem dX12_isRight_152 : decode cX12_isRight 152 = .ok (.iconst 1, 1) := dec_of da_X12_isRight_1 (k := 29) rfl
theorem dX12_isRight_153 : decode cX12_isRight 153 = .ok (.istore 5, 2) := dec_of da_X12_isRight_1 (k := 30) rfl
theorem dX12_isRight_155 : decode cX12_isRight 155 = .ok (.iconst 0, 1) := dec_of da_X12_isRight_1 (k := 31) rfl
theorem dX12_isRight_156 : decode cX12_isRight 156 = .ok (.istore 6, 2) := dec_of da_X12_isRight_1 (k := 32) rfl
theorem dX12_isRight_158 : decode cX12_isRight 158 = .ok (.iload 6, 2) := dec_of da_X12_isRight_1 (k := 33) rfl
theorem dX12_isRight_160 : decode cX12_isRight 160 = .ok (.bipush 8, 2) := dec_of da_X12_isRight_1 (k := 34) rfl
theorem dX12_isRight_162 : decode cX12_isRight 162 = .ok (.if_icmp .ge 43, 3) := dec_of da_X12_isRight_1 (k := 35) rfl
theorem dX12_isRight_165 : decode cX12_isRight 165 = .ok (.iload 5, 2) := dec_of da_X12_isRight_1 (k := 36) rfl
theorem dX12_isRight_167 : decode cX12_isRight 167 = .ok (.ifCond .eq 29, 3) := dec_of da_X12_isRight_1 (k := 37) rfl
theorem dX12_isRight_170 : decode cX12_isRight 170 = .ok (.aload_n 0, 1) := dec_of da_X12_isRight_1 (k := 38) rfl
theorem dX12_isRight_171 : decode cX12_isRight 171 = .ok (.getfield 49, 3) := dec_of da_X12_isRight_1 (k := 39) rfl
theorem dX12_isRight_174 : decode cX12_isRight 174 = .ok (.iload 6, 2) := dec_of da_X12_isRight_1 (k := 40) rfl
theorem dX12_isRight_176 : decode cX12_isRight 176 = .ok (.iaload, 1) := dec_of da_X12_isRight_1 (k := 41) rfl
theorem dX12_isRight_177 : decode cX12_isRight 177 = .ok (.aload_n 0, 1) := dec_of da_X12_isRight_1 (k := 42) rfl
theorem dX12_isRight_178 : decode cX12_isRight 178 = .ok (.getfield 254, 3) := dec_of da_X12_isRight_1 (k := 43) rfl
theorem dX12_isRight_181 : decode cX12_isRight 181 = .ok (.bipush 32, 2) := dec_of da_X12_isRight_1 (k := 44) rfl
theorem dX12_isRight_183 : decode cX12_isRight 183 = .ok (.iload_n 2, 1) := dec_of da_X12_isRight_1 (k := 45) rfl
theorem dX12_isRight_184 : decode cX12_isRight 184 = .ok (.iadd, 1) := dec_of da_X12_isRight_1 (k := 46) rfl
theorem dX12_isRight_185 : decode cX12_isRight 185 = .ok (.iload 6, 2) := dec_of da_X12_isRight_1 (k := 47) rfl
theorem dX12_isRight_187 : decode cX12_isRight 187 = .ok (.iadd, 1) := dec_of da_X12_isRight_1 (k := 48) rfl
theorem dX12_isRight_188 : decode cX12_isRight 188 = .ok (.iaload, 1) := dec_of da_X12_isRight_1 (k := 49) rfl
theorem dX12_isRight_189 : decode cX12_isRight 189 = .ok (.if_icmp .ne 7, 3) := dec_of da_X12_isRight_1 (k := 50) rfl
theorem dX12_isRight_192 : decode cX12_isRight 192 = .ok (.iconst 1, 1) := dec_of da_X12_isRight_1 (k := 51) rfl
theorem dX12_isRight_193 : decode cX12_isRight 193 = .ok (.goto 4, 3) := dec_of da_X12_isRight_1 (k := 52) rfl
theorem dX12_isRight_196 : decode cX12_isRight 196 = .ok (.iconst 0, 1) := dec_of da_X12_isRight_1 (k := 53) rfl
theorem dX12_isRight_197 : decode cX12_isRight 197 = .ok (.istore 5, 2) := dec_of da_X12_isRight_1 (k := 54) rfl
theorem dX12_isRight_199 : decode cX12_isRight 199 = .ok (.iinc 6 1, 3) := dec_of da_X12_isRight_1 (k := 55) rfl
theorem dX12_isRight_202 : decode cX12_isRight 202 = .ok (.goto (-44), 3) := dec_of da_X12_isRight_1 (k := 56) rfl
theorem dX12_isRight_205 : decode cX12_isRight 205 = .ok (.aload_n 0, 1) := dec_of da_X12_isRight_1 (k := 57) rfl
theorem dX12_isRight_206 : decode cX12_isRight 206 = .ok (.getfield 86, 3) := dec_of da_X12_isRight_1 (k := 58) rfl
theorem dX12_isRight_209 : decode cX12_isRight 209 = .ok (.iload_n 1, 1) := dec_of da_X12_isRight_1 (k := 59) rfl
def dl_X12_isRight_2 : List (Nat × (Instr × Nat)) := [(210, (.iload 5, 2)), (212, (.ifCond .eq 7, 3)), (215, (.lload_n 3, 1)), (216, (.goto 9, 3)), (219, (.aload_n 0, 1)), (220, (.getfield 86, 3)), (223, (.iload_n 1, 1)), (224, (.laload, 1)), (225, (.lastore, 1)), (226, (.iload 5, 2)), (228, (.ireturn, 1))]
set_option maxRecDepth 100000 in
theorem da_X12_isRight_2 : dl_X12_isRight_2.all (fun q => decide (decode cX12_isRight q.1 = .ok q.2)) = true := by decide +kernel
theorem dX12_isRight_210 : decode cX12_isRight 210 = .ok (.iload 5, 2) := dec_of da_X12_isRight_2 (k := 0) rfl
theorem dX12_isRight_212 : decode cX12_isRight 212 = .ok (.ifCond .eq 7, 3) := dec_of da_X12_isRight_2 (k := 1) rfl
theorem dX12_isRight_215 : decode cX12_isRight 215 = .ok (.lload_n 3, 1) := dec_of da_X12_isRight_2 (k := 2) rfl
theorem dX12_isRight_216 : decode cX12_isRight 216 = .ok (.goto 9, 3) := dec_of da_X12_isRight_2 (k := 3) rfl
theorem dX12_isRight_219 : decode cX12_isRight 219 = .ok (.aload_n 0, 1) := dec_of da_X12_isRight_2 (k := 4) rfl
theorem dX12_isRight_220 : decode cX12_isRight 220 = .ok (.getfield 86, 3) := dec_of da_X12_isRight_2 (k := 5) rfl
theorem dX12_isRight_223 : decode cX12_isRight 223 = .ok (.iload_n 1, 1) := dec_of da_X12_isRight_2 (k := 6) rfl
theorem dX12_isRight_224 : decode cX12_isRight 224 = .ok (.laload, 1) := dec_of da_X12_isRight_2 (k := 7) rfl
theorem dX12_isRight_225 : decode cX12_isRight 225 = .ok (.lastore, 1) := dec_of da_X12_isRight_2 (k := 8) rfl
theorem dX12_isRight_226 : decode cX12_isRight 226 = .ok (.iload 5, 2) := dec_of da_X12_isRight_2 (k := 9) rfl
theorem dX12_isRight_228 : decode cX12_isRight 228 = .ok (.ireturn, 1) := dec_of da_X12_isRight_2 (k := 10) rfl
def dl_X12_opens_0 : List (Nat × (Instr × Nat)) := [(0, (.iload_n 1, 1)), (1, (.bipush 9, 2)), (3, (.if_icmp .ge 7, 3)), (6, (.iload_n 2, 1)), (7, (.goto 4, 3)), (10, (.iconst 0, 1)), (11, (.istore_n 3, 1)), (12, (.aload_n 0, 1)), (13, (.iload_n 1, 1)), (14, (.invokevirtual 587, 3)), (17, (.ifCond .ne 14, 3)), (20, (.aload_n 0, 1)), (21, (.getfield 266, 3)), (24, (.iload_n 3, 1)), (25, (.dup2, 1)), (26, (.iaload, 1)), (27, (.iconst 1, 1)), (28, (.iadd, 1)), (29, (.iastore, 1)), (30, (.return_, 1)), (31, (.aload_n 0, 1)), (32, (.getfield 482, 3)), (35, (.bipush 44, 2)), (37, (.isub, 1)), (38, (.istore 4, 2)), (40, (.aload_n 0, 1)), (41, (.getfield 254, 3)), (44, (.bipush 22, 2)), (46, (.iaload, 1)), (47, (.aload_n 0, 1)), (48, (.getfield 254, 3)), (51, (.bipush 23, 2)), (53, (.iaload, 1)), (54, (.bipush 8, 2)), (56, (.ishl, 1)), (57, (.ior, 1)), (58, (.istore 5, 2)), (60, (.iload 5, 2)), (62, (.bipush 15, 2)), (64, (.iand, 1)), (65, (.istore 6, 2)), (67, (.iload 6, 2)), (69, (.ifCond .ne 34, 3)), (72, (.aload_n 0, 1)), (73, (.getfield 93, 3)), (76, (.iload_n 1, 1)), (77, (.iconst 1, 1)), (78, (.bastore, 1)), (79, (.aload_n 0, 1)), (80, (.getfield 96, 3)), (83, (.iload_n 1, 1)), (84, (.iload 5, 2)), (86, (.iconst 4, 1)), (87, (.ishr, 1)), (88, (.iastore, 1)), (89, (.aload_n 0, 1)), (90, (.getfield 99, 3)), (93, (.iload_n 1, 1)), (94, (.iconst 0, 1)), (95, (.iastore, 1))]
set_option maxRecDepth 100000 in
theorem da_X12_opens_0 : dl_X12_opens_0.all (fun q => decide (decode cX12_opens q.1 = .ok q.2)) = true := by decide +kernel
theorem dX12_opens_0 : decode cX12_opens 0 = .ok (.iload_n 1, 1) := dec_of da_X12_opens_0 (k := 0) rfl
theorem dX12_opens_1 : decode cX12_opens 1 = .ok (.bipush 9, 2) := dec_of da_X12_opens_0 (k := 1) rfl
theorem dX12_opens_3 : decode cX12_opens 3 = .ok (.if_icmp .ge 7, 3) := dec_of da_X12_opens_0 (k := 2) rfl
theorem dX12_opens_6 : decode cX12_opens 6 = .ok (.iload_n 2, 1) := dec_of da_X12_opens_0 (k := 3) rfl
theorem dX12_opens_7 : decode cX12_opens 7 = .ok (.goto 4, 3) := dec_of da_X12_opens_0 (k := 4) rfl
theorem dX12_opens_10 : decode cX12_opens 10 = .ok (.iconst 0, 1) := dec_of da_X12_opens_0 (k := 5) rfl
theorem dX12_opens_11 : decode cX12_opens 11 = .ok (.istore_n 3, 1) := dec_of da_X12_opens_0 (k := 6) rfl
theorem dX12_opens_12 : decode cX12_opens 12 = .ok (.aload_n 0, 1) := dec_of da_X12_opens_0 (k := 7) rfl
theorem dX12_opens_13 : decode cX12_opens 13 = .ok (.iload_n 1, 1) := dec_of da_X12_opens_0 (k := 8) rfl
theorem dX12_opens_14 : decode cX12_opens 14 = .ok (.invokevirtual 587, 3) := dec_of da_X12_opens_0 (k := 9) rfl
theorem dX12_opens_17 : decode cX12_opens 17 = .ok (.ifCond .ne 14, 3) := dec_of da_X12_opens_0 (k := 10) rfl
theorem dX12_opens_20 : decode cX12_opens 20 = .ok (.aload_n 0, 1) := dec_of da_X12_opens_0 (k := 11) rfl
theorem dX12_opens_21 : decode cX12_opens 21 = .ok (.getfield 266, 3) := dec_of da_X12_opens_0 (k := 12) rfl
theorem dX12_opens_24 : decode cX12_opens 24 = .ok (.iload_n 3, 1) := dec_of da_X12_opens_0 (k := 13) rfl
theorem dX12_opens_25 : decode cX12_opens 25 = .ok (.dup2, 1) := dec_of da_X12_opens_0 (k := 14) rfl
theorem dX12_opens_26 : decode cX12_opens 26 = .ok (.iaload, 1) := dec_of da_X12_opens_0 (k := 15) rfl
theorem dX12_opens_27 : decode cX12_opens 27 = .ok (.iconst 1, 1) := dec_of da_X12_opens_0 (k := 16) rfl
theorem dX12_opens_28 : decode cX12_opens 28 = .ok (.iadd, 1) := dec_of da_X12_opens_0 (k := 17) rfl
theorem dX12_opens_29 : decode cX12_opens 29 = .ok (.iastore, 1) := dec_of da_X12_opens_0 (k := 18) rfl
theorem dX12_opens_30 : decode cX12_opens 30 = .ok (.return_, 1) := dec_of da_X12_opens_0 (k := 19) rfl
theorem dX12_opens_31 : decode cX12_opens 31 = .ok (.aload_n 0, 1) := dec_of da_X12_opens_0 (k := 20) rfl
theorem dX12_opens_32 : decode cX12_opens 32 = .ok (.getfield 482, 3) := dec_of da_X12_opens_0 (k := 21) rfl
theorem dX12_opens_35 : decode cX12_opens 35 = .ok (.bipush 44, 2) := dec_of da_X12_opens_0 (k := 22) rfl
theorem dX12_opens_37 : decode cX12_opens 37 = .ok (.isub, 1) := dec_of da_X12_opens_0 (k := 23) rfl
theorem dX12_opens_38 : decode cX12_opens 38 = .ok (.istore 4, 2) := dec_of da_X12_opens_0 (k := 24) rfl
theorem dX12_opens_40 : decode cX12_opens 40 = .ok (.aload_n 0, 1) := dec_of da_X12_opens_0 (k := 25) rfl
theorem dX12_opens_41 : decode cX12_opens 41 = .ok (.getfield 254, 3) := dec_of da_X12_opens_0 (k := 26) rfl
theorem dX12_opens_44 : decode cX12_opens 44 = .ok (.bipush 22, 2) := dec_of da_X12_opens_0 (k := 27) rfl
theorem dX12_opens_46 : decode cX12_opens 46 = .ok (.iaload, 1) := dec_of da_X12_opens_0 (k := 28) rfl
theorem dX12_opens_47 : decode cX12_opens 47 = .ok (.aload_n 0, 1) := dec_of da_X12_opens_0 (k := 29) rfl
theorem dX12_opens_48 : decode cX12_opens 48 = .ok (.getfield 254, 3) := dec_of da_X12_opens_0 (k := 30) rfl
theorem dX12_opens_51 : decode cX12_opens 51 = .ok (.bipush 23, 2) := dec_of da_X12_opens_0 (k := 31) rfl
theorem dX12_opens_53 : decode cX12_opens 53 = .ok (.iaload, 1) := dec_of da_X12_opens_0 (k := 32) rfl
theorem dX12_opens_54 : decode cX12_opens 54 = .ok (.bipush 8, 2) := dec_of da_X12_opens_0 (k := 33) rfl
theorem dX12_opens_56 : decode cX12_opens 56 = .ok (.ishl, 1) := dec_of da_X12_opens_0 (k := 34) rfl
theorem dX12_opens_57 : decode cX12_opens 57 = .ok (.ior, 1) := dec_of da_X12_opens_0 (k := 35) rfl
theorem dX12_opens_58 : decode cX12_opens 58 = .ok (.istore 5, 2) := dec_of da_X12_opens_0 (k := 36) rfl
theorem dX12_opens_60 : decode cX12_opens 60 = .ok (.iload 5, 2) := dec_of da_X12_opens_0 (k := 37) rfl
theorem dX12_opens_62 : decode cX12_opens 62 = .ok (.bipush 15, 2) := dec_of da_X12_opens_0 (k := 38) rfl
theorem dX12_opens_64 : decode cX12_opens 64 = .ok (.iand, 1) := dec_of da_X12_opens_0 (k := 39) rfl
theorem dX12_opens_65 : decode cX12_opens 65 = .ok (.istore 6, 2) := dec_of da_X12_opens_0 (k := 40) rfl
theorem dX12_opens_67 : decode cX12_opens 67 = .ok (.iload 6, 2) := dec_of da_X12_opens_0 (k := 41) rfl
theorem dX12_opens_69 : decode cX12_opens 69 = .ok (.ifCond .ne 34, 3) := dec_of da_X12_opens_0 (k := 42) rfl
theorem dX12_opens_72 : decode cX12_opens 72 = .ok (.aload_n 0, 1) := dec_of da_X12_opens_0 (k := 43) rfl
theorem dX12_opens_73 : decode cX12_opens 73 = .ok (.getfield 93, 3) := dec_of da_X12_opens_0 (k := 44) rfl
theorem dX12_opens_76 : decode cX12_opens 76 = .ok (.iload_n 1, 1) := dec_of da_X12_opens_0 (k := 45) rfl
theorem dX12_opens_77 : decode cX12_opens 77 = .ok (.iconst 1, 1) := dec_of da_X12_opens_0 (k := 46) rfl
theorem dX12_opens_78 : decode cX12_opens 78 = .ok (.bastore, 1) := dec_of da_X12_opens_0 (k := 47) rfl
theorem dX12_opens_79 : decode cX12_opens 79 = .ok (.aload_n 0, 1) := dec_of da_X12_opens_0 (k := 48) rfl
theorem dX12_opens_80 : decode cX12_opens 80 = .ok (.getfield 96, 3) := dec_of da_X12_opens_0 (k := 49) rfl
theorem dX12_opens_83 : decode cX12_opens 83 = .ok (.iload_n 1, 1) := dec_of da_X12_opens_0 (k := 50) rfl
theorem dX12_opens_84 : decode cX12_opens 84 = .ok (.iload 5, 2) := dec_of da_X12_opens_0 (k := 51) rfl
theorem dX12_opens_86 : decode cX12_opens 86 = .ok (.iconst 4, 1) := dec_of da_X12_opens_0 (k := 52) rfl
theorem dX12_opens_87 : decode cX12_opens 87 = .ok (.ishr, 1) := dec_of da_X12_opens_0 (k := 53) rfl
theorem dX12_opens_88 : decode cX12_opens 88 = .ok (.iastore, 1) := dec_of da_X12_opens_0 (k := 54) rfl
theorem dX12_opens_89 : decode cX12_opens 89 = .ok (.aload_n 0, 1) := dec_of da_X12_opens_0 (k := 55) rfl
theorem dX12_opens_90 : decode cX12_opens 90 = .ok (.getfield 99, 3) := dec_of da_X12_opens_0 (k := 56) rfl
theorem dX12_opens_93 : decode cX12_opens 93 = .ok (.iload_n 1, 1) := dec_of da_X12_opens_0 (k := 57) rfl
theorem dX12_opens_94 : decode cX12_opens 94 = .ok (.iconst 0, 1) := dec_of da_X12_opens_0 (k := 58) rfl
theorem dX12_opens_95 : decode cX12_opens 95 = .ok (.iastore, 1) := dec_of da_X12_opens_0 (k := 59) rfl
def dl_X12_opens_1 : List (Nat × (Instr × Nat)) := [(96, (.aload_n 0, 1)), (97, (.getfield 102, 3)), (100, (.iload_n 1, 1)), (101, (.iconst 0, 1)), (102, (.iastore, 1)), (103, (.aload_n 0, 1)), (104, (.getfield 93, 3)), (107, (.iload_n 1, 1)), (108, (.baload, 1)), (109, (.ifCond .eq 46, 3)), (112, (.aload_n 0, 1)), (113, (.getfield 96, 3)), (116, (.iload_n 1, 1)), (117, (.iaload, 1)), (118, (.iload 5, 2)), (120, (.iconst 4, 1)), (121, (.ishr, 1)), (122, (.if_icmp .ne 33, 3)), (125, (.aload_n 0, 1)), (126, (.getfield 99, 3)), (129, (.iload_n 1, 1)), (130, (.iaload, 1)), (131, (.iload 6, 2)), (133, (.if_icmp .ne 22, 3)), (136, (.aload_n 0, 1)), (137, (.getfield 102, 3)), (140, (.iload_n 1, 1)), (141, (.iaload, 1)), (142, (.iload 4, 2)), (144, (.iadd, 1)), (145, (.sipush 208, 3)), (148, (.if_icmp .gt 7, 3)), (151, (.iconst 1, 1)), (152, (.goto 4, 3)), (155, (.iconst 0, 1)), (156, (.istore 7, 2)), (158, (.iload 7, 2)), (160, (.ifCond .ne 21, 3)), (163, (.aload_n 0, 1)), (164, (.getfield 93, 3)), (167, (.iload_n 1, 1)), (168, (.iconst 0, 1)), (169, (.bastore, 1)), (170, (.aload_n 0, 1)), (171, (.getfield 266, 3)), (174, (.iload_n 3, 1)), (175, (.dup2, 1)), (176, (.iaload, 1)), (177, (.iconst 1, 1)), (178, (.iadd, 1)), (179, (.iastore, 1)), (180, (.return_, 1)), (181, (.iconst 0, 1)), (182, (.istore 8, 2)), (184, (.iload 8, 2)), (186, (.iload 4, 2)), (188, (.if_icmp .ge 36, 3)), (191, (.aload_n 0, 1)), (192, (.getfield 105, 3)), (195, (.sipush 208, 3))]
set_option maxRecDepth 100000 in
theorem da_X12_opens_1 : dl_X12_opens_1.all (fun q => decide (decode cX12_opens q.1 = .ok q.2)) = true := by decide +kernel
theorem dX12_opens_96 : decode cX12_opens 96 = .ok (.aload_n 0, 1) := dec_of da_X12_opens_1 (k := 0) rfl
theorem dX12_opens_97 : decode cX12_opens 97 = .ok (.getfield 102, 3) := dec_of da_X12_opens_1 (k := 1) rfl
theorem dX12_opens_100 : decode cX12_opens 100 = .ok (.iload_n 1, 1) := dec_of da_X12_opens_1 (k := 2) rfl
theorem dX12_opens_101 : decode cX12_opens 101 = .ok (.iconst 0, 1) := dec_of da_X12_opens_1 (k := 3) rfl
theorem dX12_opens_102 : decode cX12_opens 102 = .ok (.iastore, 1) := dec_of da_X12_opens_1 (k := 4) rfl
theorem dX12_opens_103 : decode cX12_opens 103 = .ok (.aload_n 0, 1) := dec_of da_X12_opens_1 (k := 5) rfl
theorem dX12_opens_104 : decode cX12_opens 104 = .ok (.getfield 93, 3) := dec_of da_X12_opens_1 (k := 6) rfl
theorem dX12_opens_107 : decode cX12_opens 107 = .ok (.iload_n 1, 1) := dec_of da_X12_opens_1 (k := 7) rfl
theorem dX12_opens_108 : decode cX12_opens 108 = .ok (.baload, 1) := dec_of da_X12_opens_1 (k := 8) rfl
theorem dX12_opens_109 : decode cX12_opens 109 = .ok (.ifCond .eq 46, 3) := dec_of da_X12_opens_1 (k := 9) rfl
theorem dX12_opens_112 : decode cX12_opens 112 = .ok (.aload_n 0, 1) := dec_of da_X12_opens_1 (k := 10) rfl
theorem dX12_opens_113 : decode cX12_opens 113 = .ok (.getfield 96, 3) := dec_of da_X12_opens_1 (k := 11) rfl
theorem dX12_opens_116 : decode cX12_opens 116 = .ok (.iload_n 1, 1) := dec_of da_X12_opens_1 (k := 12) rfl
theorem dX12_opens_117 : decode cX12_opens 117 = .ok (.iaload, 1) := dec_of da_X12_opens_1 (k := 13) rfl
theorem dX12_opens_118 : decode cX12_opens 118 = .ok (.iload 5, 2) := dec_of da_X12_opens_1 (k := 14) rfl
theorem dX12_opens_120 : decode cX12_opens 120 = .ok (.iconst 4, 1) := dec_of da_X12_opens_1 (k := 15) rfl
theorem dX12_opens_121 : decode cX12_opens 121 = .ok (.ishr, 1) := dec_of da_X12_opens_1 (k := 16) rfl
theorem dX12_opens_122 : decode cX12_opens 122 = .ok (.if_icmp .ne 33, 3) := dec_of da_X12_opens_1 (k := 17) rfl
theorem dX12_opens_125 : decode cX12_opens 125 = .ok (.aload_n 0, 1) := dec_of da_X12_opens_1 (k := 18) rfl
theorem dX12_opens_126 : decode cX12_opens 126 = .ok (.getfield 99, 3) := dec_of da_X12_opens_1 (k := 19) rfl
theorem dX12_opens_129 : decode cX12_opens 129 = .ok (.iload_n 1, 1) := dec_of da_X12_opens_1 (k := 20) rfl
theorem dX12_opens_130 : decode cX12_opens 130 = .ok (.iaload, 1) := dec_of da_X12_opens_1 (k := 21) rfl
theorem dX12_opens_131 : decode cX12_opens 131 = .ok (.iload 6, 2) := dec_of da_X12_opens_1 (k := 22) rfl
theorem dX12_opens_133 : decode cX12_opens 133 = .ok (.if_icmp .ne 22, 3) := dec_of da_X12_opens_1 (k := 23) rfl
theorem dX12_opens_136 : decode cX12_opens 136 = .ok (.aload_n 0, 1) := dec_of da_X12_opens_1 (k := 24) rfl
theorem dX12_opens_137 : decode cX12_opens 137 = .ok (.getfield 102, 3) := dec_of da_X12_opens_1 (k := 25) rfl
theorem dX12_opens_140 : decode cX12_opens 140 = .ok (.iload_n 1, 1) := dec_of da_X12_opens_1 (k := 26) rfl
theorem dX12_opens_141 : decode cX12_opens 141 = .ok (.iaload, 1) := dec_of da_X12_opens_1 (k := 27) rfl
theorem dX12_opens_142 : decode cX12_opens 142 = .ok (.iload 4, 2) := dec_of da_X12_opens_1 (k := 28) rfl
theorem dX12_opens_144 : decode cX12_opens 144 = .ok (.iadd, 1) := dec_of da_X12_opens_1 (k := 29) rfl
theorem dX12_opens_145 : decode cX12_opens 145 = .ok (.sipush 208, 3) := dec_of da_X12_opens_1 (k := 30) rfl
theorem dX12_opens_148 : decode cX12_opens 148 = .ok (.if_icmp .gt 7, 3) := dec_of da_X12_opens_1 (k := 31) rfl
theorem dX12_opens_151 : decode cX12_opens 151 = .ok (.iconst 1, 1) := dec_of da_X12_opens_1 (k := 32) rfl
theorem dX12_opens_152 : decode cX12_opens 152 = .ok (.goto 4, 3) := dec_of da_X12_opens_1 (k := 33) rfl
theorem dX12_opens_155 : decode cX12_opens 155 = .ok (.iconst 0, 1) := dec_of da_X12_opens_1 (k := 34) rfl
theorem dX12_opens_156 : decode cX12_opens 156 = .ok (.istore 7, 2) := dec_of da_X12_opens_1 (k := 35) rfl
theorem dX12_opens_158 : decode cX12_opens 158 = .ok (.iload 7, 2) := dec_of da_X12_opens_1 (k := 36) rfl
theorem dX12_opens_160 : decode cX12_opens 160 = .ok (.ifCond .ne 21, 3) := dec_of da_X12_opens_1 (k := 37) rfl
theorem dX12_opens_163 : decode cX12_opens 163 = .ok (.aload_n 0, 1) := dec_of da_X12_opens_1 (k := 38) rfl
theorem dX12_opens_164 : decode cX12_opens 164 = .ok (.getfield 93, 3) := dec_of da_X12_opens_1 (k := 39) rfl
theorem dX12_opens_167 : decode cX12_opens 167 = .ok (.iload_n 1, 1) := dec_of da_X12_opens_1 (k := 40) rfl
theorem dX12_opens_168 : decode cX12_opens 168 = .ok (.iconst 0, 1) := dec_of da_X12_opens_1 (k := 41) rfl
theorem dX12_opens_169 : decode cX12_opens 169 = .ok (.bastore, 1) := dec_of da_X12_opens_1 (k := 42) rfl
theorem dX12_opens_170 : decode cX12_opens 170 = .ok (.aload_n 0, 1) := dec_of da_X12_opens_1 (k := 43) rfl
theorem dX12_opens_171 : decode cX12_opens 171 = .ok (.getfield 266, 3) := dec_of da_X12_opens_1 (k := 44) rfl
theorem dX12_opens_174 : decode cX12_opens 174 = .ok (.iload_n 3, 1) := dec_of da_X12_opens_1 (k := 45) rfl
theorem dX12_opens_175 : decode cX12_opens 175 = .ok (.dup2, 1) := dec_of da_X12_opens_1 (k := 46) rfl
theorem dX12_opens_176 : decode cX12_opens 176 = .ok (.iaload, 1) := dec_of da_X12_opens_1 (k := 47) rfl
theorem dX12_opens_177 : decode cX12_opens 177 = .ok (.iconst 1, 1) := dec_of da_X12_opens_1 (k := 48) rfl
theorem dX12_opens_178 : decode cX12_opens 178 = .ok (.iadd, 1) := dec_of da_X12_opens_1 (k := 49) rfl
theorem dX12_opens_179 : decode cX12_opens 179 = .ok (.iastore, 1) := dec_of da_X12_opens_1 (k := 50) rfl
theorem dX12_opens_180 : decode cX12_opens 180 = .ok (.return_, 1) := dec_of da_X12_opens_1 (k := 51) rfl
theorem dX12_opens_181 : decode cX12_opens 181 = .ok (.iconst 0, 1) := dec_of da_X12_opens_1 (k := 52) rfl
theorem dX12_opens_182 : decode cX12_opens 182 = .ok (.istore 8, 2) := dec_of da_X12_opens_1 (k := 53) rfl
theorem dX12_opens_184 : decode cX12_opens 184 = .ok (.iload 8, 2) := dec_of da_X12_opens_1 (k := 54) rfl
theorem dX12_opens_186 : decode cX12_opens 186 = .ok (.iload 4, 2) := dec_of da_X12_opens_1 (k := 55) rfl
theorem dX12_opens_188 : decode cX12_opens 188 = .ok (.if_icmp .ge 36, 3) := dec_of da_X12_opens_1 (k := 56) rfl
theorem dX12_opens_191 : decode cX12_opens 191 = .ok (.aload_n 0, 1) := dec_of da_X12_opens_1 (k := 57) rfl
theorem dX12_opens_192 : decode cX12_opens 192 = .ok (.getfield 105, 3) := dec_of da_X12_opens_1 (k := 58) rfl
theorem dX12_opens_195 : decode cX12_opens 195 = .ok (.sipush 208, 3) := dec_of da_X12_opens_1 (k := 59) rfl
def dl_X12_opens_2 : List (Nat × (Instr × Nat)) := [(198, (.iload_n 1, 1)), (199, (.imul, 1)), (200, (.aload_n 0, 1)), (201, (.getfield 102, 3)), (204, (.iload_n 1, 1)), (205, (.iaload, 1)), (206, (.iadd, 1)), (207, (.iload 8, 2)), (209, (.iadd, 1)), (210, (.aload_n 0, 1)), (211, (.getfield 269, 3)), (214, (.iload 8, 2)), (216, (.iaload, 1)), (217, (.iastore, 1)), (218, (.iinc 8 1, 3)), (221, (.goto (-37), 3)), (224, (.aload_n 0, 1)), (225, (.getfield 102, 3)), (228, (.iload_n 1, 1)), (229, (.dup2, 1)), (230, (.iaload, 1)), (231, (.iload 4, 2)), (233, (.iadd, 1)), (234, (.iastore, 1)), (235, (.aload_n 0, 1)), (236, (.getfield 99, 3)), (239, (.iload_n 1, 1)), (240, (.dup2, 1)), (241, (.iaload, 1)), (242, (.iconst 1, 1)), (243, (.iadd, 1)), (244, (.iastore, 1)), (245, (.aload_n 0, 1)), (246, (.getfield 254, 3)), (249, (.iconst 1, 1)), (250, (.iaload, 1)), (251, (.iconst 4, 1)), (252, (.iand, 1)), (253, (.ifCond .ne 17, 3)), (256, (.aload_n 0, 1)), (257, (.getfield 93, 3)), (260, (.iload_n 1, 1)), (261, (.iconst 0, 1)), (262, (.bastore, 1)), (263, (.aload_n 0, 1)), (264, (.iload_n 1, 1)), (265, (.iload_n 2, 1)), (266, (.iload_n 3, 1)), (267, (.invokevirtual 590, 3)), (270, (.return_, 1))]
set_option maxRecDepth 100000 in
theorem da_X12_opens_2 : dl_X12_opens_2.all (fun q => decide (decode cX12_opens q.1 = .ok q.2)) = true := by decide +kernel
theorem dX12_opens_198 : decode cX12_opens 198 = .ok (.iload_n 1, 1) := dec_of da_X12_opens_2 (k := 0) rfl
theorem dX12_opens_199 : decode cX12_opens 199 = .ok (.imul, 1) := dec_of da_X12_opens_2 (k := 1) rfl
theorem dX12_opens_200 : decode cX12_opens 200 = .ok (.aload_n 0, 1) := dec_of da_X12_opens_2 (k := 2) rfl
theorem dX12_opens_201 : decode cX12_opens 201 = .ok (.getfield 102, 3) := dec_of da_X12_opens_2 (k := 3) rfl
theorem dX12_opens_204 : decode cX12_opens 204 = .ok (.iload_n 1, 1) := dec_of da_X12_opens_2 (k := 4) rfl
theorem dX12_opens_205 : decode cX12_opens 205 = .ok (.iaload, 1) := dec_of da_X12_opens_2 (k := 5) rfl
theorem dX12_opens_206 : decode cX12_opens 206 = .ok (.iadd, 1) := dec_of da_X12_opens_2 (k := 6) rfl
theorem dX12_opens_207 : decode cX12_opens 207 = .ok (.iload 8, 2) := dec_of da_X12_opens_2 (k := 7) rfl
theorem dX12_opens_209 : decode cX12_opens 209 = .ok (.iadd, 1) := dec_of da_X12_opens_2 (k := 8) rfl
theorem dX12_opens_210 : decode cX12_opens 210 = .ok (.aload_n 0, 1) := dec_of da_X12_opens_2 (k := 9) rfl
theorem dX12_opens_211 : decode cX12_opens 211 = .ok (.getfield 269, 3) := dec_of da_X12_opens_2 (k := 10) rfl
theorem dX12_opens_214 : decode cX12_opens 214 = .ok (.iload 8, 2) := dec_of da_X12_opens_2 (k := 11) rfl
theorem dX12_opens_216 : decode cX12_opens 216 = .ok (.iaload, 1) := dec_of da_X12_opens_2 (k := 12) rfl
theorem dX12_opens_217 : decode cX12_opens 217 = .ok (.iastore, 1) := dec_of da_X12_opens_2 (k := 13) rfl
theorem dX12_opens_218 : decode cX12_opens 218 = .ok (.iinc 8 1, 3) := dec_of da_X12_opens_2 (k := 14) rfl
theorem dX12_opens_221 : decode cX12_opens 221 = .ok (.goto (-37), 3) := dec_of da_X12_opens_2 (k := 15) rfl
theorem dX12_opens_224 : decode cX12_opens 224 = .ok (.aload_n 0, 1) := dec_of da_X12_opens_2 (k := 16) rfl
theorem dX12_opens_225 : decode cX12_opens 225 = .ok (.getfield 102, 3) := dec_of da_X12_opens_2 (k := 17) rfl
theorem dX12_opens_228 : decode cX12_opens 228 = .ok (.iload_n 1, 1) := dec_of da_X12_opens_2 (k := 18) rfl
theorem dX12_opens_229 : decode cX12_opens 229 = .ok (.dup2, 1) := dec_of da_X12_opens_2 (k := 19) rfl
theorem dX12_opens_230 : decode cX12_opens 230 = .ok (.iaload, 1) := dec_of da_X12_opens_2 (k := 20) rfl
theorem dX12_opens_231 : decode cX12_opens 231 = .ok (.iload 4, 2) := dec_of da_X12_opens_2 (k := 21) rfl
theorem dX12_opens_233 : decode cX12_opens 233 = .ok (.iadd, 1) := dec_of da_X12_opens_2 (k := 22) rfl
theorem dX12_opens_234 : decode cX12_opens 234 = .ok (.iastore, 1) := dec_of da_X12_opens_2 (k := 23) rfl
theorem dX12_opens_235 : decode cX12_opens 235 = .ok (.aload_n 0, 1) := dec_of da_X12_opens_2 (k := 24) rfl
theorem dX12_opens_236 : decode cX12_opens 236 = .ok (.getfield 99, 3) := dec_of da_X12_opens_2 (k := 25) rfl
theorem dX12_opens_239 : decode cX12_opens 239 = .ok (.iload_n 1, 1) := dec_of da_X12_opens_2 (k := 26) rfl
theorem dX12_opens_240 : decode cX12_opens 240 = .ok (.dup2, 1) := dec_of da_X12_opens_2 (k := 27) rfl
theorem dX12_opens_241 : decode cX12_opens 241 = .ok (.iaload, 1) := dec_of da_X12_opens_2 (k := 28) rfl
theorem dX12_opens_242 : decode cX12_opens 242 = .ok (.iconst 1, 1) := dec_of da_X12_opens_2 (k := 29) rfl
theorem dX12_opens_243 : decode cX12_opens 243 = .ok (.iadd, 1) := dec_of da_X12_opens_2 (k := 30) rfl
theorem dX12_opens_244 : decode cX12_opens 244 = .ok (.iastore, 1) := dec_of da_X12_opens_2 (k := 31) rfl
theorem dX12_opens_245 : decode cX12_opens 245 = .ok (.aload_n 0, 1) := dec_of da_X12_opens_2 (k := 32) rfl
theorem dX12_opens_246 : decode cX12_opens 246 = .ok (.getfield 254, 3) := dec_of da_X12_opens_2 (k := 33) rfl
theorem dX12_opens_249 : decode cX12_opens 249 = .ok (.iconst 1, 1) := dec_of da_X12_opens_2 (k := 34) rfl
theorem dX12_opens_250 : decode cX12_opens 250 = .ok (.iaload, 1) := dec_of da_X12_opens_2 (k := 35) rfl
theorem dX12_opens_251 : decode cX12_opens 251 = .ok (.iconst 4, 1) := dec_of da_X12_opens_2 (k := 36) rfl
theorem dX12_opens_252 : decode cX12_opens 252 = .ok (.iand, 1) := dec_of da_X12_opens_2 (k := 37) rfl
theorem dX12_opens_253 : decode cX12_opens 253 = .ok (.ifCond .ne 17, 3) := dec_of da_X12_opens_2 (k := 38) rfl
theorem dX12_opens_256 : decode cX12_opens 256 = .ok (.aload_n 0, 1) := dec_of da_X12_opens_2 (k := 39) rfl
theorem dX12_opens_257 : decode cX12_opens 257 = .ok (.getfield 93, 3) := dec_of da_X12_opens_2 (k := 40) rfl
theorem dX12_opens_260 : decode cX12_opens 260 = .ok (.iload_n 1, 1) := dec_of da_X12_opens_2 (k := 41) rfl
theorem dX12_opens_261 : decode cX12_opens 261 = .ok (.iconst 0, 1) := dec_of da_X12_opens_2 (k := 42) rfl
theorem dX12_opens_262 : decode cX12_opens 262 = .ok (.bastore, 1) := dec_of da_X12_opens_2 (k := 43) rfl
theorem dX12_opens_263 : decode cX12_opens 263 = .ok (.aload_n 0, 1) := dec_of da_X12_opens_2 (k := 44) rfl
theorem dX12_opens_264 : decode cX12_opens 264 = .ok (.iload_n 1, 1) := dec_of da_X12_opens_2 (k := 45) rfl
theorem dX12_opens_265 : decode cX12_opens 265 = .ok (.iload_n 2, 1) := dec_of da_X12_opens_2 (k := 46) rfl
theorem dX12_opens_266 : decode cX12_opens 266 = .ok (.iload_n 3, 1) := dec_of da_X12_opens_2 (k := 47) rfl
theorem dX12_opens_267 : decode cX12_opens 267 = .ok (.invokevirtual 590, 3) := dec_of da_X12_opens_2 (k := 48) rfl
theorem dX12_opens_270 : decode cX12_opens 270 = .ok (.return_, 1) := dec_of da_X12_opens_2 (k := 49) rfl
def dl_X12_whole_0 : List (Nat × (Instr × Nat)) := [(0, (.sipush 208, 3)), (3, (.iload_n 1, 1)), (4, (.imul, 1)), (5, (.istore 4, 2)), (7, (.aload_n 0, 1)), (8, (.getfield 102, 3)), (11, (.iload_n 1, 1)), (12, (.iaload, 1)), (13, (.istore 5, 2)), (15, (.iload 5, 2)), (17, (.bipush 8, 2)), (19, (.if_icmp .lt 112, 3)), (22, (.aload_n 0, 1)), (23, (.getfield 105, 3)), (26, (.iload 4, 2)), (28, (.iaload, 1)), (29, (.sipush 170, 3)), (32, (.if_icmp .ne 99, 3)), (35, (.aload_n 0, 1)), (36, (.getfield 105, 3)), (39, (.iload 4, 2)), (41, (.iconst 1, 1)), (42, (.iadd, 1)), (43, (.iaload, 1)), (44, (.sipush 170, 3)), (47, (.if_icmp .ne 84, 3)), (50, (.aload_n 0, 1)), (51, (.getfield 105, 3)), (54, (.iload 4, 2)), (56, (.iconst 2, 1)), (57, (.iadd, 1)), (58, (.iaload, 1)), (59, (.iconst 3, 1)), (60, (.if_icmp .ne 71, 3)), (63, (.aload_n 0, 1)), (64, (.getfield 105, 3)), (67, (.iload 4, 2)), (69, (.iconst 3, 1)), (70, (.iadd, 1)), (71, (.iaload, 1)), (72, (.ifCond .ne 59, 3)), (75, (.aload_n 0, 1)), (76, (.getfield 105, 3)), (79, (.iload 4, 2)), (81, (.iconst 4, 1)), (82, (.iadd, 1)), (83, (.iaload, 1)), (84, (.ifCond .ne 47, 3)), (87, (.aload_n 0, 1)), (88, (.getfield 105, 3)), (91, (.iload 4, 2)), (93, (.iconst 5, 1)), (94, (.iadd, 1)), (95, (.iaload, 1)), (96, (.ifCond .ne 35, 3)), (99, (.aload_n 0, 1)), (100, (.getfield 105, 3)), (103, (.iload 4, 2)), (105, (.bipush 6, 2)), (107, (.iadd, 1))]
set_option maxRecDepth 100000 in
theorem da_X12_whole_0 : dl_X12_whole_0.all (fun q => decide (decode cX12_whole q.1 = .ok q.2)) = true := by decide +kernel
theorem dX12_whole_0 : decode cX12_whole 0 = .ok (.sipush 208, 3) := dec_of da_X12_whole_0 (k := 0) rfl
theorem dX12_whole_3 : decode cX12_whole 3 = .ok (.iload_n 1, 1) := dec_of da_X12_whole_0 (k := 1) rfl
theorem dX12_whole_4 : decode cX12_whole 4 = .ok (.imul, 1) := dec_of da_X12_whole_0 (k := 2) rfl
theorem dX12_whole_5 : decode cX12_whole 5 = .ok (.istore 4, 2) := dec_of da_X12_whole_0 (k := 3) rfl
theorem dX12_whole_7 : decode cX12_whole 7 = .ok (.aload_n 0, 1) := dec_of da_X12_whole_0 (k := 4) rfl
theorem dX12_whole_8 : decode cX12_whole 8 = .ok (.getfield 102, 3) := dec_of da_X12_whole_0 (k := 5) rfl
theorem dX12_whole_11 : decode cX12_whole 11 = .ok (.iload_n 1, 1) := dec_of da_X12_whole_0 (k := 6) rfl
theorem dX12_whole_12 : decode cX12_whole 12 = .ok (.iaload, 1) := dec_of da_X12_whole_0 (k := 7) rfl
theorem dX12_whole_13 : decode cX12_whole 13 = .ok (.istore 5, 2) := dec_of da_X12_whole_0 (k := 8) rfl
theorem dX12_whole_15 : decode cX12_whole 15 = .ok (.iload 5, 2) := dec_of da_X12_whole_0 (k := 9) rfl
theorem dX12_whole_17 : decode cX12_whole 17 = .ok (.bipush 8, 2) := dec_of da_X12_whole_0 (k := 10) rfl
theorem dX12_whole_19 : decode cX12_whole 19 = .ok (.if_icmp .lt 112, 3) := dec_of da_X12_whole_0 (k := 11) rfl
theorem dX12_whole_22 : decode cX12_whole 22 = .ok (.aload_n 0, 1) := dec_of da_X12_whole_0 (k := 12) rfl
theorem dX12_whole_23 : decode cX12_whole 23 = .ok (.getfield 105, 3) := dec_of da_X12_whole_0 (k := 13) rfl
theorem dX12_whole_26 : decode cX12_whole 26 = .ok (.iload 4, 2) := dec_of da_X12_whole_0 (k := 14) rfl
theorem dX12_whole_28 : decode cX12_whole 28 = .ok (.iaload, 1) := dec_of da_X12_whole_0 (k := 15) rfl
theorem dX12_whole_29 : decode cX12_whole 29 = .ok (.sipush 170, 3) := dec_of da_X12_whole_0 (k := 16) rfl
theorem dX12_whole_32 : decode cX12_whole 32 = .ok (.if_icmp .ne 99, 3) := dec_of da_X12_whole_0 (k := 17) rfl
theorem dX12_whole_35 : decode cX12_whole 35 = .ok (.aload_n 0, 1) := dec_of da_X12_whole_0 (k := 18) rfl
theorem dX12_whole_36 : decode cX12_whole 36 = .ok (.getfield 105, 3) := dec_of da_X12_whole_0 (k := 19) rfl
theorem dX12_whole_39 : decode cX12_whole 39 = .ok (.iload 4, 2) := dec_of da_X12_whole_0 (k := 20) rfl
theorem dX12_whole_41 : decode cX12_whole 41 = .ok (.iconst 1, 1) := dec_of da_X12_whole_0 (k := 21) rfl
theorem dX12_whole_42 : decode cX12_whole 42 = .ok (.iadd, 1) := dec_of da_X12_whole_0 (k := 22) rfl
theorem dX12_whole_43 : decode cX12_whole 43 = .ok (.iaload, 1) := dec_of da_X12_whole_0 (k := 23) rfl
theorem dX12_whole_44 : decode cX12_whole 44 = .ok (.sipush 170, 3) := dec_of da_X12_whole_0 (k := 24) rfl
theorem dX12_whole_47 : decode cX12_whole 47 = .ok (.if_icmp .ne 84, 3) := dec_of da_X12_whole_0 (k := 25) rfl
theorem dX12_whole_50 : decode cX12_whole 50 = .ok (.aload_n 0, 1) := dec_of da_X12_whole_0 (k := 26) rfl
theorem dX12_whole_51 : decode cX12_whole 51 = .ok (.getfield 105, 3) := dec_of da_X12_whole_0 (k := 27) rfl
theorem dX12_whole_54 : decode cX12_whole 54 = .ok (.iload 4, 2) := dec_of da_X12_whole_0 (k := 28) rfl
theorem dX12_whole_56 : decode cX12_whole 56 = .ok (.iconst 2, 1) := dec_of da_X12_whole_0 (k := 29) rfl
theorem dX12_whole_57 : decode cX12_whole 57 = .ok (.iadd, 1) := dec_of da_X12_whole_0 (k := 30) rfl
theorem dX12_whole_58 : decode cX12_whole 58 = .ok (.iaload, 1) := dec_of da_X12_whole_0 (k := 31) rfl
theorem dX12_whole_59 : decode cX12_whole 59 = .ok (.iconst 3, 1) := dec_of da_X12_whole_0 (k := 32) rfl
theorem dX12_whole_60 : decode cX12_whole 60 = .ok (.if_icmp .ne 71, 3) := dec_of da_X12_whole_0 (k := 33) rfl
theorem dX12_whole_63 : decode cX12_whole 63 = .ok (.aload_n 0, 1) := dec_of da_X12_whole_0 (k := 34) rfl
theorem dX12_whole_64 : decode cX12_whole 64 = .ok (.getfield 105, 3) := dec_of da_X12_whole_0 (k := 35) rfl
theorem dX12_whole_67 : decode cX12_whole 67 = .ok (.iload 4, 2) := dec_of da_X12_whole_0 (k := 36) rfl
theorem dX12_whole_69 : decode cX12_whole 69 = .ok (.iconst 3, 1) := dec_of da_X12_whole_0 (k := 37) rfl
theorem dX12_whole_70 : decode cX12_whole 70 = .ok (.iadd, 1) := dec_of da_X12_whole_0 (k := 38) rfl
theorem dX12_whole_71 : decode cX12_whole 71 = .ok (.iaload, 1) := dec_of da_X12_whole_0 (k := 39) rfl
theorem dX12_whole_72 : decode cX12_whole 72 = .ok (.ifCond .ne 59, 3) := dec_of da_X12_whole_0 (k := 40) rfl
theorem dX12_whole_75 : decode cX12_whole 75 = .ok (.aload_n 0, 1) := dec_of da_X12_whole_0 (k := 41) rfl
theorem dX12_whole_76 : decode cX12_whole 76 = .ok (.getfield 105, 3) := dec_of da_X12_whole_0 (k := 42) rfl
theorem dX12_whole_79 : decode cX12_whole 79 = .ok (.iload 4, 2) := dec_of da_X12_whole_0 (k := 43) rfl
theorem dX12_whole_81 : decode cX12_whole 81 = .ok (.iconst 4, 1) := dec_of da_X12_whole_0 (k := 44) rfl
theorem dX12_whole_82 : decode cX12_whole 82 = .ok (.iadd, 1) := dec_of da_X12_whole_0 (k := 45) rfl
theorem dX12_whole_83 : decode cX12_whole 83 = .ok (.iaload, 1) := dec_of da_X12_whole_0 (k := 46) rfl
theorem dX12_whole_84 : decode cX12_whole 84 = .ok (.ifCond .ne 47, 3) := dec_of da_X12_whole_0 (k := 47) rfl
theorem dX12_whole_87 : decode cX12_whole 87 = .ok (.aload_n 0, 1) := dec_of da_X12_whole_0 (k := 48) rfl
theorem dX12_whole_88 : decode cX12_whole 88 = .ok (.getfield 105, 3) := dec_of da_X12_whole_0 (k := 49) rfl
theorem dX12_whole_91 : decode cX12_whole 91 = .ok (.iload 4, 2) := dec_of da_X12_whole_0 (k := 50) rfl
theorem dX12_whole_93 : decode cX12_whole 93 = .ok (.iconst 5, 1) := dec_of da_X12_whole_0 (k := 51) rfl
theorem dX12_whole_94 : decode cX12_whole 94 = .ok (.iadd, 1) := dec_of da_X12_whole_0 (k := 52) rfl
theorem dX12_whole_95 : decode cX12_whole 95 = .ok (.iaload, 1) := dec_of da_X12_whole_0 (k := 53) rfl
theorem dX12_whole_96 : decode cX12_whole 96 = .ok (.ifCond .ne 35, 3) := dec_of da_X12_whole_0 (k := 54) rfl
theorem dX12_whole_99 : decode cX12_whole 99 = .ok (.aload_n 0, 1) := dec_of da_X12_whole_0 (k := 55) rfl
theorem dX12_whole_100 : decode cX12_whole 100 = .ok (.getfield 105, 3) := dec_of da_X12_whole_0 (k := 56) rfl
theorem dX12_whole_103 : decode cX12_whole 103 = .ok (.iload 4, 2) := dec_of da_X12_whole_0 (k := 57) rfl
theorem dX12_whole_105 : decode cX12_whole 105 = .ok (.bipush 6, 2) := dec_of da_X12_whole_0 (k := 58) rfl
theorem dX12_whole_107 : decode cX12_whole 107 = .ok (.iadd, 1) := dec_of da_X12_whole_0 (k := 59) rfl
def dl_X12_whole_1 : List (Nat × (Instr × Nat)) := [(108, (.iaload, 1)), (109, (.bipush 8, 2)), (111, (.if_icmp .ne 20, 3)), (114, (.aload_n 0, 1)), (115, (.getfield 105, 3)), (118, (.iload 4, 2)), (120, (.bipush 7, 2)), (122, (.iadd, 1)), (123, (.iaload, 1)), (124, (.ifCond .ne 7, 3)), (127, (.iconst 1, 1)), (128, (.goto 4, 3)), (131, (.iconst 0, 1)), (132, (.istore 6, 2)), (134, (.aload_n 0, 1)), (135, (.bipush 16, 2)), (137, (.invokevirtual 522, 3)), (140, (.istore 7, 2)), (142, (.iload 6, 2)), (144, (.ifCond .eq 8, 3)), (147, (.iload 7, 2)), (149, (.ifCond .ge 4, 3)), (152, (.return_, 1)), (153, (.iload_n 3, 1)), (154, (.ifCond .le 17, 3)), (157, (.aload_n 0, 1)), (158, (.iload_n 3, 1)), (159, (.iload 7, 2)), (161, (.iload 4, 2)), (163, (.iload 5, 2)), (165, (.invokevirtual 593, 3)), (168, (.goto 88, 3)), (171, (.iload 7, 2)), (173, (.ifCond .ne 16, 3)), (176, (.aload_n 0, 1)), (177, (.iconst 0, 1)), (178, (.iload_n 2, 1)), (179, (.iload 4, 2)), (181, (.iload 5, 2)), (183, (.invokevirtual 593, 3)), (186, (.goto 70, 3)), (189, (.iload 7, 2)), (191, (.iload_n 2, 1)), (192, (.if_icmp .eq 64, 3)), (195, (.aload_n 0, 1)), (196, (.getfield 64, 3)), (199, (.iload 7, 2)), (201, (.iaload, 1)), (202, (.iconst 4, 1)), (203, (.if_icmp .ne 53, 3)), (206, (.aload_n 0, 1)), (207, (.iload 5, 2)), (209, (.putfield 404, 3)), (212, (.iconst 0, 1)), (213, (.istore 8, 2)), (215, (.iload 8, 2)), (217, (.iload 5, 2)), (219, (.if_icmp .ge 26, 3)), (222, (.aload_n 0, 1)), (223, (.getfield 175, 3))]
set_option maxRecDepth 100000 in
theorem da_X12_whole_1 : dl_X12_whole_1.all (fun q => decide (decode cX12_whole q.1 = .ok q.2)) = true := by decide +kernel
theorem dX12_whole_108 : decode cX12_whole 108 = .ok (.iaload, 1) := dec_of da_X12_whole_1 (k := 0) rfl
theorem dX12_whole_109 : decode cX12_whole 109 = .ok (.bipush 8, 2) := dec_of da_X12_whole_1 (k := 1) rfl
theorem dX12_whole_111 : decode cX12_whole 111 = .ok (.if_icmp .ne 20, 3) := dec_of da_X12_whole_1 (k := 2) rfl
theorem dX12_whole_114 : decode cX12_whole 114 = .ok (.aload_n 0, 1) := dec_of da_X12_whole_1 (k := 3) rfl
theorem dX12_whole_115 : decode cX12_whole 115 = .ok (.getfield 105, 3) := dec_of da_X12_whole_1 (k := 4) rfl
theorem dX12_whole_118 : decode cX12_whole 118 = .ok (.iload 4, 2) := dec_of da_X12_whole_1 (k := 5) rfl
theorem dX12_whole_120 : decode cX12_whole 120 = .ok (.bipush 7, 2) := dec_of da_X12_whole_1 (k := 6) rfl
theorem dX12_whole_122 : decode cX12_whole 122 = .ok (.iadd, 1) := dec_of da_X12_whole_1 (k := 7) rfl
theorem dX12_whole_123 : decode cX12_whole 123 = .ok (.iaload, 1) := dec_of da_X12_whole_1 (k := 8) rfl
theorem dX12_whole_124 : decode cX12_whole 124 = .ok (.ifCond .ne 7, 3) := dec_of da_X12_whole_1 (k := 9) rfl
theorem dX12_whole_127 : decode cX12_whole 127 = .ok (.iconst 1, 1) := dec_of da_X12_whole_1 (k := 10) rfl
theorem dX12_whole_128 : decode cX12_whole 128 = .ok (.goto 4, 3) := dec_of da_X12_whole_1 (k := 11) rfl
theorem dX12_whole_131 : decode cX12_whole 131 = .ok (.iconst 0, 1) := dec_of da_X12_whole_1 (k := 12) rfl
theorem dX12_whole_132 : decode cX12_whole 132 = .ok (.istore 6, 2) := dec_of da_X12_whole_1 (k := 13) rfl
theorem dX12_whole_134 : decode cX12_whole 134 = .ok (.aload_n 0, 1) := dec_of da_X12_whole_1 (k := 14) rfl
theorem dX12_whole_135 : decode cX12_whole 135 = .ok (.bipush 16, 2) := dec_of da_X12_whole_1 (k := 15) rfl
theorem dX12_whole_137 : decode cX12_whole 137 = .ok (.invokevirtual 522, 3) := dec_of da_X12_whole_1 (k := 16) rfl
theorem dX12_whole_140 : decode cX12_whole 140 = .ok (.istore 7, 2) := dec_of da_X12_whole_1 (k := 17) rfl
theorem dX12_whole_142 : decode cX12_whole 142 = .ok (.iload 6, 2) := dec_of da_X12_whole_1 (k := 18) rfl
theorem dX12_whole_144 : decode cX12_whole 144 = .ok (.ifCond .eq 8, 3) := dec_of da_X12_whole_1 (k := 19) rfl
theorem dX12_whole_147 : decode cX12_whole 147 = .ok (.iload 7, 2) := dec_of da_X12_whole_1 (k := 20) rfl
theorem dX12_whole_149 : decode cX12_whole 149 = .ok (.ifCond .ge 4, 3) := dec_of da_X12_whole_1 (k := 21) rfl
theorem dX12_whole_152 : decode cX12_whole 152 = .ok (.return_, 1) := dec_of da_X12_whole_1 (k := 22) rfl
theorem dX12_whole_153 : decode cX12_whole 153 = .ok (.iload_n 3, 1) := dec_of da_X12_whole_1 (k := 23) rfl
theorem dX12_whole_154 : decode cX12_whole 154 = .ok (.ifCond .le 17, 3) := dec_of da_X12_whole_1 (k := 24) rfl
theorem dX12_whole_157 : decode cX12_whole 157 = .ok (.aload_n 0, 1) := dec_of da_X12_whole_1 (k := 25) rfl
theorem dX12_whole_158 : decode cX12_whole 158 = .ok (.iload_n 3, 1) := dec_of da_X12_whole_1 (k := 26) rfl
theorem dX12_whole_159 : decode cX12_whole 159 = .ok (.iload 7, 2) := dec_of da_X12_whole_1 (k := 27) rfl
theorem dX12_whole_161 : decode cX12_whole 161 = .ok (.iload 4, 2) := dec_of da_X12_whole_1 (k := 28) rfl
theorem dX12_whole_163 : decode cX12_whole 163 = .ok (.iload 5, 2) := dec_of da_X12_whole_1 (k := 29) rfl
theorem dX12_whole_165 : decode cX12_whole 165 = .ok (.invokevirtual 593, 3) := dec_of da_X12_whole_1 (k := 30) rfl
theorem dX12_whole_168 : decode cX12_whole 168 = .ok (.goto 88, 3) := dec_of da_X12_whole_1 (k := 31) rfl
theorem dX12_whole_171 : decode cX12_whole 171 = .ok (.iload 7, 2) := dec_of da_X12_whole_1 (k := 32) rfl
theorem dX12_whole_173 : decode cX12_whole 173 = .ok (.ifCond .ne 16, 3) := dec_of da_X12_whole_1 (k := 33) rfl
theorem dX12_whole_176 : decode cX12_whole 176 = .ok (.aload_n 0, 1) := dec_of da_X12_whole_1 (k := 34) rfl
theorem dX12_whole_177 : decode cX12_whole 177 = .ok (.iconst 0, 1) := dec_of da_X12_whole_1 (k := 35) rfl
theorem dX12_whole_178 : decode cX12_whole 178 = .ok (.iload_n 2, 1) := dec_of da_X12_whole_1 (k := 36) rfl
theorem dX12_whole_179 : decode cX12_whole 179 = .ok (.iload 4, 2) := dec_of da_X12_whole_1 (k := 37) rfl
theorem dX12_whole_181 : decode cX12_whole 181 = .ok (.iload 5, 2) := dec_of da_X12_whole_1 (k := 38) rfl
theorem dX12_whole_183 : decode cX12_whole 183 = .ok (.invokevirtual 593, 3) := dec_of da_X12_whole_1 (k := 39) rfl
theorem dX12_whole_186 : decode cX12_whole 186 = .ok (.goto 70, 3) := dec_of da_X12_whole_1 (k := 40) rfl
theorem dX12_whole_189 : decode cX12_whole 189 = .ok (.iload 7, 2) := dec_of da_X12_whole_1 (k := 41) rfl
theorem dX12_whole_191 : decode cX12_whole 191 = .ok (.iload_n 2, 1) := dec_of da_X12_whole_1 (k := 42) rfl
theorem dX12_whole_192 : decode cX12_whole 192 = .ok (.if_icmp .eq 64, 3) := dec_of da_X12_whole_1 (k := 43) rfl
theorem dX12_whole_195 : decode cX12_whole 195 = .ok (.aload_n 0, 1) := dec_of da_X12_whole_1 (k := 44) rfl
theorem dX12_whole_196 : decode cX12_whole 196 = .ok (.getfield 64, 3) := dec_of da_X12_whole_1 (k := 45) rfl
theorem dX12_whole_199 : decode cX12_whole 199 = .ok (.iload 7, 2) := dec_of da_X12_whole_1 (k := 46) rfl
theorem dX12_whole_201 : decode cX12_whole 201 = .ok (.iaload, 1) := dec_of da_X12_whole_1 (k := 47) rfl
theorem dX12_whole_202 : decode cX12_whole 202 = .ok (.iconst 4, 1) := dec_of da_X12_whole_1 (k := 48) rfl
theorem dX12_whole_203 : decode cX12_whole 203 = .ok (.if_icmp .ne 53, 3) := dec_of da_X12_whole_1 (k := 49) rfl
theorem dX12_whole_206 : decode cX12_whole 206 = .ok (.aload_n 0, 1) := dec_of da_X12_whole_1 (k := 50) rfl
theorem dX12_whole_207 : decode cX12_whole 207 = .ok (.iload 5, 2) := dec_of da_X12_whole_1 (k := 51) rfl
theorem dX12_whole_209 : decode cX12_whole 209 = .ok (.putfield 404, 3) := dec_of da_X12_whole_1 (k := 52) rfl
theorem dX12_whole_212 : decode cX12_whole 212 = .ok (.iconst 0, 1) := dec_of da_X12_whole_1 (k := 53) rfl
theorem dX12_whole_213 : decode cX12_whole 213 = .ok (.istore 8, 2) := dec_of da_X12_whole_1 (k := 54) rfl
theorem dX12_whole_215 : decode cX12_whole 215 = .ok (.iload 8, 2) := dec_of da_X12_whole_1 (k := 55) rfl
theorem dX12_whole_217 : decode cX12_whole 217 = .ok (.iload 5, 2) := dec_of da_X12_whole_1 (k := 56) rfl
theorem dX12_whole_219 : decode cX12_whole 219 = .ok (.if_icmp .ge 26, 3) := dec_of da_X12_whole_1 (k := 57) rfl
theorem dX12_whole_222 : decode cX12_whole 222 = .ok (.aload_n 0, 1) := dec_of da_X12_whole_1 (k := 58) rfl
theorem dX12_whole_223 : decode cX12_whole 223 = .ok (.getfield 175, 3) := dec_of da_X12_whole_1 (k := 59) rfl
def dl_X12_whole_2 : List (Nat × (Instr × Nat)) := [(226, (.iload 8, 2)), (228, (.aload_n 0, 1)), (229, (.getfield 105, 3)), (232, (.iload 4, 2)), (234, (.iload 8, 2)), (236, (.iadd, 1)), (237, (.iaload, 1)), (238, (.iastore, 1)), (239, (.iinc 8 1, 3)), (242, (.goto (-27), 3)), (245, (.aload_n 0, 1)), (246, (.iconst 0, 1)), (247, (.bipush 8, 2)), (249, (.iload 7, 2)), (251, (.iload_n 2, 1)), (252, (.iconst (-1), 1)), (253, (.invokevirtual 540, 3)), (256, (.return_, 1))]
set_option maxRecDepth 100000 in
theorem da_X12_whole_2 : dl_X12_whole_2.all (fun q => decide (decode cX12_whole q.1 = .ok q.2)) = true := by decide +kernel
theorem dX12_whole_226 : decode cX12_whole 226 = .ok (.iload 8, 2) := dec_of da_X12_whole_2 (k := 0) rfl
theorem dX12_whole_228 : decode cX12_whole 228 = .ok (.aload_n 0, 1) := dec_of da_X12_whole_2 (k := 1) rfl
theorem dX12_whole_229 : decode cX12_whole 229 = .ok (.getfield 105, 3) := dec_of da_X12_whole_2 (k := 2) rfl
theorem dX12_whole_232 : decode cX12_whole 232 = .ok (.iload 4, 2) := dec_of da_X12_whole_2 (k := 3) rfl
theorem dX12_whole_234 : decode cX12_whole 234 = .ok (.iload 8, 2) := dec_of da_X12_whole_2 (k := 4) rfl
theorem dX12_whole_236 : decode cX12_whole 236 = .ok (.iadd, 1) := dec_of da_X12_whole_2 (k := 5) rfl
theorem dX12_whole_237 : decode cX12_whole 237 = .ok (.iaload, 1) := dec_of da_X12_whole_2 (k := 6) rfl
theorem dX12_whole_238 : decode cX12_whole 238 = .ok (.iastore, 1) := dec_of da_X12_whole_2 (k := 7) rfl
theorem dX12_whole_239 : decode cX12_whole 239 = .ok (.iinc 8 1, 3) := dec_of da_X12_whole_2 (k := 8) rfl
theorem dX12_whole_242 : decode cX12_whole 242 = .ok (.goto (-27), 3) := dec_of da_X12_whole_2 (k := 9) rfl
theorem dX12_whole_245 : decode cX12_whole 245 = .ok (.aload_n 0, 1) := dec_of da_X12_whole_2 (k := 10) rfl
theorem dX12_whole_246 : decode cX12_whole 246 = .ok (.iconst 0, 1) := dec_of da_X12_whole_2 (k := 11) rfl
theorem dX12_whole_247 : decode cX12_whole 247 = .ok (.bipush 8, 2) := dec_of da_X12_whole_2 (k := 12) rfl
theorem dX12_whole_249 : decode cX12_whole 249 = .ok (.iload 7, 2) := dec_of da_X12_whole_2 (k := 13) rfl
theorem dX12_whole_251 : decode cX12_whole 251 = .ok (.iload_n 2, 1) := dec_of da_X12_whole_2 (k := 14) rfl
theorem dX12_whole_252 : decode cX12_whole 252 = .ok (.iconst (-1), 1) := dec_of da_X12_whole_2 (k := 15) rfl
theorem dX12_whole_253 : decode cX12_whole 253 = .ok (.invokevirtual 540, 3) := dec_of da_X12_whole_2 (k := 16) rfl
theorem dX12_whole_256 : decode cX12_whole 256 = .ok (.return_, 1) := dec_of da_X12_whole_2 (k := 17) rfl
def dl_X12_deliver_0 : List (Nat × (Instr × Nat)) := [(0, (.aload_n 0, 1)), (1, (.getfield 272, 3)), (4, (.iload_n 1, 1)), (5, (.iaload, 1)), (6, (.bipush 12, 2)), (8, (.if_icmp .ge 79, 3)), (11, (.bipush 12, 2)), (13, (.iload_n 1, 1)), (14, (.imul, 1)), (15, (.aload_n 0, 1)), (16, (.getfield 272, 3)), (19, (.iload_n 1, 1)), (20, (.iaload, 1)), (21, (.iadd, 1)), (22, (.istore 5, 2)), (24, (.aload_n 0, 1)), (25, (.getfield 275, 3)), (28, (.iload 5, 2)), (30, (.iload_n 2, 1)), (31, (.iastore, 1)), (32, (.aload_n 0, 1)), (33, (.getfield 278, 3)), (36, (.iload 5, 2)), (38, (.iload 4, 2)), (40, (.bipush 8, 2)), (42, (.isub, 1)), (43, (.iastore, 1)), (44, (.bipush 8, 2)), (46, (.istore 6, 2)), (48, (.iload 6, 2)), (50, (.iload 4, 2)), (52, (.if_icmp .ge 35, 3)), (55, (.aload_n 0, 1)), (56, (.getfield 281, 3)), (59, (.sipush 200, 3)), (62, (.iload 5, 2)), (64, (.imul, 1)), (65, (.iload 6, 2)), (67, (.iadd, 1)), (68, (.bipush 8, 2)), (70, (.isub, 1)), (71, (.aload_n 0, 1)), (72, (.getfield 105, 3)), (75, (.iload_n 3, 1)), (76, (.iload 6, 2)), (78, (.iadd, 1)), (79, (.iaload, 1)), (80, (.iastore, 1)), (81, (.iinc 6 1, 3)), (84, (.goto (-36), 3)), (87, (.aload_n 0, 1)), (88, (.getfield 272, 3)), (91, (.iload_n 1, 1)), (92, (.dup2, 1)), (93, (.iaload, 1)), (94, (.iconst 1, 1)), (95, (.iadd, 1)), (96, (.iastore, 1)), (97, (.return_, 1))]
set_option maxRecDepth 100000 in
theorem da_X12_deliver_0 : dl_X12_deliver_0.all (fun q => decide (decode cX12_deliver q.1 = .ok q.2)) = true := by decide +kernel
theorem dX12_deliver_0 : decode cX12_deliver 0 = .ok (.aload_n 0, 1) := dec_of da_X12_deliver_0 (k := 0) rfl
theorem dX12_deliver_1 : decode cX12_deliver 1 = .ok (.getfield 272, 3) := dec_of da_X12_deliver_0 (k := 1) rfl
theorem dX12_deliver_4 : decode cX12_deliver 4 = .ok (.iload_n 1, 1) := dec_of da_X12_deliver_0 (k := 2) rfl
theorem dX12_deliver_5 : decode cX12_deliver 5 = .ok (.iaload, 1) := dec_of da_X12_deliver_0 (k := 3) rfl
theorem dX12_deliver_6 : decode cX12_deliver 6 = .ok (.bipush 12, 2) := dec_of da_X12_deliver_0 (k := 4) rfl
theorem dX12_deliver_8 : decode cX12_deliver 8 = .ok (.if_icmp .ge 79, 3) := dec_of da_X12_deliver_0 (k := 5) rfl
theorem dX12_deliver_11 : decode cX12_deliver 11 = .ok (.bipush 12, 2) := dec_of da_X12_deliver_0 (k := 6) rfl
theorem dX12_deliver_13 : decode cX12_deliver 13 = .ok (.iload_n 1, 1) := dec_of da_X12_deliver_0 (k := 7) rfl
theorem dX12_deliver_14 : decode cX12_deliver 14 = .ok (.imul, 1) := dec_of da_X12_deliver_0 (k := 8) rfl
theorem dX12_deliver_15 : decode cX12_deliver 15 = .ok (.aload_n 0, 1) := dec_of da_X12_deliver_0 (k := 9) rfl
theorem dX12_deliver_16 : decode cX12_deliver 16 = .ok (.getfield 272, 3) := dec_of da_X12_deliver_0 (k := 10) rfl
theorem dX12_deliver_19 : decode cX12_deliver 19 = .ok (.iload_n 1, 1) := dec_of da_X12_deliver_0 (k := 11) rfl
theorem dX12_deliver_20 : decode cX12_deliver 20 = .ok (.iaload, 1) := dec_of da_X12_deliver_0 (k := 12) rfl
theorem dX12_deliver_21 : decode cX12_deliver 21 = .ok (.iadd, 1) := dec_of da_X12_deliver_0 (k := 13) rfl
theorem dX12_deliver_22 : decode cX12_deliver 22 = .ok (.istore 5, 2) := dec_of da_X12_deliver_0 (k := 14) rfl
theorem dX12_deliver_24 : decode cX12_deliver 24 = .ok (.aload_n 0, 1) := dec_of da_X12_deliver_0 (k := 15) rfl
theorem dX12_deliver_25 : decode cX12_deliver 25 = .ok (.getfield 275, 3) := dec_of da_X12_deliver_0 (k := 16) rfl
theorem dX12_deliver_28 : decode cX12_deliver 28 = .ok (.iload 5, 2) := dec_of da_X12_deliver_0 (k := 17) rfl
theorem dX12_deliver_30 : decode cX12_deliver 30 = .ok (.iload_n 2, 1) := dec_of da_X12_deliver_0 (k := 18) rfl
theorem dX12_deliver_31 : decode cX12_deliver 31 = .ok (.iastore, 1) := dec_of da_X12_deliver_0 (k := 19) rfl
theorem dX12_deliver_32 : decode cX12_deliver 32 = .ok (.aload_n 0, 1) := dec_of da_X12_deliver_0 (k := 20) rfl
theorem dX12_deliver_33 : decode cX12_deliver 33 = .ok (.getfield 278, 3) := dec_of da_X12_deliver_0 (k := 21) rfl
theorem dX12_deliver_36 : decode cX12_deliver 36 = .ok (.iload 5, 2) := dec_of da_X12_deliver_0 (k := 22) rfl
theorem dX12_deliver_38 : decode cX12_deliver 38 = .ok (.iload 4, 2) := dec_of da_X12_deliver_0 (k := 23) rfl
theorem dX12_deliver_40 : decode cX12_deliver 40 = .ok (.bipush 8, 2) := dec_of da_X12_deliver_0 (k := 24) rfl
theorem dX12_deliver_42 : decode cX12_deliver 42 = .ok (.isub, 1) := dec_of da_X12_deliver_0 (k := 25) rfl
theorem dX12_deliver_43 : decode cX12_deliver 43 = .ok (.iastore, 1) := dec_of da_X12_deliver_0 (k := 26) rfl
theorem dX12_deliver_44 : decode cX12_deliver 44 = .ok (.bipush 8, 2) := dec_of da_X12_deliver_0 (k := 27) rfl
theorem dX12_deliver_46 : decode cX12_deliver 46 = .ok (.istore 6, 2) := dec_of da_X12_deliver_0 (k := 28) rfl
theorem dX12_deliver_48 : decode cX12_deliver 48 = .ok (.iload 6, 2) := dec_of da_X12_deliver_0 (k := 29) rfl
theorem dX12_deliver_50 : decode cX12_deliver 50 = .ok (.iload 4, 2) := dec_of da_X12_deliver_0 (k := 30) rfl
theorem dX12_deliver_52 : decode cX12_deliver 52 = .ok (.if_icmp .ge 35, 3) := dec_of da_X12_deliver_0 (k := 31) rfl
theorem dX12_deliver_55 : decode cX12_deliver 55 = .ok (.aload_n 0, 1) := dec_of da_X12_deliver_0 (k := 32) rfl
theorem dX12_deliver_56 : decode cX12_deliver 56 = .ok (.getfield 281, 3) := dec_of da_X12_deliver_0 (k := 33) rfl
theorem dX12_deliver_59 : decode cX12_deliver 59 = .ok (.sipush 200, 3) := dec_of da_X12_deliver_0 (k := 34) rfl
theorem dX12_deliver_62 : decode cX12_deliver 62 = .ok (.iload 5, 2) := dec_of da_X12_deliver_0 (k := 35) rfl
theorem dX12_deliver_64 : decode cX12_deliver 64 = .ok (.imul, 1) := dec_of da_X12_deliver_0 (k := 36) rfl
theorem dX12_deliver_65 : decode cX12_deliver 65 = .ok (.iload 6, 2) := dec_of da_X12_deliver_0 (k := 37) rfl
theorem dX12_deliver_67 : decode cX12_deliver 67 = .ok (.iadd, 1) := dec_of da_X12_deliver_0 (k := 38) rfl
theorem dX12_deliver_68 : decode cX12_deliver 68 = .ok (.bipush 8, 2) := dec_of da_X12_deliver_0 (k := 39) rfl
theorem dX12_deliver_70 : decode cX12_deliver 70 = .ok (.isub, 1) := dec_of da_X12_deliver_0 (k := 40) rfl
theorem dX12_deliver_71 : decode cX12_deliver 71 = .ok (.aload_n 0, 1) := dec_of da_X12_deliver_0 (k := 41) rfl
theorem dX12_deliver_72 : decode cX12_deliver 72 = .ok (.getfield 105, 3) := dec_of da_X12_deliver_0 (k := 42) rfl
theorem dX12_deliver_75 : decode cX12_deliver 75 = .ok (.iload_n 3, 1) := dec_of da_X12_deliver_0 (k := 43) rfl
theorem dX12_deliver_76 : decode cX12_deliver 76 = .ok (.iload 6, 2) := dec_of da_X12_deliver_0 (k := 44) rfl
theorem dX12_deliver_78 : decode cX12_deliver 78 = .ok (.iadd, 1) := dec_of da_X12_deliver_0 (k := 45) rfl
theorem dX12_deliver_79 : decode cX12_deliver 79 = .ok (.iaload, 1) := dec_of da_X12_deliver_0 (k := 46) rfl
theorem dX12_deliver_80 : decode cX12_deliver 80 = .ok (.iastore, 1) := dec_of da_X12_deliver_0 (k := 47) rfl
theorem dX12_deliver_81 : decode cX12_deliver 81 = .ok (.iinc 6 1, 3) := dec_of da_X12_deliver_0 (k := 48) rfl
theorem dX12_deliver_84 : decode cX12_deliver 84 = .ok (.goto (-36), 3) := dec_of da_X12_deliver_0 (k := 49) rfl
theorem dX12_deliver_87 : decode cX12_deliver 87 = .ok (.aload_n 0, 1) := dec_of da_X12_deliver_0 (k := 50) rfl
theorem dX12_deliver_88 : decode cX12_deliver 88 = .ok (.getfield 272, 3) := dec_of da_X12_deliver_0 (k := 51) rfl
theorem dX12_deliver_91 : decode cX12_deliver 91 = .ok (.iload_n 1, 1) := dec_of da_X12_deliver_0 (k := 52) rfl
theorem dX12_deliver_92 : decode cX12_deliver 92 = .ok (.dup2, 1) := dec_of da_X12_deliver_0 (k := 53) rfl
theorem dX12_deliver_93 : decode cX12_deliver 93 = .ok (.iaload, 1) := dec_of da_X12_deliver_0 (k := 54) rfl
theorem dX12_deliver_94 : decode cX12_deliver 94 = .ok (.iconst 1, 1) := dec_of da_X12_deliver_0 (k := 55) rfl
theorem dX12_deliver_95 : decode cX12_deliver 95 = .ok (.iadd, 1) := dec_of da_X12_deliver_0 (k := 56) rfl
theorem dX12_deliver_96 : decode cX12_deliver 96 = .ok (.iastore, 1) := dec_of da_X12_deliver_0 (k := 57) rfl
theorem dX12_deliver_97 : decode cX12_deliver 97 = .ok (.return_, 1) := dec_of da_X12_deliver_0 (k := 58) rfl
def dl_X12_copy_0 : List (Nat × (Instr × Nat)) := [(0, (.aload_n 0, 1)), (1, (.iconst 0, 1)), (2, (.putfield 287, 3)), (5, (.aload_n 0, 1)), (6, (.iload_n 1, 1)), (7, (.invokevirtual 596, 3)), (10, (.ifCond .ne 5, 3)), (13, (.iconst (-1), 1)), (14, (.ireturn, 1)), (15, (.aload_n 0, 1)), (16, (.getfield 457, 3)), (19, (.iconst 1, 1)), (20, (.isub, 1)), (21, (.iload_n 1, 1)), (22, (.isub, 1)), (23, (.bipush 40, 2)), (25, (.irem, 1)), (26, (.istore_n 2, 1)), (27, (.aload_n 0, 1)), (28, (.aload_n 0, 1)), (29, (.getfield 224, 3)), (32, (.iload_n 2, 1)), (33, (.iaload, 1)), (34, (.putfield 346, 3)), (37, (.iconst 0, 1)), (38, (.istore_n 3, 1)), (39, (.iload_n 3, 1)), (40, (.aload_n 0, 1)), (41, (.getfield 346, 3)), (44, (.if_icmp .ge 27, 3)), (47, (.aload_n 0, 1)), (48, (.getfield 52, 3)), (51, (.iload_n 3, 1)), (52, (.aload_n 0, 1)), (53, (.getfield 233, 3)), (56, (.sipush 300, 3)), (59, (.iload_n 2, 1)), (60, (.imul, 1)), (61, (.iload_n 3, 1)), (62, (.iadd, 1)), (63, (.iaload, 1)), (64, (.iastore, 1)), (65, (.iinc 3 1, 3)), (68, (.goto (-29), 3)), (71, (.aload_n 0, 1)), (72, (.getfield 346, 3)), (75, (.ireturn, 1))]
set_option maxRecDepth 100000 in
theorem da_X12_copy_0 : dl_X12_copy_0.all (fun q => decide (decode cX12_copy q.1 = .ok q.2)) = true := by decide +kernel
theorem dX12_copy_0 : decode cX12_copy 0 = .ok (.aload_n 0, 1) := dec_of da_X12_copy_0 (k := 0) rfl
theorem dX12_copy_1 : decode cX12_copy 1 = .ok (.iconst 0, 1) := dec_of da_X12_copy_0 (k := 1) rfl
theorem dX12_copy_2 : decode cX12_copy 2 = .ok (.putfield 287, 3) := dec_of da_X12_copy_0 (k := 2) rfl
theorem dX12_copy_5 : decode cX12_copy 5 = .ok (.aload_n 0, 1) := dec_of da_X12_copy_0 (k := 3) rfl
theorem dX12_copy_6 : decode cX12_copy 6 = .ok (.iload_n 1, 1) := dec_of da_X12_copy_0 (k := 4) rfl
theorem dX12_copy_7 : decode cX12_copy 7 = .ok (.invokevirtual 596, 3) := dec_of da_X12_copy_0 (k := 5) rfl
theorem dX12_copy_10 : decode cX12_copy 10 = .ok (.ifCond .ne 5, 3) := dec_of da_X12_copy_0 (k := 6) rfl
theorem dX12_copy_13 : decode cX12_copy 13 = .ok (.iconst (-1), 1) := dec_of da_X12_copy_0 (k := 7) rfl
theorem dX12_copy_14 : decode cX12_copy 14 = .ok (.ireturn, 1) := dec_of da_X12_copy_0 (k := 8) rfl
theorem dX12_copy_15 : decode cX12_copy 15 = .ok (.aload_n 0, 1) := dec_of da_X12_copy_0 (k := 9) rfl
theorem dX12_copy_16 : decode cX12_copy 16 = .ok (.getfield 457, 3) := dec_of da_X12_copy_0 (k := 10) rfl
theorem dX12_copy_19 : decode cX12_copy 19 = .ok (.iconst 1, 1) := dec_of da_X12_copy_0 (k := 11) rfl
theorem dX12_copy_20 : decode cX12_copy 20 = .ok (.isub, 1) := dec_of da_X12_copy_0 (k := 12) rfl
theorem dX12_copy_21 : decode cX12_copy 21 = .ok (.iload_n 1, 1) := dec_of da_X12_copy_0 (k := 13) rfl
theorem dX12_copy_22 : decode cX12_copy 22 = .ok (.isub, 1) := dec_of da_X12_copy_0 (k := 14) rfl
theorem dX12_copy_23 : decode cX12_copy 23 = .ok (.bipush 40, 2) := dec_of da_X12_copy_0 (k := 15) rfl
theorem dX12_copy_25 : decode cX12_copy 25 = .ok (.irem, 1) := dec_of da_X12_copy_0 (k := 16) rfl
theorem dX12_copy_26 : decode cX12_copy 26 = .ok (.istore_n 2, 1) := dec_of da_X12_copy_0 (k := 17) rfl
theorem dX12_copy_27 : decode cX12_copy 27 = .ok (.aload_n 0, 1) := dec_of da_X12_copy_0 (k := 18) rfl
theorem dX12_copy_28 : decode cX12_copy 28 = .ok (.aload_n 0, 1) := dec_of da_X12_copy_0 (k := 19) rfl
theorem dX12_copy_29 : decode cX12_copy 29 = .ok (.getfield 224, 3) := dec_of da_X12_copy_0 (k := 20) rfl
theorem dX12_copy_32 : decode cX12_copy 32 = .ok (.iload_n 2, 1) := dec_of da_X12_copy_0 (k := 21) rfl
theorem dX12_copy_33 : decode cX12_copy 33 = .ok (.iaload, 1) := dec_of da_X12_copy_0 (k := 22) rfl
theorem dX12_copy_34 : decode cX12_copy 34 = .ok (.putfield 346, 3) := dec_of da_X12_copy_0 (k := 23) rfl
theorem dX12_copy_37 : decode cX12_copy 37 = .ok (.iconst 0, 1) := dec_of da_X12_copy_0 (k := 24) rfl
theorem dX12_copy_38 : decode cX12_copy 38 = .ok (.istore_n 3, 1) := dec_of da_X12_copy_0 (k := 25) rfl
theorem dX12_copy_39 : decode cX12_copy 39 = .ok (.iload_n 3, 1) := dec_of da_X12_copy_0 (k := 26) rfl
theorem dX12_copy_40 : decode cX12_copy 40 = .ok (.aload_n 0, 1) := dec_of da_X12_copy_0 (k := 27) rfl
theorem dX12_copy_41 : decode cX12_copy 41 = .ok (.getfield 346, 3) := dec_of da_X12_copy_0 (k := 28) rfl
theorem dX12_copy_44 : decode cX12_copy 44 = .ok (.if_icmp .ge 27, 3) := dec_of da_X12_copy_0 (k := 29) rfl
theorem dX12_copy_47 : decode cX12_copy 47 = .ok (.aload_n 0, 1) := dec_of da_X12_copy_0 (k := 30) rfl
theorem dX12_copy_48 : decode cX12_copy 48 = .ok (.getfield 52, 3) := dec_of da_X12_copy_0 (k := 31) rfl
theorem dX12_copy_51 : decode cX12_copy 51 = .ok (.iload_n 3, 1) := dec_of da_X12_copy_0 (k := 32) rfl
theorem dX12_copy_52 : decode cX12_copy 52 = .ok (.aload_n 0, 1) := dec_of da_X12_copy_0 (k := 33) rfl
theorem dX12_copy_53 : decode cX12_copy 53 = .ok (.getfield 233, 3) := dec_of da_X12_copy_0 (k := 34) rfl
theorem dX12_copy_56 : decode cX12_copy 56 = .ok (.sipush 300, 3) := dec_of da_X12_copy_0 (k := 35) rfl
theorem dX12_copy_59 : decode cX12_copy 59 = .ok (.iload_n 2, 1) := dec_of da_X12_copy_0 (k := 36) rfl
theorem dX12_copy_60 : decode cX12_copy 60 = .ok (.imul, 1) := dec_of da_X12_copy_0 (k := 37) rfl
theorem dX12_copy_61 : decode cX12_copy 61 = .ok (.iload_n 3, 1) := dec_of da_X12_copy_0 (k := 38) rfl
theorem dX12_copy_62 : decode cX12_copy 62 = .ok (.iadd, 1) := dec_of da_X12_copy_0 (k := 39) rfl
theorem dX12_copy_63 : decode cX12_copy 63 = .ok (.iaload, 1) := dec_of da_X12_copy_0 (k := 40) rfl
theorem dX12_copy_64 : decode cX12_copy 64 = .ok (.iastore, 1) := dec_of da_X12_copy_0 (k := 41) rfl
theorem dX12_copy_65 : decode cX12_copy 65 = .ok (.iinc 3 1, 3) := dec_of da_X12_copy_0 (k := 42) rfl
theorem dX12_copy_68 : decode cX12_copy 68 = .ok (.goto (-29), 3) := dec_of da_X12_copy_0 (k := 43) rfl
theorem dX12_copy_71 : decode cX12_copy 71 = .ok (.aload_n 0, 1) := dec_of da_X12_copy_0 (k := 44) rfl
theorem dX12_copy_72 : decode cX12_copy 72 = .ok (.getfield 346, 3) := dec_of da_X12_copy_0 (k := 45) rfl
theorem dX12_copy_75 : decode cX12_copy 75 = .ok (.ireturn, 1) := dec_of da_X12_copy_0 (k := 46) rfl
def dl_X12_isKept_0 : List (Nat × (Instr × Nat)) := [(0, (.iload_n 1, 1)), (1, (.ifCond .lt 21, 3)), (4, (.iload_n 1, 1)), (5, (.bipush 40, 2)), (7, (.if_icmp .ge 15, 3)), (10, (.iload_n 1, 1)), (11, (.aload_n 0, 1)), (12, (.getfield 457, 3)), (15, (.if_icmp .ge 7, 3)), (18, (.iconst 1, 1)), (19, (.goto 4, 3)), (22, (.iconst 0, 1)), (23, (.ireturn, 1))]
set_option maxRecDepth 100000 in
theorem da_X12_isKept_0 : dl_X12_isKept_0.all (fun q => decide (decode cX12_isKept q.1 = .ok q.2)) = true := by decide +kernel
theorem dX12_isKept_0 : decode cX12_isKept 0 = .ok (.iload_n 1, 1) := dec_of da_X12_isKept_0 (k := 0) rfl
theorem dX12_isKept_1 : decode cX12_isKept 1 = .ok (.ifCond .lt 21, 3) := dec_of da_X12_isKept_0 (k := 1) rfl
theorem dX12_isKept_4 : decode cX12_isKept 4 = .ok (.iload_n 1, 1) := dec_of da_X12_isKept_0 (k := 2) rfl
theorem dX12_isKept_5 : decode cX12_isKept 5 = .ok (.bipush 40, 2) := dec_of da_X12_isKept_0 (k := 3) rfl
theorem dX12_isKept_7 : decode cX12_isKept 7 = .ok (.if_icmp .ge 15, 3) := dec_of da_X12_isKept_0 (k := 4) rfl
theorem dX12_isKept_10 : decode cX12_isKept 10 = .ok (.iload_n 1, 1) := dec_of da_X12_isKept_0 (k := 5) rfl
theorem dX12_isKept_11 : decode cX12_isKept 11 = .ok (.aload_n 0, 1) := dec_of da_X12_isKept_0 (k := 6) rfl
theorem dX12_isKept_12 : decode cX12_isKept 12 = .ok (.getfield 457, 3) := dec_of da_X12_isKept_0 (k := 7) rfl
theorem dX12_isKept_15 : decode cX12_isKept 15 = .ok (.if_icmp .ge 7, 3) := dec_of da_X12_isKept_0 (k := 8) rfl
theorem dX12_isKept_18 : decode cX12_isKept 18 = .ok (.iconst 1, 1) := dec_of da_X12_isKept_0 (k := 9) rfl
theorem dX12_isKept_19 : decode cX12_isKept 19 = .ok (.goto 4, 3) := dec_of da_X12_isKept_0 (k := 10) rfl
theorem dX12_isKept_22 : decode cX12_isKept 22 = .ok (.iconst 0, 1) := dec_of da_X12_isKept_0 (k := 11) rfl
theorem dX12_isKept_23 : decode cX12_isKept 23 = .ok (.ireturn, 1) := dec_of da_X12_isKept_0 (k := 12) rfl
def dl_X12_size_0 : List (Nat × (Instr × Nat)) := [(0, (.aload_n 0, 1)), (1, (.iconst 0, 1)), (2, (.putfield 287, 3)), (5, (.iload_n 1, 1)), (6, (.i2l, 1)), (7, (.ldc2_w 599, 3)), (10, (.ldc2_w 352, 3)), (13, (.invokestatic 354, 3)), (16, (.ifCond .ne 5, 3)), (19, (.iconst (-1), 1)), (20, (.ireturn, 1)), (21, (.aload_n 0, 1)), (22, (.getfield 162, 3)), (25, (.istore_n 2, 1)), (26, (.aload_n 0, 1)), (27, (.iload_n 1, 1)), (28, (.putfield 162, 3)), (31, (.iload_n 2, 1)), (32, (.ireturn, 1))]
set_option maxRecDepth 100000 in
theorem da_X12_size_0 : dl_X12_size_0.all (fun q => decide (decode cX12_size q.1 = .ok q.2)) = true := by decide +kernel
theorem dX12_size_0 : decode cX12_size 0 = .ok (.aload_n 0, 1) := dec_of da_X12_size_0 (k := 0) rfl
theorem dX12_size_1 : decode cX12_size 1 = .ok (.iconst 0, 1) := dec_of da_X12_size_0 (k := 1) rfl
theorem dX12_size_2 : decode cX12_size 2 = .ok (.putfield 287, 3) := dec_of da_X12_size_0 (k := 2) rfl
theorem dX12_size_5 : decode cX12_size 5 = .ok (.iload_n 1, 1) := dec_of da_X12_size_0 (k := 3) rfl
theorem dX12_size_6 : decode cX12_size 6 = .ok (.i2l, 1) := dec_of da_X12_size_0 (k := 4) rfl
theorem dX12_size_7 : decode cX12_size 7 = .ok (.ldc2_w 599, 3) := dec_of da_X12_size_0 (k := 5) rfl
theorem dX12_size_10 : decode cX12_size 10 = .ok (.ldc2_w 352, 3) := dec_of da_X12_size_0 (k := 6) rfl
theorem dX12_size_13 : decode cX12_size 13 = .ok (.invokestatic 354, 3) := dec_of da_X12_size_0 (k := 7) rfl
theorem dX12_size_16 : decode cX12_size 16 = .ok (.ifCond .ne 5, 3) := dec_of da_X12_size_0 (k := 8) rfl
theorem dX12_size_19 : decode cX12_size 19 = .ok (.iconst (-1), 1) := dec_of da_X12_size_0 (k := 9) rfl
theorem dX12_size_20 : decode cX12_size 20 = .ok (.ireturn, 1) := dec_of da_X12_size_0 (k := 10) rfl
theorem dX12_size_21 : decode cX12_size 21 = .ok (.aload_n 0, 1) := dec_of da_X12_size_0 (k := 11) rfl
theorem dX12_size_22 : decode cX12_size 22 = .ok (.getfield 162, 3) := dec_of da_X12_size_0 (k := 12) rfl
theorem dX12_size_25 : decode cX12_size 25 = .ok (.istore_n 2, 1) := dec_of da_X12_size_0 (k := 13) rfl
theorem dX12_size_26 : decode cX12_size 26 = .ok (.aload_n 0, 1) := dec_of da_X12_size_0 (k := 14) rfl
theorem dX12_size_27 : decode cX12_size 27 = .ok (.iload_n 1, 1) := dec_of da_X12_size_0 (k := 15) rfl
theorem dX12_size_28 : decode cX12_size 28 = .ok (.putfield 162, 3) := dec_of da_X12_size_0 (k := 16) rfl
theorem dX12_size_31 : decode cX12_size 31 = .ok (.iload_n 2, 1) := dec_of da_X12_size_0 (k := 17) rfl
theorem dX12_size_32 : decode cX12_size 32 = .ok (.ireturn, 1) := dec_of da_X12_size_0 (k := 18) rfl
def dl_X12_limit_0 : List (Nat × (Instr × Nat)) := [(0, (.aload_n 0, 1)), (1, (.iconst 0, 1)), (2, (.putfield 287, 3)), (5, (.iload_n 1, 1)), (6, (.i2l, 1)), (7, (.lconst 1, 1)), (8, (.ldc2_w 601, 3)), (11, (.invokestatic 354, 3)), (14, (.ifCond .ne 5, 3)), (17, (.iconst (-1), 1)), (18, (.ireturn, 1)), (19, (.aload_n 0, 1)), (20, (.getfield 166, 3)), (23, (.istore_n 2, 1)), (24, (.aload_n 0, 1)), (25, (.iload_n 1, 1)), (26, (.putfield 166, 3)), (29, (.iload_n 2, 1)), (30, (.ireturn, 1))]
set_option maxRecDepth 100000 in
theorem da_X12_limit_0 : dl_X12_limit_0.all (fun q => decide (decode cX12_limit q.1 = .ok q.2)) = true := by decide +kernel
theorem dX12_limit_0 : decode cX12_limit 0 = .ok (.aload_n 0, 1) := dec_of da_X12_limit_0 (k := 0) rfl
theorem dX12_limit_1 : decode cX12_limit 1 = .ok (.iconst 0, 1) := dec_of da_X12_limit_0 (k := 1) rfl
theorem dX12_limit_2 : decode cX12_limit 2 = .ok (.putfield 287, 3) := dec_of da_X12_limit_0 (k := 2) rfl
theorem dX12_limit_5 : decode cX12_limit 5 = .ok (.iload_n 1, 1) := dec_of da_X12_limit_0 (k := 3) rfl
theorem dX12_limit_6 : decode cX12_limit 6 = .ok (.i2l, 1) := dec_of da_X12_limit_0 (k := 4) rfl
theorem dX12_limit_7 : decode cX12_limit 7 = .ok (.lconst 1, 1) := dec_of da_X12_limit_0 (k := 5) rfl
theorem dX12_limit_8 : decode cX12_limit 8 = .ok (.ldc2_w 601, 3) := dec_of da_X12_limit_0 (k := 6) rfl
theorem dX12_limit_11 : decode cX12_limit 11 = .ok (.invokestatic 354, 3) := dec_of da_X12_limit_0 (k := 7) rfl
theorem dX12_limit_14 : decode cX12_limit 14 = .ok (.ifCond .ne 5, 3) := dec_of da_X12_limit_0 (k := 8) rfl
theorem dX12_limit_17 : decode cX12_limit 17 = .ok (.iconst (-1), 1) := dec_of da_X12_limit_0 (k := 9) rfl
theorem dX12_limit_18 : decode cX12_limit 18 = .ok (.ireturn, 1) := dec_of da_X12_limit_0 (k := 10) rfl
theorem dX12_limit_19 : decode cX12_limit 19 = .ok (.aload_n 0, 1) := dec_of da_X12_limit_0 (k := 11) rfl
theorem dX12_limit_20 : decode cX12_limit 20 = .ok (.getfield 166, 3) := dec_of da_X12_limit_0 (k := 12) rfl
theorem dX12_limit_23 : decode cX12_limit 23 = .ok (.istore_n 2, 1) := dec_of da_X12_limit_0 (k := 13) rfl
theorem dX12_limit_24 : decode cX12_limit 24 = .ok (.aload_n 0, 1) := dec_of da_X12_limit_0 (k := 14) rfl
theorem dX12_limit_25 : decode cX12_limit 25 = .ok (.iload_n 1, 1) := dec_of da_X12_limit_0 (k := 15) rfl
theorem dX12_limit_26 : decode cX12_limit 26 = .ok (.putfield 166, 3) := dec_of da_X12_limit_0 (k := 16) rfl
theorem dX12_limit_29 : decode cX12_limit 29 = .ok (.iload_n 2, 1) := dec_of da_X12_limit_0 (k := 17) rfl
theorem dX12_limit_30 : decode cX12_limit 30 = .ok (.ireturn, 1) := dec_of da_X12_limit_0 (k := 18) rfl
def dl_X12_draw_0 : List (Nat × (Instr × Nat)) := [(0, (.aload_n 0, 1)), (1, (.iconst 0, 1)), (2, (.putfield 287, 3)), (5, (.aload_n 0, 1)), (6, (.getfield 401, 3)), (9, (.aload_n 0, 1)), (10, (.getfield 398, 3)), (13, (.isub, 1)), (14, (.sipush 200, 3)), (17, (.if_icmp .eq 15, 3)), (20, (.iload_n 1, 1)), (21, (.i2l, 1)), (22, (.lconst 0, 1)), (23, (.ldc2_w 603, 3)), (26, (.invokestatic 354, 3)), (29, (.ifCond .ne 5, 3)), (32, (.iconst (-1), 1)), (33, (.ireturn, 1)), (34, (.aload_n 0, 1)), (35, (.getfield 398, 3)), (38, (.ifCond .le 57, 3)), (41, (.aload_n 0, 1)), (42, (.getfield 398, 3)), (45, (.istore_n 2, 1)), (46, (.iload_n 2, 1)), (47, (.aload_n 0, 1)), (48, (.getfield 401, 3)), (51, (.if_icmp .ge 26, 3)), (54, (.aload_n 0, 1)), (55, (.getfield 169, 3)), (58, (.iload_n 2, 1)), (59, (.aload_n 0, 1)), (60, (.getfield 398, 3)), (63, (.isub, 1)), (64, (.aload_n 0, 1)), (65, (.getfield 169, 3)), (68, (.iload_n 2, 1)), (69, (.iaload, 1)), (70, (.iastore, 1)), (71, (.iinc 2 1, 3)), (74, (.goto (-28), 3)), (77, (.aload_n 0, 1)), (78, (.dup, 1)), (79, (.getfield 401, 3)), (82, (.aload_n 0, 1)), (83, (.getfield 398, 3)), (86, (.isub, 1)), (87, (.putfield 401, 3)), (90, (.aload_n 0, 1)), (91, (.iconst 0, 1)), (92, (.putfield 398, 3)), (95, (.aload_n 0, 1)), (96, (.getfield 169, 3)), (99, (.aload_n 0, 1)), (100, (.getfield 401, 3)), (103, (.iload_n 1, 1)), (104, (.iastore, 1)), (105, (.aload_n 0, 1)), (106, (.dup, 1)), (107, (.getfield 401, 3))]
set_option maxRecDepth 100000 in
theorem da_X12_draw_0 : dl_X12_draw_0.all (fun q => decide (decode cX12_draw q.1 = .ok q.2)) = true := by decide +kernel
theorem dX12_draw_0 : decode cX12_draw 0 = .ok (.aload_n 0, 1) := dec_of da_X12_draw_0 (k := 0) rfl
theorem dX12_draw_1 : decode cX12_draw 1 = .ok (.iconst 0, 1) := dec_of da_X12_draw_0 (k := 1) rfl
theorem dX12_draw_2 : decode cX12_draw 2 = .ok (.putfield 287, 3) := dec_of da_X12_draw_0 (k := 2) rfl
theorem dX12_draw_5 : decode cX12_draw 5 = .ok (.aload_n 0, 1) := dec_of da_X12_draw_0 (k := 3) rfl
theorem dX12_draw_6 : decode cX12_draw 6 = .ok (.getfield 401, 3) := dec_of da_X12_draw_0 (k := 4) rfl
theorem dX12_draw_9 : decode cX12_draw 9 = .ok (.aload_n 0, 1) := dec_of da_X12_draw_0 (k := 5) rfl
theorem dX12_draw_10 : decode cX12_draw 10 = .ok (.getfield 398, 3) := dec_of da_X12_draw_0 (k := 6) rfl
theorem dX12_draw_13 : decode cX12_draw 13 = .ok (.isub, 1) := dec_of da_X12_draw_0 (k := 7) rfl
theorem dX12_draw_14 : decode cX12_draw 14 = .ok (.sipush 200, 3) := dec_of da_X12_draw_0 (k := 8) rfl
theorem dX12_draw_17 : decode cX12_draw 17 = .ok (.if_icmp .eq 15, 3) := dec_of da_X12_draw_0 (k := 9) rfl
theorem dX12_draw_20 : decode cX12_draw 20 = .ok (.iload_n 1, 1) := dec_of da_X12_draw_0 (k := 10) rfl
theorem dX12_draw_21 : decode cX12_draw 21 = .ok (.i2l, 1) := dec_of da_X12_draw_0 (k := 11) rfl
theorem dX12_draw_22 : decode cX12_draw 22 = .ok (.lconst 0, 1) := dec_of da_X12_draw_0 (k := 12) rfl
theorem dX12_draw_23 : decode cX12_draw 23 = .ok (.ldc2_w 603, 3) := dec_of da_X12_draw_0 (k := 13) rfl
theorem dX12_draw_26 : decode cX12_draw 26 = .ok (.invokestatic 354, 3) := dec_of da_X12_draw_0 (k := 14) rfl
theorem dX12_draw_29 : decode cX12_draw 29 = .ok (.ifCond .ne 5, 3) := dec_of da_X12_draw_0 (k := 15) rfl
theorem dX12_draw_32 : decode cX12_draw 32 = .ok (.iconst (-1), 1) := dec_of da_X12_draw_0 (k := 16) rfl
theorem dX12_draw_33 : decode cX12_draw 33 = .ok (.ireturn, 1) := dec_of da_X12_draw_0 (k := 17) rfl
theorem dX12_draw_34 : decode cX12_draw 34 = .ok (.aload_n 0, 1) := dec_of da_X12_draw_0 (k := 18) rfl
theorem dX12_draw_35 : decode cX12_draw 35 = .ok (.getfield 398, 3) := dec_of da_X12_draw_0 (k := 19) rfl
theorem dX12_draw_38 : decode cX12_draw 38 = .ok (.ifCond .le 57, 3) := dec_of da_X12_draw_0 (k := 20) rfl
theorem dX12_draw_41 : decode cX12_draw 41 = .ok (.aload_n 0, 1) := dec_of da_X12_draw_0 (k := 21) rfl
theorem dX12_draw_42 : decode cX12_draw 42 = .ok (.getfield 398, 3) := dec_of da_X12_draw_0 (k := 22) rfl
theorem dX12_draw_45 : decode cX12_draw 45 = .ok (.istore_n 2, 1) := dec_of da_X12_draw_0 (k := 23) rfl
theorem dX12_draw_46 : decode cX12_draw 46 = .ok (.iload_n 2, 1) := dec_of da_X12_draw_0 (k := 24) rfl
theorem dX12_draw_47 : decode cX12_draw 47 = .ok (.aload_n 0, 1) := dec_of da_X12_draw_0 (k := 25) rfl
theorem dX12_draw_48 : decode cX12_draw 48 = .ok (.getfield 401, 3) := dec_of da_X12_draw_0 (k := 26) rfl
theorem dX12_draw_51 : decode cX12_draw 51 = .ok (.if_icmp .ge 26, 3) := dec_of da_X12_draw_0 (k := 27) rfl
theorem dX12_draw_54 : decode cX12_draw 54 = .ok (.aload_n 0, 1) := dec_of da_X12_draw_0 (k := 28) rfl
theorem dX12_draw_55 : decode cX12_draw 55 = .ok (.getfield 169, 3) := dec_of da_X12_draw_0 (k := 29) rfl
theorem dX12_draw_58 : decode cX12_draw 58 = .ok (.iload_n 2, 1) := dec_of da_X12_draw_0 (k := 30) rfl
theorem dX12_draw_59 : decode cX12_draw 59 = .ok (.aload_n 0, 1) := dec_of da_X12_draw_0 (k := 31) rfl
theorem dX12_draw_60 : decode cX12_draw 60 = .ok (.getfield 398, 3) := dec_of da_X12_draw_0 (k := 32) rfl
theorem dX12_draw_63 : decode cX12_draw 63 = .ok (.isub, 1) := dec_of da_X12_draw_0 (k := 33) rfl
theorem dX12_draw_64 : decode cX12_draw 64 = .ok (.aload_n 0, 1) := dec_of da_X12_draw_0 (k := 34) rfl
theorem dX12_draw_65 : decode cX12_draw 65 = .ok (.getfield 169, 3) := dec_of da_X12_draw_0 (k := 35) rfl
theorem dX12_draw_68 : decode cX12_draw 68 = .ok (.iload_n 2, 1) := dec_of da_X12_draw_0 (k := 36) rfl
theorem dX12_draw_69 : decode cX12_draw 69 = .ok (.iaload, 1) := dec_of da_X12_draw_0 (k := 37) rfl
theorem dX12_draw_70 : decode cX12_draw 70 = .ok (.iastore, 1) := dec_of da_X12_draw_0 (k := 38) rfl
theorem dX12_draw_71 : decode cX12_draw 71 = .ok (.iinc 2 1, 3) := dec_of da_X12_draw_0 (k := 39) rfl
theorem dX12_draw_74 : decode cX12_draw 74 = .ok (.goto (-28), 3) := dec_of da_X12_draw_0 (k := 40) rfl
theorem dX12_draw_77 : decode cX12_draw 77 = .ok (.aload_n 0, 1) := dec_of da_X12_draw_0 (k := 41) rfl
theorem dX12_draw_78 : decode cX12_draw 78 = .ok (.dup, 1) := dec_of da_X12_draw_0 (k := 42) rfl
theorem dX12_draw_79 : decode cX12_draw 79 = .ok (.getfield 401, 3) := dec_of da_X12_draw_0 (k := 43) rfl
theorem dX12_draw_82 : decode cX12_draw 82 = .ok (.aload_n 0, 1) := dec_of da_X12_draw_0 (k := 44) rfl
theorem dX12_draw_83 : decode cX12_draw 83 = .ok (.getfield 398, 3) := dec_of da_X12_draw_0 (k := 45) rfl
theorem dX12_draw_86 : decode cX12_draw 86 = .ok (.isub, 1) := dec_of da_X12_draw_0 (k := 46) rfl
theorem dX12_draw_87 : decode cX12_draw 87 = .ok (.putfield 401, 3) := dec_of da_X12_draw_0 (k := 47) rfl
theorem dX12_draw_90 : decode cX12_draw 90 = .ok (.aload_n 0, 1) := dec_of da_X12_draw_0 (k := 48) rfl
theorem dX12_draw_91 : decode cX12_draw 91 = .ok (.iconst 0, 1) := dec_of da_X12_draw_0 (k := 49) rfl
theorem dX12_draw_92 : decode cX12_draw 92 = .ok (.putfield 398, 3) := dec_of da_X12_draw_0 (k := 50) rfl
theorem dX12_draw_95 : decode cX12_draw 95 = .ok (.aload_n 0, 1) := dec_of da_X12_draw_0 (k := 51) rfl
theorem dX12_draw_96 : decode cX12_draw 96 = .ok (.getfield 169, 3) := dec_of da_X12_draw_0 (k := 52) rfl
theorem dX12_draw_99 : decode cX12_draw 99 = .ok (.aload_n 0, 1) := dec_of da_X12_draw_0 (k := 53) rfl
theorem dX12_draw_100 : decode cX12_draw 100 = .ok (.getfield 401, 3) := dec_of da_X12_draw_0 (k := 54) rfl
theorem dX12_draw_103 : decode cX12_draw 103 = .ok (.iload_n 1, 1) := dec_of da_X12_draw_0 (k := 55) rfl
theorem dX12_draw_104 : decode cX12_draw 104 = .ok (.iastore, 1) := dec_of da_X12_draw_0 (k := 56) rfl
theorem dX12_draw_105 : decode cX12_draw 105 = .ok (.aload_n 0, 1) := dec_of da_X12_draw_0 (k := 57) rfl
theorem dX12_draw_106 : decode cX12_draw 106 = .ok (.dup, 1) := dec_of da_X12_draw_0 (k := 58) rfl
theorem dX12_draw_107 : decode cX12_draw 107 = .ok (.getfield 401, 3) := dec_of da_X12_draw_0 (k := 59) rfl
def dl_X12_draw_1 : List (Nat × (Instr × Nat)) := [(110, (.iconst 1, 1)), (111, (.iadd, 1)), (112, (.putfield 401, 3)), (115, (.aload_n 0, 1)), (116, (.getfield 401, 3)), (119, (.ireturn, 1))]
set_option maxRecDepth 100000 in
theorem da_X12_draw_1 : dl_X12_draw_1.all (fun q => decide (decode cX12_draw q.1 = .ok q.2)) = true := by decide +kernel
theorem dX12_draw_110 : decode cX12_draw 110 = .ok (.iconst 1, 1) := dec_of da_X12_draw_1 (k := 0) rfl
theorem dX12_draw_111 : decode cX12_draw 111 = .ok (.iadd, 1) := dec_of da_X12_draw_1 (k := 1) rfl
theorem dX12_draw_112 : decode cX12_draw 112 = .ok (.putfield 401, 3) := dec_of da_X12_draw_1 (k := 2) rfl
theorem dX12_draw_115 : decode cX12_draw 115 = .ok (.aload_n 0, 1) := dec_of da_X12_draw_1 (k := 3) rfl
theorem dX12_draw_116 : decode cX12_draw 116 = .ok (.getfield 401, 3) := dec_of da_X12_draw_1 (k := 4) rfl
theorem dX12_draw_119 : decode cX12_draw 119 = .ok (.ireturn, 1) := dec_of da_X12_draw_1 (k := 5) rfl
def dl_X12_noise_0 : List (Nat × (Instr × Nat)) := [(0, (.aload_n 0, 1)), (1, (.iconst 0, 1)), (2, (.putfield 287, 3)), (5, (.aload_n 0, 1)), (6, (.getfield 479, 3)), (9, (.bipush 30, 2)), (11, (.if_icmp .eq 28, 3)), (14, (.iload_n 1, 1)), (15, (.aload_n 0, 1)), (16, (.getfield 454, 3)), (19, (.if_icmp .lt 20, 3)), (22, (.iload_n 2, 1)), (23, (.iload_n 1, 1)), (24, (.if_icmp .lt 15, 3)), (27, (.iload_n 2, 1)), (28, (.i2l, 1)), (29, (.iload_n 1, 1)), (30, (.i2l, 1)), (31, (.lsub, 1)), (32, (.ldc2_w 605, 3)), (35, (.lcmp, 1)), (36, (.ifCond .lt 5, 3)), (39, (.iconst (-1), 1)), (40, (.ireturn, 1)), (41, (.aload_n 0, 1)), (42, (.getfield 236, 3)), (45, (.aload_n 0, 1)), (46, (.getfield 479, 3)), (49, (.iload_n 1, 1)), (50, (.iastore, 1)), (51, (.aload_n 0, 1)), (52, (.getfield 239, 3)), (55, (.aload_n 0, 1)), (56, (.getfield 479, 3)), (59, (.iload_n 2, 1)), (60, (.iastore, 1)), (61, (.aload_n 0, 1)), (62, (.dup, 1)), (63, (.getfield 479, 3)), (66, (.iconst 1, 1)), (67, (.iadd, 1)), (68, (.putfield 479, 3)), (71, (.aload_n 0, 1)), (72, (.getfield 479, 3)), (75, (.ireturn, 1))]
set_option maxRecDepth 100000 in
theorem da_X12_noise_0 : dl_X12_noise_0.all (fun q => decide (decode cX12_noise q.1 = .ok q.2)) = true := by decide +kernel
theorem dX12_noise_0 : decode cX12_noise 0 = .ok (.aload_n 0, 1) := dec_of da_X12_noise_0 (k := 0) rfl
theorem dX12_noise_1 : decode cX12_noise 1 = .ok (.iconst 0, 1) := dec_of da_X12_noise_0 (k := 1) rfl
theorem dX12_noise_2 : decode cX12_noise 2 = .ok (.putfield 287, 3) := dec_of da_X12_noise_0 (k := 2) rfl
theorem dX12_noise_5 : decode cX12_noise 5 = .ok (.aload_n 0, 1) := dec_of da_X12_noise_0 (k := 3) rfl
theorem dX12_noise_6 : decode cX12_noise 6 = .ok (.getfield 479, 3) := dec_of da_X12_noise_0 (k := 4) rfl
theorem dX12_noise_9 : decode cX12_noise 9 = .ok (.bipush 30, 2) := dec_of da_X12_noise_0 (k := 5) rfl
theorem dX12_noise_11 : decode cX12_noise 11 = .ok (.if_icmp .eq 28, 3) := dec_of da_X12_noise_0 (k := 6) rfl
theorem dX12_noise_14 : decode cX12_noise 14 = .ok (.iload_n 1, 1) := dec_of da_X12_noise_0 (k := 7) rfl
theorem dX12_noise_15 : decode cX12_noise 15 = .ok (.aload_n 0, 1) := dec_of da_X12_noise_0 (k := 8) rfl
theorem dX12_noise_16 : decode cX12_noise 16 = .ok (.getfield 454, 3) := dec_of da_X12_noise_0 (k := 9) rfl
theorem dX12_noise_19 : decode cX12_noise 19 = .ok (.if_icmp .lt 20, 3) := dec_of da_X12_noise_0 (k := 10) rfl
theorem dX12_noise_22 : decode cX12_noise 22 = .ok (.iload_n 2, 1) := dec_of da_X12_noise_0 (k := 11) rfl
theorem dX12_noise_23 : decode cX12_noise 23 = .ok (.iload_n 1, 1) := dec_of da_X12_noise_0 (k := 12) rfl
theorem dX12_noise_24 : decode cX12_noise 24 = .ok (.if_icmp .lt 15, 3) := dec_of da_X12_noise_0 (k := 13) rfl
theorem dX12_noise_27 : decode cX12_noise 27 = .ok (.iload_n 2, 1) := dec_of da_X12_noise_0 (k := 14) rfl
theorem dX12_noise_28 : decode cX12_noise 28 = .ok (.i2l, 1) := dec_of da_X12_noise_0 (k := 15) rfl
theorem dX12_noise_29 : decode cX12_noise 29 = .ok (.iload_n 1, 1) := dec_of da_X12_noise_0 (k := 16) rfl
theorem dX12_noise_30 : decode cX12_noise 30 = .ok (.i2l, 1) := dec_of da_X12_noise_0 (k := 17) rfl
theorem dX12_noise_31 : decode cX12_noise 31 = .ok (.lsub, 1) := dec_of da_X12_noise_0 (k := 18) rfl
theorem dX12_noise_32 : decode cX12_noise 32 = .ok (.ldc2_w 605, 3) := dec_of da_X12_noise_0 (k := 19) rfl
theorem dX12_noise_35 : decode cX12_noise 35 = .ok (.lcmp, 1) := dec_of da_X12_noise_0 (k := 20) rfl
theorem dX12_noise_36 : decode cX12_noise 36 = .ok (.ifCond .lt 5, 3) := dec_of da_X12_noise_0 (k := 21) rfl
theorem dX12_noise_39 : decode cX12_noise 39 = .ok (.iconst (-1), 1) := dec_of da_X12_noise_0 (k := 22) rfl
theorem dX12_noise_40 : decode cX12_noise 40 = .ok (.ireturn, 1) := dec_of da_X12_noise_0 (k := 23) rfl
theorem dX12_noise_41 : decode cX12_noise 41 = .ok (.aload_n 0, 1) := dec_of da_X12_noise_0 (k := 24) rfl
theorem dX12_noise_42 : decode cX12_noise 42 = .ok (.getfield 236, 3) := dec_of da_X12_noise_0 (k := 25) rfl
theorem dX12_noise_45 : decode cX12_noise 45 = .ok (.aload_n 0, 1) := dec_of da_X12_noise_0 (k := 26) rfl
theorem dX12_noise_46 : decode cX12_noise 46 = .ok (.getfield 479, 3) := dec_of da_X12_noise_0 (k := 27) rfl
theorem dX12_noise_49 : decode cX12_noise 49 = .ok (.iload_n 1, 1) := dec_of da_X12_noise_0 (k := 28) rfl
theorem dX12_noise_50 : decode cX12_noise 50 = .ok (.iastore, 1) := dec_of da_X12_noise_0 (k := 29) rfl
theorem dX12_noise_51 : decode cX12_noise 51 = .ok (.aload_n 0, 1) := dec_of da_X12_noise_0 (k := 30) rfl
theorem dX12_noise_52 : decode cX12_noise 52 = .ok (.getfield 239, 3) := dec_of da_X12_noise_0 (k := 31) rfl
theorem dX12_noise_55 : decode cX12_noise 55 = .ok (.aload_n 0, 1) := dec_of da_X12_noise_0 (k := 32) rfl
theorem dX12_noise_56 : decode cX12_noise 56 = .ok (.getfield 479, 3) := dec_of da_X12_noise_0 (k := 33) rfl
theorem dX12_noise_59 : decode cX12_noise 59 = .ok (.iload_n 2, 1) := dec_of da_X12_noise_0 (k := 34) rfl
theorem dX12_noise_60 : decode cX12_noise 60 = .ok (.iastore, 1) := dec_of da_X12_noise_0 (k := 35) rfl
theorem dX12_noise_61 : decode cX12_noise 61 = .ok (.aload_n 0, 1) := dec_of da_X12_noise_0 (k := 36) rfl
theorem dX12_noise_62 : decode cX12_noise 62 = .ok (.dup, 1) := dec_of da_X12_noise_0 (k := 37) rfl
theorem dX12_noise_63 : decode cX12_noise 63 = .ok (.getfield 479, 3) := dec_of da_X12_noise_0 (k := 38) rfl
theorem dX12_noise_66 : decode cX12_noise 66 = .ok (.iconst 1, 1) := dec_of da_X12_noise_0 (k := 39) rfl
theorem dX12_noise_67 : decode cX12_noise 67 = .ok (.iadd, 1) := dec_of da_X12_noise_0 (k := 40) rfl
theorem dX12_noise_68 : decode cX12_noise 68 = .ok (.putfield 479, 3) := dec_of da_X12_noise_0 (k := 41) rfl
theorem dX12_noise_71 : decode cX12_noise 71 = .ok (.aload_n 0, 1) := dec_of da_X12_noise_0 (k := 42) rfl
theorem dX12_noise_72 : decode cX12_noise 72 = .ok (.getfield 479, 3) := dec_of da_X12_noise_0 (k := 43) rfl
theorem dX12_noise_75 : decode cX12_noise 75 = .ok (.ireturn, 1) := dec_of da_X12_noise_0 (k := 44) rfl
def dl_X12_put_0 : List (Nat × (Instr × Nat)) := [(0, (.aload_n 0, 1)), (1, (.iconst 0, 1)), (2, (.putfield 287, 3)), (5, (.aload_n 0, 1)), (6, (.getfield 476, 3)), (9, (.bipush 20, 2)), (11, (.if_icmp .eq 18, 3)), (14, (.iload_n 1, 1)), (15, (.aload_n 0, 1)), (16, (.getfield 454, 3)), (19, (.if_icmp .lt 10, 3)), (22, (.aload_n 0, 1)), (23, (.getfield 346, 3)), (26, (.ifCond .ne 5, 3)), (29, (.iconst (-1), 1)), (30, (.ireturn, 1)), (31, (.aload_n 0, 1)), (32, (.getfield 242, 3)), (35, (.aload_n 0, 1)), (36, (.getfield 476, 3)), (39, (.iload_n 1, 1)), (40, (.iastore, 1)), (41, (.aload_n 0, 1)), (42, (.getfield 245, 3)), (45, (.aload_n 0, 1)), (46, (.getfield 476, 3)), (49, (.aload_n 0, 1)), (50, (.getfield 346, 3)), (53, (.iastore, 1)), (54, (.iconst 0, 1)), (55, (.istore_n 2, 1)), (56, (.iload_n 2, 1)), (57, (.aload_n 0, 1)), (58, (.getfield 346, 3)), (61, (.if_icmp .ge 30, 3)), (64, (.aload_n 0, 1)), (65, (.getfield 248, 3)), (68, (.sipush 300, 3)), (71, (.aload_n 0, 1)), (72, (.getfield 476, 3)), (75, (.imul, 1)), (76, (.iload_n 2, 1)), (77, (.iadd, 1)), (78, (.aload_n 0, 1)), (79, (.getfield 52, 3)), (82, (.iload_n 2, 1)), (83, (.iaload, 1)), (84, (.iastore, 1)), (85, (.iinc 2 1, 3)), (88, (.goto (-32), 3)), (91, (.aload_n 0, 1)), (92, (.dup, 1)), (93, (.getfield 476, 3)), (96, (.iconst 1, 1)), (97, (.iadd, 1)), (98, (.putfield 476, 3)), (101, (.aload_n 0, 1)), (102, (.iconst 0, 1)), (103, (.putfield 346, 3)), (106, (.aload_n 0, 1))]
set_option maxRecDepth 100000 in
theorem da_X12_put_0 : dl_X12_put_0.all (fun q => decide (decode cX12_put q.1 = .ok q.2)) = true := by decide +kernel
theorem dX12_put_0 : decode cX12_put 0 = .ok (.aload_n 0, 1) := dec_of da_X12_put_0 (k := 0) rfl
theorem dX12_put_1 : decode cX12_put 1 = .ok (.iconst 0, 1) := dec_of da_X12_put_0 (k := 1) rfl
theorem dX12_put_2 : decode cX12_put 2 = .ok (.putfield 287, 3) := dec_of da_X12_put_0 (k := 2) rfl
theorem dX12_put_5 : decode cX12_put 5 = .ok (.aload_n 0, 1) := dec_of da_X12_put_0 (k := 3) rfl
theorem dX12_put_6 : decode cX12_put 6 = .ok (.getfield 476, 3) := dec_of da_X12_put_0 (k := 4) rfl
theorem dX12_put_9 : decode cX12_put 9 = .ok (.bipush 20, 2) := dec_of da_X12_put_0 (k := 5) rfl
theorem dX12_put_11 : decode cX12_put 11 = .ok (.if_icmp .eq 18, 3) := dec_of da_X12_put_0 (k := 6) rfl
theorem dX12_put_14 : decode cX12_put 14 = .ok (.iload_n 1, 1) := dec_of da_X12_put_0 (k := 7) rfl
theorem dX12_put_15 : decode cX12_put 15 = .ok (.aload_n 0, 1) := dec_of da_X12_put_0 (k := 8) rfl
theorem dX12_put_16 : decode cX12_put 16 = .ok (.getfield 454, 3) := dec_of da_X12_put_0 (k := 9) rfl
theorem dX12_put_19 : decode cX12_put 19 = .ok (.if_icmp .lt 10, 3) := dec_of da_X12_put_0 (k := 10) rfl
theorem dX12_put_22 : decode cX12_put 22 = .ok (.aload_n 0, 1) := dec_of da_X12_put_0 (k := 11) rfl
theorem dX12_put_23 : decode cX12_put 23 = .ok (.getfield 346, 3) := dec_of da_X12_put_0 (k := 12) rfl
theorem dX12_put_26 : decode cX12_put 26 = .ok (.ifCond .ne 5, 3) := dec_of da_X12_put_0 (k := 13) rfl
theorem dX12_put_29 : decode cX12_put 29 = .ok (.iconst (-1), 1) := dec_of da_X12_put_0 (k := 14) rfl
theorem dX12_put_30 : decode cX12_put 30 = .ok (.ireturn, 1) := dec_of da_X12_put_0 (k := 15) rfl
theorem dX12_put_31 : decode cX12_put 31 = .ok (.aload_n 0, 1) := dec_of da_X12_put_0 (k := 16) rfl
theorem dX12_put_32 : decode cX12_put 32 = .ok (.getfield 242, 3) := dec_of da_X12_put_0 (k := 17) rfl
theorem dX12_put_35 : decode cX12_put 35 = .ok (.aload_n 0, 1) := dec_of da_X12_put_0 (k := 18) rfl
theorem dX12_put_36 : decode cX12_put 36 = .ok (.getfield 476, 3) := dec_of da_X12_put_0 (k := 19) rfl
theorem dX12_put_39 : decode cX12_put 39 = .ok (.iload_n 1, 1) := dec_of da_X12_put_0 (k := 20) rfl
theorem dX12_put_40 : decode cX12_put 40 = .ok (.iastore, 1) := dec_of da_X12_put_0 (k := 21) rfl
theorem dX12_put_41 : decode cX12_put 41 = .ok (.aload_n 0, 1) := dec_of da_X12_put_0 (k := 22) rfl
theorem dX12_put_42 : decode cX12_put 42 = .ok (.getfield 245, 3) := dec_of da_X12_put_0 (k := 23) rfl
theorem dX12_put_45 : decode cX12_put 45 = .ok (.aload_n 0, 1) := dec_of da_X12_put_0 (k := 24) rfl
theorem dX12_put_46 : decode cX12_put 46 = .ok (.getfield 476, 3) := dec_of da_X12_put_0 (k := 25) rfl
theorem dX12_put_49 : decode cX12_put 49 = .ok (.aload_n 0, 1) := dec_of da_X12_put_0 (k := 26) rfl
theorem dX12_put_50 : decode cX12_put 50 = .ok (.getfield 346, 3) := dec_of da_X12_put_0 (k := 27) rfl
theorem dX12_put_53 : decode cX12_put 53 = .ok (.iastore, 1) := dec_of da_X12_put_0 (k := 28) rfl
theorem dX12_put_54 : decode cX12_put 54 = .ok (.iconst 0, 1) := dec_of da_X12_put_0 (k := 29) rfl
theorem dX12_put_55 : decode cX12_put 55 = .ok (.istore_n 2, 1) := dec_of da_X12_put_0 (k := 30) rfl
theorem dX12_put_56 : decode cX12_put 56 = .ok (.iload_n 2, 1) := dec_of da_X12_put_0 (k := 31) rfl
theorem dX12_put_57 : decode cX12_put 57 = .ok (.aload_n 0, 1) := dec_of da_X12_put_0 (k := 32) rfl
theorem dX12_put_58 : decode cX12_put 58 = .ok (.getfield 346, 3) := dec_of da_X12_put_0 (k := 33) rfl
theorem dX12_put_61 : decode cX12_put 61 = .ok (.if_icmp .ge 30, 3) := dec_of da_X12_put_0 (k := 34) rfl
theorem dX12_put_64 : decode cX12_put 64 = .ok (.aload_n 0, 1) := dec_of da_X12_put_0 (k := 35) rfl
theorem dX12_put_65 : decode cX12_put 65 = .ok (.getfield 248, 3) := dec_of da_X12_put_0 (k := 36) rfl
theorem dX12_put_68 : decode cX12_put 68 = .ok (.sipush 300, 3) := dec_of da_X12_put_0 (k := 37) rfl
theorem dX12_put_71 : decode cX12_put 71 = .ok (.aload_n 0, 1) := dec_of da_X12_put_0 (k := 38) rfl
theorem dX12_put_72 : decode cX12_put 72 = .ok (.getfield 476, 3) := dec_of da_X12_put_0 (k := 39) rfl
theorem dX12_put_75 : decode cX12_put 75 = .ok (.imul, 1) := dec_of da_X12_put_0 (k := 40) rfl
theorem dX12_put_76 : decode cX12_put 76 = .ok (.iload_n 2, 1) := dec_of da_X12_put_0 (k := 41) rfl
theorem dX12_put_77 : decode cX12_put 77 = .ok (.iadd, 1) := dec_of da_X12_put_0 (k := 42) rfl
theorem dX12_put_78 : decode cX12_put 78 = .ok (.aload_n 0, 1) := dec_of da_X12_put_0 (k := 43) rfl
theorem dX12_put_79 : decode cX12_put 79 = .ok (.getfield 52, 3) := dec_of da_X12_put_0 (k := 44) rfl
theorem dX12_put_82 : decode cX12_put 82 = .ok (.iload_n 2, 1) := dec_of da_X12_put_0 (k := 45) rfl
theorem dX12_put_83 : decode cX12_put 83 = .ok (.iaload, 1) := dec_of da_X12_put_0 (k := 46) rfl
theorem dX12_put_84 : decode cX12_put 84 = .ok (.iastore, 1) := dec_of da_X12_put_0 (k := 47) rfl
theorem dX12_put_85 : decode cX12_put 85 = .ok (.iinc 2 1, 3) := dec_of da_X12_put_0 (k := 48) rfl
theorem dX12_put_88 : decode cX12_put 88 = .ok (.goto (-32), 3) := dec_of da_X12_put_0 (k := 49) rfl
theorem dX12_put_91 : decode cX12_put 91 = .ok (.aload_n 0, 1) := dec_of da_X12_put_0 (k := 50) rfl
theorem dX12_put_92 : decode cX12_put 92 = .ok (.dup, 1) := dec_of da_X12_put_0 (k := 51) rfl
theorem dX12_put_93 : decode cX12_put 93 = .ok (.getfield 476, 3) := dec_of da_X12_put_0 (k := 52) rfl
theorem dX12_put_96 : decode cX12_put 96 = .ok (.iconst 1, 1) := dec_of da_X12_put_0 (k := 53) rfl
theorem dX12_put_97 : decode cX12_put 97 = .ok (.iadd, 1) := dec_of da_X12_put_0 (k := 54) rfl
theorem dX12_put_98 : decode cX12_put 98 = .ok (.putfield 476, 3) := dec_of da_X12_put_0 (k := 55) rfl
theorem dX12_put_101 : decode cX12_put 101 = .ok (.aload_n 0, 1) := dec_of da_X12_put_0 (k := 56) rfl
theorem dX12_put_102 : decode cX12_put 102 = .ok (.iconst 0, 1) := dec_of da_X12_put_0 (k := 57) rfl
theorem dX12_put_103 : decode cX12_put 103 = .ok (.putfield 346, 3) := dec_of da_X12_put_0 (k := 58) rfl
theorem dX12_put_106 : decode cX12_put 106 = .ok (.aload_n 0, 1) := dec_of da_X12_put_0 (k := 59) rfl
def dl_X12_put_1 : List (Nat × (Instr × Nat)) := [(107, (.getfield 476, 3)), (110, (.ireturn, 1))]
set_option maxRecDepth 100000 in
theorem da_X12_put_1 : dl_X12_put_1.all (fun q => decide (decode cX12_put q.1 = .ok q.2)) = true := by decide +kernel
theorem dX12_put_107 : decode cX12_put 107 = .ok (.getfield 476, 3) := dec_of da_X12_put_1 (k := 0) rfl
theorem dX12_put_110 : decode cX12_put 110 = .ok (.ireturn, 1) := dec_of da_X12_put_1 (k := 1) rfl
def dl_X12_join_0 : List (Nat × (Instr × Nat)) := [(0, (.aload_n 0, 1)), (1, (.iconst 0, 1)), (2, (.putfield 287, 3)), (5, (.iload_n 1, 1)), (6, (.invokestatic 361, 3)), (9, (.ifCond .ne 5, 3)), (12, (.iconst (-1), 1)), (13, (.ireturn, 1)), (14, (.aload_n 0, 1)), (15, (.getfield 61, 3)), (18, (.iload_n 1, 1)), (19, (.iconst 1, 1)), (20, (.iastore, 1)), (21, (.aload_n 0, 1)), (22, (.iload_n 1, 1)), (23, (.invokevirtual 548, 3)), (26, (.aload_n 0, 1)), (27, (.getfield 67, 3)), (30, (.iload_n 1, 1)), (31, (.iconst 1, 1)), (32, (.bastore, 1)), (33, (.aload_n 0, 1)), (34, (.iconst 0, 1)), (35, (.putfield 404, 3)), (38, (.iconst 0, 1)), (39, (.istore_n 2, 1)), (40, (.iload_n 2, 1)), (41, (.bipush 6, 2)), (43, (.if_icmp .ge 23, 3)), (46, (.aload_n 0, 1)), (47, (.iload_n 2, 1)), (48, (.iconst 2, 1)), (49, (.if_icmp .ne 7, 3)), (52, (.iconst 1, 1)), (53, (.goto 4, 3)), (56, (.iconst 0, 1)), (57, (.invokevirtual 534, 3)), (60, (.iinc 2 1, 3)), (63, (.goto (-23), 3)), (66, (.aload_n 0, 1)), (67, (.iload_n 1, 1)), (68, (.sipush 176, 3)), (71, (.iconst 0, 1)), (72, (.iconst 0, 1)), (73, (.iconst (-1), 1)), (74, (.invokevirtual 540, 3)), (77, (.iconst 0, 1)), (78, (.ireturn, 1))]
set_option maxRecDepth 100000 in
theorem da_X12_join_0 : dl_X12_join_0.all (fun q => decide (decode cX12_join q.1 = .ok q.2)) = true := by decide +kernel
theorem dX12_join_0 : decode cX12_join 0 = .ok (.aload_n 0, 1) := dec_of da_X12_join_0 (k := 0) rfl
theorem dX12_join_1 : decode cX12_join 1 = .ok (.iconst 0, 1) := dec_of da_X12_join_0 (k := 1) rfl
theorem dX12_join_2 : decode cX12_join 2 = .ok (.putfield 287, 3) := dec_of da_X12_join_0 (k := 2) rfl
theorem dX12_join_5 : decode cX12_join 5 = .ok (.iload_n 1, 1) := dec_of da_X12_join_0 (k := 3) rfl
theorem dX12_join_6 : decode cX12_join 6 = .ok (.invokestatic 361, 3) := dec_of da_X12_join_0 (k := 4) rfl
theorem dX12_join_9 : decode cX12_join 9 = .ok (.ifCond .ne 5, 3) := dec_of da_X12_join_0 (k := 5) rfl
theorem dX12_join_12 : decode cX12_join 12 = .ok (.iconst (-1), 1) := dec_of da_X12_join_0 (k := 6) rfl
theorem dX12_join_13 : decode cX12_join 13 = .ok (.ireturn, 1) := dec_of da_X12_join_0 (k := 7) rfl
theorem dX12_join_14 : decode cX12_join 14 = .ok (.aload_n 0, 1) := dec_of da_X12_join_0 (k := 8) rfl
theorem dX12_join_15 : decode cX12_join 15 = .ok (.getfield 61, 3) := dec_of da_X12_join_0 (k := 9) rfl
theorem dX12_join_18 : decode cX12_join 18 = .ok (.iload_n 1, 1) := dec_of da_X12_join_0 (k := 10) rfl
theorem dX12_join_19 : decode cX12_join 19 = .ok (.iconst 1, 1) := dec_of da_X12_join_0 (k := 11) rfl
theorem dX12_join_20 : decode cX12_join 20 = .ok (.iastore, 1) := dec_of da_X12_join_0 (k := 12) rfl
theorem dX12_join_21 : decode cX12_join 21 = .ok (.aload_n 0, 1) := dec_of da_X12_join_0 (k := 13) rfl
theorem dX12_join_22 : decode cX12_join 22 = .ok (.iload_n 1, 1) := dec_of da_X12_join_0 (k := 14) rfl
theorem dX12_join_23 : decode cX12_join 23 = .ok (.invokevirtual 548, 3) := dec_of da_X12_join_0 (k := 15) rfl
theorem dX12_join_26 : decode cX12_join 26 = .ok (.aload_n 0, 1) := dec_of da_X12_join_0 (k := 16) rfl
theorem dX12_join_27 : decode cX12_join 27 = .ok (.getfield 67, 3) := dec_of da_X12_join_0 (k := 17) rfl
theorem dX12_join_30 : decode cX12_join 30 = .ok (.iload_n 1, 1) := dec_of da_X12_join_0 (k := 18) rfl
theorem dX12_join_31 : decode cX12_join 31 = .ok (.iconst 1, 1) := dec_of da_X12_join_0 (k := 19) rfl
theorem dX12_join_32 : decode cX12_join 32 = .ok (.bastore, 1) := dec_of da_X12_join_0 (k := 20) rfl
theorem dX12_join_33 : decode cX12_join 33 = .ok (.aload_n 0, 1) := dec_of da_X12_join_0 (k := 21) rfl
theorem dX12_join_34 : decode cX12_join 34 = .ok (.iconst 0, 1) := dec_of da_X12_join_0 (k := 22) rfl
theorem dX12_join_35 : decode cX12_join 35 = .ok (.putfield 404, 3) := dec_of da_X12_join_0 (k := 23) rfl
theorem dX12_join_38 : decode cX12_join 38 = .ok (.iconst 0, 1) := dec_of da_X12_join_0 (k := 24) rfl
theorem dX12_join_39 : decode cX12_join 39 = .ok (.istore_n 2, 1) := dec_of da_X12_join_0 (k := 25) rfl
theorem dX12_join_40 : decode cX12_join 40 = .ok (.iload_n 2, 1) := dec_of da_X12_join_0 (k := 26) rfl
theorem dX12_join_41 : decode cX12_join 41 = .ok (.bipush 6, 2) := dec_of da_X12_join_0 (k := 27) rfl
theorem dX12_join_43 : decode cX12_join 43 = .ok (.if_icmp .ge 23, 3) := dec_of da_X12_join_0 (k := 28) rfl
theorem dX12_join_46 : decode cX12_join 46 = .ok (.aload_n 0, 1) := dec_of da_X12_join_0 (k := 29) rfl
theorem dX12_join_47 : decode cX12_join 47 = .ok (.iload_n 2, 1) := dec_of da_X12_join_0 (k := 30) rfl
theorem dX12_join_48 : decode cX12_join 48 = .ok (.iconst 2, 1) := dec_of da_X12_join_0 (k := 31) rfl
theorem dX12_join_49 : decode cX12_join 49 = .ok (.if_icmp .ne 7, 3) := dec_of da_X12_join_0 (k := 32) rfl
theorem dX12_join_52 : decode cX12_join 52 = .ok (.iconst 1, 1) := dec_of da_X12_join_0 (k := 33) rfl
theorem dX12_join_53 : decode cX12_join 53 = .ok (.goto 4, 3) := dec_of da_X12_join_0 (k := 34) rfl
theorem dX12_join_56 : decode cX12_join 56 = .ok (.iconst 0, 1) := dec_of da_X12_join_0 (k := 35) rfl
theorem dX12_join_57 : decode cX12_join 57 = .ok (.invokevirtual 534, 3) := dec_of da_X12_join_0 (k := 36) rfl
theorem dX12_join_60 : decode cX12_join 60 = .ok (.iinc 2 1, 3) := dec_of da_X12_join_0 (k := 37) rfl
theorem dX12_join_63 : decode cX12_join 63 = .ok (.goto (-23), 3) := dec_of da_X12_join_0 (k := 38) rfl
theorem dX12_join_66 : decode cX12_join 66 = .ok (.aload_n 0, 1) := dec_of da_X12_join_0 (k := 39) rfl
theorem dX12_join_67 : decode cX12_join 67 = .ok (.iload_n 1, 1) := dec_of da_X12_join_0 (k := 40) rfl
theorem dX12_join_68 : decode cX12_join 68 = .ok (.sipush 176, 3) := dec_of da_X12_join_0 (k := 41) rfl
theorem dX12_join_71 : decode cX12_join 71 = .ok (.iconst 0, 1) := dec_of da_X12_join_0 (k := 42) rfl
theorem dX12_join_72 : decode cX12_join 72 = .ok (.iconst 0, 1) := dec_of da_X12_join_0 (k := 43) rfl
theorem dX12_join_73 : decode cX12_join 73 = .ok (.iconst (-1), 1) := dec_of da_X12_join_0 (k := 44) rfl
theorem dX12_join_74 : decode cX12_join 74 = .ok (.invokevirtual 540, 3) := dec_of da_X12_join_0 (k := 45) rfl
theorem dX12_join_77 : decode cX12_join 77 = .ok (.iconst 0, 1) := dec_of da_X12_join_0 (k := 46) rfl
theorem dX12_join_78 : decode cX12_join 78 = .ok (.ireturn, 1) := dec_of da_X12_join_0 (k := 47) rfl
def dl_X12_leave_0 : List (Nat × (Instr × Nat)) := [(0, (.aload_n 0, 1)), (1, (.iconst 0, 1)), (2, (.putfield 287, 3)), (5, (.iload_n 1, 1)), (6, (.invokestatic 361, 3)), (9, (.ifCond .eq 15, 3)), (12, (.iload_n 2, 1)), (13, (.i2l, 1)), (14, (.lconst 0, 1)), (15, (.ldc2_w 352, 3)), (18, (.invokestatic 354, 3)), (21, (.ifCond .ne 5, 3)), (24, (.iconst (-1), 1)), (25, (.ireturn, 1)), (26, (.aload_n 0, 1)), (27, (.getfield 61, 3)), (30, (.iload_n 1, 1)), (31, (.iconst 1, 1)), (32, (.iastore, 1)), (33, (.aload_n 0, 1)), (34, (.iload_n 1, 1)), (35, (.invokevirtual 548, 3)), (38, (.aload_n 0, 1)), (39, (.getfield 67, 3)), (42, (.iload_n 1, 1)), (43, (.iconst 0, 1)), (44, (.bastore, 1)), (45, (.aload_n 0, 1)), (46, (.iload_n 1, 1)), (47, (.iconst 0, 1)), (48, (.iload_n 2, 1)), (49, (.invokevirtual 557, 3)), (52, (.iconst 0, 1)), (53, (.ireturn, 1))]
set_option maxRecDepth 100000 in
theorem da_X12_leave_0 : dl_X12_leave_0.all (fun q => decide (decode cX12_leave q.1 = .ok q.2)) = true := by decide +kernel
theorem dX12_leave_0 : decode cX12_leave 0 = .ok (.aload_n 0, 1) := dec_of da_X12_leave_0 (k := 0) rfl
theorem dX12_leave_1 : decode cX12_leave 1 = .ok (.iconst 0, 1) := dec_of da_X12_leave_0 (k := 1) rfl
theorem dX12_leave_2 : decode cX12_leave 2 = .ok (.putfield 287, 3) := dec_of da_X12_leave_0 (k := 2) rfl
theorem dX12_leave_5 : decode cX12_leave 5 = .ok (.iload_n 1, 1) := dec_of da_X12_leave_0 (k := 3) rfl
theorem dX12_leave_6 : decode cX12_leave 6 = .ok (.invokestatic 361, 3) := dec_of da_X12_leave_0 (k := 4) rfl
theorem dX12_leave_9 : decode cX12_leave 9 = .ok (.ifCond .eq 15, 3) := dec_of da_X12_leave_0 (k := 5) rfl
theorem dX12_leave_12 : decode cX12_leave 12 = .ok (.iload_n 2, 1) := dec_of da_X12_leave_0 (k := 6) rfl
theorem dX12_leave_13 : decode cX12_leave 13 = .ok (.i2l, 1) := dec_of da_X12_leave_0 (k := 7) rfl
theorem dX12_leave_14 : decode cX12_leave 14 = .ok (.lconst 0, 1) := dec_of da_X12_leave_0 (k := 8) rfl
theorem dX12_leave_15 : decode cX12_leave 15 = .ok (.ldc2_w 352, 3) := dec_of da_X12_leave_0 (k := 9) rfl
theorem dX12_leave_18 : decode cX12_leave 18 = .ok (.invokestatic 354, 3) := dec_of da_X12_leave_0 (k := 10) rfl
theorem dX12_leave_21 : decode cX12_leave 21 = .ok (.ifCond .ne 5, 3) := dec_of da_X12_leave_0 (k := 11) rfl
theorem dX12_leave_24 : decode cX12_leave 24 = .ok (.iconst (-1), 1) := dec_of da_X12_leave_0 (k := 12) rfl
theorem dX12_leave_25 : decode cX12_leave 25 = .ok (.ireturn, 1) := dec_of da_X12_leave_0 (k := 13) rfl
theorem dX12_leave_26 : decode cX12_leave 26 = .ok (.aload_n 0, 1) := dec_of da_X12_leave_0 (k := 14) rfl
theorem dX12_leave_27 : decode cX12_leave 27 = .ok (.getfield 61, 3) := dec_of da_X12_leave_0 (k := 15) rfl
theorem dX12_leave_30 : decode cX12_leave 30 = .ok (.iload_n 1, 1) := dec_of da_X12_leave_0 (k := 16) rfl
theorem dX12_leave_31 : decode cX12_leave 31 = .ok (.iconst 1, 1) := dec_of da_X12_leave_0 (k := 17) rfl
theorem dX12_leave_32 : decode cX12_leave 32 = .ok (.iastore, 1) := dec_of da_X12_leave_0 (k := 18) rfl
theorem dX12_leave_33 : decode cX12_leave 33 = .ok (.aload_n 0, 1) := dec_of da_X12_leave_0 (k := 19) rfl
theorem dX12_leave_34 : decode cX12_leave 34 = .ok (.iload_n 1, 1) := dec_of da_X12_leave_0 (k := 20) rfl
theorem dX12_leave_35 : decode cX12_leave 35 = .ok (.invokevirtual 548, 3) := dec_of da_X12_leave_0 (k := 21) rfl
theorem dX12_leave_38 : decode cX12_leave 38 = .ok (.aload_n 0, 1) := dec_of da_X12_leave_0 (k := 22) rfl
theorem dX12_leave_39 : decode cX12_leave 39 = .ok (.getfield 67, 3) := dec_of da_X12_leave_0 (k := 23) rfl
theorem dX12_leave_42 : decode cX12_leave 42 = .ok (.iload_n 1, 1) := dec_of da_X12_leave_0 (k := 24) rfl
theorem dX12_leave_43 : decode cX12_leave 43 = .ok (.iconst 0, 1) := dec_of da_X12_leave_0 (k := 25) rfl
theorem dX12_leave_44 : decode cX12_leave 44 = .ok (.bastore, 1) := dec_of da_X12_leave_0 (k := 26) rfl
theorem dX12_leave_45 : decode cX12_leave 45 = .ok (.aload_n 0, 1) := dec_of da_X12_leave_0 (k := 27) rfl
theorem dX12_leave_46 : decode cX12_leave 46 = .ok (.iload_n 1, 1) := dec_of da_X12_leave_0 (k := 28) rfl
theorem dX12_leave_47 : decode cX12_leave 47 = .ok (.iconst 0, 1) := dec_of da_X12_leave_0 (k := 29) rfl
theorem dX12_leave_48 : decode cX12_leave 48 = .ok (.iload_n 2, 1) := dec_of da_X12_leave_0 (k := 30) rfl
theorem dX12_leave_49 : decode cX12_leave 49 = .ok (.invokevirtual 557, 3) := dec_of da_X12_leave_0 (k := 31) rfl
theorem dX12_leave_52 : decode cX12_leave 52 = .ok (.iconst 0, 1) := dec_of da_X12_leave_0 (k := 32) rfl
theorem dX12_leave_53 : decode cX12_leave 53 = .ok (.ireturn, 1) := dec_of da_X12_leave_0 (k := 33) rfl
def dl_X12_submit_0 : List (Nat × (Instr × Nat)) := [(0, (.aload_n 0, 1)), (1, (.iconst 0, 1)), (2, (.putfield 287, 3)), (5, (.iload_n 1, 1)), (6, (.invokestatic 369, 3)), (9, (.ifCond .eq 35, 3)), (12, (.iload_n 2, 1)), (13, (.invokestatic 369, 3)), (16, (.ifCond .eq 28, 3)), (19, (.iload_n 1, 1)), (20, (.iload_n 2, 1)), (21, (.if_icmp .eq 23, 3)), (24, (.aload_n 0, 1)), (25, (.getfield 346, 3)), (28, (.sipush 200, 3)), (31, (.if_icmp .gt 13, 3)), (34, (.aload_n 0, 1)), (35, (.getfield 607, 3)), (38, (.sipush 200, 3)), (41, (.if_icmp .ne 5, 3)), (44, (.iconst (-1), 1)), (45, (.ireturn, 1)), (46, (.aload_n 0, 1)), (47, (.getfield 607, 3)), (50, (.istore_n 3, 1)), (51, (.aload_n 0, 1)), (52, (.dup, 1)), (53, (.getfield 607, 3)), (56, (.iconst 1, 1)), (57, (.iadd, 1)), (58, (.putfield 607, 3)), (61, (.iload_n 1, 1)), (62, (.ifCond .le 21, 3)), (65, (.aload_n 0, 1)), (66, (.getfield 61, 3)), (69, (.iload_n 1, 1)), (70, (.iaload, 1)), (71, (.iconst 4, 1)), (72, (.if_icmp .ne 7, 3)), (75, (.iconst 1, 1)), (76, (.goto 22, 3)), (79, (.iconst 0, 1)), (80, (.goto 18, 3)), (83, (.aload_n 0, 1)), (84, (.getfield 64, 3)), (87, (.iload_n 2, 1)), (88, (.iaload, 1)), (89, (.iconst 4, 1)), (90, (.if_icmp .ne 7, 3)), (93, (.iconst 1, 1)), (94, (.goto 4, 3)), (97, (.iconst 0, 1)), (98, (.istore 4, 2)), (100, (.aload_n 0, 1)), (101, (.getfield 172, 3)), (104, (.iload_n 3, 1)), (105, (.iload 4, 2)), (107, (.ifCond .eq 7, 3)), (110, (.iconst 0, 1)), (111, (.goto 4, 3))]
set_option maxRecDepth 100000 in
theorem da_X12_submit_0 : dl_X12_submit_0.all (fun q => decide (decode cX12_submit q.1 = .ok q.2)) = true := by decide +kernel
theorem dX12_submit_0 : decode cX12_submit 0 = .ok (.aload_n 0, 1) := dec_of da_X12_submit_0 (k := 0) rfl
theorem dX12_submit_1 : decode cX12_submit 1 = .ok (.iconst 0, 1) := dec_of da_X12_submit_0 (k := 1) rfl
theorem dX12_submit_2 : decode cX12_submit 2 = .ok (.putfield 287, 3) := dec_of da_X12_submit_0 (k := 2) rfl
theorem dX12_submit_5 : decode cX12_submit 5 = .ok (.iload_n 1, 1) := dec_of da_X12_submit_0 (k := 3) rfl
theorem dX12_submit_6 : decode cX12_submit 6 = .ok (.invokestatic 369, 3) := dec_of da_X12_submit_0 (k := 4) rfl
theorem dX12_submit_9 : decode cX12_submit 9 = .ok (.ifCond .eq 35, 3) := dec_of da_X12_submit_0 (k := 5) rfl
theorem dX12_submit_12 : decode cX12_submit 12 = .ok (.iload_n 2, 1) := dec_of da_X12_submit_0 (k := 6) rfl
theorem dX12_submit_13 : decode cX12_submit 13 = .ok (.invokestatic 369, 3) := dec_of da_X12_submit_0 (k := 7) rfl
theorem dX12_submit_16 : decode cX12_submit 16 = .ok (.ifCond .eq 28, 3) := dec_of da_X12_submit_0 (k := 8) rfl
theorem dX12_submit_19 : decode cX12_submit 19 = .ok (.iload_n 1, 1) := dec_of da_X12_submit_0 (k := 9) rfl
theorem dX12_submit_20 : decode cX12_submit 20 = .ok (.iload_n 2, 1) := dec_of da_X12_submit_0 (k := 10) rfl
theorem dX12_submit_21 : decode cX12_submit 21 = .ok (.if_icmp .eq 23, 3) := dec_of da_X12_submit_0 (k := 11) rfl
theorem dX12_submit_24 : decode cX12_submit 24 = .ok (.aload_n 0, 1) := dec_of da_X12_submit_0 (k := 12) rfl
theorem dX12_submit_25 : decode cX12_submit 25 = .ok (.getfield 346, 3) := dec_of da_X12_submit_0 (k := 13) rfl
theorem dX12_submit_28 : decode cX12_submit 28 = .ok (.sipush 200, 3) := dec_of da_X12_submit_0 (k := 14) rfl
theorem dX12_submit_31 : decode cX12_submit 31 = .ok (.if_icmp .gt 13, 3) := dec_of da_X12_submit_0 (k := 15) rfl
theorem dX12_submit_34 : decode cX12_submit 34 = .ok (.aload_n 0, 1) := dec_of da_X12_submit_0 (k := 16) rfl
theorem dX12_submit_35 : decode cX12_submit 35 = .ok (.getfield 607, 3) := dec_of da_X12_submit_0 (k := 17) rfl
theorem dX12_submit_38 : decode cX12_submit 38 = .ok (.sipush 200, 3) := dec_of da_X12_submit_0 (k := 18) rfl
theorem dX12_submit_41 : decode cX12_submit 41 = .ok (.if_icmp .ne 5, 3) := dec_of da_X12_submit_0 (k := 19) rfl
theorem dX12_submit_44 : decode cX12_submit 44 = .ok (.iconst (-1), 1) := dec_of da_X12_submit_0 (k := 20) rfl
theorem dX12_submit_45 : decode cX12_submit 45 = .ok (.ireturn, 1) := dec_of da_X12_submit_0 (k := 21) rfl
theorem dX12_submit_46 : decode cX12_submit 46 = .ok (.aload_n 0, 1) := dec_of da_X12_submit_0 (k := 22) rfl
theorem dX12_submit_47 : decode cX12_submit 47 = .ok (.getfield 607, 3) := dec_of da_X12_submit_0 (k := 23) rfl
theorem dX12_submit_50 : decode cX12_submit 50 = .ok (.istore_n 3, 1) := dec_of da_X12_submit_0 (k := 24) rfl
theorem dX12_submit_51 : decode cX12_submit 51 = .ok (.aload_n 0, 1) := dec_of da_X12_submit_0 (k := 25) rfl
theorem dX12_submit_52 : decode cX12_submit 52 = .ok (.dup, 1) := dec_of da_X12_submit_0 (k := 26) rfl
theorem dX12_submit_53 : decode cX12_submit 53 = .ok (.getfield 607, 3) := dec_of da_X12_submit_0 (k := 27) rfl
theorem dX12_submit_56 : decode cX12_submit 56 = .ok (.iconst 1, 1) := dec_of da_X12_submit_0 (k := 28) rfl
theorem dX12_submit_57 : decode cX12_submit 57 = .ok (.iadd, 1) := dec_of da_X12_submit_0 (k := 29) rfl
theorem dX12_submit_58 : decode cX12_submit 58 = .ok (.putfield 607, 3) := dec_of da_X12_submit_0 (k := 30) rfl
theorem dX12_submit_61 : decode cX12_submit 61 = .ok (.iload_n 1, 1) := dec_of da_X12_submit_0 (k := 31) rfl
theorem dX12_submit_62 : decode cX12_submit 62 = .ok (.ifCond .le 21, 3) := dec_of da_X12_submit_0 (k := 32) rfl
theorem dX12_submit_65 : decode cX12_submit 65 = .ok (.aload_n 0, 1) := dec_of da_X12_submit_0 (k := 33) rfl
theorem dX12_submit_66 : decode cX12_submit 66 = .ok (.getfield 61, 3) := dec_of da_X12_submit_0 (k := 34) rfl
theorem dX12_submit_69 : decode cX12_submit 69 = .ok (.iload_n 1, 1) := dec_of da_X12_submit_0 (k := 35) rfl
theorem dX12_submit_70 : decode cX12_submit 70 = .ok (.iaload, 1) := dec_of da_X12_submit_0 (k := 36) rfl
theorem dX12_submit_71 : decode cX12_submit 71 = .ok (.iconst 4, 1) := dec_of da_X12_submit_0 (k := 37) rfl
theorem dX12_submit_72 : decode cX12_submit 72 = .ok (.if_icmp .ne 7, 3) := dec_of da_X12_submit_0 (k := 38) rfl
theorem dX12_submit_75 : decode cX12_submit 75 = .ok (.iconst 1, 1) := dec_of da_X12_submit_0 (k := 39) rfl
theorem dX12_submit_76 : decode cX12_submit 76 = .ok (.goto 22, 3) := dec_of da_X12_submit_0 (k := 40) rfl
theorem dX12_submit_79 : decode cX12_submit 79 = .ok (.iconst 0, 1) := dec_of da_X12_submit_0 (k := 41) rfl
theorem dX12_submit_80 : decode cX12_submit 80 = .ok (.goto 18, 3) := dec_of da_X12_submit_0 (k := 42) rfl
theorem dX12_submit_83 : decode cX12_submit 83 = .ok (.aload_n 0, 1) := dec_of da_X12_submit_0 (k := 43) rfl
theorem dX12_submit_84 : decode cX12_submit 84 = .ok (.getfield 64, 3) := dec_of da_X12_submit_0 (k := 44) rfl
theorem dX12_submit_87 : decode cX12_submit 87 = .ok (.iload_n 2, 1) := dec_of da_X12_submit_0 (k := 45) rfl
theorem dX12_submit_88 : decode cX12_submit 88 = .ok (.iaload, 1) := dec_of da_X12_submit_0 (k := 46) rfl
theorem dX12_submit_89 : decode cX12_submit 89 = .ok (.iconst 4, 1) := dec_of da_X12_submit_0 (k := 47) rfl
theorem dX12_submit_90 : decode cX12_submit 90 = .ok (.if_icmp .ne 7, 3) := dec_of da_X12_submit_0 (k := 48) rfl
theorem dX12_submit_93 : decode cX12_submit 93 = .ok (.iconst 1, 1) := dec_of da_X12_submit_0 (k := 49) rfl
theorem dX12_submit_94 : decode cX12_submit 94 = .ok (.goto 4, 3) := dec_of da_X12_submit_0 (k := 50) rfl
theorem dX12_submit_97 : decode cX12_submit 97 = .ok (.iconst 0, 1) := dec_of da_X12_submit_0 (k := 51) rfl
theorem dX12_submit_98 : decode cX12_submit 98 = .ok (.istore 4, 2) := dec_of da_X12_submit_0 (k := 52) rfl
theorem dX12_submit_100 : decode cX12_submit 100 = .ok (.aload_n 0, 1) := dec_of da_X12_submit_0 (k := 53) rfl
theorem dX12_submit_101 : decode cX12_submit 101 = .ok (.getfield 172, 3) := dec_of da_X12_submit_0 (k := 54) rfl
theorem dX12_submit_104 : decode cX12_submit 104 = .ok (.iload_n 3, 1) := dec_of da_X12_submit_0 (k := 55) rfl
theorem dX12_submit_105 : decode cX12_submit 105 = .ok (.iload 4, 2) := dec_of da_X12_submit_0 (k := 56) rfl
theorem dX12_submit_107 : decode cX12_submit 107 = .ok (.ifCond .eq 7, 3) := dec_of da_X12_submit_0 (k := 57) rfl
theorem dX12_submit_110 : decode cX12_submit 110 = .ok (.iconst 0, 1) := dec_of da_X12_submit_0 (k := 58) rfl
theorem dX12_submit_111 : decode cX12_submit 111 = .ok (.goto 4, 3) := dec_of da_X12_submit_0 (k := 59) rfl
def dl_X12_submit_1 : List (Nat × (Instr × Nat)) := [(114, (.iconst 4, 1)), (115, (.iastore, 1)), (116, (.iload 4, 2)), (118, (.ifCond .eq 65, 3)), (121, (.aload_n 0, 1)), (122, (.bipush 8, 2)), (124, (.iconst 0, 1)), (125, (.invokevirtual 537, 3)), (128, (.iconst 0, 1)), (129, (.istore 5, 2)), (131, (.iload 5, 2)), (133, (.aload_n 0, 1)), (134, (.getfield 346, 3)), (137, (.if_icmp .ge 20, 3)), (140, (.aload_n 0, 1)), (141, (.aload_n 0, 1)), (142, (.getfield 52, 3)), (145, (.iload 5, 2)), (147, (.iaload, 1)), (148, (.invokevirtual 534, 3)), (151, (.iinc 5 1, 3)), (154, (.goto (-23), 3)), (157, (.aload_n 0, 1)), (158, (.iload_n 1, 1)), (159, (.bipush 8, 2)), (161, (.iload_n 1, 1)), (162, (.ifCond .le 7, 3)), (165, (.iconst 0, 1)), (166, (.goto 4, 3)), (169, (.iload_n 2, 1)), (170, (.iload_n 1, 1)), (171, (.ifCond .le 7, 3)), (174, (.iload_n 2, 1)), (175, (.goto 4, 3)), (178, (.iconst 0, 1)), (179, (.iload_n 3, 1)), (180, (.invokevirtual 540, 3)), (183, (.aload_n 0, 1)), (184, (.iconst 0, 1)), (185, (.putfield 346, 3)), (188, (.iload_n 3, 1)), (189, (.ireturn, 1))]
set_option maxRecDepth 100000 in
theorem da_X12_submit_1 : dl_X12_submit_1.all (fun q => decide (decode cX12_submit q.1 = .ok q.2)) = true := by decide +kernel
theorem dX12_submit_114 : decode cX12_submit 114 = .ok (.iconst 4, 1) := dec_of da_X12_submit_1 (k := 0) rfl
theorem dX12_submit_115 : decode cX12_submit 115 = .ok (.iastore, 1) := dec_of da_X12_submit_1 (k := 1) rfl
theorem dX12_submit_116 : decode cX12_submit 116 = .ok (.iload 4, 2) := dec_of da_X12_submit_1 (k := 2) rfl
theorem dX12_submit_118 : decode cX12_submit 118 = .ok (.ifCond .eq 65, 3) := dec_of da_X12_submit_1 (k := 3) rfl
theorem dX12_submit_121 : decode cX12_submit 121 = .ok (.aload_n 0, 1) := dec_of da_X12_submit_1 (k := 4) rfl
theorem dX12_submit_122 : decode cX12_submit 122 = .ok (.bipush 8, 2) := dec_of da_X12_submit_1 (k := 5) rfl
theorem dX12_submit_124 : decode cX12_submit 124 = .ok (.iconst 0, 1) := dec_of da_X12_submit_1 (k := 6) rfl
theorem dX12_submit_125 : decode cX12_submit 125 = .ok (.invokevirtual 537, 3) := dec_of da_X12_submit_1 (k := 7) rfl
theorem dX12_submit_128 : decode cX12_submit 128 = .ok (.iconst 0, 1) := dec_of da_X12_submit_1 (k := 8) rfl
theorem dX12_submit_129 : decode cX12_submit 129 = .ok (.istore 5, 2) := dec_of da_X12_submit_1 (k := 9) rfl
theorem dX12_submit_131 : decode cX12_submit 131 = .ok (.iload 5, 2) := dec_of da_X12_submit_1 (k := 10) rfl
theorem dX12_submit_133 : decode cX12_submit 133 = .ok (.aload_n 0, 1) := dec_of da_X12_submit_1 (k := 11) rfl
theorem dX12_submit_134 : decode cX12_submit 134 = .ok (.getfield 346, 3) := dec_of da_X12_submit_1 (k := 12) rfl
theorem dX12_submit_137 : decode cX12_submit 137 = .ok (.if_icmp .ge 20, 3) := dec_of da_X12_submit_1 (k := 13) rfl
theorem dX12_submit_140 : decode cX12_submit 140 = .ok (.aload_n 0, 1) := dec_of da_X12_submit_1 (k := 14) rfl
theorem dX12_submit_141 : decode cX12_submit 141 = .ok (.aload_n 0, 1) := dec_of da_X12_submit_1 (k := 15) rfl
theorem dX12_submit_142 : decode cX12_submit 142 = .ok (.getfield 52, 3) := dec_of da_X12_submit_1 (k := 16) rfl
theorem dX12_submit_145 : decode cX12_submit 145 = .ok (.iload 5, 2) := dec_of da_X12_submit_1 (k := 17) rfl
theorem dX12_submit_147 : decode cX12_submit 147 = .ok (.iaload, 1) := dec_of da_X12_submit_1 (k := 18) rfl
theorem dX12_submit_148 : decode cX12_submit 148 = .ok (.invokevirtual 534, 3) := dec_of da_X12_submit_1 (k := 19) rfl
theorem dX12_submit_151 : decode cX12_submit 151 = .ok (.iinc 5 1, 3) := dec_of da_X12_submit_1 (k := 20) rfl
theorem dX12_submit_154 : decode cX12_submit 154 = .ok (.goto (-23), 3) := dec_of da_X12_submit_1 (k := 21) rfl
theorem dX12_submit_157 : decode cX12_submit 157 = .ok (.aload_n 0, 1) := dec_of da_X12_submit_1 (k := 22) rfl
theorem dX12_submit_158 : decode cX12_submit 158 = .ok (.iload_n 1, 1) := dec_of da_X12_submit_1 (k := 23) rfl
theorem dX12_submit_159 : decode cX12_submit 159 = .ok (.bipush 8, 2) := dec_of da_X12_submit_1 (k := 24) rfl
theorem dX12_submit_161 : decode cX12_submit 161 = .ok (.iload_n 1, 1) := dec_of da_X12_submit_1 (k := 25) rfl
theorem dX12_submit_162 : decode cX12_submit 162 = .ok (.ifCond .le 7, 3) := dec_of da_X12_submit_1 (k := 26) rfl
theorem dX12_submit_165 : decode cX12_submit 165 = .ok (.iconst 0, 1) := dec_of da_X12_submit_1 (k := 27) rfl
theorem dX12_submit_166 : decode cX12_submit 166 = .ok (.goto 4, 3) := dec_of da_X12_submit_1 (k := 28) rfl
theorem dX12_submit_169 : decode cX12_submit 169 = .ok (.iload_n 2, 1) := dec_of da_X12_submit_1 (k := 29) rfl
theorem dX12_submit_170 : decode cX12_submit 170 = .ok (.iload_n 1, 1) := dec_of da_X12_submit_1 (k := 30) rfl
theorem dX12_submit_171 : decode cX12_submit 171 = .ok (.ifCond .le 7, 3) := dec_of da_X12_submit_1 (k := 31) rfl
theorem dX12_submit_174 : decode cX12_submit 174 = .ok (.iload_n 2, 1) := dec_of da_X12_submit_1 (k := 32) rfl
theorem dX12_submit_175 : decode cX12_submit 175 = .ok (.goto 4, 3) := dec_of da_X12_submit_1 (k := 33) rfl
theorem dX12_submit_178 : decode cX12_submit 178 = .ok (.iconst 0, 1) := dec_of da_X12_submit_1 (k := 34) rfl
theorem dX12_submit_179 : decode cX12_submit 179 = .ok (.iload_n 3, 1) := dec_of da_X12_submit_1 (k := 35) rfl
theorem dX12_submit_180 : decode cX12_submit 180 = .ok (.invokevirtual 540, 3) := dec_of da_X12_submit_1 (k := 36) rfl
theorem dX12_submit_183 : decode cX12_submit 183 = .ok (.aload_n 0, 1) := dec_of da_X12_submit_1 (k := 37) rfl
theorem dX12_submit_184 : decode cX12_submit 184 = .ok (.iconst 0, 1) := dec_of da_X12_submit_1 (k := 38) rfl
theorem dX12_submit_185 : decode cX12_submit 185 = .ok (.putfield 346, 3) := dec_of da_X12_submit_1 (k := 39) rfl
theorem dX12_submit_188 : decode cX12_submit 188 = .ok (.iload_n 3, 1) := dec_of da_X12_submit_1 (k := 40) rfl
theorem dX12_submit_189 : decode cX12_submit 189 = .ok (.ireturn, 1) := dec_of da_X12_submit_1 (k := 41) rfl
def dl_X12_go_0 : List (Nat × (Instr × Nat)) := [(0, (.aload_n 0, 1)), (1, (.iconst 0, 1)), (2, (.putfield 287, 3)), (5, (.iload_n 1, 1)), (6, (.i2l, 1)), (7, (.lconst 0, 1)), (8, (.ldc2_w 610, 3)), (11, (.invokestatic 354, 3)), (14, (.ifCond .ne 5, 3)), (17, (.iconst (-1), 1)), (18, (.ireturn, 1)), (19, (.aload_n 0, 1)), (20, (.getfield 457, 3)), (23, (.istore_n 2, 1)), (24, (.iconst 0, 1)), (25, (.istore_n 3, 1)), (26, (.iload_n 3, 1)), (27, (.iload_n 1, 1)), (28, (.if_icmp .ge 13, 3)), (31, (.aload_n 0, 1)), (32, (.invokevirtual 612, 3)), (35, (.iinc 3 1, 3)), (38, (.goto (-12), 3)), (41, (.aload_n 0, 1)), (42, (.getfield 457, 3)), (45, (.iload_n 2, 1)), (46, (.isub, 1)), (47, (.ireturn, 1))]
set_option maxRecDepth 100000 in
theorem da_X12_go_0 : dl_X12_go_0.all (fun q => decide (decode cX12_go q.1 = .ok q.2)) = true := by decide +kernel
theorem dX12_go_0 : decode cX12_go 0 = .ok (.aload_n 0, 1) := dec_of da_X12_go_0 (k := 0) rfl
theorem dX12_go_1 : decode cX12_go 1 = .ok (.iconst 0, 1) := dec_of da_X12_go_0 (k := 1) rfl
theorem dX12_go_2 : decode cX12_go 2 = .ok (.putfield 287, 3) := dec_of da_X12_go_0 (k := 2) rfl
theorem dX12_go_5 : decode cX12_go 5 = .ok (.iload_n 1, 1) := dec_of da_X12_go_0 (k := 3) rfl
theorem dX12_go_6 : decode cX12_go 6 = .ok (.i2l, 1) := dec_of da_X12_go_0 (k := 4) rfl
theorem dX12_go_7 : decode cX12_go 7 = .ok (.lconst 0, 1) := dec_of da_X12_go_0 (k := 5) rfl
theorem dX12_go_8 : decode cX12_go 8 = .ok (.ldc2_w 610, 3) := dec_of da_X12_go_0 (k := 6) rfl
theorem dX12_go_11 : decode cX12_go 11 = .ok (.invokestatic 354, 3) := dec_of da_X12_go_0 (k := 7) rfl
theorem dX12_go_14 : decode cX12_go 14 = .ok (.ifCond .ne 5, 3) := dec_of da_X12_go_0 (k := 8) rfl
theorem dX12_go_17 : decode cX12_go 17 = .ok (.iconst (-1), 1) := dec_of da_X12_go_0 (k := 9) rfl
theorem dX12_go_18 : decode cX12_go 18 = .ok (.ireturn, 1) := dec_of da_X12_go_0 (k := 10) rfl
theorem dX12_go_19 : decode cX12_go 19 = .ok (.aload_n 0, 1) := dec_of da_X12_go_0 (k := 11) rfl
theorem dX12_go_20 : decode cX12_go 20 = .ok (.getfield 457, 3) := dec_of da_X12_go_0 (k := 12) rfl
theorem dX12_go_23 : decode cX12_go 23 = .ok (.istore_n 2, 1) := dec_of da_X12_go_0 (k := 13) rfl
theorem dX12_go_24 : decode cX12_go 24 = .ok (.iconst 0, 1) := dec_of da_X12_go_0 (k := 14) rfl
theorem dX12_go_25 : decode cX12_go 25 = .ok (.istore_n 3, 1) := dec_of da_X12_go_0 (k := 15) rfl
theorem dX12_go_26 : decode cX12_go 26 = .ok (.iload_n 3, 1) := dec_of da_X12_go_0 (k := 16) rfl
theorem dX12_go_27 : decode cX12_go 27 = .ok (.iload_n 1, 1) := dec_of da_X12_go_0 (k := 17) rfl
theorem dX12_go_28 : decode cX12_go 28 = .ok (.if_icmp .ge 13, 3) := dec_of da_X12_go_0 (k := 18) rfl
theorem dX12_go_31 : decode cX12_go 31 = .ok (.aload_n 0, 1) := dec_of da_X12_go_0 (k := 19) rfl
theorem dX12_go_32 : decode cX12_go 32 = .ok (.invokevirtual 612, 3) := dec_of da_X12_go_0 (k := 20) rfl
theorem dX12_go_35 : decode cX12_go 35 = .ok (.iinc 3 1, 3) := dec_of da_X12_go_0 (k := 21) rfl
theorem dX12_go_38 : decode cX12_go 38 = .ok (.goto (-12), 3) := dec_of da_X12_go_0 (k := 22) rfl
theorem dX12_go_41 : decode cX12_go 41 = .ok (.aload_n 0, 1) := dec_of da_X12_go_0 (k := 23) rfl
theorem dX12_go_42 : decode cX12_go 42 = .ok (.getfield 457, 3) := dec_of da_X12_go_0 (k := 24) rfl
theorem dX12_go_45 : decode cX12_go 45 = .ok (.iload_n 2, 1) := dec_of da_X12_go_0 (k := 25) rfl
theorem dX12_go_46 : decode cX12_go 46 = .ok (.isub, 1) := dec_of da_X12_go_0 (k := 26) rfl
theorem dX12_go_47 : decode cX12_go 47 = .ok (.ireturn, 1) := dec_of da_X12_go_0 (k := 27) rfl
def dl_X12_ended_0 : List (Nat × (Instr × Nat)) := [(0, (.aload_n 0, 1)), (1, (.iconst 0, 1)), (2, (.putfield 287, 3)), (5, (.iload_n 1, 1)), (6, (.i2l, 1)), (7, (.lconst 0, 1)), (8, (.aload_n 0, 1)), (9, (.getfield 607, 3)), (12, (.i2l, 1)), (13, (.lconst 1, 1)), (14, (.lsub, 1)), (15, (.invokestatic 354, 3)), (18, (.ifCond .eq 12, 3)), (21, (.aload_n 0, 1)), (22, (.getfield 172, 3)), (25, (.iload_n 1, 1)), (26, (.iaload, 1)), (27, (.goto 4, 3)), (30, (.iconst (-1), 1)), (31, (.ireturn, 1))]
set_option maxRecDepth 100000 in
theorem da_X12_ended_0 : dl_X12_ended_0.all (fun q => decide (decode cX12_ended q.1 = .ok q.2)) = true := by decide +kernel
theorem dX12_ended_0 : decode cX12_ended 0 = .ok (.aload_n 0, 1) := dec_of da_X12_ended_0 (k := 0) rfl
theorem dX12_ended_1 : decode cX12_ended 1 = .ok (.iconst 0, 1) := dec_of da_X12_ended_0 (k := 1) rfl
theorem dX12_ended_2 : decode cX12_ended 2 = .ok (.putfield 287, 3) := dec_of da_X12_ended_0 (k := 2) rfl
theorem dX12_ended_5 : decode cX12_ended 5 = .ok (.iload_n 1, 1) := dec_of da_X12_ended_0 (k := 3) rfl
theorem dX12_ended_6 : decode cX12_ended 6 = .ok (.i2l, 1) := dec_of da_X12_ended_0 (k := 4) rfl
theorem dX12_ended_7 : decode cX12_ended 7 = .ok (.lconst 0, 1) := dec_of da_X12_ended_0 (k := 5) rfl
theorem dX12_ended_8 : decode cX12_ended 8 = .ok (.aload_n 0, 1) := dec_of da_X12_ended_0 (k := 6) rfl
theorem dX12_ended_9 : decode cX12_ended 9 = .ok (.getfield 607, 3) := dec_of da_X12_ended_0 (k := 7) rfl
theorem dX12_ended_12 : decode cX12_ended 12 = .ok (.i2l, 1) := dec_of da_X12_ended_0 (k := 8) rfl
theorem dX12_ended_13 : decode cX12_ended 13 = .ok (.lconst 1, 1) := dec_of da_X12_ended_0 (k := 9) rfl
theorem dX12_ended_14 : decode cX12_ended 14 = .ok (.lsub, 1) := dec_of da_X12_ended_0 (k := 10) rfl
theorem dX12_ended_15 : decode cX12_ended 15 = .ok (.invokestatic 354, 3) := dec_of da_X12_ended_0 (k := 11) rfl
theorem dX12_ended_18 : decode cX12_ended 18 = .ok (.ifCond .eq 12, 3) := dec_of da_X12_ended_0 (k := 12) rfl
theorem dX12_ended_21 : decode cX12_ended 21 = .ok (.aload_n 0, 1) := dec_of da_X12_ended_0 (k := 13) rfl
theorem dX12_ended_22 : decode cX12_ended 22 = .ok (.getfield 172, 3) := dec_of da_X12_ended_0 (k := 14) rfl
theorem dX12_ended_25 : decode cX12_ended 25 = .ok (.iload_n 1, 1) := dec_of da_X12_ended_0 (k := 15) rfl
theorem dX12_ended_26 : decode cX12_ended 26 = .ok (.iaload, 1) := dec_of da_X12_ended_0 (k := 16) rfl
theorem dX12_ended_27 : decode cX12_ended 27 = .ok (.goto 4, 3) := dec_of da_X12_ended_0 (k := 17) rfl
theorem dX12_ended_30 : decode cX12_ended 30 = .ok (.iconst (-1), 1) := dec_of da_X12_ended_0 (k := 18) rfl
theorem dX12_ended_31 : decode cX12_ended 31 = .ok (.ireturn, 1) := dec_of da_X12_ended_0 (k := 19) rfl
def dl_X12_node_0 : List (Nat × (Instr × Nat)) := [(0, (.aload_n 0, 1)), (1, (.iconst 0, 1)), (2, (.putfield 287, 3)), (5, (.iload_n 1, 1)), (6, (.invokestatic 369, 3)), (9, (.ifCond .ne 5, 3)), (12, (.iconst (-1), 1)), (13, (.ireturn, 1)), (14, (.iload_n 2, 1)), (15, (.tableswitch 161 0 10 #[57, 75, 90, 97, 104, 111, 118, 133, 140, 147, 154], 57)), (72, (.iload_n 1, 1)), (73, (.ifCond .ne 10, 3)), (76, (.aload_n 0, 1)), (77, (.invokevirtual 615, 3)), (80, (.goto 9, 3)), (83, (.aload_n 0, 1)), (84, (.getfield 61, 3)), (87, (.iload_n 1, 1)), (88, (.iaload, 1)), (89, (.ireturn, 1)), (90, (.iload_n 1, 1)), (91, (.ifCond .ne 7, 3)), (94, (.iconst 0, 1)), (95, (.goto 9, 3)), (98, (.aload_n 0, 1)), (99, (.getfield 64, 3)), (102, (.iload_n 1, 1)), (103, (.iaload, 1)), (104, (.ireturn, 1)), (105, (.aload_n 0, 1)), (106, (.getfield 111, 3)), (109, (.iload_n 1, 1)), (110, (.iaload, 1)), (111, (.ireturn, 1)), (112, (.aload_n 0, 1)), (113, (.getfield 153, 3)), (116, (.iload_n 1, 1)), (117, (.iaload, 1)), (118, (.ireturn, 1)), (119, (.aload_n 0, 1)), (120, (.getfield 156, 3)), (123, (.iload_n 1, 1)), (124, (.iaload, 1)), (125, (.ireturn, 1)), (126, (.aload_n 0, 1)), (127, (.getfield 159, 3)), (130, (.iload_n 1, 1)), (131, (.iaload, 1)), (132, (.ireturn, 1)), (133, (.aload_n 0, 1)), (134, (.getfield 184, 3)), (137, (.iload_n 1, 1)), (138, (.baload, 1)), (139, (.ifCond .eq 7, 3)), (142, (.iconst 1, 1)), (143, (.goto 4, 3)), (146, (.iconst 0, 1)), (147, (.ireturn, 1)), (148, (.aload_n 0, 1)), (149, (.getfield 150, 3))]
set_option maxRecDepth 100000 in
theorem da_X12_node_0 : dl_X12_node_0.all (fun q => decide (decode cX12_node q.1 = .ok q.2)) = true := by decide +kernel
theorem dX12_node_0 : decode cX12_node 0 = .ok (.aload_n 0, 1) := dec_of da_X12_node_0 (k := 0) rfl
theorem dX12_node_1 : decode cX12_node 1 = .ok (.iconst 0, 1) := dec_of da_X12_node_0 (k := 1) rfl
theorem dX12_node_2 : decode cX12_node 2 = .ok (.putfield 287, 3) := dec_of da_X12_node_0 (k := 2) rfl
theorem dX12_node_5 : decode cX12_node 5 = .ok (.iload_n 1, 1) := dec_of da_X12_node_0 (k := 3) rfl
theorem dX12_node_6 : decode cX12_node 6 = .ok (.invokestatic 369, 3) := dec_of da_X12_node_0 (k := 4) rfl
theorem dX12_node_9 : decode cX12_node 9 = .ok (.ifCond .ne 5, 3) := dec_of da_X12_node_0 (k := 5) rfl
theorem dX12_node_12 : decode cX12_node 12 = .ok (.iconst (-1), 1) := dec_of da_X12_node_0 (k := 6) rfl
theorem dX12_node_13 : decode cX12_node 13 = .ok (.ireturn, 1) := dec_of da_X12_node_0 (k := 7) rfl
theorem dX12_node_14 : decode cX12_node 14 = .ok (.iload_n 2, 1) := dec_of da_X12_node_0 (k := 8) rfl
theorem dX12_node_15 : decode cX12_node 15 = .ok (.tableswitch 161 0 10 #[57, 75, 90, 97, 104, 111, 118, 133, 140, 147, 154], 57) := dec_of da_X12_node_0 (k := 9) rfl
theorem dX12_node_72 : decode cX12_node 72 = .ok (.iload_n 1, 1) := dec_of da_X12_node_0 (k := 10) rfl
theorem dX12_node_73 : decode cX12_node 73 = .ok (.ifCond .ne 10, 3) := dec_of da_X12_node_0 (k := 11) rfl
theorem dX12_node_76 : decode cX12_node 76 = .ok (.aload_n 0, 1) := dec_of da_X12_node_0 (k := 12) rfl
theorem dX12_node_77 : decode cX12_node 77 = .ok (.invokevirtual 615, 3) := dec_of da_X12_node_0 (k := 13) rfl
theorem dX12_node_80 : decode cX12_node 80 = .ok (.goto 9, 3) := dec_of da_X12_node_0 (k := 14) rfl
theorem dX12_node_83 : decode cX12_node 83 = .ok (.aload_n 0, 1) := dec_of da_X12_node_0 (k := 15) rfl
theorem dX12_node_84 : decode cX12_node 84 = .ok (.getfield 61, 3) := dec_of da_X12_node_0 (k := 16) rfl
theorem dX12_node_87 : decode cX12_node 87 = .ok (.iload_n 1, 1) := dec_of da_X12_node_0 (k := 17) rfl
theorem dX12_node_88 : decode cX12_node 88 = .ok (.iaload, 1) := dec_of da_X12_node_0 (k := 18) rfl
theorem dX12_node_89 : decode cX12_node 89 = .ok (.ireturn, 1) := dec_of da_X12_node_0 (k := 19) rfl
theorem dX12_node_90 : decode cX12_node 90 = .ok (.iload_n 1, 1) := dec_of da_X12_node_0 (k := 20) rfl
theorem dX12_node_91 : decode cX12_node 91 = .ok (.ifCond .ne 7, 3) := dec_of da_X12_node_0 (k := 21) rfl
theorem dX12_node_94 : decode cX12_node 94 = .ok (.iconst 0, 1) := dec_of da_X12_node_0 (k := 22) rfl
theorem dX12_node_95 : decode cX12_node 95 = .ok (.goto 9, 3) := dec_of da_X12_node_0 (k := 23) rfl
theorem dX12_node_98 : decode cX12_node 98 = .ok (.aload_n 0, 1) := dec_of da_X12_node_0 (k := 24) rfl
theorem dX12_node_99 : decode cX12_node 99 = .ok (.getfield 64, 3) := dec_of da_X12_node_0 (k := 25) rfl
theorem dX12_node_102 : decode cX12_node 102 = .ok (.iload_n 1, 1) := dec_of da_X12_node_0 (k := 26) rfl
theorem dX12_node_103 : decode cX12_node 103 = .ok (.iaload, 1) := dec_of da_X12_node_0 (k := 27) rfl
theorem dX12_node_104 : decode cX12_node 104 = .ok (.ireturn, 1) := dec_of da_X12_node_0 (k := 28) rfl
theorem dX12_node_105 : decode cX12_node 105 = .ok (.aload_n 0, 1) := dec_of da_X12_node_0 (k := 29) rfl
theorem dX12_node_106 : decode cX12_node 106 = .ok (.getfield 111, 3) := dec_of da_X12_node_0 (k := 30) rfl
theorem dX12_node_109 : decode cX12_node 109 = .ok (.iload_n 1, 1) := dec_of da_X12_node_0 (k := 31) rfl
theorem dX12_node_110 : decode cX12_node 110 = .ok (.iaload, 1) := dec_of da_X12_node_0 (k := 32) rfl
theorem dX12_node_111 : decode cX12_node 111 = .ok (.ireturn, 1) := dec_of da_X12_node_0 (k := 33) rfl
theorem dX12_node_112 : decode cX12_node 112 = .ok (.aload_n 0, 1) := dec_of da_X12_node_0 (k := 34) rfl
theorem dX12_node_113 : decode cX12_node 113 = .ok (.getfield 153, 3) := dec_of da_X12_node_0 (k := 35) rfl
theorem dX12_node_116 : decode cX12_node 116 = .ok (.iload_n 1, 1) := dec_of da_X12_node_0 (k := 36) rfl
theorem dX12_node_117 : decode cX12_node 117 = .ok (.iaload, 1) := dec_of da_X12_node_0 (k := 37) rfl
theorem dX12_node_118 : decode cX12_node 118 = .ok (.ireturn, 1) := dec_of da_X12_node_0 (k := 38) rfl
theorem dX12_node_119 : decode cX12_node 119 = .ok (.aload_n 0, 1) := dec_of da_X12_node_0 (k := 39) rfl
theorem dX12_node_120 : decode cX12_node 120 = .ok (.getfield 156, 3) := dec_of da_X12_node_0 (k := 40) rfl
theorem dX12_node_123 : decode cX12_node 123 = .ok (.iload_n 1, 1) := dec_of da_X12_node_0 (k := 41) rfl
theorem dX12_node_124 : decode cX12_node 124 = .ok (.iaload, 1) := dec_of da_X12_node_0 (k := 42) rfl
theorem dX12_node_125 : decode cX12_node 125 = .ok (.ireturn, 1) := dec_of da_X12_node_0 (k := 43) rfl
theorem dX12_node_126 : decode cX12_node 126 = .ok (.aload_n 0, 1) := dec_of da_X12_node_0 (k := 44) rfl
theorem dX12_node_127 : decode cX12_node 127 = .ok (.getfield 159, 3) := dec_of da_X12_node_0 (k := 45) rfl
theorem dX12_node_130 : decode cX12_node 130 = .ok (.iload_n 1, 1) := dec_of da_X12_node_0 (k := 46) rfl
theorem dX12_node_131 : decode cX12_node 131 = .ok (.iaload, 1) := dec_of da_X12_node_0 (k := 47) rfl
theorem dX12_node_132 : decode cX12_node 132 = .ok (.ireturn, 1) := dec_of da_X12_node_0 (k := 48) rfl
theorem dX12_node_133 : decode cX12_node 133 = .ok (.aload_n 0, 1) := dec_of da_X12_node_0 (k := 49) rfl
theorem dX12_node_134 : decode cX12_node 134 = .ok (.getfield 184, 3) := dec_of da_X12_node_0 (k := 50) rfl
theorem dX12_node_137 : decode cX12_node 137 = .ok (.iload_n 1, 1) := dec_of da_X12_node_0 (k := 51) rfl
theorem dX12_node_138 : decode cX12_node 138 = .ok (.baload, 1) := dec_of da_X12_node_0 (k := 52) rfl
theorem dX12_node_139 : decode cX12_node 139 = .ok (.ifCond .eq 7, 3) := dec_of da_X12_node_0 (k := 53) rfl
theorem dX12_node_142 : decode cX12_node 142 = .ok (.iconst 1, 1) := dec_of da_X12_node_0 (k := 54) rfl
theorem dX12_node_143 : decode cX12_node 143 = .ok (.goto 4, 3) := dec_of da_X12_node_0 (k := 55) rfl
theorem dX12_node_146 : decode cX12_node 146 = .ok (.iconst 0, 1) := dec_of da_X12_node_0 (k := 56) rfl
theorem dX12_node_147 : decode cX12_node 147 = .ok (.ireturn, 1) := dec_of da_X12_node_0 (k := 57) rfl
theorem dX12_node_148 : decode cX12_node 148 = .ok (.aload_n 0, 1) := dec_of da_X12_node_0 (k := 58) rfl
theorem dX12_node_149 : decode cX12_node 149 = .ok (.getfield 150, 3) := dec_of da_X12_node_0 (k := 59) rfl
def dl_X12_node_1 : List (Nat × (Instr × Nat)) := [(152, (.iload_n 1, 1)), (153, (.iaload, 1)), (154, (.ireturn, 1)), (155, (.aload_n 0, 1)), (156, (.getfield 272, 3)), (159, (.iload_n 1, 1)), (160, (.iaload, 1)), (161, (.ireturn, 1)), (162, (.aload_n 0, 1)), (163, (.getfield 263, 3)), (166, (.iload_n 1, 1)), (167, (.iaload, 1)), (168, (.ireturn, 1)), (169, (.aload_n 0, 1)), (170, (.getfield 266, 3)), (173, (.iload_n 1, 1)), (174, (.iaload, 1)), (175, (.ireturn, 1)), (176, (.iconst (-1), 1)), (177, (.ireturn, 1))]
set_option maxRecDepth 100000 in
theorem da_X12_node_1 : dl_X12_node_1.all (fun q => decide (decode cX12_node q.1 = .ok q.2)) = true := by decide +kernel
theorem dX12_node_152 : decode cX12_node 152 = .ok (.iload_n 1, 1) := dec_of da_X12_node_1 (k := 0) rfl
theorem dX12_node_153 : decode cX12_node 153 = .ok (.iaload, 1) := dec_of da_X12_node_1 (k := 1) rfl
theorem dX12_node_154 : decode cX12_node 154 = .ok (.ireturn, 1) := dec_of da_X12_node_1 (k := 2) rfl
theorem dX12_node_155 : decode cX12_node 155 = .ok (.aload_n 0, 1) := dec_of da_X12_node_1 (k := 3) rfl
theorem dX12_node_156 : decode cX12_node 156 = .ok (.getfield 272, 3) := dec_of da_X12_node_1 (k := 4) rfl
theorem dX12_node_159 : decode cX12_node 159 = .ok (.iload_n 1, 1) := dec_of da_X12_node_1 (k := 5) rfl
theorem dX12_node_160 : decode cX12_node 160 = .ok (.iaload, 1) := dec_of da_X12_node_1 (k := 6) rfl
theorem dX12_node_161 : decode cX12_node 161 = .ok (.ireturn, 1) := dec_of da_X12_node_1 (k := 7) rfl
theorem dX12_node_162 : decode cX12_node 162 = .ok (.aload_n 0, 1) := dec_of da_X12_node_1 (k := 8) rfl
theorem dX12_node_163 : decode cX12_node 163 = .ok (.getfield 263, 3) := dec_of da_X12_node_1 (k := 9) rfl
theorem dX12_node_166 : decode cX12_node 166 = .ok (.iload_n 1, 1) := dec_of da_X12_node_1 (k := 10) rfl
theorem dX12_node_167 : decode cX12_node 167 = .ok (.iaload, 1) := dec_of da_X12_node_1 (k := 11) rfl
theorem dX12_node_168 : decode cX12_node 168 = .ok (.ireturn, 1) := dec_of da_X12_node_1 (k := 12) rfl
theorem dX12_node_169 : decode cX12_node 169 = .ok (.aload_n 0, 1) := dec_of da_X12_node_1 (k := 13) rfl
theorem dX12_node_170 : decode cX12_node 170 = .ok (.getfield 266, 3) := dec_of da_X12_node_1 (k := 14) rfl
theorem dX12_node_173 : decode cX12_node 173 = .ok (.iload_n 1, 1) := dec_of da_X12_node_1 (k := 15) rfl
theorem dX12_node_174 : decode cX12_node 174 = .ok (.iaload, 1) := dec_of da_X12_node_1 (k := 16) rfl
theorem dX12_node_175 : decode cX12_node 175 = .ok (.ireturn, 1) := dec_of da_X12_node_1 (k := 17) rfl
theorem dX12_node_176 : decode cX12_node 176 = .ok (.iconst (-1), 1) := dec_of da_X12_node_1 (k := 18) rfl
theorem dX12_node_177 : decode cX12_node 177 = .ok (.ireturn, 1) := dec_of da_X12_node_1 (k := 19) rfl
def dl_X12_keyedMany_0 : List (Nat × (Instr × Nat)) := [(0, (.iconst 0, 1)), (1, (.istore_n 1, 1)), (2, (.iconst 1, 1)), (3, (.istore_n 2, 1)), (4, (.iload_n 2, 1)), (5, (.bipush 9, 2)), (7, (.if_icmp .ge 27, 3)), (10, (.iload_n 1, 1)), (11, (.aload_n 0, 1)), (12, (.getfield 64, 3)), (15, (.iload_n 2, 1)), (16, (.iaload, 1)), (17, (.iconst 4, 1)), (18, (.if_icmp .ne 7, 3)), (21, (.iconst 1, 1)), (22, (.goto 4, 3)), (25, (.iconst 0, 1)), (26, (.iadd, 1)), (27, (.istore_n 1, 1)), (28, (.iinc 2 1, 3)), (31, (.goto (-27), 3)), (34, (.iload_n 1, 1)), (35, (.ireturn, 1))]
set_option maxRecDepth 100000 in
theorem da_X12_keyedMany_0 : dl_X12_keyedMany_0.all (fun q => decide (decode cX12_keyedMany q.1 = .ok q.2)) = true := by decide +kernel
theorem dX12_keyedMany_0 : decode cX12_keyedMany 0 = .ok (.iconst 0, 1) := dec_of da_X12_keyedMany_0 (k := 0) rfl
theorem dX12_keyedMany_1 : decode cX12_keyedMany 1 = .ok (.istore_n 1, 1) := dec_of da_X12_keyedMany_0 (k := 1) rfl
theorem dX12_keyedMany_2 : decode cX12_keyedMany 2 = .ok (.iconst 1, 1) := dec_of da_X12_keyedMany_0 (k := 2) rfl
theorem dX12_keyedMany_3 : decode cX12_keyedMany 3 = .ok (.istore_n 2, 1) := dec_of da_X12_keyedMany_0 (k := 3) rfl
theorem dX12_keyedMany_4 : decode cX12_keyedMany 4 = .ok (.iload_n 2, 1) := dec_of da_X12_keyedMany_0 (k := 4) rfl
theorem dX12_keyedMany_5 : decode cX12_keyedMany 5 = .ok (.bipush 9, 2) := dec_of da_X12_keyedMany_0 (k := 5) rfl
theorem dX12_keyedMany_7 : decode cX12_keyedMany 7 = .ok (.if_icmp .ge 27, 3) := dec_of da_X12_keyedMany_0 (k := 6) rfl
theorem dX12_keyedMany_10 : decode cX12_keyedMany 10 = .ok (.iload_n 1, 1) := dec_of da_X12_keyedMany_0 (k := 7) rfl
theorem dX12_keyedMany_11 : decode cX12_keyedMany 11 = .ok (.aload_n 0, 1) := dec_of da_X12_keyedMany_0 (k := 8) rfl
theorem dX12_keyedMany_12 : decode cX12_keyedMany 12 = .ok (.getfield 64, 3) := dec_of da_X12_keyedMany_0 (k := 9) rfl
theorem dX12_keyedMany_15 : decode cX12_keyedMany 15 = .ok (.iload_n 2, 1) := dec_of da_X12_keyedMany_0 (k := 10) rfl
theorem dX12_keyedMany_16 : decode cX12_keyedMany 16 = .ok (.iaload, 1) := dec_of da_X12_keyedMany_0 (k := 11) rfl
theorem dX12_keyedMany_17 : decode cX12_keyedMany 17 = .ok (.iconst 4, 1) := dec_of da_X12_keyedMany_0 (k := 12) rfl
theorem dX12_keyedMany_18 : decode cX12_keyedMany 18 = .ok (.if_icmp .ne 7, 3) := dec_of da_X12_keyedMany_0 (k := 13) rfl
theorem dX12_keyedMany_21 : decode cX12_keyedMany 21 = .ok (.iconst 1, 1) := dec_of da_X12_keyedMany_0 (k := 14) rfl
theorem dX12_keyedMany_22 : decode cX12_keyedMany 22 = .ok (.goto 4, 3) := dec_of da_X12_keyedMany_0 (k := 15) rfl
theorem dX12_keyedMany_25 : decode cX12_keyedMany 25 = .ok (.iconst 0, 1) := dec_of da_X12_keyedMany_0 (k := 16) rfl
theorem dX12_keyedMany_26 : decode cX12_keyedMany 26 = .ok (.iadd, 1) := dec_of da_X12_keyedMany_0 (k := 17) rfl
theorem dX12_keyedMany_27 : decode cX12_keyedMany 27 = .ok (.istore_n 1, 1) := dec_of da_X12_keyedMany_0 (k := 18) rfl
theorem dX12_keyedMany_28 : decode cX12_keyedMany 28 = .ok (.iinc 2 1, 3) := dec_of da_X12_keyedMany_0 (k := 19) rfl
theorem dX12_keyedMany_31 : decode cX12_keyedMany 31 = .ok (.goto (-27), 3) := dec_of da_X12_keyedMany_0 (k := 20) rfl
theorem dX12_keyedMany_34 : decode cX12_keyedMany 34 = .ok (.iload_n 1, 1) := dec_of da_X12_keyedMany_0 (k := 21) rfl
theorem dX12_keyedMany_35 : decode cX12_keyedMany 35 = .ok (.ireturn, 1) := dec_of da_X12_keyedMany_0 (k := 22) rfl
def dl_X12_key_0 : List (Nat × (Instr × Nat)) := [(0, (.aload_n 0, 1)), (1, (.iconst 0, 1)), (2, (.putfield 287, 3)), (5, (.iload_n 1, 1)), (6, (.invokestatic 361, 3)), (9, (.ifCond .eq 25, 3)), (12, (.iload_n 2, 1)), (13, (.i2l, 1)), (14, (.lconst 0, 1)), (15, (.lconst 1, 1)), (16, (.invokestatic 354, 3)), (19, (.ifCond .eq 15, 3)), (22, (.iload_n 3, 1)), (23, (.i2l, 1)), (24, (.lconst 0, 1)), (25, (.ldc2_w 601, 3)), (28, (.invokestatic 354, 3)), (31, (.ifCond .ne 5, 3)), (34, (.iconst (-1), 1)), (35, (.ireturn, 1)), (36, (.iload_n 1, 1)), (37, (.bipush 9, 2)), (39, (.iload_n 2, 1)), (40, (.imul, 1)), (41, (.iadd, 1)), (42, (.istore 4, 2)), (44, (.aload_n 0, 1)), (45, (.getfield 74, 3)), (48, (.iload 4, 2)), (50, (.baload, 1)), (51, (.ifCond .eq 18, 3)), (54, (.aload_n 0, 1)), (55, (.getfield 71, 3)), (58, (.bipush 16, 2)), (60, (.iload 4, 2)), (62, (.imul, 1)), (63, (.iload_n 3, 1)), (64, (.iadd, 1)), (65, (.iaload, 1)), (66, (.goto 4, 3)), (69, (.iconst (-1), 1)), (70, (.ireturn, 1))]
set_option maxRecDepth 100000 in
theorem da_X12_key_0 : dl_X12_key_0.all (fun q => decide (decode cX12_key q.1 = .ok q.2)) = true := by decide +kernel
theorem dX12_key_0 : decode cX12_key 0 = .ok (.aload_n 0, 1) := dec_of da_X12_key_0 (k := 0) rfl
theorem dX12_key_1 : decode cX12_key 1 = .ok (.iconst 0, 1) := dec_of da_X12_key_0 (k := 1) rfl
theorem dX12_key_2 : decode cX12_key 2 = .ok (.putfield 287, 3) := dec_of da_X12_key_0 (k := 2) rfl
theorem dX12_key_5 : decode cX12_key 5 = .ok (.iload_n 1, 1) := dec_of da_X12_key_0 (k := 3) rfl
theorem dX12_key_6 : decode cX12_key 6 = .ok (.invokestatic 361, 3) := dec_of da_X12_key_0 (k := 4) rfl
theorem dX12_key_9 : decode cX12_key 9 = .ok (.ifCond .eq 25, 3) := dec_of da_X12_key_0 (k := 5) rfl
theorem dX12_key_12 : decode cX12_key 12 = .ok (.iload_n 2, 1) := dec_of da_X12_key_0 (k := 6) rfl
theorem dX12_key_13 : decode cX12_key 13 = .ok (.i2l, 1) := dec_of da_X12_key_0 (k := 7) rfl
theorem dX12_key_14 : decode cX12_key 14 = .ok (.lconst 0, 1) := dec_of da_X12_key_0 (k := 8) rfl
theorem dX12_key_15 : decode cX12_key 15 = .ok (.lconst 1, 1) := dec_of da_X12_key_0 (k := 9) rfl
theorem dX12_key_16 : decode cX12_key 16 = .ok (.invokestatic 354, 3) := dec_of da_X12_key_0 (k := 10) rfl
theorem dX12_key_19 : decode cX12_key 19 = .ok (.ifCond .eq 15, 3) := dec_of da_X12_key_0 (k := 11) rfl
theorem dX12_key_22 : decode cX12_key 22 = .ok (.iload_n 3, 1) := dec_of da_X12_key_0 (k := 12) rfl
theorem dX12_key_23 : decode cX12_key 23 = .ok (.i2l, 1) := dec_of da_X12_key_0 (k := 13) rfl
theorem dX12_key_24 : decode cX12_key 24 = .ok (.lconst 0, 1) := dec_of da_X12_key_0 (k := 14) rfl
theorem dX12_key_25 : decode cX12_key 25 = .ok (.ldc2_w 601, 3) := dec_of da_X12_key_0 (k := 15) rfl
theorem dX12_key_28 : decode cX12_key 28 = .ok (.invokestatic 354, 3) := dec_of da_X12_key_0 (k := 16) rfl
theorem dX12_key_31 : decode cX12_key 31 = .ok (.ifCond .ne 5, 3) := dec_of da_X12_key_0 (k := 17) rfl
theorem dX12_key_34 : decode cX12_key 34 = .ok (.iconst (-1), 1) := dec_of da_X12_key_0 (k := 18) rfl
theorem dX12_key_35 : decode cX12_key 35 = .ok (.ireturn, 1) := dec_of da_X12_key_0 (k := 19) rfl
theorem dX12_key_36 : decode cX12_key 36 = .ok (.iload_n 1, 1) := dec_of da_X12_key_0 (k := 20) rfl
theorem dX12_key_37 : decode cX12_key 37 = .ok (.bipush 9, 2) := dec_of da_X12_key_0 (k := 21) rfl
theorem dX12_key_39 : decode cX12_key 39 = .ok (.iload_n 2, 1) := dec_of da_X12_key_0 (k := 22) rfl
theorem dX12_key_40 : decode cX12_key 40 = .ok (.imul, 1) := dec_of da_X12_key_0 (k := 23) rfl
theorem dX12_key_41 : decode cX12_key 41 = .ok (.iadd, 1) := dec_of da_X12_key_0 (k := 24) rfl
theorem dX12_key_42 : decode cX12_key 42 = .ok (.istore 4, 2) := dec_of da_X12_key_0 (k := 25) rfl
theorem dX12_key_44 : decode cX12_key 44 = .ok (.aload_n 0, 1) := dec_of da_X12_key_0 (k := 26) rfl
theorem dX12_key_45 : decode cX12_key 45 = .ok (.getfield 74, 3) := dec_of da_X12_key_0 (k := 27) rfl
theorem dX12_key_48 : decode cX12_key 48 = .ok (.iload 4, 2) := dec_of da_X12_key_0 (k := 28) rfl
theorem dX12_key_50 : decode cX12_key 50 = .ok (.baload, 1) := dec_of da_X12_key_0 (k := 29) rfl
theorem dX12_key_51 : decode cX12_key 51 = .ok (.ifCond .eq 18, 3) := dec_of da_X12_key_0 (k := 30) rfl
theorem dX12_key_54 : decode cX12_key 54 = .ok (.aload_n 0, 1) := dec_of da_X12_key_0 (k := 31) rfl
theorem dX12_key_55 : decode cX12_key 55 = .ok (.getfield 71, 3) := dec_of da_X12_key_0 (k := 32) rfl
theorem dX12_key_58 : decode cX12_key 58 = .ok (.bipush 16, 2) := dec_of da_X12_key_0 (k := 33) rfl
theorem dX12_key_60 : decode cX12_key 60 = .ok (.iload 4, 2) := dec_of da_X12_key_0 (k := 34) rfl
theorem dX12_key_62 : decode cX12_key 62 = .ok (.imul, 1) := dec_of da_X12_key_0 (k := 35) rfl
theorem dX12_key_63 : decode cX12_key 63 = .ok (.iload_n 3, 1) := dec_of da_X12_key_0 (k := 36) rfl
theorem dX12_key_64 : decode cX12_key 64 = .ok (.iadd, 1) := dec_of da_X12_key_0 (k := 37) rfl
theorem dX12_key_65 : decode cX12_key 65 = .ok (.iaload, 1) := dec_of da_X12_key_0 (k := 38) rfl
theorem dX12_key_66 : decode cX12_key 66 = .ok (.goto 4, 3) := dec_of da_X12_key_0 (k := 39) rfl
theorem dX12_key_69 : decode cX12_key 69 = .ok (.iconst (-1), 1) := dec_of da_X12_key_0 (k := 40) rfl
theorem dX12_key_70 : decode cX12_key 70 = .ok (.ireturn, 1) := dec_of da_X12_key_0 (k := 41) rfl
def dl_X12_delivered_0 : List (Nat × (Instr × Nat)) := [(0, (.aload_n 0, 1)), (1, (.iconst 0, 1)), (2, (.putfield 287, 3)), (5, (.iload_n 1, 1)), (6, (.invokestatic 369, 3)), (9, (.ifCond .eq 23, 3)), (12, (.iload_n 2, 1)), (13, (.ifCond .lt 19, 3)), (16, (.iload_n 2, 1)), (17, (.bipush 12, 2)), (19, (.if_icmp .ge 13, 3)), (22, (.iload_n 2, 1)), (23, (.aload_n 0, 1)), (24, (.getfield 272, 3)), (27, (.iload_n 1, 1)), (28, (.iaload, 1)), (29, (.if_icmp .lt 5, 3)), (32, (.iconst (-1), 1)), (33, (.ireturn, 1)), (34, (.bipush 12, 2)), (36, (.iload_n 1, 1)), (37, (.imul, 1)), (38, (.iload_n 2, 1)), (39, (.iadd, 1)), (40, (.istore 4, 2)), (42, (.iload_n 3, 1)), (43, (.lookupswitch 41 #[(0, 25), (1, 33)], 25)), (68, (.aload_n 0, 1)), (69, (.getfield 275, 3)), (72, (.iload 4, 2)), (74, (.iaload, 1)), (75, (.ireturn, 1)), (76, (.aload_n 0, 1)), (77, (.getfield 278, 3)), (80, (.iload 4, 2)), (82, (.iaload, 1)), (83, (.ireturn, 1)), (84, (.iload_n 3, 1)), (85, (.i2l, 1)), (86, (.ldc2_w 618, 3)), (89, (.ldc2_w 620, 3)), (92, (.aload_n 0, 1)), (93, (.getfield 278, 3)), (96, (.iload 4, 2)), (98, (.iaload, 1)), (99, (.i2l, 1)), (100, (.ladd, 1)), (101, (.invokestatic 354, 3)), (104, (.ifCond .eq 22, 3)), (107, (.aload_n 0, 1)), (108, (.getfield 281, 3)), (111, (.sipush 200, 3)), (114, (.iload 4, 2)), (116, (.imul, 1)), (117, (.iload_n 3, 1)), (118, (.iadd, 1)), (119, (.bipush 10, 2)), (121, (.isub, 1)), (122, (.iaload, 1)), (123, (.goto 4, 3))]
set_option maxRecDepth 100000 in
theorem da_X12_delivered_0 : dl_X12_delivered_0.all (fun q => decide (decode cX12_delivered q.1 = .ok q.2)) = true := by decide +kernel
theorem dX12_delivered_0 : decode cX12_delivered 0 = .ok (.aload_n 0, 1) := dec_of da_X12_delivered_0 (k := 0) rfl
theorem dX12_delivered_1 : decode cX12_delivered 1 = .ok (.iconst 0, 1) := dec_of da_X12_delivered_0 (k := 1) rfl
theorem dX12_delivered_2 : decode cX12_delivered 2 = .ok (.putfield 287, 3) := dec_of da_X12_delivered_0 (k := 2) rfl
theorem dX12_delivered_5 : decode cX12_delivered 5 = .ok (.iload_n 1, 1) := dec_of da_X12_delivered_0 (k := 3) rfl
theorem dX12_delivered_6 : decode cX12_delivered 6 = .ok (.invokestatic 369, 3) := dec_of da_X12_delivered_0 (k := 4) rfl
theorem dX12_delivered_9 : decode cX12_delivered 9 = .ok (.ifCond .eq 23, 3) := dec_of da_X12_delivered_0 (k := 5) rfl
theorem dX12_delivered_12 : decode cX12_delivered 12 = .ok (.iload_n 2, 1) := dec_of da_X12_delivered_0 (k := 6) rfl
theorem dX12_delivered_13 : decode cX12_delivered 13 = .ok (.ifCond .lt 19, 3) := dec_of da_X12_delivered_0 (k := 7) rfl
theorem dX12_delivered_16 : decode cX12_delivered 16 = .ok (.iload_n 2, 1) := dec_of da_X12_delivered_0 (k := 8) rfl
theorem dX12_delivered_17 : decode cX12_delivered 17 = .ok (.bipush 12, 2) := dec_of da_X12_delivered_0 (k := 9) rfl
theorem dX12_delivered_19 : decode cX12_delivered 19 = .ok (.if_icmp .ge 13, 3) := dec_of da_X12_delivered_0 (k := 10) rfl
theorem dX12_delivered_22 : decode cX12_delivered 22 = .ok (.iload_n 2, 1) := dec_of da_X12_delivered_0 (k := 11) rfl
theorem dX12_delivered_23 : decode cX12_delivered 23 = .ok (.aload_n 0, 1) := dec_of da_X12_delivered_0 (k := 12) rfl
theorem dX12_delivered_24 : decode cX12_delivered 24 = .ok (.getfield 272, 3) := dec_of da_X12_delivered_0 (k := 13) rfl
theorem dX12_delivered_27 : decode cX12_delivered 27 = .ok (.iload_n 1, 1) := dec_of da_X12_delivered_0 (k := 14) rfl
theorem dX12_delivered_28 : decode cX12_delivered 28 = .ok (.iaload, 1) := dec_of da_X12_delivered_0 (k := 15) rfl
theorem dX12_delivered_29 : decode cX12_delivered 29 = .ok (.if_icmp .lt 5, 3) := dec_of da_X12_delivered_0 (k := 16) rfl
theorem dX12_delivered_32 : decode cX12_delivered 32 = .ok (.iconst (-1), 1) := dec_of da_X12_delivered_0 (k := 17) rfl
theorem dX12_delivered_33 : decode cX12_delivered 33 = .ok (.ireturn, 1) := dec_of da_X12_delivered_0 (k := 18) rfl
theorem dX12_delivered_34 : decode cX12_delivered 34 = .ok (.bipush 12, 2) := dec_of da_X12_delivered_0 (k := 19) rfl
theorem dX12_delivered_36 : decode cX12_delivered 36 = .ok (.iload_n 1, 1) := dec_of da_X12_delivered_0 (k := 20) rfl
theorem dX12_delivered_37 : decode cX12_delivered 37 = .ok (.imul, 1) := dec_of da_X12_delivered_0 (k := 21) rfl
theorem dX12_delivered_38 : decode cX12_delivered 38 = .ok (.iload_n 2, 1) := dec_of da_X12_delivered_0 (k := 22) rfl
theorem dX12_delivered_39 : decode cX12_delivered 39 = .ok (.iadd, 1) := dec_of da_X12_delivered_0 (k := 23) rfl
theorem dX12_delivered_40 : decode cX12_delivered 40 = .ok (.istore 4, 2) := dec_of da_X12_delivered_0 (k := 24) rfl
theorem dX12_delivered_42 : decode cX12_delivered 42 = .ok (.iload_n 3, 1) := dec_of da_X12_delivered_0 (k := 25) rfl
theorem dX12_delivered_43 : decode cX12_delivered 43 = .ok (.lookupswitch 41 #[(0, 25), (1, 33)], 25) := dec_of da_X12_delivered_0 (k := 26) rfl
theorem dX12_delivered_68 : decode cX12_delivered 68 = .ok (.aload_n 0, 1) := dec_of da_X12_delivered_0 (k := 27) rfl
theorem dX12_delivered_69 : decode cX12_delivered 69 = .ok (.getfield 275, 3) := dec_of da_X12_delivered_0 (k := 28) rfl
theorem dX12_delivered_72 : decode cX12_delivered 72 = .ok (.iload 4, 2) := dec_of da_X12_delivered_0 (k := 29) rfl
theorem dX12_delivered_74 : decode cX12_delivered 74 = .ok (.iaload, 1) := dec_of da_X12_delivered_0 (k := 30) rfl
theorem dX12_delivered_75 : decode cX12_delivered 75 = .ok (.ireturn, 1) := dec_of da_X12_delivered_0 (k := 31) rfl
theorem dX12_delivered_76 : decode cX12_delivered 76 = .ok (.aload_n 0, 1) := dec_of da_X12_delivered_0 (k := 32) rfl
theorem dX12_delivered_77 : decode cX12_delivered 77 = .ok (.getfield 278, 3) := dec_of da_X12_delivered_0 (k := 33) rfl
theorem dX12_delivered_80 : decode cX12_delivered 80 = .ok (.iload 4, 2) := dec_of da_X12_delivered_0 (k := 34) rfl
theorem dX12_delivered_82 : decode cX12_delivered 82 = .ok (.iaload, 1) := dec_of da_X12_delivered_0 (k := 35) rfl
theorem dX12_delivered_83 : decode cX12_delivered 83 = .ok (.ireturn, 1) := dec_of da_X12_delivered_0 (k := 36) rfl
theorem dX12_delivered_84 : decode cX12_delivered 84 = .ok (.iload_n 3, 1) := dec_of da_X12_delivered_0 (k := 37) rfl
theorem dX12_delivered_85 : decode cX12_delivered 85 = .ok (.i2l, 1) := dec_of da_X12_delivered_0 (k := 38) rfl
theorem dX12_delivered_86 : decode cX12_delivered 86 = .ok (.ldc2_w 618, 3) := dec_of da_X12_delivered_0 (k := 39) rfl
theorem dX12_delivered_89 : decode cX12_delivered 89 = .ok (.ldc2_w 620, 3) := dec_of da_X12_delivered_0 (k := 40) rfl
theorem dX12_delivered_92 : decode cX12_delivered 92 = .ok (.aload_n 0, 1) := dec_of da_X12_delivered_0 (k := 41) rfl
theorem dX12_delivered_93 : decode cX12_delivered 93 = .ok (.getfield 278, 3) := dec_of da_X12_delivered_0 (k := 42) rfl
theorem dX12_delivered_96 : decode cX12_delivered 96 = .ok (.iload 4, 2) := dec_of da_X12_delivered_0 (k := 43) rfl
theorem dX12_delivered_98 : decode cX12_delivered 98 = .ok (.iaload, 1) := dec_of da_X12_delivered_0 (k := 44) rfl
theorem dX12_delivered_99 : decode cX12_delivered 99 = .ok (.i2l, 1) := dec_of da_X12_delivered_0 (k := 45) rfl
theorem dX12_delivered_100 : decode cX12_delivered 100 = .ok (.ladd, 1) := dec_of da_X12_delivered_0 (k := 46) rfl
theorem dX12_delivered_101 : decode cX12_delivered 101 = .ok (.invokestatic 354, 3) := dec_of da_X12_delivered_0 (k := 47) rfl
theorem dX12_delivered_104 : decode cX12_delivered 104 = .ok (.ifCond .eq 22, 3) := dec_of da_X12_delivered_0 (k := 48) rfl
theorem dX12_delivered_107 : decode cX12_delivered 107 = .ok (.aload_n 0, 1) := dec_of da_X12_delivered_0 (k := 49) rfl
theorem dX12_delivered_108 : decode cX12_delivered 108 = .ok (.getfield 281, 3) := dec_of da_X12_delivered_0 (k := 50) rfl
theorem dX12_delivered_111 : decode cX12_delivered 111 = .ok (.sipush 200, 3) := dec_of da_X12_delivered_0 (k := 51) rfl
theorem dX12_delivered_114 : decode cX12_delivered 114 = .ok (.iload 4, 2) := dec_of da_X12_delivered_0 (k := 52) rfl
theorem dX12_delivered_116 : decode cX12_delivered 116 = .ok (.imul, 1) := dec_of da_X12_delivered_0 (k := 53) rfl
theorem dX12_delivered_117 : decode cX12_delivered 117 = .ok (.iload_n 3, 1) := dec_of da_X12_delivered_0 (k := 54) rfl
theorem dX12_delivered_118 : decode cX12_delivered 118 = .ok (.iadd, 1) := dec_of da_X12_delivered_0 (k := 55) rfl
theorem dX12_delivered_119 : decode cX12_delivered 119 = .ok (.bipush 10, 2) := dec_of da_X12_delivered_0 (k := 56) rfl
theorem dX12_delivered_121 : decode cX12_delivered 121 = .ok (.isub, 1) := dec_of da_X12_delivered_0 (k := 57) rfl
theorem dX12_delivered_122 : decode cX12_delivered 122 = .ok (.iaload, 1) := dec_of da_X12_delivered_0 (k := 58) rfl
theorem dX12_delivered_123 : decode cX12_delivered 123 = .ok (.goto 4, 3) := dec_of da_X12_delivered_0 (k := 59) rfl
def dl_X12_delivered_1 : List (Nat × (Instr × Nat)) := [(126, (.iconst (-1), 1)), (127, (.ireturn, 1))]
set_option maxRecDepth 100000 in
theorem da_X12_delivered_1 : dl_X12_delivered_1.all (fun q => decide (decode cX12_delivered q.1 = .ok q.2)) = true := by decide +kernel
theorem dX12_delivered_126 : decode cX12_delivered 126 = .ok (.iconst (-1), 1) := dec_of da_X12_delivered_1 (k := 0) rfl
theorem dX12_delivered_127 : decode cX12_delivered 127 = .ok (.ireturn, 1) := dec_of da_X12_delivered_1 (k := 1) rfl
def dl_X12_air_0 : List (Nat × (Instr × Nat)) := [(0, (.aload_n 0, 1)), (1, (.iconst 0, 1)), (2, (.putfield 287, 3)), (5, (.aload_n 0, 1)), (6, (.iload_n 1, 1)), (7, (.invokevirtual 596, 3)), (10, (.ifCond .ne 5, 3)), (13, (.iconst (-1), 1)), (14, (.ireturn, 1)), (15, (.aload_n 0, 1)), (16, (.getfield 457, 3)), (19, (.iconst 1, 1)), (20, (.isub, 1)), (21, (.iload_n 1, 1)), (22, (.isub, 1)), (23, (.bipush 40, 2)), (25, (.irem, 1)), (26, (.istore_n 3, 1)), (27, (.iload_n 2, 1)), (28, (.tableswitch 71 0 4 #[36, 43, 50, 57, 64], 36)), (64, (.aload_n 0, 1)), (65, (.getfield 221, 3)), (68, (.iload_n 3, 1)), (69, (.iaload, 1)), (70, (.ireturn, 1)), (71, (.aload_n 0, 1)), (72, (.getfield 218, 3)), (75, (.iload_n 3, 1)), (76, (.iaload, 1)), (77, (.ireturn, 1)), (78, (.aload_n 0, 1)), (79, (.getfield 224, 3)), (82, (.iload_n 3, 1)), (83, (.iaload, 1)), (84, (.ireturn, 1)), (85, (.aload_n 0, 1)), (86, (.getfield 227, 3)), (89, (.iload_n 3, 1)), (90, (.iaload, 1)), (91, (.ireturn, 1)), (92, (.aload_n 0, 1)), (93, (.getfield 230, 3)), (96, (.iload_n 3, 1)), (97, (.iaload, 1)), (98, (.ireturn, 1)), (99, (.iload_n 2, 1)), (100, (.i2l, 1)), (101, (.ldc2_w 618, 3)), (104, (.ldc2_w 620, 3)), (107, (.aload_n 0, 1)), (108, (.getfield 224, 3)), (111, (.iload_n 3, 1)), (112, (.iaload, 1)), (113, (.i2l, 1)), (114, (.ladd, 1)), (115, (.invokestatic 354, 3)), (118, (.ifCond .eq 21, 3)), (121, (.aload_n 0, 1)), (122, (.getfield 233, 3)), (125, (.sipush 300, 3))]
set_option maxRecDepth 100000 in
theorem da_X12_air_0 : dl_X12_air_0.all (fun q => decide (decode cX12_air q.1 = .ok q.2)) = true := by decide +kernel
theorem dX12_air_0 : decode cX12_air 0 = .ok (.aload_n 0, 1) := dec_of da_X12_air_0 (k := 0) rfl
theorem dX12_air_1 : decode cX12_air 1 = .ok (.iconst 0, 1) := dec_of da_X12_air_0 (k := 1) rfl
theorem dX12_air_2 : decode cX12_air 2 = .ok (.putfield 287, 3) := dec_of da_X12_air_0 (k := 2) rfl
theorem dX12_air_5 : decode cX12_air 5 = .ok (.aload_n 0, 1) := dec_of da_X12_air_0 (k := 3) rfl
theorem dX12_air_6 : decode cX12_air 6 = .ok (.iload_n 1, 1) := dec_of da_X12_air_0 (k := 4) rfl
theorem dX12_air_7 : decode cX12_air 7 = .ok (.invokevirtual 596, 3) := dec_of da_X12_air_0 (k := 5) rfl
theorem dX12_air_10 : decode cX12_air 10 = .ok (.ifCond .ne 5, 3) := dec_of da_X12_air_0 (k := 6) rfl
theorem dX12_air_13 : decode cX12_air 13 = .ok (.iconst (-1), 1) := dec_of da_X12_air_0 (k := 7) rfl
theorem dX12_air_14 : decode cX12_air 14 = .ok (.ireturn, 1) := dec_of da_X12_air_0 (k := 8) rfl
theorem dX12_air_15 : decode cX12_air 15 = .ok (.aload_n 0, 1) := dec_of da_X12_air_0 (k := 9) rfl
theorem dX12_air_16 : decode cX12_air 16 = .ok (.getfield 457, 3) := dec_of da_X12_air_0 (k := 10) rfl
theorem dX12_air_19 : decode cX12_air 19 = .ok (.iconst 1, 1) := dec_of da_X12_air_0 (k := 11) rfl
theorem dX12_air_20 : decode cX12_air 20 = .ok (.isub, 1) := dec_of da_X12_air_0 (k := 12) rfl
theorem dX12_air_21 : decode cX12_air 21 = .ok (.iload_n 1, 1) := dec_of da_X12_air_0 (k := 13) rfl
theorem dX12_air_22 : decode cX12_air 22 = .ok (.isub, 1) := dec_of da_X12_air_0 (k := 14) rfl
theorem dX12_air_23 : decode cX12_air 23 = .ok (.bipush 40, 2) := dec_of da_X12_air_0 (k := 15) rfl
theorem dX12_air_25 : decode cX12_air 25 = .ok (.irem, 1) := dec_of da_X12_air_0 (k := 16) rfl
theorem dX12_air_26 : decode cX12_air 26 = .ok (.istore_n 3, 1) := dec_of da_X12_air_0 (k := 17) rfl
theorem dX12_air_27 : decode cX12_air 27 = .ok (.iload_n 2, 1) := dec_of da_X12_air_0 (k := 18) rfl
theorem dX12_air_28 : decode cX12_air 28 = .ok (.tableswitch 71 0 4 #[36, 43, 50, 57, 64], 36) := dec_of da_X12_air_0 (k := 19) rfl
theorem dX12_air_64 : decode cX12_air 64 = .ok (.aload_n 0, 1) := dec_of da_X12_air_0 (k := 20) rfl
theorem dX12_air_65 : decode cX12_air 65 = .ok (.getfield 221, 3) := dec_of da_X12_air_0 (k := 21) rfl
theorem dX12_air_68 : decode cX12_air 68 = .ok (.iload_n 3, 1) := dec_of da_X12_air_0 (k := 22) rfl
theorem dX12_air_69 : decode cX12_air 69 = .ok (.iaload, 1) := dec_of da_X12_air_0 (k := 23) rfl
theorem dX12_air_70 : decode cX12_air 70 = .ok (.ireturn, 1) := dec_of da_X12_air_0 (k := 24) rfl
theorem dX12_air_71 : decode cX12_air 71 = .ok (.aload_n 0, 1) := dec_of da_X12_air_0 (k := 25) rfl
theorem dX12_air_72 : decode cX12_air 72 = .ok (.getfield 218, 3) := dec_of da_X12_air_0 (k := 26) rfl
theorem dX12_air_75 : decode cX12_air 75 = .ok (.iload_n 3, 1) := dec_of da_X12_air_0 (k := 27) rfl
theorem dX12_air_76 : decode cX12_air 76 = .ok (.iaload, 1) := dec_of da_X12_air_0 (k := 28) rfl
theorem dX12_air_77 : decode cX12_air 77 = .ok (.ireturn, 1) := dec_of da_X12_air_0 (k := 29) rfl
theorem dX12_air_78 : decode cX12_air 78 = .ok (.aload_n 0, 1) := dec_of da_X12_air_0 (k := 30) rfl
theorem dX12_air_79 : decode cX12_air 79 = .ok (.getfield 224, 3) := dec_of da_X12_air_0 (k := 31) rfl
theorem dX12_air_82 : decode cX12_air 82 = .ok (.iload_n 3, 1) := dec_of da_X12_air_0 (k := 32) rfl
theorem dX12_air_83 : decode cX12_air 83 = .ok (.iaload, 1) := dec_of da_X12_air_0 (k := 33) rfl
theorem dX12_air_84 : decode cX12_air 84 = .ok (.ireturn, 1) := dec_of da_X12_air_0 (k := 34) rfl
theorem dX12_air_85 : decode cX12_air 85 = .ok (.aload_n 0, 1) := dec_of da_X12_air_0 (k := 35) rfl
theorem dX12_air_86 : decode cX12_air 86 = .ok (.getfield 227, 3) := dec_of da_X12_air_0 (k := 36) rfl
theorem dX12_air_89 : decode cX12_air 89 = .ok (.iload_n 3, 1) := dec_of da_X12_air_0 (k := 37) rfl
theorem dX12_air_90 : decode cX12_air 90 = .ok (.iaload, 1) := dec_of da_X12_air_0 (k := 38) rfl
theorem dX12_air_91 : decode cX12_air 91 = .ok (.ireturn, 1) := dec_of da_X12_air_0 (k := 39) rfl
theorem dX12_air_92 : decode cX12_air 92 = .ok (.aload_n 0, 1) := dec_of da_X12_air_0 (k := 40) rfl
theorem dX12_air_93 : decode cX12_air 93 = .ok (.getfield 230, 3) := dec_of da_X12_air_0 (k := 41) rfl
theorem dX12_air_96 : decode cX12_air 96 = .ok (.iload_n 3, 1) := dec_of da_X12_air_0 (k := 42) rfl
theorem dX12_air_97 : decode cX12_air 97 = .ok (.iaload, 1) := dec_of da_X12_air_0 (k := 43) rfl
theorem dX12_air_98 : decode cX12_air 98 = .ok (.ireturn, 1) := dec_of da_X12_air_0 (k := 44) rfl
theorem dX12_air_99 : decode cX12_air 99 = .ok (.iload_n 2, 1) := dec_of da_X12_air_0 (k := 45) rfl
theorem dX12_air_100 : decode cX12_air 100 = .ok (.i2l, 1) := dec_of da_X12_air_0 (k := 46) rfl
theorem dX12_air_101 : decode cX12_air 101 = .ok (.ldc2_w 618, 3) := dec_of da_X12_air_0 (k := 47) rfl
theorem dX12_air_104 : decode cX12_air 104 = .ok (.ldc2_w 620, 3) := dec_of da_X12_air_0 (k := 48) rfl
theorem dX12_air_107 : decode cX12_air 107 = .ok (.aload_n 0, 1) := dec_of da_X12_air_0 (k := 49) rfl
theorem dX12_air_108 : decode cX12_air 108 = .ok (.getfield 224, 3) := dec_of da_X12_air_0 (k := 50) rfl
theorem dX12_air_111 : decode cX12_air 111 = .ok (.iload_n 3, 1) := dec_of da_X12_air_0 (k := 51) rfl
theorem dX12_air_112 : decode cX12_air 112 = .ok (.iaload, 1) := dec_of da_X12_air_0 (k := 52) rfl
theorem dX12_air_113 : decode cX12_air 113 = .ok (.i2l, 1) := dec_of da_X12_air_0 (k := 53) rfl
theorem dX12_air_114 : decode cX12_air 114 = .ok (.ladd, 1) := dec_of da_X12_air_0 (k := 54) rfl
theorem dX12_air_115 : decode cX12_air 115 = .ok (.invokestatic 354, 3) := dec_of da_X12_air_0 (k := 55) rfl
theorem dX12_air_118 : decode cX12_air 118 = .ok (.ifCond .eq 21, 3) := dec_of da_X12_air_0 (k := 56) rfl
theorem dX12_air_121 : decode cX12_air 121 = .ok (.aload_n 0, 1) := dec_of da_X12_air_0 (k := 57) rfl
theorem dX12_air_122 : decode cX12_air 122 = .ok (.getfield 233, 3) := dec_of da_X12_air_0 (k := 58) rfl
theorem dX12_air_125 : decode cX12_air 125 = .ok (.sipush 300, 3) := dec_of da_X12_air_0 (k := 59) rfl
def dl_X12_air_1 : List (Nat × (Instr × Nat)) := [(128, (.iload_n 3, 1)), (129, (.imul, 1)), (130, (.iload_n 2, 1)), (131, (.iadd, 1)), (132, (.bipush 10, 2)), (134, (.isub, 1)), (135, (.iaload, 1)), (136, (.goto 4, 3)), (139, (.iconst (-1), 1)), (140, (.ireturn, 1))]
set_option maxRecDepth 100000 in
theorem da_X12_air_1 : dl_X12_air_1.all (fun q => decide (decode cX12_air q.1 = .ok q.2)) = true := by decide +kernel
theorem dX12_air_128 : decode cX12_air 128 = .ok (.iload_n 3, 1) := dec_of da_X12_air_1 (k := 0) rfl
theorem dX12_air_129 : decode cX12_air 129 = .ok (.imul, 1) := dec_of da_X12_air_1 (k := 1) rfl
theorem dX12_air_130 : decode cX12_air 130 = .ok (.iload_n 2, 1) := dec_of da_X12_air_1 (k := 2) rfl
theorem dX12_air_131 : decode cX12_air 131 = .ok (.iadd, 1) := dec_of da_X12_air_1 (k := 3) rfl
theorem dX12_air_132 : decode cX12_air 132 = .ok (.bipush 10, 2) := dec_of da_X12_air_1 (k := 4) rfl
theorem dX12_air_134 : decode cX12_air 134 = .ok (.isub, 1) := dec_of da_X12_air_1 (k := 5) rfl
theorem dX12_air_135 : decode cX12_air 135 = .ok (.iaload, 1) := dec_of da_X12_air_1 (k := 6) rfl
theorem dX12_air_136 : decode cX12_air 136 = .ok (.goto 4, 3) := dec_of da_X12_air_1 (k := 7) rfl
theorem dX12_air_139 : decode cX12_air 139 = .ok (.iconst (-1), 1) := dec_of da_X12_air_1 (k := 8) rfl
theorem dX12_air_140 : decode cX12_air 140 = .ok (.ireturn, 1) := dec_of da_X12_air_1 (k := 9) rfl
def dl_X12_count_0 : List (Nat × (Instr × Nat)) := [(0, (.aload_n 0, 1)), (1, (.iconst 0, 1)), (2, (.putfield 287, 3)), (5, (.iload_n 1, 1)), (6, (.tableswitch 100 0 8 #[50, 55, 60, 65, 75, 80, 85, 90, 95], 50)), (56, (.aload_n 0, 1)), (57, (.getfield 454, 3)), (60, (.ireturn, 1)), (61, (.aload_n 0, 1)), (62, (.getfield 457, 3)), (65, (.ireturn, 1)), (66, (.aload_n 0, 1)), (67, (.getfield 485, 3)), (70, (.ireturn, 1)), (71, (.aload_n 0, 1)), (72, (.getfield 401, 3)), (75, (.aload_n 0, 1)), (76, (.getfield 398, 3)), (79, (.isub, 1)), (80, (.ireturn, 1)), (81, (.aload_n 0, 1)), (82, (.getfield 346, 3)), (85, (.ireturn, 1)), (86, (.aload_n 0, 1)), (87, (.getfield 607, 3)), (90, (.ireturn, 1)), (91, (.aload_n 0, 1)), (92, (.getfield 513, 3)), (95, (.ireturn, 1)), (96, (.aload_n 0, 1)), (97, (.getfield 497, 3)), (100, (.ireturn, 1)), (101, (.aload_n 0, 1)), (102, (.getfield 476, 3)), (105, (.ireturn, 1)), (106, (.iconst (-1), 1)), (107, (.ireturn, 1))]
set_option maxRecDepth 100000 in
theorem da_X12_count_0 : dl_X12_count_0.all (fun q => decide (decode cX12_count q.1 = .ok q.2)) = true := by decide +kernel
theorem dX12_count_0 : decode cX12_count 0 = .ok (.aload_n 0, 1) := dec_of da_X12_count_0 (k := 0) rfl
theorem dX12_count_1 : decode cX12_count 1 = .ok (.iconst 0, 1) := dec_of da_X12_count_0 (k := 1) rfl
theorem dX12_count_2 : decode cX12_count 2 = .ok (.putfield 287, 3) := dec_of da_X12_count_0 (k := 2) rfl
theorem dX12_count_5 : decode cX12_count 5 = .ok (.iload_n 1, 1) := dec_of da_X12_count_0 (k := 3) rfl
theorem dX12_count_6 : decode cX12_count 6 = .ok (.tableswitch 100 0 8 #[50, 55, 60, 65, 75, 80, 85, 90, 95], 50) := dec_of da_X12_count_0 (k := 4) rfl
theorem dX12_count_56 : decode cX12_count 56 = .ok (.aload_n 0, 1) := dec_of da_X12_count_0 (k := 5) rfl
theorem dX12_count_57 : decode cX12_count 57 = .ok (.getfield 454, 3) := dec_of da_X12_count_0 (k := 6) rfl
theorem dX12_count_60 : decode cX12_count 60 = .ok (.ireturn, 1) := dec_of da_X12_count_0 (k := 7) rfl
theorem dX12_count_61 : decode cX12_count 61 = .ok (.aload_n 0, 1) := dec_of da_X12_count_0 (k := 8) rfl
theorem dX12_count_62 : decode cX12_count 62 = .ok (.getfield 457, 3) := dec_of da_X12_count_0 (k := 9) rfl
theorem dX12_count_65 : decode cX12_count 65 = .ok (.ireturn, 1) := dec_of da_X12_count_0 (k := 10) rfl
theorem dX12_count_66 : decode cX12_count 66 = .ok (.aload_n 0, 1) := dec_of da_X12_count_0 (k := 11) rfl
theorem dX12_count_67 : decode cX12_count 67 = .ok (.getfield 485, 3) := dec_of da_X12_count_0 (k := 12) rfl
theorem dX12_count_70 : decode cX12_count 70 = .ok (.ireturn, 1) := dec_of da_X12_count_0 (k := 13) rfl
theorem dX12_count_71 : decode cX12_count 71 = .ok (.aload_n 0, 1) := dec_of da_X12_count_0 (k := 14) rfl
theorem dX12_count_72 : decode cX12_count 72 = .ok (.getfield 401, 3) := dec_of da_X12_count_0 (k := 15) rfl
theorem dX12_count_75 : decode cX12_count 75 = .ok (.aload_n 0, 1) := dec_of da_X12_count_0 (k := 16) rfl
theorem dX12_count_76 : decode cX12_count 76 = .ok (.getfield 398, 3) := dec_of da_X12_count_0 (k := 17) rfl
theorem dX12_count_79 : decode cX12_count 79 = .ok (.isub, 1) := dec_of da_X12_count_0 (k := 18) rfl
theorem dX12_count_80 : decode cX12_count 80 = .ok (.ireturn, 1) := dec_of da_X12_count_0 (k := 19) rfl
theorem dX12_count_81 : decode cX12_count 81 = .ok (.aload_n 0, 1) := dec_of da_X12_count_0 (k := 20) rfl
theorem dX12_count_82 : decode cX12_count 82 = .ok (.getfield 346, 3) := dec_of da_X12_count_0 (k := 21) rfl
theorem dX12_count_85 : decode cX12_count 85 = .ok (.ireturn, 1) := dec_of da_X12_count_0 (k := 22) rfl
theorem dX12_count_86 : decode cX12_count 86 = .ok (.aload_n 0, 1) := dec_of da_X12_count_0 (k := 23) rfl
theorem dX12_count_87 : decode cX12_count 87 = .ok (.getfield 607, 3) := dec_of da_X12_count_0 (k := 24) rfl
theorem dX12_count_90 : decode cX12_count 90 = .ok (.ireturn, 1) := dec_of da_X12_count_0 (k := 25) rfl
theorem dX12_count_91 : decode cX12_count 91 = .ok (.aload_n 0, 1) := dec_of da_X12_count_0 (k := 26) rfl
theorem dX12_count_92 : decode cX12_count 92 = .ok (.getfield 513, 3) := dec_of da_X12_count_0 (k := 27) rfl
theorem dX12_count_95 : decode cX12_count 95 = .ok (.ireturn, 1) := dec_of da_X12_count_0 (k := 28) rfl
theorem dX12_count_96 : decode cX12_count 96 = .ok (.aload_n 0, 1) := dec_of da_X12_count_0 (k := 29) rfl
theorem dX12_count_97 : decode cX12_count 97 = .ok (.getfield 497, 3) := dec_of da_X12_count_0 (k := 30) rfl
theorem dX12_count_100 : decode cX12_count 100 = .ok (.ireturn, 1) := dec_of da_X12_count_0 (k := 31) rfl
theorem dX12_count_101 : decode cX12_count 101 = .ok (.aload_n 0, 1) := dec_of da_X12_count_0 (k := 32) rfl
theorem dX12_count_102 : decode cX12_count 102 = .ok (.getfield 476, 3) := dec_of da_X12_count_0 (k := 33) rfl
theorem dX12_count_105 : decode cX12_count 105 = .ok (.ireturn, 1) := dec_of da_X12_count_0 (k := 34) rfl
theorem dX12_count_106 : decode cX12_count 106 = .ok (.iconst (-1), 1) := dec_of da_X12_count_0 (k := 35) rfl
theorem dX12_count_107 : decode cX12_count 107 = .ok (.ireturn, 1) := dec_of da_X12_count_0 (k := 36) rfl
def dl_J9_floorMod_7cf53_0 : List (Nat × (Instr × Nat)) := [(0, (.iload_n 0, 1)), (1, (.iload_n 1, 1)), (2, (.irem, 1)), (3, (.istore_n 2, 1)), (4, (.iload_n 0, 1)), (5, (.iload_n 1, 1)), (6, (.ixor, 1)), (7, (.ifCond .ge 11, 3)), (10, (.iload_n 2, 1)), (11, (.ifCond .eq 7, 3)), (14, (.iload_n 2, 1)), (15, (.iload_n 1, 1)), (16, (.iadd, 1)), (17, (.ireturn, 1)), (18, (.iload_n 2, 1)), (19, (.ireturn, 1))]
set_option maxRecDepth 100000 in
theorem da_J9_floorMod_7cf53_0 : dl_J9_floorMod_7cf53_0.all (fun q => decide (decode cJ9_floorMod_7cf53 q.1 = .ok q.2)) = true := by decide +kernel
theorem dJ9_floorMod_7cf53_0 : decode cJ9_floorMod_7cf53 0 = .ok (.iload_n 0, 1) := dec_of da_J9_floorMod_7cf53_0 (k := 0) rfl
theorem dJ9_floorMod_7cf53_1 : decode cJ9_floorMod_7cf53 1 = .ok (.iload_n 1, 1) := dec_of da_J9_floorMod_7cf53_0 (k := 1) rfl
theorem dJ9_floorMod_7cf53_2 : decode cJ9_floorMod_7cf53 2 = .ok (.irem, 1) := dec_of da_J9_floorMod_7cf53_0 (k := 2) rfl
theorem dJ9_floorMod_7cf53_3 : decode cJ9_floorMod_7cf53 3 = .ok (.istore_n 2, 1) := dec_of da_J9_floorMod_7cf53_0 (k := 3) rfl
theorem dJ9_floorMod_7cf53_4 : decode cJ9_floorMod_7cf53 4 = .ok (.iload_n 0, 1) := dec_of da_J9_floorMod_7cf53_0 (k := 4) rfl
theorem dJ9_floorMod_7cf53_5 : decode cJ9_floorMod_7cf53 5 = .ok (.iload_n 1, 1) := dec_of da_J9_floorMod_7cf53_0 (k := 5) rfl
theorem dJ9_floorMod_7cf53_6 : decode cJ9_floorMod_7cf53 6 = .ok (.ixor, 1) := dec_of da_J9_floorMod_7cf53_0 (k := 6) rfl
theorem dJ9_floorMod_7cf53_7 : decode cJ9_floorMod_7cf53 7 = .ok (.ifCond .ge 11, 3) := dec_of da_J9_floorMod_7cf53_0 (k := 7) rfl
theorem dJ9_floorMod_7cf53_10 : decode cJ9_floorMod_7cf53 10 = .ok (.iload_n 2, 1) := dec_of da_J9_floorMod_7cf53_0 (k := 8) rfl
theorem dJ9_floorMod_7cf53_11 : decode cJ9_floorMod_7cf53 11 = .ok (.ifCond .eq 7, 3) := dec_of da_J9_floorMod_7cf53_0 (k := 9) rfl
theorem dJ9_floorMod_7cf53_14 : decode cJ9_floorMod_7cf53 14 = .ok (.iload_n 2, 1) := dec_of da_J9_floorMod_7cf53_0 (k := 10) rfl
theorem dJ9_floorMod_7cf53_15 : decode cJ9_floorMod_7cf53 15 = .ok (.iload_n 1, 1) := dec_of da_J9_floorMod_7cf53_0 (k := 11) rfl
theorem dJ9_floorMod_7cf53_16 : decode cJ9_floorMod_7cf53 16 = .ok (.iadd, 1) := dec_of da_J9_floorMod_7cf53_0 (k := 12) rfl
theorem dJ9_floorMod_7cf53_17 : decode cJ9_floorMod_7cf53 17 = .ok (.ireturn, 1) := dec_of da_J9_floorMod_7cf53_0 (k := 13) rfl
theorem dJ9_floorMod_7cf53_18 : decode cJ9_floorMod_7cf53 18 = .ok (.iload_n 2, 1) := dec_of da_J9_floorMod_7cf53_0 (k := 14) rfl
theorem dJ9_floorMod_7cf53_19 : decode cJ9_floorMod_7cf53 19 = .ok (.ireturn, 1) := dec_of da_J9_floorMod_7cf53_0 (k := 15) rfl
def dl_J9_min_7cf53_0 : List (Nat × (Instr × Nat)) := [(0, (.iload_n 0, 1)), (1, (.iload_n 1, 1)), (2, (.if_icmp .gt 7, 3)), (5, (.iload_n 0, 1)), (6, (.goto 4, 3)), (9, (.iload_n 1, 1)), (10, (.ireturn, 1))]
set_option maxRecDepth 100000 in
theorem da_J9_min_7cf53_0 : dl_J9_min_7cf53_0.all (fun q => decide (decode cJ9_min_7cf53 q.1 = .ok q.2)) = true := by decide +kernel
theorem dJ9_min_7cf53_0 : decode cJ9_min_7cf53 0 = .ok (.iload_n 0, 1) := dec_of da_J9_min_7cf53_0 (k := 0) rfl
theorem dJ9_min_7cf53_1 : decode cJ9_min_7cf53 1 = .ok (.iload_n 1, 1) := dec_of da_J9_min_7cf53_0 (k := 1) rfl
theorem dJ9_min_7cf53_2 : decode cJ9_min_7cf53 2 = .ok (.if_icmp .gt 7, 3) := dec_of da_J9_min_7cf53_0 (k := 2) rfl
theorem dJ9_min_7cf53_5 : decode cJ9_min_7cf53 5 = .ok (.iload_n 0, 1) := dec_of da_J9_min_7cf53_0 (k := 3) rfl
theorem dJ9_min_7cf53_6 : decode cJ9_min_7cf53 6 = .ok (.goto 4, 3) := dec_of da_J9_min_7cf53_0 (k := 4) rfl
theorem dJ9_min_7cf53_9 : decode cJ9_min_7cf53 9 = .ok (.iload_n 1, 1) := dec_of da_J9_min_7cf53_0 (k := 5) rfl
theorem dJ9_min_7cf53_10 : decode cJ9_min_7cf53 10 = .ok (.ireturn, 1) := dec_of da_J9_min_7cf53_0 (k := 6) rfl
def dl_J0_length_8abf5_0 : List (Nat × (Instr × Nat)) := [(0, (.aload_n 0, 1)), (1, (.getfield 9, 3)), (4, (.arraylength, 1)), (5, (.aload_n 0, 1)), (6, (.invokevirtual 335, 3)), (9, (.ishr, 1)), (10, (.ireturn, 1))]
set_option maxRecDepth 100000 in
theorem da_J0_length_8abf5_0 : dl_J0_length_8abf5_0.all (fun q => decide (decode cJ0_length_8abf5 q.1 = .ok q.2)) = true := by decide +kernel
theorem dJ0_length_8abf5_0 : decode cJ0_length_8abf5 0 = .ok (.aload_n 0, 1) := dec_of da_J0_length_8abf5_0 (k := 0) rfl
theorem dJ0_length_8abf5_1 : decode cJ0_length_8abf5 1 = .ok (.getfield 9, 3) := dec_of da_J0_length_8abf5_0 (k := 1) rfl
theorem dJ0_length_8abf5_4 : decode cJ0_length_8abf5 4 = .ok (.arraylength, 1) := dec_of da_J0_length_8abf5_0 (k := 2) rfl
theorem dJ0_length_8abf5_5 : decode cJ0_length_8abf5 5 = .ok (.aload_n 0, 1) := dec_of da_J0_length_8abf5_0 (k := 3) rfl
theorem dJ0_length_8abf5_6 : decode cJ0_length_8abf5 6 = .ok (.invokevirtual 335, 3) := dec_of da_J0_length_8abf5_0 (k := 4) rfl
theorem dJ0_length_8abf5_9 : decode cJ0_length_8abf5 9 = .ok (.ishr, 1) := dec_of da_J0_length_8abf5_0 (k := 5) rfl
theorem dJ0_length_8abf5_10 : decode cJ0_length_8abf5 10 = .ok (.ireturn, 1) := dec_of da_J0_length_8abf5_0 (k := 6) rfl
def dl_J0_charAt_5068e_0 : List (Nat × (Instr × Nat)) := [(0, (.aload_n 0, 1)), (1, (.invokevirtual 492, 3)), (4, (.ifCond .eq 12, 3)), (7, (.aload_n 0, 1)), (8, (.getfield 9, 3)), (11, (.iload_n 1, 1)), (12, (.invokestatic 495, 3)), (15, (.ireturn, 1)), (16, (.aload_n 0, 1)), (17, (.getfield 9, 3)), (20, (.iload_n 1, 1)), (21, (.invokestatic 498, 3)), (24, (.ireturn, 1))]
set_option maxRecDepth 100000 in
theorem da_J0_charAt_5068e_0 : dl_J0_charAt_5068e_0.all (fun q => decide (decode cJ0_charAt_5068e q.1 = .ok q.2)) = true := by decide +kernel
theorem dJ0_charAt_5068e_0 : decode cJ0_charAt_5068e 0 = .ok (.aload_n 0, 1) := dec_of da_J0_charAt_5068e_0 (k := 0) rfl
theorem dJ0_charAt_5068e_1 : decode cJ0_charAt_5068e 1 = .ok (.invokevirtual 492, 3) := dec_of da_J0_charAt_5068e_0 (k := 1) rfl
theorem dJ0_charAt_5068e_4 : decode cJ0_charAt_5068e 4 = .ok (.ifCond .eq 12, 3) := dec_of da_J0_charAt_5068e_0 (k := 2) rfl
theorem dJ0_charAt_5068e_7 : decode cJ0_charAt_5068e 7 = .ok (.aload_n 0, 1) := dec_of da_J0_charAt_5068e_0 (k := 3) rfl
theorem dJ0_charAt_5068e_8 : decode cJ0_charAt_5068e 8 = .ok (.getfield 9, 3) := dec_of da_J0_charAt_5068e_0 (k := 4) rfl
theorem dJ0_charAt_5068e_11 : decode cJ0_charAt_5068e 11 = .ok (.iload_n 1, 1) := dec_of da_J0_charAt_5068e_0 (k := 5) rfl
theorem dJ0_charAt_5068e_12 : decode cJ0_charAt_5068e 12 = .ok (.invokestatic 495, 3) := dec_of da_J0_charAt_5068e_0 (k := 6) rfl
theorem dJ0_charAt_5068e_15 : decode cJ0_charAt_5068e 15 = .ok (.ireturn, 1) := dec_of da_J0_charAt_5068e_0 (k := 7) rfl
theorem dJ0_charAt_5068e_16 : decode cJ0_charAt_5068e 16 = .ok (.aload_n 0, 1) := dec_of da_J0_charAt_5068e_0 (k := 8) rfl
theorem dJ0_charAt_5068e_17 : decode cJ0_charAt_5068e 17 = .ok (.getfield 9, 3) := dec_of da_J0_charAt_5068e_0 (k := 9) rfl
theorem dJ0_charAt_5068e_20 : decode cJ0_charAt_5068e 20 = .ok (.iload_n 1, 1) := dec_of da_J0_charAt_5068e_0 (k := 10) rfl
theorem dJ0_charAt_5068e_21 : decode cJ0_charAt_5068e 21 = .ok (.invokestatic 498, 3) := dec_of da_J0_charAt_5068e_0 (k := 11) rfl
theorem dJ0_charAt_5068e_24 : decode cJ0_charAt_5068e 24 = .ok (.ireturn, 1) := dec_of da_J0_charAt_5068e_0 (k := 12) rfl
def dl_J0_coder_7d493_0 : List (Nat × (Instr × Nat)) := [(0, (.getstatic 38, 3)), (3, (.ifCond .eq 10, 3)), (6, (.aload_n 0, 1)), (7, (.getfield 15, 3)), (10, (.goto 4, 3)), (13, (.iconst 1, 1)), (14, (.ireturn, 1))]
set_option maxRecDepth 100000 in
theorem da_J0_coder_7d493_0 : dl_J0_coder_7d493_0.all (fun q => decide (decode cJ0_coder_7d493 q.1 = .ok q.2)) = true := by decide +kernel
theorem dJ0_coder_7d493_0 : decode cJ0_coder_7d493 0 = .ok (.getstatic 38, 3) := dec_of da_J0_coder_7d493_0 (k := 0) rfl
theorem dJ0_coder_7d493_3 : decode cJ0_coder_7d493 3 = .ok (.ifCond .eq 10, 3) := dec_of da_J0_coder_7d493_0 (k := 1) rfl
theorem dJ0_coder_7d493_6 : decode cJ0_coder_7d493 6 = .ok (.aload_n 0, 1) := dec_of da_J0_coder_7d493_0 (k := 2) rfl
theorem dJ0_coder_7d493_7 : decode cJ0_coder_7d493 7 = .ok (.getfield 15, 3) := dec_of da_J0_coder_7d493_0 (k := 3) rfl
theorem dJ0_coder_7d493_10 : decode cJ0_coder_7d493 10 = .ok (.goto 4, 3) := dec_of da_J0_coder_7d493_0 (k := 4) rfl
theorem dJ0_coder_7d493_13 : decode cJ0_coder_7d493 13 = .ok (.iconst 1, 1) := dec_of da_J0_coder_7d493_0 (k := 5) rfl
theorem dJ0_coder_7d493_14 : decode cJ0_coder_7d493 14 = .ok (.ireturn, 1) := dec_of da_J0_coder_7d493_0 (k := 6) rfl
def dl_J0_isLatin1_aae02_0 : List (Nat × (Instr × Nat)) := [(0, (.getstatic 38, 3)), (3, (.ifCond .eq 14, 3)), (6, (.aload_n 0, 1)), (7, (.getfield 15, 3)), (10, (.ifCond .ne 7, 3)), (13, (.iconst 1, 1)), (14, (.goto 4, 3)), (17, (.iconst 0, 1)), (18, (.ireturn, 1))]
set_option maxRecDepth 100000 in
theorem da_J0_isLatin1_aae02_0 : dl_J0_isLatin1_aae02_0.all (fun q => decide (decode cJ0_isLatin1_aae02 q.1 = .ok q.2)) = true := by decide +kernel
theorem dJ0_isLatin1_aae02_0 : decode cJ0_isLatin1_aae02 0 = .ok (.getstatic 38, 3) := dec_of da_J0_isLatin1_aae02_0 (k := 0) rfl
theorem dJ0_isLatin1_aae02_3 : decode cJ0_isLatin1_aae02 3 = .ok (.ifCond .eq 14, 3) := dec_of da_J0_isLatin1_aae02_0 (k := 1) rfl
theorem dJ0_isLatin1_aae02_6 : decode cJ0_isLatin1_aae02 6 = .ok (.aload_n 0, 1) := dec_of da_J0_isLatin1_aae02_0 (k := 2) rfl
theorem dJ0_isLatin1_aae02_7 : decode cJ0_isLatin1_aae02 7 = .ok (.getfield 15, 3) := dec_of da_J0_isLatin1_aae02_0 (k := 3) rfl
theorem dJ0_isLatin1_aae02_10 : decode cJ0_isLatin1_aae02 10 = .ok (.ifCond .ne 7, 3) := dec_of da_J0_isLatin1_aae02_0 (k := 4) rfl
theorem dJ0_isLatin1_aae02_13 : decode cJ0_isLatin1_aae02 13 = .ok (.iconst 1, 1) := dec_of da_J0_isLatin1_aae02_0 (k := 5) rfl
theorem dJ0_isLatin1_aae02_14 : decode cJ0_isLatin1_aae02 14 = .ok (.goto 4, 3) := dec_of da_J0_isLatin1_aae02_0 (k := 6) rfl
theorem dJ0_isLatin1_aae02_17 : decode cJ0_isLatin1_aae02 17 = .ok (.iconst 0, 1) := dec_of da_J0_isLatin1_aae02_0 (k := 7) rfl
theorem dJ0_isLatin1_aae02_18 : decode cJ0_isLatin1_aae02 18 = .ok (.ireturn, 1) := dec_of da_J0_isLatin1_aae02_0 (k := 8) rfl
def dl_J0_checkIndex_df160_0 : List (Nat × (Instr × Nat)) := [(0, (.iload_n 0, 1)), (1, (.iload_n 1, 1)), (2, (.getstatic 1053, 3)), (5, (.invokestatic 1059, 3)), (8, (.pop, 1)), (9, (.return_, 1))]
set_option maxRecDepth 100000 in
theorem da_J0_checkIndex_df160_0 : dl_J0_checkIndex_df160_0.all (fun q => decide (decode cJ0_checkIndex_df160 q.1 = .ok q.2)) = true := by decide +kernel
theorem dJ0_checkIndex_df160_0 : decode cJ0_checkIndex_df160 0 = .ok (.iload_n 0, 1) := dec_of da_J0_checkIndex_df160_0 (k := 0) rfl
theorem dJ0_checkIndex_df160_1 : decode cJ0_checkIndex_df160 1 = .ok (.iload_n 1, 1) := dec_of da_J0_checkIndex_df160_0 (k := 1) rfl
theorem dJ0_checkIndex_df160_2 : decode cJ0_checkIndex_df160 2 = .ok (.getstatic 1053, 3) := dec_of da_J0_checkIndex_df160_0 (k := 2) rfl
theorem dJ0_checkIndex_df160_5 : decode cJ0_checkIndex_df160 5 = .ok (.invokestatic 1059, 3) := dec_of da_J0_checkIndex_df160_0 (k := 3) rfl
theorem dJ0_checkIndex_df160_8 : decode cJ0_checkIndex_df160 8 = .ok (.pop, 1) := dec_of da_J0_checkIndex_df160_0 (k := 4) rfl
theorem dJ0_checkIndex_df160_9 : decode cJ0_checkIndex_df160 9 = .ok (.return_, 1) := dec_of da_J0_checkIndex_df160_0 (k := 5) rfl
def dl_J1_charAt_3b067_0 : List (Nat × (Instr × Nat)) := [(0, (.iload_n 1, 1)), (1, (.aload_n 0, 1)), (2, (.arraylength, 1)), (3, (.invokestatic 9, 3)), (6, (.aload_n 0, 1)), (7, (.iload_n 1, 1)), (8, (.baload, 1)), (9, (.sipush 255, 3)), (12, (.iand, 1)), (13, (.i2c, 1)), (14, (.ireturn, 1))]
set_option maxRecDepth 100000 in
theorem da_J1_charAt_3b067_0 : dl_J1_charAt_3b067_0.all (fun q => decide (decode cJ1_charAt_3b067 q.1 = .ok q.2)) = true := by decide +kernel
theorem dJ1_charAt_3b067_0 : decode cJ1_charAt_3b067 0 = .ok (.iload_n 1, 1) := dec_of da_J1_charAt_3b067_0 (k := 0) rfl
theorem dJ1_charAt_3b067_1 : decode cJ1_charAt_3b067 1 = .ok (.aload_n 0, 1) := dec_of da_J1_charAt_3b067_0 (k := 1) rfl
theorem dJ1_charAt_3b067_2 : decode cJ1_charAt_3b067 2 = .ok (.arraylength, 1) := dec_of da_J1_charAt_3b067_0 (k := 2) rfl
theorem dJ1_charAt_3b067_3 : decode cJ1_charAt_3b067 3 = .ok (.invokestatic 9, 3) := dec_of da_J1_charAt_3b067_0 (k := 3) rfl
theorem dJ1_charAt_3b067_6 : decode cJ1_charAt_3b067 6 = .ok (.aload_n 0, 1) := dec_of da_J1_charAt_3b067_0 (k := 4) rfl
theorem dJ1_charAt_3b067_7 : decode cJ1_charAt_3b067 7 = .ok (.iload_n 1, 1) := dec_of da_J1_charAt_3b067_0 (k := 5) rfl
theorem dJ1_charAt_3b067_8 : decode cJ1_charAt_3b067 8 = .ok (.baload, 1) := dec_of da_J1_charAt_3b067_0 (k := 6) rfl
theorem dJ1_charAt_3b067_9 : decode cJ1_charAt_3b067 9 = .ok (.sipush 255, 3) := dec_of da_J1_charAt_3b067_0 (k := 7) rfl
theorem dJ1_charAt_3b067_12 : decode cJ1_charAt_3b067 12 = .ok (.iand, 1) := dec_of da_J1_charAt_3b067_0 (k := 8) rfl
theorem dJ1_charAt_3b067_13 : decode cJ1_charAt_3b067 13 = .ok (.i2c, 1) := dec_of da_J1_charAt_3b067_0 (k := 9) rfl
theorem dJ1_charAt_3b067_14 : decode cJ1_charAt_3b067 14 = .ok (.ireturn, 1) := dec_of da_J1_charAt_3b067_0 (k := 10) rfl
def dl_J2_getChar_3b067_0 : List (Nat × (Instr × Nat)) := [(0, (.getstatic 44, 3)), (3, (.ifCond .ne 25, 3)), (6, (.iload_n 1, 1)), (7, (.ifCond .lt 11, 3)), (10, (.iload_n 1, 1)), (11, (.aload_n 0, 1)), (12, (.invokestatic 48, 3)), (15, (.if_icmp .lt 13, 3)), (18, (.new 52, 3)), (21, (.dup, 1)), (22, (.ldc 54, 2)), (24, (.invokespecial 56, 3)), (27, (.athrow, 1)), (28, (.iload_n 1, 1)), (29, (.iconst 1, 1)), (30, (.ishl, 1)), (31, (.istore_n 1, 1)), (32, (.aload_n 0, 1)), (33, (.iload_n 1, 1)), (34, (.iinc 1 1, 3)), (37, (.baload, 1)), (38, (.sipush 255, 3)), (41, (.iand, 1)), (42, (.getstatic 59, 3)), (45, (.ishl, 1)), (46, (.aload_n 0, 1)), (47, (.iload_n 1, 1)), (48, (.baload, 1)), (49, (.sipush 255, 3)), (52, (.iand, 1)), (53, (.getstatic 63, 3)), (56, (.ishl, 1)), (57, (.ior, 1)), (58, (.i2c, 1)), (59, (.ireturn, 1))]
set_option maxRecDepth 100000 in
theorem da_J2_getChar_3b067_0 : dl_J2_getChar_3b067_0.all (fun q => decide (decode cJ2_getChar_3b067 q.1 = .ok q.2)) = true := by decide +kernel
theorem dJ2_getChar_3b067_0 : decode cJ2_getChar_3b067 0 = .ok (.getstatic 44, 3) := dec_of da_J2_getChar_3b067_0 (k := 0) rfl
theorem dJ2_getChar_3b067_3 : decode cJ2_getChar_3b067 3 = .ok (.ifCond .ne 25, 3) := dec_of da_J2_getChar_3b067_0 (k := 1) rfl
theorem dJ2_getChar_3b067_6 : decode cJ2_getChar_3b067 6 = .ok (.iload_n 1, 1) := dec_of da_J2_getChar_3b067_0 (k := 2) rfl
theorem dJ2_getChar_3b067_7 : decode cJ2_getChar_3b067 7 = .ok (.ifCond .lt 11, 3) := dec_of da_J2_getChar_3b067_0 (k := 3) rfl
theorem dJ2_getChar_3b067_10 : decode cJ2_getChar_3b067 10 = .ok (.iload_n 1, 1) := dec_of da_J2_getChar_3b067_0 (k := 4) rfl
theorem dJ2_getChar_3b067_11 : decode cJ2_getChar_3b067 11 = .ok (.aload_n 0, 1) := dec_of da_J2_getChar_3b067_0 (k := 5) rfl
theorem dJ2_getChar_3b067_12 : decode cJ2_getChar_3b067 12 = .ok (.invokestatic 48, 3) := dec_of da_J2_getChar_3b067_0 (k := 6) rfl
theorem dJ2_getChar_3b067_15 : decode cJ2_getChar_3b067 15 = .ok (.if_icmp .lt 13, 3) := dec_of da_J2_getChar_3b067_0 (k := 7) rfl
theorem dJ2_getChar_3b067_18 : decode cJ2_getChar_3b067 18 = .ok (.new 52, 3) := dec_of da_J2_getChar_3b067_0 (k := 8) rfl
theorem dJ2_getChar_3b067_21 : decode cJ2_getChar_3b067 21 = .ok (.dup, 1) := dec_of da_J2_getChar_3b067_0 (k := 9) rfl
theorem dJ2_getChar_3b067_22 : decode cJ2_getChar_3b067 22 = .ok (.ldc 54, 2) := dec_of da_J2_getChar_3b067_0 (k := 10) rfl
theorem dJ2_getChar_3b067_24 : decode cJ2_getChar_3b067 24 = .ok (.invokespecial 56, 3) := dec_of da_J2_getChar_3b067_0 (k := 11) rfl
theorem dJ2_getChar_3b067_27 : decode cJ2_getChar_3b067 27 = .ok (.athrow, 1) := dec_of da_J2_getChar_3b067_0 (k := 12) rfl
theorem dJ2_getChar_3b067_28 : decode cJ2_getChar_3b067 28 = .ok (.iload_n 1, 1) := dec_of da_J2_getChar_3b067_0 (k := 13) rfl
theorem dJ2_getChar_3b067_29 : decode cJ2_getChar_3b067 29 = .ok (.iconst 1, 1) := dec_of da_J2_getChar_3b067_0 (k := 14) rfl
theorem dJ2_getChar_3b067_30 : decode cJ2_getChar_3b067 30 = .ok (.ishl, 1) := dec_of da_J2_getChar_3b067_0 (k := 15) rfl
theorem dJ2_getChar_3b067_31 : decode cJ2_getChar_3b067 31 = .ok (.istore_n 1, 1) := dec_of da_J2_getChar_3b067_0 (k := 16) rfl
theorem dJ2_getChar_3b067_32 : decode cJ2_getChar_3b067 32 = .ok (.aload_n 0, 1) := dec_of da_J2_getChar_3b067_0 (k := 17) rfl
theorem dJ2_getChar_3b067_33 : decode cJ2_getChar_3b067 33 = .ok (.iload_n 1, 1) := dec_of da_J2_getChar_3b067_0 (k := 18) rfl
theorem dJ2_getChar_3b067_34 : decode cJ2_getChar_3b067 34 = .ok (.iinc 1 1, 3) := dec_of da_J2_getChar_3b067_0 (k := 19) rfl
theorem dJ2_getChar_3b067_37 : decode cJ2_getChar_3b067 37 = .ok (.baload, 1) := dec_of da_J2_getChar_3b067_0 (k := 20) rfl
theorem dJ2_getChar_3b067_38 : decode cJ2_getChar_3b067 38 = .ok (.sipush 255, 3) := dec_of da_J2_getChar_3b067_0 (k := 21) rfl
theorem dJ2_getChar_3b067_41 : decode cJ2_getChar_3b067 41 = .ok (.iand, 1) := dec_of da_J2_getChar_3b067_0 (k := 22) rfl
theorem dJ2_getChar_3b067_42 : decode cJ2_getChar_3b067 42 = .ok (.getstatic 59, 3) := dec_of da_J2_getChar_3b067_0 (k := 23) rfl
theorem dJ2_getChar_3b067_45 : decode cJ2_getChar_3b067 45 = .ok (.ishl, 1) := dec_of da_J2_getChar_3b067_0 (k := 24) rfl
theorem dJ2_getChar_3b067_46 : decode cJ2_getChar_3b067 46 = .ok (.aload_n 0, 1) := dec_of da_J2_getChar_3b067_0 (k := 25) rfl
theorem dJ2_getChar_3b067_47 : decode cJ2_getChar_3b067 47 = .ok (.iload_n 1, 1) := dec_of da_J2_getChar_3b067_0 (k := 26) rfl
theorem dJ2_getChar_3b067_48 : decode cJ2_getChar_3b067 48 = .ok (.baload, 1) := dec_of da_J2_getChar_3b067_0 (k := 27) rfl
theorem dJ2_getChar_3b067_49 : decode cJ2_getChar_3b067 49 = .ok (.sipush 255, 3) := dec_of da_J2_getChar_3b067_0 (k := 28) rfl
theorem dJ2_getChar_3b067_52 : decode cJ2_getChar_3b067 52 = .ok (.iand, 1) := dec_of da_J2_getChar_3b067_0 (k := 29) rfl
theorem dJ2_getChar_3b067_53 : decode cJ2_getChar_3b067 53 = .ok (.getstatic 63, 3) := dec_of da_J2_getChar_3b067_0 (k := 30) rfl
theorem dJ2_getChar_3b067_56 : decode cJ2_getChar_3b067 56 = .ok (.ishl, 1) := dec_of da_J2_getChar_3b067_0 (k := 31) rfl
theorem dJ2_getChar_3b067_57 : decode cJ2_getChar_3b067 57 = .ok (.ior, 1) := dec_of da_J2_getChar_3b067_0 (k := 32) rfl
theorem dJ2_getChar_3b067_58 : decode cJ2_getChar_3b067 58 = .ok (.i2c, 1) := dec_of da_J2_getChar_3b067_0 (k := 33) rfl
theorem dJ2_getChar_3b067_59 : decode cJ2_getChar_3b067 59 = .ok (.ireturn, 1) := dec_of da_J2_getChar_3b067_0 (k := 34) rfl
def dl_J2_length_9d52b_0 : List (Nat × (Instr × Nat)) := [(0, (.aload_n 0, 1)), (1, (.arraylength, 1)), (2, (.iconst 1, 1)), (3, (.ishr, 1)), (4, (.ireturn, 1))]
set_option maxRecDepth 100000 in
theorem da_J2_length_9d52b_0 : dl_J2_length_9d52b_0.all (fun q => decide (decode cJ2_length_9d52b q.1 = .ok q.2)) = true := by decide +kernel
theorem dJ2_length_9d52b_0 : decode cJ2_length_9d52b 0 = .ok (.aload_n 0, 1) := dec_of da_J2_length_9d52b_0 (k := 0) rfl
theorem dJ2_length_9d52b_1 : decode cJ2_length_9d52b 1 = .ok (.arraylength, 1) := dec_of da_J2_length_9d52b_0 (k := 1) rfl
theorem dJ2_length_9d52b_2 : decode cJ2_length_9d52b 2 = .ok (.iconst 1, 1) := dec_of da_J2_length_9d52b_0 (k := 2) rfl
theorem dJ2_length_9d52b_3 : decode cJ2_length_9d52b 3 = .ok (.ishr, 1) := dec_of da_J2_length_9d52b_0 (k := 3) rfl
theorem dJ2_length_9d52b_4 : decode cJ2_length_9d52b 4 = .ok (.ireturn, 1) := dec_of da_J2_length_9d52b_0 (k := 4) rfl
def dl_J2_charAt_3b067_0 : List (Nat × (Instr × Nat)) := [(0, (.iload_n 1, 1)), (1, (.aload_n 0, 1)), (2, (.invokestatic 67, 3)), (5, (.aload_n 0, 1)), (6, (.iload_n 1, 1)), (7, (.invokestatic 71, 3)), (10, (.ireturn, 1))]
set_option maxRecDepth 100000 in
theorem da_J2_charAt_3b067_0 : dl_J2_charAt_3b067_0.all (fun q => decide (decode cJ2_charAt_3b067 q.1 = .ok q.2)) = true := by decide +kernel
theorem dJ2_charAt_3b067_0 : decode cJ2_charAt_3b067 0 = .ok (.iload_n 1, 1) := dec_of da_J2_charAt_3b067_0 (k := 0) rfl
theorem dJ2_charAt_3b067_1 : decode cJ2_charAt_3b067 1 = .ok (.aload_n 0, 1) := dec_of da_J2_charAt_3b067_0 (k := 1) rfl
theorem dJ2_charAt_3b067_2 : decode cJ2_charAt_3b067 2 = .ok (.invokestatic 67, 3) := dec_of da_J2_charAt_3b067_0 (k := 2) rfl
theorem dJ2_charAt_3b067_5 : decode cJ2_charAt_3b067 5 = .ok (.aload_n 0, 1) := dec_of da_J2_charAt_3b067_0 (k := 3) rfl
theorem dJ2_charAt_3b067_6 : decode cJ2_charAt_3b067 6 = .ok (.iload_n 1, 1) := dec_of da_J2_charAt_3b067_0 (k := 4) rfl
theorem dJ2_charAt_3b067_7 : decode cJ2_charAt_3b067 7 = .ok (.invokestatic 71, 3) := dec_of da_J2_charAt_3b067_0 (k := 5) rfl
theorem dJ2_charAt_3b067_10 : decode cJ2_charAt_3b067 10 = .ok (.ireturn, 1) := dec_of da_J2_charAt_3b067_0 (k := 6) rfl
def dl_J2_checkIndex_2214a_0 : List (Nat × (Instr × Nat)) := [(0, (.iload_n 0, 1)), (1, (.aload_n 1, 1)), (2, (.invokestatic 48, 3)), (5, (.invokestatic 414, 3)), (8, (.return_, 1))]
set_option maxRecDepth 100000 in
theorem da_J2_checkIndex_2214a_0 : dl_J2_checkIndex_2214a_0.all (fun q => decide (decode cJ2_checkIndex_2214a q.1 = .ok q.2)) = true := by decide +kernel
theorem dJ2_checkIndex_2214a_0 : decode cJ2_checkIndex_2214a 0 = .ok (.iload_n 0, 1) := dec_of da_J2_checkIndex_2214a_0 (k := 0) rfl
theorem dJ2_checkIndex_2214a_1 : decode cJ2_checkIndex_2214a 1 = .ok (.aload_n 1, 1) := dec_of da_J2_checkIndex_2214a_0 (k := 1) rfl
theorem dJ2_checkIndex_2214a_2 : decode cJ2_checkIndex_2214a 2 = .ok (.invokestatic 48, 3) := dec_of da_J2_checkIndex_2214a_0 (k := 2) rfl
theorem dJ2_checkIndex_2214a_5 : decode cJ2_checkIndex_2214a 5 = .ok (.invokestatic 414, 3) := dec_of da_J2_checkIndex_2214a_0 (k := 3) rfl
theorem dJ2_checkIndex_2214a_8 : decode cJ2_checkIndex_2214a 8 = .ok (.return_, 1) := dec_of da_J2_checkIndex_2214a_0 (k := 4) rfl
def dl_J7_rangeCheck_23922_0 : List (Nat × (Instr × Nat)) := [(0, (.iload_n 1, 1)), (1, (.iload_n 2, 1)), (2, (.if_icmp .le 44, 3)), (5, (.new 43, 3)), (8, (.dup, 1)), (9, (.new 45, 3)), (12, (.dup, 1)), (13, (.invokespecial 47, 3)), (16, (.ldc 48, 2)), (18, (.invokevirtual 50, 3)), (21, (.iload_n 1, 1)), (22, (.invokevirtual 54, 3)), (25, (.ldc 57, 2)), (27, (.invokevirtual 50, 3)), (30, (.iload_n 2, 1)), (31, (.invokevirtual 54, 3)), (34, (.ldc 59, 2)), (36, (.invokevirtual 50, 3)), (39, (.invokevirtual 61, 3)), (42, (.invokespecial 65, 3)), (45, (.athrow, 1)), (46, (.iload_n 1, 1)), (47, (.ifCond .ge 12, 3)), (50, (.new 68, 3)), (53, (.dup, 1)), (54, (.iload_n 1, 1)), (55, (.invokespecial 70, 3)), (58, (.athrow, 1)), (59, (.iload_n 2, 1)), (60, (.iload_n 0, 1)), (61, (.if_icmp .le 12, 3)), (64, (.new 68, 3)), (67, (.dup, 1)), (68, (.iload_n 2, 1)), (69, (.invokespecial 70, 3)), (72, (.athrow, 1)), (73, (.return_, 1))]
set_option maxRecDepth 100000 in
theorem da_J7_rangeCheck_23922_0 : dl_J7_rangeCheck_23922_0.all (fun q => decide (decode cJ7_rangeCheck_23922 q.1 = .ok q.2)) = true := by decide +kernel
theorem dJ7_rangeCheck_23922_0 : decode cJ7_rangeCheck_23922 0 = .ok (.iload_n 1, 1) := dec_of da_J7_rangeCheck_23922_0 (k := 0) rfl
theorem dJ7_rangeCheck_23922_1 : decode cJ7_rangeCheck_23922 1 = .ok (.iload_n 2, 1) := dec_of da_J7_rangeCheck_23922_0 (k := 1) rfl
theorem dJ7_rangeCheck_23922_2 : decode cJ7_rangeCheck_23922 2 = .ok (.if_icmp .le 44, 3) := dec_of da_J7_rangeCheck_23922_0 (k := 2) rfl
theorem dJ7_rangeCheck_23922_5 : decode cJ7_rangeCheck_23922 5 = .ok (.new 43, 3) := dec_of da_J7_rangeCheck_23922_0 (k := 3) rfl
theorem dJ7_rangeCheck_23922_8 : decode cJ7_rangeCheck_23922 8 = .ok (.dup, 1) := dec_of da_J7_rangeCheck_23922_0 (k := 4) rfl
theorem dJ7_rangeCheck_23922_9 : decode cJ7_rangeCheck_23922 9 = .ok (.new 45, 3) := dec_of da_J7_rangeCheck_23922_0 (k := 5) rfl
theorem dJ7_rangeCheck_23922_12 : decode cJ7_rangeCheck_23922 12 = .ok (.dup, 1) := dec_of da_J7_rangeCheck_23922_0 (k := 6) rfl
theorem dJ7_rangeCheck_23922_13 : decode cJ7_rangeCheck_23922 13 = .ok (.invokespecial 47, 3) := dec_of da_J7_rangeCheck_23922_0 (k := 7) rfl
theorem dJ7_rangeCheck_23922_16 : decode cJ7_rangeCheck_23922 16 = .ok (.ldc 48, 2) := dec_of da_J7_rangeCheck_23922_0 (k := 8) rfl
theorem dJ7_rangeCheck_23922_18 : decode cJ7_rangeCheck_23922 18 = .ok (.invokevirtual 50, 3) := dec_of da_J7_rangeCheck_23922_0 (k := 9) rfl
theorem dJ7_rangeCheck_23922_21 : decode cJ7_rangeCheck_23922 21 = .ok (.iload_n 1, 1) := dec_of da_J7_rangeCheck_23922_0 (k := 10) rfl
theorem dJ7_rangeCheck_23922_22 : decode cJ7_rangeCheck_23922 22 = .ok (.invokevirtual 54, 3) := dec_of da_J7_rangeCheck_23922_0 (k := 11) rfl
theorem dJ7_rangeCheck_23922_25 : decode cJ7_rangeCheck_23922 25 = .ok (.ldc 57, 2) := dec_of da_J7_rangeCheck_23922_0 (k := 12) rfl
theorem dJ7_rangeCheck_23922_27 : decode cJ7_rangeCheck_23922 27 = .ok (.invokevirtual 50, 3) := dec_of da_J7_rangeCheck_23922_0 (k := 13) rfl
theorem dJ7_rangeCheck_23922_30 : decode cJ7_rangeCheck_23922 30 = .ok (.iload_n 2, 1) := dec_of da_J7_rangeCheck_23922_0 (k := 14) rfl
theorem dJ7_rangeCheck_23922_31 : decode cJ7_rangeCheck_23922 31 = .ok (.invokevirtual 54, 3) := dec_of da_J7_rangeCheck_23922_0 (k := 15) rfl
theorem dJ7_rangeCheck_23922_34 : decode cJ7_rangeCheck_23922 34 = .ok (.ldc 59, 2) := dec_of da_J7_rangeCheck_23922_0 (k := 16) rfl
theorem dJ7_rangeCheck_23922_36 : decode cJ7_rangeCheck_23922 36 = .ok (.invokevirtual 50, 3) := dec_of da_J7_rangeCheck_23922_0 (k := 17) rfl
theorem dJ7_rangeCheck_23922_39 : decode cJ7_rangeCheck_23922 39 = .ok (.invokevirtual 61, 3) := dec_of da_J7_rangeCheck_23922_0 (k := 18) rfl
theorem dJ7_rangeCheck_23922_42 : decode cJ7_rangeCheck_23922 42 = .ok (.invokespecial 65, 3) := dec_of da_J7_rangeCheck_23922_0 (k := 19) rfl
theorem dJ7_rangeCheck_23922_45 : decode cJ7_rangeCheck_23922 45 = .ok (.athrow, 1) := dec_of da_J7_rangeCheck_23922_0 (k := 20) rfl
theorem dJ7_rangeCheck_23922_46 : decode cJ7_rangeCheck_23922 46 = .ok (.iload_n 1, 1) := dec_of da_J7_rangeCheck_23922_0 (k := 21) rfl
theorem dJ7_rangeCheck_23922_47 : decode cJ7_rangeCheck_23922 47 = .ok (.ifCond .ge 12, 3) := dec_of da_J7_rangeCheck_23922_0 (k := 22) rfl
theorem dJ7_rangeCheck_23922_50 : decode cJ7_rangeCheck_23922 50 = .ok (.new 68, 3) := dec_of da_J7_rangeCheck_23922_0 (k := 23) rfl
theorem dJ7_rangeCheck_23922_53 : decode cJ7_rangeCheck_23922 53 = .ok (.dup, 1) := dec_of da_J7_rangeCheck_23922_0 (k := 24) rfl
theorem dJ7_rangeCheck_23922_54 : decode cJ7_rangeCheck_23922 54 = .ok (.iload_n 1, 1) := dec_of da_J7_rangeCheck_23922_0 (k := 25) rfl
theorem dJ7_rangeCheck_23922_55 : decode cJ7_rangeCheck_23922 55 = .ok (.invokespecial 70, 3) := dec_of da_J7_rangeCheck_23922_0 (k := 26) rfl
theorem dJ7_rangeCheck_23922_58 : decode cJ7_rangeCheck_23922 58 = .ok (.athrow, 1) := dec_of da_J7_rangeCheck_23922_0 (k := 27) rfl
theorem dJ7_rangeCheck_23922_59 : decode cJ7_rangeCheck_23922 59 = .ok (.iload_n 2, 1) := dec_of da_J7_rangeCheck_23922_0 (k := 28) rfl
theorem dJ7_rangeCheck_23922_60 : decode cJ7_rangeCheck_23922 60 = .ok (.iload_n 0, 1) := dec_of da_J7_rangeCheck_23922_0 (k := 29) rfl
theorem dJ7_rangeCheck_23922_61 : decode cJ7_rangeCheck_23922 61 = .ok (.if_icmp .le 12, 3) := dec_of da_J7_rangeCheck_23922_0 (k := 30) rfl
theorem dJ7_rangeCheck_23922_64 : decode cJ7_rangeCheck_23922 64 = .ok (.new 68, 3) := dec_of da_J7_rangeCheck_23922_0 (k := 31) rfl
theorem dJ7_rangeCheck_23922_67 : decode cJ7_rangeCheck_23922 67 = .ok (.dup, 1) := dec_of da_J7_rangeCheck_23922_0 (k := 32) rfl
theorem dJ7_rangeCheck_23922_68 : decode cJ7_rangeCheck_23922 68 = .ok (.iload_n 2, 1) := dec_of da_J7_rangeCheck_23922_0 (k := 33) rfl
theorem dJ7_rangeCheck_23922_69 : decode cJ7_rangeCheck_23922 69 = .ok (.invokespecial 70, 3) := dec_of da_J7_rangeCheck_23922_0 (k := 34) rfl
theorem dJ7_rangeCheck_23922_72 : decode cJ7_rangeCheck_23922 72 = .ok (.athrow, 1) := dec_of da_J7_rangeCheck_23922_0 (k := 35) rfl
theorem dJ7_rangeCheck_23922_73 : decode cJ7_rangeCheck_23922 73 = .ok (.return_, 1) := dec_of da_J7_rangeCheck_23922_0 (k := 36) rfl
def dl_J7_fill_53178_0 : List (Nat × (Instr × Nat)) := [(0, (.iconst 0, 1)), (1, (.istore_n 2, 1)), (2, (.aload_n 0, 1)), (3, (.arraylength, 1)), (4, (.istore_n 3, 1)), (5, (.iload_n 2, 1)), (6, (.iload_n 3, 1)), (7, (.if_icmp .ge 13, 3)), (10, (.aload_n 0, 1)), (11, (.iload_n 2, 1)), (12, (.iload_n 1, 1)), (13, (.iastore, 1)), (14, (.iinc 2 1, 3)), (17, (.goto (-12), 3)), (20, (.return_, 1))]
set_option maxRecDepth 100000 in
theorem da_J7_fill_53178_0 : dl_J7_fill_53178_0.all (fun q => decide (decode cJ7_fill_53178 q.1 = .ok q.2)) = true := by decide +kernel
theorem dJ7_fill_53178_0 : decode cJ7_fill_53178 0 = .ok (.iconst 0, 1) := dec_of da_J7_fill_53178_0 (k := 0) rfl
theorem dJ7_fill_53178_1 : decode cJ7_fill_53178 1 = .ok (.istore_n 2, 1) := dec_of da_J7_fill_53178_0 (k := 1) rfl
theorem dJ7_fill_53178_2 : decode cJ7_fill_53178 2 = .ok (.aload_n 0, 1) := dec_of da_J7_fill_53178_0 (k := 2) rfl
theorem dJ7_fill_53178_3 : decode cJ7_fill_53178 3 = .ok (.arraylength, 1) := dec_of da_J7_fill_53178_0 (k := 3) rfl
theorem dJ7_fill_53178_4 : decode cJ7_fill_53178 4 = .ok (.istore_n 3, 1) := dec_of da_J7_fill_53178_0 (k := 4) rfl
theorem dJ7_fill_53178_5 : decode cJ7_fill_53178 5 = .ok (.iload_n 2, 1) := dec_of da_J7_fill_53178_0 (k := 5) rfl
theorem dJ7_fill_53178_6 : decode cJ7_fill_53178 6 = .ok (.iload_n 3, 1) := dec_of da_J7_fill_53178_0 (k := 6) rfl
theorem dJ7_fill_53178_7 : decode cJ7_fill_53178 7 = .ok (.if_icmp .ge 13, 3) := dec_of da_J7_fill_53178_0 (k := 7) rfl
theorem dJ7_fill_53178_10 : decode cJ7_fill_53178 10 = .ok (.aload_n 0, 1) := dec_of da_J7_fill_53178_0 (k := 8) rfl
theorem dJ7_fill_53178_11 : decode cJ7_fill_53178 11 = .ok (.iload_n 2, 1) := dec_of da_J7_fill_53178_0 (k := 9) rfl
theorem dJ7_fill_53178_12 : decode cJ7_fill_53178 12 = .ok (.iload_n 1, 1) := dec_of da_J7_fill_53178_0 (k := 10) rfl
theorem dJ7_fill_53178_13 : decode cJ7_fill_53178 13 = .ok (.iastore, 1) := dec_of da_J7_fill_53178_0 (k := 11) rfl
theorem dJ7_fill_53178_14 : decode cJ7_fill_53178 14 = .ok (.iinc 2 1, 3) := dec_of da_J7_fill_53178_0 (k := 12) rfl
theorem dJ7_fill_53178_17 : decode cJ7_fill_53178 17 = .ok (.goto (-12), 3) := dec_of da_J7_fill_53178_0 (k := 13) rfl
theorem dJ7_fill_53178_20 : decode cJ7_fill_53178 20 = .ok (.return_, 1) := dec_of da_J7_fill_53178_0 (k := 14) rfl
def dl_J7_fill_fda19_0 : List (Nat × (Instr × Nat)) := [(0, (.aload_n 0, 1)), (1, (.arraylength, 1)), (2, (.iload_n 1, 1)), (3, (.iload_n 2, 1)), (4, (.invokestatic 13, 3)), (7, (.iload_n 1, 1)), (8, (.istore 4, 2)), (10, (.iload 4, 2)), (12, (.iload_n 2, 1)), (13, (.if_icmp .ge 14, 3)), (16, (.aload_n 0, 1)), (17, (.iload 4, 2)), (19, (.iload_n 3, 1)), (20, (.iastore, 1)), (21, (.iinc 4 1, 3)), (24, (.goto (-14), 3)), (27, (.return_, 1))]
set_option maxRecDepth 100000 in
theorem da_J7_fill_fda19_0 : dl_J7_fill_fda19_0.all (fun q => decide (decode cJ7_fill_fda19 q.1 = .ok q.2)) = true := by decide +kernel
theorem dJ7_fill_fda19_0 : decode cJ7_fill_fda19 0 = .ok (.aload_n 0, 1) := dec_of da_J7_fill_fda19_0 (k := 0) rfl
theorem dJ7_fill_fda19_1 : decode cJ7_fill_fda19 1 = .ok (.arraylength, 1) := dec_of da_J7_fill_fda19_0 (k := 1) rfl
theorem dJ7_fill_fda19_2 : decode cJ7_fill_fda19 2 = .ok (.iload_n 1, 1) := dec_of da_J7_fill_fda19_0 (k := 2) rfl
theorem dJ7_fill_fda19_3 : decode cJ7_fill_fda19 3 = .ok (.iload_n 2, 1) := dec_of da_J7_fill_fda19_0 (k := 3) rfl
theorem dJ7_fill_fda19_4 : decode cJ7_fill_fda19 4 = .ok (.invokestatic 13, 3) := dec_of da_J7_fill_fda19_0 (k := 4) rfl
theorem dJ7_fill_fda19_7 : decode cJ7_fill_fda19 7 = .ok (.iload_n 1, 1) := dec_of da_J7_fill_fda19_0 (k := 5) rfl
theorem dJ7_fill_fda19_8 : decode cJ7_fill_fda19 8 = .ok (.istore 4, 2) := dec_of da_J7_fill_fda19_0 (k := 6) rfl
theorem dJ7_fill_fda19_10 : decode cJ7_fill_fda19 10 = .ok (.iload 4, 2) := dec_of da_J7_fill_fda19_0 (k := 7) rfl
theorem dJ7_fill_fda19_12 : decode cJ7_fill_fda19 12 = .ok (.iload_n 2, 1) := dec_of da_J7_fill_fda19_0 (k := 8) rfl
theorem dJ7_fill_fda19_13 : decode cJ7_fill_fda19 13 = .ok (.if_icmp .ge 14, 3) := dec_of da_J7_fill_fda19_0 (k := 9) rfl
theorem dJ7_fill_fda19_16 : decode cJ7_fill_fda19 16 = .ok (.aload_n 0, 1) := dec_of da_J7_fill_fda19_0 (k := 10) rfl
theorem dJ7_fill_fda19_17 : decode cJ7_fill_fda19 17 = .ok (.iload 4, 2) := dec_of da_J7_fill_fda19_0 (k := 11) rfl
theorem dJ7_fill_fda19_19 : decode cJ7_fill_fda19 19 = .ok (.iload_n 3, 1) := dec_of da_J7_fill_fda19_0 (k := 12) rfl
theorem dJ7_fill_fda19_20 : decode cJ7_fill_fda19 20 = .ok (.iastore, 1) := dec_of da_J7_fill_fda19_0 (k := 13) rfl
theorem dJ7_fill_fda19_21 : decode cJ7_fill_fda19 21 = .ok (.iinc 4 1, 3) := dec_of da_J7_fill_fda19_0 (k := 14) rfl
theorem dJ7_fill_fda19_24 : decode cJ7_fill_fda19 24 = .ok (.goto (-14), 3) := dec_of da_J7_fill_fda19_0 (k := 15) rfl
theorem dJ7_fill_fda19_27 : decode cJ7_fill_fda19 27 = .ok (.return_, 1) := dec_of da_J7_fill_fda19_0 (k := 16) rfl
def dl_J3_checkIndex_8e157_0 : List (Nat × (Instr × Nat)) := [(0, (.iload_n 0, 1)), (1, (.ifCond .lt 8, 3)), (4, (.iload_n 0, 1)), (5, (.iload_n 1, 1)), (6, (.if_icmp .lt 10, 3)), (9, (.aload_n 2, 1)), (10, (.iload_n 0, 1)), (11, (.iload_n 1, 1)), (12, (.invokestatic 95, 3)), (15, (.athrow, 1)), (16, (.iload_n 0, 1)), (17, (.ireturn, 1))]
set_option maxRecDepth 100000 in
theorem da_J3_checkIndex_8e157_0 : dl_J3_checkIndex_8e157_0.all (fun q => decide (decode cJ3_checkIndex_8e157 q.1 = .ok q.2)) = true := by decide +kernel
theorem dJ3_checkIndex_8e157_0 : decode cJ3_checkIndex_8e157 0 = .ok (.iload_n 0, 1) := dec_of da_J3_checkIndex_8e157_0 (k := 0) rfl
theorem dJ3_checkIndex_8e157_1 : decode cJ3_checkIndex_8e157 1 = .ok (.ifCond .lt 8, 3) := dec_of da_J3_checkIndex_8e157_0 (k := 1) rfl
theorem dJ3_checkIndex_8e157_4 : decode cJ3_checkIndex_8e157 4 = .ok (.iload_n 0, 1) := dec_of da_J3_checkIndex_8e157_0 (k := 2) rfl
theorem dJ3_checkIndex_8e157_5 : decode cJ3_checkIndex_8e157 5 = .ok (.iload_n 1, 1) := dec_of da_J3_checkIndex_8e157_0 (k := 3) rfl
theorem dJ3_checkIndex_8e157_6 : decode cJ3_checkIndex_8e157 6 = .ok (.if_icmp .lt 10, 3) := dec_of da_J3_checkIndex_8e157_0 (k := 4) rfl
theorem dJ3_checkIndex_8e157_9 : decode cJ3_checkIndex_8e157 9 = .ok (.aload_n 2, 1) := dec_of da_J3_checkIndex_8e157_0 (k := 5) rfl
theorem dJ3_checkIndex_8e157_10 : decode cJ3_checkIndex_8e157 10 = .ok (.iload_n 0, 1) := dec_of da_J3_checkIndex_8e157_0 (k := 6) rfl
theorem dJ3_checkIndex_8e157_11 : decode cJ3_checkIndex_8e157 11 = .ok (.iload_n 1, 1) := dec_of da_J3_checkIndex_8e157_0 (k := 7) rfl
theorem dJ3_checkIndex_8e157_12 : decode cJ3_checkIndex_8e157 12 = .ok (.invokestatic 95, 3) := dec_of da_J3_checkIndex_8e157_0 (k := 8) rfl
theorem dJ3_checkIndex_8e157_15 : decode cJ3_checkIndex_8e157 15 = .ok (.athrow, 1) := dec_of da_J3_checkIndex_8e157_0 (k := 9) rfl
theorem dJ3_checkIndex_8e157_16 : decode cJ3_checkIndex_8e157 16 = .ok (.iload_n 0, 1) := dec_of da_J3_checkIndex_8e157_0 (k := 10) rfl
theorem dJ3_checkIndex_8e157_17 : decode cJ3_checkIndex_8e157 17 = .ok (.ireturn, 1) := dec_of da_J3_checkIndex_8e157_0 (k := 11) rfl
