def dl_X0_init_0 : List (Nat × (Instr × Nat)) := [(0, (.aload_n 0, 1)), (1, (.invokespecial 3, 3)), (4, (.aload_n 0, 1)), (5, (.sipush 300, 3)), (8, (.newarray .int, 2)), (10, (.putfield 9, 3)), (13, (.aload_n 0, 1)), (14, (.bipush 16, 2)), (16, (.newarray .int, 2)), (18, (.putfield 15, 3)), (21, (.aload_n 0, 1)), (22, (.bipush 16, 2)), (24, (.newarray .int, 2)), (26, (.putfield 18, 3)), (29, (.aload_n 0, 1)), (30, (.bipush 16, 2)), (32, (.newarray .int, 2)), (34, (.putfield 21, 3)), (37, (.aload_n 0, 1)), (38, (.sipush 176, 3)), (41, (.newarray .int, 2)), (43, (.putfield 24, 3)), (46, (.return_, 1))]
set_option maxRecDepth 100000 in
theorem da_X0_init_0 : dl_X0_init_0.all (fun q => decide (decode cX0_init q.1 = .ok q.2)) = true := by decide +kernel
theorem dX0_init_0 : decode cX0_init 0 = .ok (.aload_n 0, 1) := dec_of da_X0_init_0 (k := 0) rfl
theorem dX0_init_1 : decode cX0_init 1 = .ok (.invokespecial 3, 3) := dec_of da_X0_init_0 (k := 1) rfl
theorem dX0_init_4 : decode cX0_init 4 = .ok (.aload_n 0, 1) := dec_of da_X0_init_0 (k := 2) rfl
theorem dX0_init_5 : decode cX0_init 5 = .ok (.sipush 300, 3) := dec_of da_X0_init_0 (k := 3) rfl
theorem dX0_init_8 : decode cX0_init 8 = .ok (.newarray .int, 2) := dec_of da_X0_init_0 (k := 4) rfl
theorem dX0_init_10 : decode cX0_init 10 = .ok (.putfield 9, 3) := dec_of da_X0_init_0 (k := 5) rfl
theorem dX0_init_13 : decode cX0_init 13 = .ok (.aload_n 0, 1) := dec_of da_X0_init_0 (k := 6) rfl
theorem dX0_init_14 : decode cX0_init 14 = .ok (.bipush 16, 2) := dec_of da_X0_init_0 (k := 7) rfl
theorem dX0_init_16 : decode cX0_init 16 = .ok (.newarray .int, 2) := dec_of da_X0_init_0 (k := 8) rfl
theorem dX0_init_18 : decode cX0_init 18 = .ok (.putfield 15, 3) := dec_of da_X0_init_0 (k := 9) rfl
theorem dX0_init_21 : decode cX0_init 21 = .ok (.aload_n 0, 1) := dec_of da_X0_init_0 (k := 10) rfl
theorem dX0_init_22 : decode cX0_init 22 = .ok (.bipush 16, 2) := dec_of da_X0_init_0 (k := 11) rfl
theorem dX0_init_24 : decode cX0_init 24 = .ok (.newarray .int, 2) := dec_of da_X0_init_0 (k := 12) rfl
theorem dX0_init_26 : decode cX0_init 26 = .ok (.putfield 18, 3) := dec_of da_X0_init_0 (k := 13) rfl
theorem dX0_init_29 : decode cX0_init 29 = .ok (.aload_n 0, 1) := dec_of da_X0_init_0 (k := 14) rfl
theorem dX0_init_30 : decode cX0_init 30 = .ok (.bipush 16, 2) := dec_of da_X0_init_0 (k := 15) rfl
theorem dX0_init_32 : decode cX0_init 32 = .ok (.newarray .int, 2) := dec_of da_X0_init_0 (k := 16) rfl
theorem dX0_init_34 : decode cX0_init 34 = .ok (.putfield 21, 3) := dec_of da_X0_init_0 (k := 17) rfl
theorem dX0_init_37 : decode cX0_init 37 = .ok (.aload_n 0, 1) := dec_of da_X0_init_0 (k := 18) rfl
theorem dX0_init_38 : decode cX0_init 38 = .ok (.sipush 176, 3) := dec_of da_X0_init_0 (k := 19) rfl
theorem dX0_init_41 : decode cX0_init 41 = .ok (.newarray .int, 2) := dec_of da_X0_init_0 (k := 20) rfl
theorem dX0_init_43 : decode cX0_init 43 = .ok (.putfield 24, 3) := dec_of da_X0_init_0 (k := 21) rfl
theorem dX0_init_46 : decode cX0_init 46 = .ok (.return_, 1) := dec_of da_X0_init_0 (k := 22) rfl
def dl_X0_seal_0 : List (Nat × (Instr × Nat)) := [(0, (.aload_n 0, 1)), (1, (.aload_n 3, 1)), (2, (.invokevirtual 27, 3)), (5, (.aload_n 1, 1)), (6, (.bipush 32, 2)), (8, (.aload_n 0, 1)), (9, (.getfield 9, 3)), (12, (.iconst 0, 1)), (13, (.iload_n 2, 1)), (14, (.invokestatic 31, 3)), (17, (.aload_n 0, 1)), (18, (.aload_n 1, 1)), (19, (.iload_n 2, 1)), (20, (.invokevirtual 37, 3)), (23, (.aload_n 0, 1)), (24, (.aload_n 1, 1)), (25, (.aload_n 1, 1)), (26, (.bipush 32, 2)), (28, (.iload_n 2, 1)), (29, (.invokevirtual 41, 3)), (32, (.aload_n 0, 1)), (33, (.getfield 18, 3)), (36, (.aload_n 1, 1)), (37, (.iconst 1, 1)), (38, (.iconst 0, 1)), (39, (.invokestatic 45, 3)), (42, (.aload_n 0, 1)), (43, (.aload_n 0, 1)), (44, (.getfield 18, 3)), (47, (.invokevirtual 48, 3)), (50, (.iconst 0, 1)), (51, (.istore 4, 2)), (53, (.iload 4, 2)), (55, (.bipush 8, 2)), (57, (.if_icmp .ge 33, 3)), (60, (.aload_n 1, 1)), (61, (.bipush 32, 2)), (63, (.iload_n 2, 1)), (64, (.iadd, 1)), (65, (.iload 4, 2)), (67, (.iadd, 1)), (68, (.aload_n 0, 1)), (69, (.getfield 15, 3)), (72, (.iload 4, 2)), (74, (.iaload, 1)), (75, (.aload_n 0, 1)), (76, (.getfield 18, 3)), (79, (.iload 4, 2)), (81, (.iaload, 1)), (82, (.ixor, 1)), (83, (.iastore, 1)), (84, (.iinc 4 1, 3)), (87, (.goto (-34), 3)), (90, (.return_, 1))]
set_option maxRecDepth 100000 in
theorem da_X0_seal_0 : dl_X0_seal_0.all (fun q => decide (decode cX0_seal q.1 = .ok q.2)) = true := by decide +kernel
theorem dX0_seal_0 : decode cX0_seal 0 = .ok (.aload_n 0, 1) := dec_of da_X0_seal_0 (k := 0) rfl
theorem dX0_seal_1 : decode cX0_seal 1 = .ok (.aload_n 3, 1) := dec_of da_X0_seal_0 (k := 1) rfl
theorem dX0_seal_2 : decode cX0_seal 2 = .ok (.invokevirtual 27, 3) := dec_of da_X0_seal_0 (k := 2) rfl
theorem dX0_seal_5 : decode cX0_seal 5 = .ok (.aload_n 1, 1) := dec_of da_X0_seal_0 (k := 3) rfl
theorem dX0_seal_6 : decode cX0_seal 6 = .ok (.bipush 32, 2) := dec_of da_X0_seal_0 (k := 4) rfl
theorem dX0_seal_8 : decode cX0_seal 8 = .ok (.aload_n 0, 1) := dec_of da_X0_seal_0 (k := 5) rfl
theorem dX0_seal_9 : decode cX0_seal 9 = .ok (.getfield 9, 3) := dec_of da_X0_seal_0 (k := 6) rfl
theorem dX0_seal_12 : decode cX0_seal 12 = .ok (.iconst 0, 1) := dec_of da_X0_seal_0 (k := 7) rfl
theorem dX0_seal_13 : decode cX0_seal 13 = .ok (.iload_n 2, 1) := dec_of da_X0_seal_0 (k := 8) rfl
theorem dX0_seal_14 : decode cX0_seal 14 = .ok (.invokestatic 31, 3) := dec_of da_X0_seal_0 (k := 9) rfl
theorem dX0_seal_17 : decode cX0_seal 17 = .ok (.aload_n 0, 1) := dec_of da_X0_seal_0 (k := 10) rfl
theorem dX0_seal_18 : decode cX0_seal 18 = .ok (.aload_n 1, 1) := dec_of da_X0_seal_0 (k := 11) rfl
theorem dX0_seal_19 : decode cX0_seal 19 = .ok (.iload_n 2, 1) := dec_of da_X0_seal_0 (k := 12) rfl
theorem dX0_seal_20 : decode cX0_seal 20 = .ok (.invokevirtual 37, 3) := dec_of da_X0_seal_0 (k := 13) rfl
theorem dX0_seal_23 : decode cX0_seal 23 = .ok (.aload_n 0, 1) := dec_of da_X0_seal_0 (k := 14) rfl
theorem dX0_seal_24 : decode cX0_seal 24 = .ok (.aload_n 1, 1) := dec_of da_X0_seal_0 (k := 15) rfl
theorem dX0_seal_25 : decode cX0_seal 25 = .ok (.aload_n 1, 1) := dec_of da_X0_seal_0 (k := 16) rfl
theorem dX0_seal_26 : decode cX0_seal 26 = .ok (.bipush 32, 2) := dec_of da_X0_seal_0 (k := 17) rfl
theorem dX0_seal_28 : decode cX0_seal 28 = .ok (.iload_n 2, 1) := dec_of da_X0_seal_0 (k := 18) rfl
theorem dX0_seal_29 : decode cX0_seal 29 = .ok (.invokevirtual 41, 3) := dec_of da_X0_seal_0 (k := 19) rfl
theorem dX0_seal_32 : decode cX0_seal 32 = .ok (.aload_n 0, 1) := dec_of da_X0_seal_0 (k := 20) rfl
theorem dX0_seal_33 : decode cX0_seal 33 = .ok (.getfield 18, 3) := dec_of da_X0_seal_0 (k := 21) rfl
theorem dX0_seal_36 : decode cX0_seal 36 = .ok (.aload_n 1, 1) := dec_of da_X0_seal_0 (k := 22) rfl
theorem dX0_seal_37 : decode cX0_seal 37 = .ok (.iconst 1, 1) := dec_of da_X0_seal_0 (k := 23) rfl
theorem dX0_seal_38 : decode cX0_seal 38 = .ok (.iconst 0, 1) := dec_of da_X0_seal_0 (k := 24) rfl
theorem dX0_seal_39 : decode cX0_seal 39 = .ok (.invokestatic 45, 3) := dec_of da_X0_seal_0 (k := 25) rfl
theorem dX0_seal_42 : decode cX0_seal 42 = .ok (.aload_n 0, 1) := dec_of da_X0_seal_0 (k := 26) rfl
theorem dX0_seal_43 : decode cX0_seal 43 = .ok (.aload_n 0, 1) := dec_of da_X0_seal_0 (k := 27) rfl
theorem dX0_seal_44 : decode cX0_seal 44 = .ok (.getfield 18, 3) := dec_of da_X0_seal_0 (k := 28) rfl
theorem dX0_seal_47 : decode cX0_seal 47 = .ok (.invokevirtual 48, 3) := dec_of da_X0_seal_0 (k := 29) rfl
theorem dX0_seal_50 : decode cX0_seal 50 = .ok (.iconst 0, 1) := dec_of da_X0_seal_0 (k := 30) rfl
theorem dX0_seal_51 : decode cX0_seal 51 = .ok (.istore 4, 2) := dec_of da_X0_seal_0 (k := 31) rfl
theorem dX0_seal_53 : decode cX0_seal 53 = .ok (.iload 4, 2) := dec_of da_X0_seal_0 (k := 32) rfl
theorem dX0_seal_55 : decode cX0_seal 55 = .ok (.bipush 8, 2) := dec_of da_X0_seal_0 (k := 33) rfl
theorem dX0_seal_57 : decode cX0_seal 57 = .ok (.if_icmp .ge 33, 3) := dec_of da_X0_seal_0 (k := 34) rfl
theorem dX0_seal_60 : decode cX0_seal 60 = .ok (.aload_n 1, 1) := dec_of da_X0_seal_0 (k := 35) rfl
theorem dX0_seal_61 : decode cX0_seal 61 = .ok (.bipush 32, 2) := dec_of da_X0_seal_0 (k := 36) rfl
theorem dX0_seal_63 : decode cX0_seal 63 = .ok (.iload_n 2, 1) := dec_of da_X0_seal_0 (k := 37) rfl
theorem dX0_seal_64 : decode cX0_seal 64 = .ok (.iadd, 1) := dec_of da_X0_seal_0 (k := 38) rfl
theorem dX0_seal_65 : decode cX0_seal 65 = .ok (.iload 4, 2) := dec_of da_X0_seal_0 (k := 39) rfl
theorem dX0_seal_67 : decode cX0_seal 67 = .ok (.iadd, 1) := dec_of da_X0_seal_0 (k := 40) rfl
theorem dX0_seal_68 : decode cX0_seal 68 = .ok (.aload_n 0, 1) := dec_of da_X0_seal_0 (k := 41) rfl
theorem dX0_seal_69 : decode cX0_seal 69 = .ok (.getfield 15, 3) := dec_of da_X0_seal_0 (k := 42) rfl
theorem dX0_seal_72 : decode cX0_seal 72 = .ok (.iload 4, 2) := dec_of da_X0_seal_0 (k := 43) rfl
theorem dX0_seal_74 : decode cX0_seal 74 = .ok (.iaload, 1) := dec_of da_X0_seal_0 (k := 44) rfl
theorem dX0_seal_75 : decode cX0_seal 75 = .ok (.aload_n 0, 1) := dec_of da_X0_seal_0 (k := 45) rfl
theorem dX0_seal_76 : decode cX0_seal 76 = .ok (.getfield 18, 3) := dec_of da_X0_seal_0 (k := 46) rfl
theorem dX0_seal_79 : decode cX0_seal 79 = .ok (.iload 4, 2) := dec_of da_X0_seal_0 (k := 47) rfl
theorem dX0_seal_81 : decode cX0_seal 81 = .ok (.iaload, 1) := dec_of da_X0_seal_0 (k := 48) rfl
theorem dX0_seal_82 : decode cX0_seal 82 = .ok (.ixor, 1) := dec_of da_X0_seal_0 (k := 49) rfl
theorem dX0_seal_83 : decode cX0_seal 83 = .ok (.iastore, 1) := dec_of da_X0_seal_0 (k := 50) rfl
theorem dX0_seal_84 : decode cX0_seal 84 = .ok (.iinc 4 1, 3) := dec_of da_X0_seal_0 (k := 51) rfl
theorem dX0_seal_87 : decode cX0_seal 87 = .ok (.goto (-34), 3) := dec_of da_X0_seal_0 (k := 52) rfl
theorem dX0_seal_90 : decode cX0_seal 90 = .ok (.return_, 1) := dec_of da_X0_seal_0 (k := 53) rfl
def dl_X0_open_0 : List (Nat × (Instr × Nat)) := [(0, (.aload_n 0, 1)), (1, (.aload_n 3, 1)), (2, (.invokevirtual 27, 3)), (5, (.aload_n 0, 1)), (6, (.aload_n 1, 1)), (7, (.aload_n 0, 1)), (8, (.getfield 9, 3)), (11, (.iconst 0, 1)), (12, (.iload_n 2, 1)), (13, (.invokevirtual 41, 3)), (16, (.aload_n 0, 1)), (17, (.aload_n 1, 1)), (18, (.iload_n 2, 1)), (19, (.invokevirtual 37, 3)), (22, (.aload_n 0, 1)), (23, (.getfield 18, 3)), (26, (.aload_n 1, 1)), (27, (.iconst 1, 1)), (28, (.iconst 0, 1)), (29, (.invokestatic 45, 3)), (32, (.aload_n 0, 1)), (33, (.aload_n 0, 1)), (34, (.getfield 18, 3)), (37, (.invokevirtual 48, 3)), (40, (.iconst 0, 1)), (41, (.istore 4, 2)), (43, (.iconst 0, 1)), (44, (.istore 5, 2)), (46, (.iload 5, 2)), (48, (.bipush 8, 2)), (50, (.if_icmp .ge 39, 3)), (53, (.iload 4, 2)), (55, (.aload_n 1, 1)), (56, (.bipush 32, 2)), (58, (.iload_n 2, 1)), (59, (.iadd, 1)), (60, (.iload 5, 2)), (62, (.iadd, 1)), (63, (.iaload, 1)), (64, (.aload_n 0, 1)), (65, (.getfield 15, 3)), (68, (.iload 5, 2)), (70, (.iaload, 1)), (71, (.ixor, 1)), (72, (.aload_n 0, 1)), (73, (.getfield 18, 3)), (76, (.iload 5, 2)), (78, (.iaload, 1)), (79, (.ixor, 1)), (80, (.ior, 1)), (81, (.istore 4, 2)), (83, (.iinc 5 1, 3)), (86, (.goto (-40), 3)), (89, (.iload 4, 2)), (91, (.ifCond .ne 7, 3)), (94, (.iconst 1, 1)), (95, (.goto 4, 3)), (98, (.iconst 0, 1)), (99, (.ireturn, 1))]
set_option maxRecDepth 100000 in
theorem da_X0_open_0 : dl_X0_open_0.all (fun q => decide (decode cX0_open q.1 = .ok q.2)) = true := by decide +kernel
theorem dX0_open_0 : decode cX0_open 0 = .ok (.aload_n 0, 1) := dec_of da_X0_open_0 (k := 0) rfl
theorem dX0_open_1 : decode cX0_open 1 = .ok (.aload_n 3, 1) := dec_of da_X0_open_0 (k := 1) rfl
theorem dX0_open_2 : decode cX0_open 2 = .ok (.invokevirtual 27, 3) := dec_of da_X0_open_0 (k := 2) rfl
theorem dX0_open_5 : decode cX0_open 5 = .ok (.aload_n 0, 1) := dec_of da_X0_open_0 (k := 3) rfl
theorem dX0_open_6 : decode cX0_open 6 = .ok (.aload_n 1, 1) := dec_of da_X0_open_0 (k := 4) rfl
theorem dX0_open_7 : decode cX0_open 7 = .ok (.aload_n 0, 1) := dec_of da_X0_open_0 (k := 5) rfl
theorem dX0_open_8 : decode cX0_open 8 = .ok (.getfield 9, 3) := dec_of da_X0_open_0 (k := 6) rfl
theorem dX0_open_11 : decode cX0_open 11 = .ok (.iconst 0, 1) := dec_of da_X0_open_0 (k := 7) rfl
theorem dX0_open_12 : decode cX0_open 12 = .ok (.iload_n 2, 1) := dec_of da_X0_open_0 (k := 8) rfl
theorem dX0_open_13 : decode cX0_open 13 = .ok (.invokevirtual 41, 3) := dec_of da_X0_open_0 (k := 9) rfl
theorem dX0_open_16 : decode cX0_open 16 = .ok (.aload_n 0, 1) := dec_of da_X0_open_0 (k := 10) rfl
theorem dX0_open_17 : decode cX0_open 17 = .ok (.aload_n 1, 1) := dec_of da_X0_open_0 (k := 11) rfl
theorem dX0_open_18 : decode cX0_open 18 = .ok (.iload_n 2, 1) := dec_of da_X0_open_0 (k := 12) rfl
theorem dX0_open_19 : decode cX0_open 19 = .ok (.invokevirtual 37, 3) := dec_of da_X0_open_0 (k := 13) rfl
theorem dX0_open_22 : decode cX0_open 22 = .ok (.aload_n 0, 1) := dec_of da_X0_open_0 (k := 14) rfl
theorem dX0_open_23 : decode cX0_open 23 = .ok (.getfield 18, 3) := dec_of da_X0_open_0 (k := 15) rfl
theorem dX0_open_26 : decode cX0_open 26 = .ok (.aload_n 1, 1) := dec_of da_X0_open_0 (k := 16) rfl
theorem dX0_open_27 : decode cX0_open 27 = .ok (.iconst 1, 1) := dec_of da_X0_open_0 (k := 17) rfl
theorem dX0_open_28 : decode cX0_open 28 = .ok (.iconst 0, 1) := dec_of da_X0_open_0 (k := 18) rfl
theorem dX0_open_29 : decode cX0_open 29 = .ok (.invokestatic 45, 3) := dec_of da_X0_open_0 (k := 19) rfl
theorem dX0_open_32 : decode cX0_open 32 = .ok (.aload_n 0, 1) := dec_of da_X0_open_0 (k := 20) rfl
theorem dX0_open_33 : decode cX0_open 33 = .ok (.aload_n 0, 1) := dec_of da_X0_open_0 (k := 21) rfl
theorem dX0_open_34 : decode cX0_open 34 = .ok (.getfield 18, 3) := dec_of da_X0_open_0 (k := 22) rfl
theorem dX0_open_37 : decode cX0_open 37 = .ok (.invokevirtual 48, 3) := dec_of da_X0_open_0 (k := 23) rfl
theorem dX0_open_40 : decode cX0_open 40 = .ok (.iconst 0, 1) := dec_of da_X0_open_0 (k := 24) rfl
theorem dX0_open_41 : decode cX0_open 41 = .ok (.istore 4, 2) := dec_of da_X0_open_0 (k := 25) rfl
theorem dX0_open_43 : decode cX0_open 43 = .ok (.iconst 0, 1) := dec_of da_X0_open_0 (k := 26) rfl
theorem dX0_open_44 : decode cX0_open 44 = .ok (.istore 5, 2) := dec_of da_X0_open_0 (k := 27) rfl
theorem dX0_open_46 : decode cX0_open 46 = .ok (.iload 5, 2) := dec_of da_X0_open_0 (k := 28) rfl
theorem dX0_open_48 : decode cX0_open 48 = .ok (.bipush 8, 2) := dec_of da_X0_open_0 (k := 29) rfl
theorem dX0_open_50 : decode cX0_open 50 = .ok (.if_icmp .ge 39, 3) := dec_of da_X0_open_0 (k := 30) rfl
theorem dX0_open_53 : decode cX0_open 53 = .ok (.iload 4, 2) := dec_of da_X0_open_0 (k := 31) rfl
theorem dX0_open_55 : decode cX0_open 55 = .ok (.aload_n 1, 1) := dec_of da_X0_open_0 (k := 32) rfl
theorem dX0_open_56 : decode cX0_open 56 = .ok (.bipush 32, 2) := dec_of da_X0_open_0 (k := 33) rfl
theorem dX0_open_58 : decode cX0_open 58 = .ok (.iload_n 2, 1) := dec_of da_X0_open_0 (k := 34) rfl
theorem dX0_open_59 : decode cX0_open 59 = .ok (.iadd, 1) := dec_of da_X0_open_0 (k := 35) rfl
theorem dX0_open_60 : decode cX0_open 60 = .ok (.iload 5, 2) := dec_of da_X0_open_0 (k := 36) rfl
theorem dX0_open_62 : decode cX0_open 62 = .ok (.iadd, 1) := dec_of da_X0_open_0 (k := 37) rfl
theorem dX0_open_63 : decode cX0_open 63 = .ok (.iaload, 1) := dec_of da_X0_open_0 (k := 38) rfl
theorem dX0_open_64 : decode cX0_open 64 = .ok (.aload_n 0, 1) := dec_of da_X0_open_0 (k := 39) rfl
theorem dX0_open_65 : decode cX0_open 65 = .ok (.getfield 15, 3) := dec_of da_X0_open_0 (k := 40) rfl
theorem dX0_open_68 : decode cX0_open 68 = .ok (.iload 5, 2) := dec_of da_X0_open_0 (k := 41) rfl
theorem dX0_open_70 : decode cX0_open 70 = .ok (.iaload, 1) := dec_of da_X0_open_0 (k := 42) rfl
theorem dX0_open_71 : decode cX0_open 71 = .ok (.ixor, 1) := dec_of da_X0_open_0 (k := 43) rfl
theorem dX0_open_72 : decode cX0_open 72 = .ok (.aload_n 0, 1) := dec_of da_X0_open_0 (k := 44) rfl
theorem dX0_open_73 : decode cX0_open 73 = .ok (.getfield 18, 3) := dec_of da_X0_open_0 (k := 45) rfl
theorem dX0_open_76 : decode cX0_open 76 = .ok (.iload 5, 2) := dec_of da_X0_open_0 (k := 46) rfl
theorem dX0_open_78 : decode cX0_open 78 = .ok (.iaload, 1) := dec_of da_X0_open_0 (k := 47) rfl
theorem dX0_open_79 : decode cX0_open 79 = .ok (.ixor, 1) := dec_of da_X0_open_0 (k := 48) rfl
theorem dX0_open_80 : decode cX0_open 80 = .ok (.ior, 1) := dec_of da_X0_open_0 (k := 49) rfl
theorem dX0_open_81 : decode cX0_open 81 = .ok (.istore 4, 2) := dec_of da_X0_open_0 (k := 50) rfl
theorem dX0_open_83 : decode cX0_open 83 = .ok (.iinc 5 1, 3) := dec_of da_X0_open_0 (k := 51) rfl
theorem dX0_open_86 : decode cX0_open 86 = .ok (.goto (-40), 3) := dec_of da_X0_open_0 (k := 52) rfl
theorem dX0_open_89 : decode cX0_open 89 = .ok (.iload 4, 2) := dec_of da_X0_open_0 (k := 53) rfl
theorem dX0_open_91 : decode cX0_open 91 = .ok (.ifCond .ne 7, 3) := dec_of da_X0_open_0 (k := 54) rfl
theorem dX0_open_94 : decode cX0_open 94 = .ok (.iconst 1, 1) := dec_of da_X0_open_0 (k := 55) rfl
theorem dX0_open_95 : decode cX0_open 95 = .ok (.goto 4, 3) := dec_of da_X0_open_0 (k := 56) rfl
theorem dX0_open_98 : decode cX0_open 98 = .ok (.iconst 0, 1) := dec_of da_X0_open_0 (k := 57) rfl
theorem dX0_open_99 : decode cX0_open 99 = .ok (.ireturn, 1) := dec_of da_X0_open_0 (k := 58) rfl
def dl_X0_crypt_0 : List (Nat × (Instr × Nat)) := [(0, (.iconst 0, 1)), (1, (.istore 5, 2)), (3, (.iload 5, 2)), (5, (.iload 4, 2)), (7, (.if_icmp .ge 65, 3)), (10, (.iload 5, 2)), (12, (.bipush 16, 2)), (14, (.irem, 1)), (15, (.ifCond .ne 27, 3)), (18, (.aload_n 0, 1)), (19, (.getfield 18, 3)), (22, (.aload_n 1, 1)), (23, (.iconst 1, 1)), (24, (.iload 5, 2)), (26, (.bipush 16, 2)), (28, (.idiv, 1)), (29, (.iconst 1, 1)), (30, (.iadd, 1)), (31, (.invokestatic 45, 3)), (34, (.aload_n 0, 1)), (35, (.aload_n 0, 1)), (36, (.getfield 18, 3)), (39, (.invokevirtual 48, 3)), (42, (.aload_n 2, 1)), (43, (.iload_n 3, 1)), (44, (.iload 5, 2)), (46, (.iadd, 1)), (47, (.aload_n 1, 1)), (48, (.bipush 32, 2)), (50, (.iload 5, 2)), (52, (.iadd, 1)), (53, (.iaload, 1)), (54, (.aload_n 0, 1)), (55, (.getfield 18, 3)), (58, (.iload 5, 2)), (60, (.bipush 16, 2)), (62, (.irem, 1)), (63, (.iaload, 1)), (64, (.ixor, 1)), (65, (.iastore, 1)), (66, (.iinc 5 1, 3)), (69, (.goto (-66), 3)), (72, (.return_, 1))]
set_option maxRecDepth 100000 in
theorem da_X0_crypt_0 : dl_X0_crypt_0.all (fun q => decide (decode cX0_crypt q.1 = .ok q.2)) = true := by decide +kernel
theorem dX0_crypt_0 : decode cX0_crypt 0 = .ok (.iconst 0, 1) := dec_of da_X0_crypt_0 (k := 0) rfl
theorem dX0_crypt_1 : decode cX0_crypt 1 = .ok (.istore 5, 2) := dec_of da_X0_crypt_0 (k := 1) rfl
theorem dX0_crypt_3 : decode cX0_crypt 3 = .ok (.iload 5, 2) := dec_of da_X0_crypt_0 (k := 2) rfl
theorem dX0_crypt_5 : decode cX0_crypt 5 = .ok (.iload 4, 2) := dec_of da_X0_crypt_0 (k := 3) rfl
theorem dX0_crypt_7 : decode cX0_crypt 7 = .ok (.if_icmp .ge 65, 3) := dec_of da_X0_crypt_0 (k := 4) rfl
theorem dX0_crypt_10 : decode cX0_crypt 10 = .ok (.iload 5, 2) := dec_of da_X0_crypt_0 (k := 5) rfl
theorem dX0_crypt_12 : decode cX0_crypt 12 = .ok (.bipush 16, 2) := dec_of da_X0_crypt_0 (k := 6) rfl
theorem dX0_crypt_14 : decode cX0_crypt 14 = .ok (.irem, 1) := dec_of da_X0_crypt_0 (k := 7) rfl
theorem dX0_crypt_15 : decode cX0_crypt 15 = .ok (.ifCond .ne 27, 3) := dec_of da_X0_crypt_0 (k := 8) rfl
theorem dX0_crypt_18 : decode cX0_crypt 18 = .ok (.aload_n 0, 1) := dec_of da_X0_crypt_0 (k := 9) rfl
theorem dX0_crypt_19 : decode cX0_crypt 19 = .ok (.getfield 18, 3) := dec_of da_X0_crypt_0 (k := 10) rfl
theorem dX0_crypt_22 : decode cX0_crypt 22 = .ok (.aload_n 1, 1) := dec_of da_X0_crypt_0 (k := 11) rfl
theorem dX0_crypt_23 : decode cX0_crypt 23 = .ok (.iconst 1, 1) := dec_of da_X0_crypt_0 (k := 12) rfl
theorem dX0_crypt_24 : decode cX0_crypt 24 = .ok (.iload 5, 2) := dec_of da_X0_crypt_0 (k := 13) rfl
theorem dX0_crypt_26 : decode cX0_crypt 26 = .ok (.bipush 16, 2) := dec_of da_X0_crypt_0 (k := 14) rfl
theorem dX0_crypt_28 : decode cX0_crypt 28 = .ok (.idiv, 1) := dec_of da_X0_crypt_0 (k := 15) rfl
theorem dX0_crypt_29 : decode cX0_crypt 29 = .ok (.iconst 1, 1) := dec_of da_X0_crypt_0 (k := 16) rfl
theorem dX0_crypt_30 : decode cX0_crypt 30 = .ok (.iadd, 1) := dec_of da_X0_crypt_0 (k := 17) rfl
theorem dX0_crypt_31 : decode cX0_crypt 31 = .ok (.invokestatic 45, 3) := dec_of da_X0_crypt_0 (k := 18) rfl
theorem dX0_crypt_34 : decode cX0_crypt 34 = .ok (.aload_n 0, 1) := dec_of da_X0_crypt_0 (k := 19) rfl
theorem dX0_crypt_35 : decode cX0_crypt 35 = .ok (.aload_n 0, 1) := dec_of da_X0_crypt_0 (k := 20) rfl
theorem dX0_crypt_36 : decode cX0_crypt 36 = .ok (.getfield 18, 3) := dec_of da_X0_crypt_0 (k := 21) rfl
theorem dX0_crypt_39 : decode cX0_crypt 39 = .ok (.invokevirtual 48, 3) := dec_of da_X0_crypt_0 (k := 22) rfl
theorem dX0_crypt_42 : decode cX0_crypt 42 = .ok (.aload_n 2, 1) := dec_of da_X0_crypt_0 (k := 23) rfl
theorem dX0_crypt_43 : decode cX0_crypt 43 = .ok (.iload_n 3, 1) := dec_of da_X0_crypt_0 (k := 24) rfl
theorem dX0_crypt_44 : decode cX0_crypt 44 = .ok (.iload 5, 2) := dec_of da_X0_crypt_0 (k := 25) rfl
theorem dX0_crypt_46 : decode cX0_crypt 46 = .ok (.iadd, 1) := dec_of da_X0_crypt_0 (k := 26) rfl
theorem dX0_crypt_47 : decode cX0_crypt 47 = .ok (.aload_n 1, 1) := dec_of da_X0_crypt_0 (k := 27) rfl
theorem dX0_crypt_48 : decode cX0_crypt 48 = .ok (.bipush 32, 2) := dec_of da_X0_crypt_0 (k := 28) rfl
theorem dX0_crypt_50 : decode cX0_crypt 50 = .ok (.iload 5, 2) := dec_of da_X0_crypt_0 (k := 29) rfl
theorem dX0_crypt_52 : decode cX0_crypt 52 = .ok (.iadd, 1) := dec_of da_X0_crypt_0 (k := 30) rfl
theorem dX0_crypt_53 : decode cX0_crypt 53 = .ok (.iaload, 1) := dec_of da_X0_crypt_0 (k := 31) rfl
theorem dX0_crypt_54 : decode cX0_crypt 54 = .ok (.aload_n 0, 1) := dec_of da_X0_crypt_0 (k := 32) rfl
theorem dX0_crypt_55 : decode cX0_crypt 55 = .ok (.getfield 18, 3) := dec_of da_X0_crypt_0 (k := 33) rfl
theorem dX0_crypt_58 : decode cX0_crypt 58 = .ok (.iload 5, 2) := dec_of da_X0_crypt_0 (k := 34) rfl
theorem dX0_crypt_60 : decode cX0_crypt 60 = .ok (.bipush 16, 2) := dec_of da_X0_crypt_0 (k := 35) rfl
theorem dX0_crypt_62 : decode cX0_crypt 62 = .ok (.irem, 1) := dec_of da_X0_crypt_0 (k := 36) rfl
theorem dX0_crypt_63 : decode cX0_crypt 63 = .ok (.iaload, 1) := dec_of da_X0_crypt_0 (k := 37) rfl
theorem dX0_crypt_64 : decode cX0_crypt 64 = .ok (.ixor, 1) := dec_of da_X0_crypt_0 (k := 38) rfl
theorem dX0_crypt_65 : decode cX0_crypt 65 = .ok (.iastore, 1) := dec_of da_X0_crypt_0 (k := 39) rfl
theorem dX0_crypt_66 : decode cX0_crypt 66 = .ok (.iinc 5 1, 3) := dec_of da_X0_crypt_0 (k := 40) rfl
theorem dX0_crypt_69 : decode cX0_crypt 69 = .ok (.goto (-66), 3) := dec_of da_X0_crypt_0 (k := 41) rfl
theorem dX0_crypt_72 : decode cX0_crypt 72 = .ok (.return_, 1) := dec_of da_X0_crypt_0 (k := 42) rfl
def dl_X0_addUp_0 : List (Nat × (Instr × Nat)) := [(0, (.aload_n 0, 1)), (1, (.getfield 15, 3)), (4, (.aload_n 1, 1)), (5, (.bipush 89, 2)), (7, (.iload_n 2, 1)), (8, (.invokestatic 45, 3)), (11, (.aload_n 0, 1)), (12, (.aload_n 0, 1)), (13, (.getfield 15, 3)), (16, (.invokevirtual 48, 3)), (19, (.aload_n 0, 1)), (20, (.getfield 15, 3)), (23, (.iconst 1, 1)), (24, (.dup2, 1)), (25, (.iaload, 1)), (26, (.bipush 22, 2)), (28, (.ixor, 1)), (29, (.iastore, 1)), (30, (.iconst 0, 1)), (31, (.istore_n 3, 1)), (32, (.iload_n 3, 1)), (33, (.bipush 22, 2)), (35, (.if_icmp .ge 45, 3)), (38, (.iload_n 3, 1)), (39, (.iconst 2, 1)), (40, (.iadd, 1)), (41, (.bipush 16, 2)), (43, (.irem, 1)), (44, (.istore 4, 2)), (46, (.iload 4, 2)), (48, (.ifCond .ne 11, 3)), (51, (.aload_n 0, 1)), (52, (.aload_n 0, 1)), (53, (.getfield 15, 3)), (56, (.invokevirtual 48, 3)), (59, (.aload_n 0, 1)), (60, (.getfield 15, 3)), (63, (.iload 4, 2)), (65, (.dup2, 1)), (66, (.iaload, 1)), (67, (.aload_n 1, 1)), (68, (.iload_n 3, 1)), (69, (.invokestatic 51, 3)), (72, (.ixor, 1)), (73, (.iastore, 1)), (74, (.iinc 3 1, 3)), (77, (.goto (-45), 3)), (80, (.aload_n 0, 1)), (81, (.aload_n 0, 1)), (82, (.getfield 15, 3)), (85, (.invokevirtual 48, 3)), (88, (.iconst 0, 1)), (89, (.istore_n 3, 1)), (90, (.iload_n 3, 1)), (91, (.iload_n 2, 1)), (92, (.if_icmp .ge 51, 3)), (95, (.aload_n 0, 1)), (96, (.getfield 15, 3)), (99, (.iload_n 3, 1)), (100, (.bipush 16, 2))]
set_option maxRecDepth 100000 in
theorem da_X0_addUp_0 : dl_X0_addUp_0.all (fun q => decide (decode cX0_addUp q.1 = .ok q.2)) = true := by decide +kernel
theorem dX0_addUp_0 : decode cX0_addUp 0 = .ok (.aload_n 0, 1) := dec_of da_X0_addUp_0 (k := 0) rfl
theorem dX0_addUp_1 : decode cX0_addUp 1 = .ok (.getfield 15, 3) := dec_of da_X0_addUp_0 (k := 1) rfl
theorem dX0_addUp_4 : decode cX0_addUp 4 = .ok (.aload_n 1, 1) := dec_of da_X0_addUp_0 (k := 2) rfl
theorem dX0_addUp_5 : decode cX0_addUp 5 = .ok (.bipush 89, 2) := dec_of da_X0_addUp_0 (k := 3) rfl
theorem dX0_addUp_7 : decode cX0_addUp 7 = .ok (.iload_n 2, 1) := dec_of da_X0_addUp_0 (k := 4) rfl
theorem dX0_addUp_8 : decode cX0_addUp 8 = .ok (.invokestatic 45, 3) := dec_of da_X0_addUp_0 (k := 5) rfl
theorem dX0_addUp_11 : decode cX0_addUp 11 = .ok (.aload_n 0, 1) := dec_of da_X0_addUp_0 (k := 6) rfl
theorem dX0_addUp_12 : decode cX0_addUp 12 = .ok (.aload_n 0, 1) := dec_of da_X0_addUp_0 (k := 7) rfl
theorem dX0_addUp_13 : decode cX0_addUp 13 = .ok (.getfield 15, 3) := dec_of da_X0_addUp_0 (k := 8) rfl
theorem dX0_addUp_16 : decode cX0_addUp 16 = .ok (.invokevirtual 48, 3) := dec_of da_X0_addUp_0 (k := 9) rfl
theorem dX0_addUp_19 : decode cX0_addUp 19 = .ok (.aload_n 0, 1) := dec_of da_X0_addUp_0 (k := 10) rfl
theorem dX0_addUp_20 : decode cX0_addUp 20 = .ok (.getfield 15, 3) := dec_of da_X0_addUp_0 (k := 11) rfl
theorem dX0_addUp_23 : decode cX0_addUp 23 = .ok (.iconst 1, 1) := dec_of da_X0_addUp_0 (k := 12) rfl
theorem dX0_addUp_24 : decode cX0_addUp 24 = .ok (.dup2, 1) := dec_of da_X0_addUp_0 (k := 13) rfl
theorem dX0_addUp_25 : decode cX0_addUp 25 = .ok (.iaload, 1) := dec_of da_X0_addUp_0 (k := 14) rfl
theorem dX0_addUp_26 : decode cX0_addUp 26 = .ok (.bipush 22, 2) := dec_of da_X0_addUp_0 (k := 15) rfl
theorem dX0_addUp_28 : decode cX0_addUp 28 = .ok (.ixor, 1) := dec_of da_X0_addUp_0 (k := 16) rfl
theorem dX0_addUp_29 : decode cX0_addUp 29 = .ok (.iastore, 1) := dec_of da_X0_addUp_0 (k := 17) rfl
theorem dX0_addUp_30 : decode cX0_addUp 30 = .ok (.iconst 0, 1) := dec_of da_X0_addUp_0 (k := 18) rfl
theorem dX0_addUp_31 : decode cX0_addUp 31 = .ok (.istore_n 3, 1) := dec_of da_X0_addUp_0 (k := 19) rfl
theorem dX0_addUp_32 : decode cX0_addUp 32 = .ok (.iload_n 3, 1) := dec_of da_X0_addUp_0 (k := 20) rfl
theorem dX0_addUp_33 : decode cX0_addUp 33 = .ok (.bipush 22, 2) := dec_of da_X0_addUp_0 (k := 21) rfl
theorem dX0_addUp_35 : decode cX0_addUp 35 = .ok (.if_icmp .ge 45, 3) := dec_of da_X0_addUp_0 (k := 22) rfl
theorem dX0_addUp_38 : decode cX0_addUp 38 = .ok (.iload_n 3, 1) := dec_of da_X0_addUp_0 (k := 23) rfl
theorem dX0_addUp_39 : decode cX0_addUp 39 = .ok (.iconst 2, 1) := dec_of da_X0_addUp_0 (k := 24) rfl
theorem dX0_addUp_40 : decode cX0_addUp 40 = .ok (.iadd, 1) := dec_of da_X0_addUp_0 (k := 25) rfl
theorem dX0_addUp_41 : decode cX0_addUp 41 = .ok (.bipush 16, 2) := dec_of da_X0_addUp_0 (k := 26) rfl
theorem dX0_addUp_43 : decode cX0_addUp 43 = .ok (.irem, 1) := dec_of da_X0_addUp_0 (k := 27) rfl
theorem dX0_addUp_44 : decode cX0_addUp 44 = .ok (.istore 4, 2) := dec_of da_X0_addUp_0 (k := 28) rfl
theorem dX0_addUp_46 : decode cX0_addUp 46 = .ok (.iload 4, 2) := dec_of da_X0_addUp_0 (k := 29) rfl
theorem dX0_addUp_48 : decode cX0_addUp 48 = .ok (.ifCond .ne 11, 3) := dec_of da_X0_addUp_0 (k := 30) rfl
theorem dX0_addUp_51 : decode cX0_addUp 51 = .ok (.aload_n 0, 1) := dec_of da_X0_addUp_0 (k := 31) rfl
theorem dX0_addUp_52 : decode cX0_addUp 52 = .ok (.aload_n 0, 1) := dec_of da_X0_addUp_0 (k := 32) rfl
theorem dX0_addUp_53 : decode cX0_addUp 53 = .ok (.getfield 15, 3) := dec_of da_X0_addUp_0 (k := 33) rfl
theorem dX0_addUp_56 : decode cX0_addUp 56 = .ok (.invokevirtual 48, 3) := dec_of da_X0_addUp_0 (k := 34) rfl
theorem dX0_addUp_59 : decode cX0_addUp 59 = .ok (.aload_n 0, 1) := dec_of da_X0_addUp_0 (k := 35) rfl
theorem dX0_addUp_60 : decode cX0_addUp 60 = .ok (.getfield 15, 3) := dec_of da_X0_addUp_0 (k := 36) rfl
theorem dX0_addUp_63 : decode cX0_addUp 63 = .ok (.iload 4, 2) := dec_of da_X0_addUp_0 (k := 37) rfl
theorem dX0_addUp_65 : decode cX0_addUp 65 = .ok (.dup2, 1) := dec_of da_X0_addUp_0 (k := 38) rfl
theorem dX0_addUp_66 : decode cX0_addUp 66 = .ok (.iaload, 1) := dec_of da_X0_addUp_0 (k := 39) rfl
theorem dX0_addUp_67 : decode cX0_addUp 67 = .ok (.aload_n 1, 1) := dec_of da_X0_addUp_0 (k := 40) rfl
theorem dX0_addUp_68 : decode cX0_addUp 68 = .ok (.iload_n 3, 1) := dec_of da_X0_addUp_0 (k := 41) rfl
theorem dX0_addUp_69 : decode cX0_addUp 69 = .ok (.invokestatic 51, 3) := dec_of da_X0_addUp_0 (k := 42) rfl
theorem dX0_addUp_72 : decode cX0_addUp 72 = .ok (.ixor, 1) := dec_of da_X0_addUp_0 (k := 43) rfl
theorem dX0_addUp_73 : decode cX0_addUp 73 = .ok (.iastore, 1) := dec_of da_X0_addUp_0 (k := 44) rfl
theorem dX0_addUp_74 : decode cX0_addUp 74 = .ok (.iinc 3 1, 3) := dec_of da_X0_addUp_0 (k := 45) rfl
theorem dX0_addUp_77 : decode cX0_addUp 77 = .ok (.goto (-45), 3) := dec_of da_X0_addUp_0 (k := 46) rfl
theorem dX0_addUp_80 : decode cX0_addUp 80 = .ok (.aload_n 0, 1) := dec_of da_X0_addUp_0 (k := 47) rfl
theorem dX0_addUp_81 : decode cX0_addUp 81 = .ok (.aload_n 0, 1) := dec_of da_X0_addUp_0 (k := 48) rfl
theorem dX0_addUp_82 : decode cX0_addUp 82 = .ok (.getfield 15, 3) := dec_of da_X0_addUp_0 (k := 49) rfl
theorem dX0_addUp_85 : decode cX0_addUp 85 = .ok (.invokevirtual 48, 3) := dec_of da_X0_addUp_0 (k := 50) rfl
theorem dX0_addUp_88 : decode cX0_addUp 88 = .ok (.iconst 0, 1) := dec_of da_X0_addUp_0 (k := 51) rfl
theorem dX0_addUp_89 : decode cX0_addUp 89 = .ok (.istore_n 3, 1) := dec_of da_X0_addUp_0 (k := 52) rfl
theorem dX0_addUp_90 : decode cX0_addUp 90 = .ok (.iload_n 3, 1) := dec_of da_X0_addUp_0 (k := 53) rfl
theorem dX0_addUp_91 : decode cX0_addUp 91 = .ok (.iload_n 2, 1) := dec_of da_X0_addUp_0 (k := 54) rfl
theorem dX0_addUp_92 : decode cX0_addUp 92 = .ok (.if_icmp .ge 51, 3) := dec_of da_X0_addUp_0 (k := 55) rfl
theorem dX0_addUp_95 : decode cX0_addUp 95 = .ok (.aload_n 0, 1) := dec_of da_X0_addUp_0 (k := 56) rfl
theorem dX0_addUp_96 : decode cX0_addUp 96 = .ok (.getfield 15, 3) := dec_of da_X0_addUp_0 (k := 57) rfl
theorem dX0_addUp_99 : decode cX0_addUp 99 = .ok (.iload_n 3, 1) := dec_of da_X0_addUp_0 (k := 58) rfl
theorem dX0_addUp_100 : decode cX0_addUp 100 = .ok (.bipush 16, 2) := dec_of da_X0_addUp_0 (k := 59) rfl
def dl_X0_addUp_1 : List (Nat × (Instr × Nat)) := [(102, (.irem, 1)), (103, (.dup2, 1)), (104, (.iaload, 1)), (105, (.aload_n 0, 1)), (106, (.getfield 9, 3)), (109, (.iload_n 3, 1)), (110, (.iaload, 1)), (111, (.ixor, 1)), (112, (.iastore, 1)), (113, (.iload_n 3, 1)), (114, (.bipush 16, 2)), (116, (.irem, 1)), (117, (.bipush 15, 2)), (119, (.if_icmp .eq 10, 3)), (122, (.iload_n 3, 1)), (123, (.iload_n 2, 1)), (124, (.iconst 1, 1)), (125, (.isub, 1)), (126, (.if_icmp .ne 11, 3)), (129, (.aload_n 0, 1)), (130, (.aload_n 0, 1)), (131, (.getfield 15, 3)), (134, (.invokevirtual 48, 3)), (137, (.iinc 3 1, 3)), (140, (.goto (-50), 3)), (143, (.return_, 1))]
set_option maxRecDepth 100000 in
theorem da_X0_addUp_1 : dl_X0_addUp_1.all (fun q => decide (decode cX0_addUp q.1 = .ok q.2)) = true := by decide +kernel
theorem dX0_addUp_102 : decode cX0_addUp 102 = .ok (.irem, 1) := dec_of da_X0_addUp_1 (k := 0) rfl
theorem dX0_addUp_103 : decode cX0_addUp 103 = .ok (.dup2, 1) := dec_of da_X0_addUp_1 (k := 1) rfl
theorem dX0_addUp_104 : decode cX0_addUp 104 = .ok (.iaload, 1) := dec_of da_X0_addUp_1 (k := 2) rfl
theorem dX0_addUp_105 : decode cX0_addUp 105 = .ok (.aload_n 0, 1) := dec_of da_X0_addUp_1 (k := 3) rfl
theorem dX0_addUp_106 : decode cX0_addUp 106 = .ok (.getfield 9, 3) := dec_of da_X0_addUp_1 (k := 4) rfl
theorem dX0_addUp_109 : decode cX0_addUp 109 = .ok (.iload_n 3, 1) := dec_of da_X0_addUp_1 (k := 5) rfl
theorem dX0_addUp_110 : decode cX0_addUp 110 = .ok (.iaload, 1) := dec_of da_X0_addUp_1 (k := 6) rfl
theorem dX0_addUp_111 : decode cX0_addUp 111 = .ok (.ixor, 1) := dec_of da_X0_addUp_1 (k := 7) rfl
theorem dX0_addUp_112 : decode cX0_addUp 112 = .ok (.iastore, 1) := dec_of da_X0_addUp_1 (k := 8) rfl
theorem dX0_addUp_113 : decode cX0_addUp 113 = .ok (.iload_n 3, 1) := dec_of da_X0_addUp_1 (k := 9) rfl
theorem dX0_addUp_114 : decode cX0_addUp 114 = .ok (.bipush 16, 2) := dec_of da_X0_addUp_1 (k := 10) rfl
theorem dX0_addUp_116 : decode cX0_addUp 116 = .ok (.irem, 1) := dec_of da_X0_addUp_1 (k := 11) rfl
theorem dX0_addUp_117 : decode cX0_addUp 117 = .ok (.bipush 15, 2) := dec_of da_X0_addUp_1 (k := 12) rfl
theorem dX0_addUp_119 : decode cX0_addUp 119 = .ok (.if_icmp .eq 10, 3) := dec_of da_X0_addUp_1 (k := 13) rfl
theorem dX0_addUp_122 : decode cX0_addUp 122 = .ok (.iload_n 3, 1) := dec_of da_X0_addUp_1 (k := 14) rfl
theorem dX0_addUp_123 : decode cX0_addUp 123 = .ok (.iload_n 2, 1) := dec_of da_X0_addUp_1 (k := 15) rfl
theorem dX0_addUp_124 : decode cX0_addUp 124 = .ok (.iconst 1, 1) := dec_of da_X0_addUp_1 (k := 16) rfl
theorem dX0_addUp_125 : decode cX0_addUp 125 = .ok (.isub, 1) := dec_of da_X0_addUp_1 (k := 17) rfl
theorem dX0_addUp_126 : decode cX0_addUp 126 = .ok (.if_icmp .ne 11, 3) := dec_of da_X0_addUp_1 (k := 18) rfl
theorem dX0_addUp_129 : decode cX0_addUp 129 = .ok (.aload_n 0, 1) := dec_of da_X0_addUp_1 (k := 19) rfl
theorem dX0_addUp_130 : decode cX0_addUp 130 = .ok (.aload_n 0, 1) := dec_of da_X0_addUp_1 (k := 20) rfl
theorem dX0_addUp_131 : decode cX0_addUp 131 = .ok (.getfield 15, 3) := dec_of da_X0_addUp_1 (k := 21) rfl
theorem dX0_addUp_134 : decode cX0_addUp 134 = .ok (.invokevirtual 48, 3) := dec_of da_X0_addUp_1 (k := 22) rfl
theorem dX0_addUp_137 : decode cX0_addUp 137 = .ok (.iinc 3 1, 3) := dec_of da_X0_addUp_1 (k := 23) rfl
theorem dX0_addUp_140 : decode cX0_addUp 140 = .ok (.goto (-50), 3) := dec_of da_X0_addUp_1 (k := 24) rfl
theorem dX0_addUp_143 : decode cX0_addUp 143 = .ok (.return_, 1) := dec_of da_X0_addUp_1 (k := 25) rfl
def dl_X0_additional_0 : List (Nat × (Instr × Nat)) := [(0, (.iload_n 1, 1)), (1, (.lookupswitch 64 #[(0, 43), (1, 47), (20, 54), (21, 62)], 43)), (44, (.aload_n 0, 1)), (45, (.iconst 0, 1)), (46, (.iaload, 1)), (47, (.ireturn, 1)), (48, (.aload_n 0, 1)), (49, (.iconst 1, 1)), (50, (.iaload, 1)), (51, (.bipush (-9), 2)), (53, (.iand, 1)), (54, (.ireturn, 1)), (55, (.aload_n 0, 1)), (56, (.bipush 22, 2)), (58, (.iaload, 1)), (59, (.bipush 15, 2)), (61, (.iand, 1)), (62, (.ireturn, 1)), (63, (.iconst 0, 1)), (64, (.ireturn, 1)), (65, (.aload_n 0, 1)), (66, (.iconst 4, 1)), (67, (.iload_n 1, 1)), (68, (.iadd, 1)), (69, (.iconst 2, 1)), (70, (.isub, 1)), (71, (.iaload, 1)), (72, (.ireturn, 1))]
set_option maxRecDepth 100000 in
theorem da_X0_additional_0 : dl_X0_additional_0.all (fun q => decide (decode cX0_additional q.1 = .ok q.2)) = true := by decide +kernel
theorem dX0_additional_0 : decode cX0_additional 0 = .ok (.iload_n 1, 1) := dec_of da_X0_additional_0 (k := 0) rfl
theorem dX0_additional_1 : decode cX0_additional 1 = .ok (.lookupswitch 64 #[(0, 43), (1, 47), (20, 54), (21, 62)], 43) := dec_of da_X0_additional_0 (k := 1) rfl
theorem dX0_additional_44 : decode cX0_additional 44 = .ok (.aload_n 0, 1) := dec_of da_X0_additional_0 (k := 2) rfl
theorem dX0_additional_45 : decode cX0_additional 45 = .ok (.iconst 0, 1) := dec_of da_X0_additional_0 (k := 3) rfl
theorem dX0_additional_46 : decode cX0_additional 46 = .ok (.iaload, 1) := dec_of da_X0_additional_0 (k := 4) rfl
theorem dX0_additional_47 : decode cX0_additional 47 = .ok (.ireturn, 1) := dec_of da_X0_additional_0 (k := 5) rfl
theorem dX0_additional_48 : decode cX0_additional 48 = .ok (.aload_n 0, 1) := dec_of da_X0_additional_0 (k := 6) rfl
theorem dX0_additional_49 : decode cX0_additional 49 = .ok (.iconst 1, 1) := dec_of da_X0_additional_0 (k := 7) rfl
theorem dX0_additional_50 : decode cX0_additional 50 = .ok (.iaload, 1) := dec_of da_X0_additional_0 (k := 8) rfl
theorem dX0_additional_51 : decode cX0_additional 51 = .ok (.bipush (-9), 2) := dec_of da_X0_additional_0 (k := 9) rfl
theorem dX0_additional_53 : decode cX0_additional 53 = .ok (.iand, 1) := dec_of da_X0_additional_0 (k := 10) rfl
theorem dX0_additional_54 : decode cX0_additional 54 = .ok (.ireturn, 1) := dec_of da_X0_additional_0 (k := 11) rfl
theorem dX0_additional_55 : decode cX0_additional 55 = .ok (.aload_n 0, 1) := dec_of da_X0_additional_0 (k := 12) rfl
theorem dX0_additional_56 : decode cX0_additional 56 = .ok (.bipush 22, 2) := dec_of da_X0_additional_0 (k := 13) rfl
theorem dX0_additional_58 : decode cX0_additional 58 = .ok (.iaload, 1) := dec_of da_X0_additional_0 (k := 14) rfl
theorem dX0_additional_59 : decode cX0_additional 59 = .ok (.bipush 15, 2) := dec_of da_X0_additional_0 (k := 15) rfl
theorem dX0_additional_61 : decode cX0_additional 61 = .ok (.iand, 1) := dec_of da_X0_additional_0 (k := 16) rfl
theorem dX0_additional_62 : decode cX0_additional 62 = .ok (.ireturn, 1) := dec_of da_X0_additional_0 (k := 17) rfl
theorem dX0_additional_63 : decode cX0_additional 63 = .ok (.iconst 0, 1) := dec_of da_X0_additional_0 (k := 18) rfl
theorem dX0_additional_64 : decode cX0_additional 64 = .ok (.ireturn, 1) := dec_of da_X0_additional_0 (k := 19) rfl
theorem dX0_additional_65 : decode cX0_additional 65 = .ok (.aload_n 0, 1) := dec_of da_X0_additional_0 (k := 20) rfl
theorem dX0_additional_66 : decode cX0_additional 66 = .ok (.iconst 4, 1) := dec_of da_X0_additional_0 (k := 21) rfl
theorem dX0_additional_67 : decode cX0_additional 67 = .ok (.iload_n 1, 1) := dec_of da_X0_additional_0 (k := 22) rfl
theorem dX0_additional_68 : decode cX0_additional 68 = .ok (.iadd, 1) := dec_of da_X0_additional_0 (k := 23) rfl
theorem dX0_additional_69 : decode cX0_additional 69 = .ok (.iconst 2, 1) := dec_of da_X0_additional_0 (k := 24) rfl
theorem dX0_additional_70 : decode cX0_additional 70 = .ok (.isub, 1) := dec_of da_X0_additional_0 (k := 25) rfl
theorem dX0_additional_71 : decode cX0_additional 71 = .ok (.iaload, 1) := dec_of da_X0_additional_0 (k := 26) rfl
theorem dX0_additional_72 : decode cX0_additional 72 = .ok (.ireturn, 1) := dec_of da_X0_additional_0 (k := 27) rfl
def dl_X0_setFirstBlock_0 : List (Nat × (Instr × Nat)) := [(0, (.aload_n 0, 1)), (1, (.iconst 0, 1)), (2, (.iload_n 2, 1)), (3, (.iastore, 1)), (4, (.aload_n 0, 1)), (5, (.iconst 1, 1)), (6, (.iconst 0, 1)), (7, (.iastore, 1)), (8, (.iconst 0, 1)), (9, (.istore 4, 2)), (11, (.iload 4, 2)), (13, (.bipush 6, 2)), (15, (.if_icmp .ge 22, 3)), (18, (.aload_n 0, 1)), (19, (.iconst 2, 1)), (20, (.iload 4, 2)), (22, (.iadd, 1)), (23, (.aload_n 1, 1)), (24, (.bipush 10, 2)), (26, (.iload 4, 2)), (28, (.iadd, 1)), (29, (.iaload, 1)), (30, (.iastore, 1)), (31, (.iinc 4 1, 3)), (34, (.goto (-23), 3)), (37, (.iconst 0, 1)), (38, (.istore 4, 2)), (40, (.iload 4, 2)), (42, (.iconst 4, 1)), (43, (.if_icmp .ge 23, 3)), (46, (.aload_n 0, 1)), (47, (.bipush 8, 2)), (49, (.iload 4, 2)), (51, (.iadd, 1)), (52, (.aload_n 1, 1)), (53, (.bipush 31, 2)), (55, (.iload 4, 2)), (57, (.isub, 1)), (58, (.iaload, 1)), (59, (.iastore, 1)), (60, (.iinc 4 1, 3)), (63, (.goto (-23), 3)), (66, (.aload_n 0, 1)), (67, (.bipush 12, 2)), (69, (.aload_n 1, 1)), (70, (.bipush 25, 2)), (72, (.iaload, 1)), (73, (.iastore, 1)), (74, (.aload_n 0, 1)), (75, (.bipush 13, 2)), (77, (.aload_n 1, 1)), (78, (.bipush 24, 2)), (80, (.iaload, 1)), (81, (.iastore, 1)), (82, (.aload_n 0, 1)), (83, (.bipush 14, 2)), (85, (.iload_n 3, 1)), (86, (.bipush 8, 2)), (88, (.ishr, 1)), (89, (.sipush 255, 3))]
set_option maxRecDepth 100000 in
theorem da_X0_setFirstBlock_0 : dl_X0_setFirstBlock_0.all (fun q => decide (decode cX0_setFirstBlock q.1 = .ok q.2)) = true := by decide +kernel
theorem dX0_setFirstBlock_0 : decode cX0_setFirstBlock 0 = .ok (.aload_n 0, 1) := dec_of da_X0_setFirstBlock_0 (k := 0) rfl
theorem dX0_setFirstBlock_1 : decode cX0_setFirstBlock 1 = .ok (.iconst 0, 1) := dec_of da_X0_setFirstBlock_0 (k := 1) rfl
theorem dX0_setFirstBlock_2 : decode cX0_setFirstBlock 2 = .ok (.iload_n 2, 1) := dec_of da_X0_setFirstBlock_0 (k := 2) rfl
theorem dX0_setFirstBlock_3 : decode cX0_setFirstBlock 3 = .ok (.iastore, 1) := dec_of da_X0_setFirstBlock_0 (k := 3) rfl
theorem dX0_setFirstBlock_4 : decode cX0_setFirstBlock 4 = .ok (.aload_n 0, 1) := dec_of da_X0_setFirstBlock_0 (k := 4) rfl
theorem dX0_setFirstBlock_5 : decode cX0_setFirstBlock 5 = .ok (.iconst 1, 1) := dec_of da_X0_setFirstBlock_0 (k := 5) rfl
theorem dX0_setFirstBlock_6 : decode cX0_setFirstBlock 6 = .ok (.iconst 0, 1) := dec_of da_X0_setFirstBlock_0 (k := 6) rfl
theorem dX0_setFirstBlock_7 : decode cX0_setFirstBlock 7 = .ok (.iastore, 1) := dec_of da_X0_setFirstBlock_0 (k := 7) rfl
theorem dX0_setFirstBlock_8 : decode cX0_setFirstBlock 8 = .ok (.iconst 0, 1) := dec_of da_X0_setFirstBlock_0 (k := 8) rfl
theorem dX0_setFirstBlock_9 : decode cX0_setFirstBlock 9 = .ok (.istore 4, 2) := dec_of da_X0_setFirstBlock_0 (k := 9) rfl
theorem dX0_setFirstBlock_11 : decode cX0_setFirstBlock 11 = .ok (.iload 4, 2) := dec_of da_X0_setFirstBlock_0 (k := 10) rfl
theorem dX0_setFirstBlock_13 : decode cX0_setFirstBlock 13 = .ok (.bipush 6, 2) := dec_of da_X0_setFirstBlock_0 (k := 11) rfl
theorem dX0_setFirstBlock_15 : decode cX0_setFirstBlock 15 = .ok (.if_icmp .ge 22, 3) := dec_of da_X0_setFirstBlock_0 (k := 12) rfl
theorem dX0_setFirstBlock_18 : decode cX0_setFirstBlock 18 = .ok (.aload_n 0, 1) := dec_of da_X0_setFirstBlock_0 (k := 13) rfl
theorem dX0_setFirstBlock_19 : decode cX0_setFirstBlock 19 = .ok (.iconst 2, 1) := dec_of da_X0_setFirstBlock_0 (k := 14) rfl
theorem dX0_setFirstBlock_20 : decode cX0_setFirstBlock 20 = .ok (.iload 4, 2) := dec_of da_X0_setFirstBlock_0 (k := 15) rfl
theorem dX0_setFirstBlock_22 : decode cX0_setFirstBlock 22 = .ok (.iadd, 1) := dec_of da_X0_setFirstBlock_0 (k := 16) rfl
theorem dX0_setFirstBlock_23 : decode cX0_setFirstBlock 23 = .ok (.aload_n 1, 1) := dec_of da_X0_setFirstBlock_0 (k := 17) rfl
theorem dX0_setFirstBlock_24 : decode cX0_setFirstBlock 24 = .ok (.bipush 10, 2) := dec_of da_X0_setFirstBlock_0 (k := 18) rfl
theorem dX0_setFirstBlock_26 : decode cX0_setFirstBlock 26 = .ok (.iload 4, 2) := dec_of da_X0_setFirstBlock_0 (k := 19) rfl
theorem dX0_setFirstBlock_28 : decode cX0_setFirstBlock 28 = .ok (.iadd, 1) := dec_of da_X0_setFirstBlock_0 (k := 20) rfl
theorem dX0_setFirstBlock_29 : decode cX0_setFirstBlock 29 = .ok (.iaload, 1) := dec_of da_X0_setFirstBlock_0 (k := 21) rfl
theorem dX0_setFirstBlock_30 : decode cX0_setFirstBlock 30 = .ok (.iastore, 1) := dec_of da_X0_setFirstBlock_0 (k := 22) rfl
theorem dX0_setFirstBlock_31 : decode cX0_setFirstBlock 31 = .ok (.iinc 4 1, 3) := dec_of da_X0_setFirstBlock_0 (k := 23) rfl
theorem dX0_setFirstBlock_34 : decode cX0_setFirstBlock 34 = .ok (.goto (-23), 3) := dec_of da_X0_setFirstBlock_0 (k := 24) rfl
theorem dX0_setFirstBlock_37 : decode cX0_setFirstBlock 37 = .ok (.iconst 0, 1) := dec_of da_X0_setFirstBlock_0 (k := 25) rfl
theorem dX0_setFirstBlock_38 : decode cX0_setFirstBlock 38 = .ok (.istore 4, 2) := dec_of da_X0_setFirstBlock_0 (k := 26) rfl
theorem dX0_setFirstBlock_40 : decode cX0_setFirstBlock 40 = .ok (.iload 4, 2) := dec_of da_X0_setFirstBlock_0 (k := 27) rfl
theorem dX0_setFirstBlock_42 : decode cX0_setFirstBlock 42 = .ok (.iconst 4, 1) := dec_of da_X0_setFirstBlock_0 (k := 28) rfl
theorem dX0_setFirstBlock_43 : decode cX0_setFirstBlock 43 = .ok (.if_icmp .ge 23, 3) := dec_of da_X0_setFirstBlock_0 (k := 29) rfl
theorem dX0_setFirstBlock_46 : decode cX0_setFirstBlock 46 = .ok (.aload_n 0, 1) := dec_of da_X0_setFirstBlock_0 (k := 30) rfl
theorem dX0_setFirstBlock_47 : decode cX0_setFirstBlock 47 = .ok (.bipush 8, 2) := dec_of da_X0_setFirstBlock_0 (k := 31) rfl
theorem dX0_setFirstBlock_49 : decode cX0_setFirstBlock 49 = .ok (.iload 4, 2) := dec_of da_X0_setFirstBlock_0 (k := 32) rfl
theorem dX0_setFirstBlock_51 : decode cX0_setFirstBlock 51 = .ok (.iadd, 1) := dec_of da_X0_setFirstBlock_0 (k := 33) rfl
theorem dX0_setFirstBlock_52 : decode cX0_setFirstBlock 52 = .ok (.aload_n 1, 1) := dec_of da_X0_setFirstBlock_0 (k := 34) rfl
theorem dX0_setFirstBlock_53 : decode cX0_setFirstBlock 53 = .ok (.bipush 31, 2) := dec_of da_X0_setFirstBlock_0 (k := 35) rfl
theorem dX0_setFirstBlock_55 : decode cX0_setFirstBlock 55 = .ok (.iload 4, 2) := dec_of da_X0_setFirstBlock_0 (k := 36) rfl
theorem dX0_setFirstBlock_57 : decode cX0_setFirstBlock 57 = .ok (.isub, 1) := dec_of da_X0_setFirstBlock_0 (k := 37) rfl
theorem dX0_setFirstBlock_58 : decode cX0_setFirstBlock 58 = .ok (.iaload, 1) := dec_of da_X0_setFirstBlock_0 (k := 38) rfl
theorem dX0_setFirstBlock_59 : decode cX0_setFirstBlock 59 = .ok (.iastore, 1) := dec_of da_X0_setFirstBlock_0 (k := 39) rfl
theorem dX0_setFirstBlock_60 : decode cX0_setFirstBlock 60 = .ok (.iinc 4 1, 3) := dec_of da_X0_setFirstBlock_0 (k := 40) rfl
theorem dX0_setFirstBlock_63 : decode cX0_setFirstBlock 63 = .ok (.goto (-23), 3) := dec_of da_X0_setFirstBlock_0 (k := 41) rfl
theorem dX0_setFirstBlock_66 : decode cX0_setFirstBlock 66 = .ok (.aload_n 0, 1) := dec_of da_X0_setFirstBlock_0 (k := 42) rfl
theorem dX0_setFirstBlock_67 : decode cX0_setFirstBlock 67 = .ok (.bipush 12, 2) := dec_of da_X0_setFirstBlock_0 (k := 43) rfl
theorem dX0_setFirstBlock_69 : decode cX0_setFirstBlock 69 = .ok (.aload_n 1, 1) := dec_of da_X0_setFirstBlock_0 (k := 44) rfl
theorem dX0_setFirstBlock_70 : decode cX0_setFirstBlock 70 = .ok (.bipush 25, 2) := dec_of da_X0_setFirstBlock_0 (k := 45) rfl
theorem dX0_setFirstBlock_72 : decode cX0_setFirstBlock 72 = .ok (.iaload, 1) := dec_of da_X0_setFirstBlock_0 (k := 46) rfl
theorem dX0_setFirstBlock_73 : decode cX0_setFirstBlock 73 = .ok (.iastore, 1) := dec_of da_X0_setFirstBlock_0 (k := 47) rfl
theorem dX0_setFirstBlock_74 : decode cX0_setFirstBlock 74 = .ok (.aload_n 0, 1) := dec_of da_X0_setFirstBlock_0 (k := 48) rfl
theorem dX0_setFirstBlock_75 : decode cX0_setFirstBlock 75 = .ok (.bipush 13, 2) := dec_of da_X0_setFirstBlock_0 (k := 49) rfl
theorem dX0_setFirstBlock_77 : decode cX0_setFirstBlock 77 = .ok (.aload_n 1, 1) := dec_of da_X0_setFirstBlock_0 (k := 50) rfl
theorem dX0_setFirstBlock_78 : decode cX0_setFirstBlock 78 = .ok (.bipush 24, 2) := dec_of da_X0_setFirstBlock_0 (k := 51) rfl
theorem dX0_setFirstBlock_80 : decode cX0_setFirstBlock 80 = .ok (.iaload, 1) := dec_of da_X0_setFirstBlock_0 (k := 52) rfl
theorem dX0_setFirstBlock_81 : decode cX0_setFirstBlock 81 = .ok (.iastore, 1) := dec_of da_X0_setFirstBlock_0 (k := 53) rfl
theorem dX0_setFirstBlock_82 : decode cX0_setFirstBlock 82 = .ok (.aload_n 0, 1) := dec_of da_X0_setFirstBlock_0 (k := 54) rfl
theorem dX0_setFirstBlock_83 : decode cX0_setFirstBlock 83 = .ok (.bipush 14, 2) := dec_of da_X0_setFirstBlock_0 (k := 55) rfl
theorem dX0_setFirstBlock_85 : decode cX0_setFirstBlock 85 = .ok (.iload_n 3, 1) := dec_of da_X0_setFirstBlock_0 (k := 56) rfl
theorem dX0_setFirstBlock_86 : decode cX0_setFirstBlock 86 = .ok (.bipush 8, 2) := dec_of da_X0_setFirstBlock_0 (k := 57) rfl
theorem dX0_setFirstBlock_88 : decode cX0_setFirstBlock 88 = .ok (.ishr, 1) := dec_of da_X0_setFirstBlock_0 (k := 58) rfl
theorem dX0_setFirstBlock_89 : decode cX0_setFirstBlock 89 = .ok (.sipush 255, 3) := dec_of da_X0_setFirstBlock_0 (k := 59) rfl
def dl_X0_setFirstBlock_1 : List (Nat × (Instr × Nat)) := [(92, (.iand, 1)), (93, (.iastore, 1)), (94, (.aload_n 0, 1)), (95, (.bipush 15, 2)), (97, (.iload_n 3, 1)), (98, (.sipush 255, 3)), (101, (.iand, 1)), (102, (.iastore, 1)), (103, (.return_, 1))]
set_option maxRecDepth 100000 in
theorem da_X0_setFirstBlock_1 : dl_X0_setFirstBlock_1.all (fun q => decide (decode cX0_setFirstBlock q.1 = .ok q.2)) = true := by decide +kernel
theorem dX0_setFirstBlock_92 : decode cX0_setFirstBlock 92 = .ok (.iand, 1) := dec_of da_X0_setFirstBlock_1 (k := 0) rfl
theorem dX0_setFirstBlock_93 : decode cX0_setFirstBlock 93 = .ok (.iastore, 1) := dec_of da_X0_setFirstBlock_1 (k := 1) rfl
theorem dX0_setFirstBlock_94 : decode cX0_setFirstBlock 94 = .ok (.aload_n 0, 1) := dec_of da_X0_setFirstBlock_1 (k := 2) rfl
theorem dX0_setFirstBlock_95 : decode cX0_setFirstBlock 95 = .ok (.bipush 15, 2) := dec_of da_X0_setFirstBlock_1 (k := 3) rfl
theorem dX0_setFirstBlock_97 : decode cX0_setFirstBlock 97 = .ok (.iload_n 3, 1) := dec_of da_X0_setFirstBlock_1 (k := 4) rfl
theorem dX0_setFirstBlock_98 : decode cX0_setFirstBlock 98 = .ok (.sipush 255, 3) := dec_of da_X0_setFirstBlock_1 (k := 5) rfl
theorem dX0_setFirstBlock_101 : decode cX0_setFirstBlock 101 = .ok (.iand, 1) := dec_of da_X0_setFirstBlock_1 (k := 6) rfl
theorem dX0_setFirstBlock_102 : decode cX0_setFirstBlock 102 = .ok (.iastore, 1) := dec_of da_X0_setFirstBlock_1 (k := 7) rfl
theorem dX0_setFirstBlock_103 : decode cX0_setFirstBlock 103 = .ok (.return_, 1) := dec_of da_X0_setFirstBlock_1 (k := 8) rfl
def dl_X0_expandKey_0 : List (Nat × (Instr × Nat)) := [(0, (.aload_n 1, 1)), (1, (.iconst 0, 1)), (2, (.aload_n 0, 1)), (3, (.getfield 24, 3)), (6, (.iconst 0, 1)), (7, (.bipush 16, 2)), (9, (.invokestatic 31, 3)), (12, (.iconst 1, 1)), (13, (.istore_n 2, 1)), (14, (.bipush 16, 2)), (16, (.istore_n 3, 1)), (17, (.iload_n 3, 1)), (18, (.aload_n 0, 1)), (19, (.getfield 24, 3)), (22, (.arraylength, 1)), (23, (.if_icmp .ge 139, 3)), (26, (.iload_n 3, 1)), (27, (.bipush 16, 2)), (29, (.irem, 1)), (30, (.ifCond .ne 7, 3)), (33, (.iconst 1, 1)), (34, (.goto 4, 3)), (37, (.iconst 0, 1)), (38, (.istore 4, 2)), (40, (.iconst 0, 1)), (41, (.istore 5, 2)), (43, (.iload 5, 2)), (45, (.iconst 4, 1)), (46, (.if_icmp .ge 82, 3)), (49, (.aload_n 0, 1)), (50, (.getfield 24, 3)), (53, (.iload 4, 2)), (55, (.ifCond .eq 16, 3)), (58, (.iload_n 3, 1)), (59, (.iconst 4, 1)), (60, (.isub, 1)), (61, (.iload 5, 2)), (63, (.iconst 1, 1)), (64, (.iadd, 1)), (65, (.iconst 4, 1)), (66, (.irem, 1)), (67, (.iadd, 1)), (68, (.goto 9, 3)), (71, (.iload_n 3, 1)), (72, (.iconst 4, 1)), (73, (.isub, 1)), (74, (.iload 5, 2)), (76, (.iadd, 1)), (77, (.iaload, 1)), (78, (.istore 6, 2)), (80, (.aload_n 0, 1)), (81, (.getfield 24, 3)), (84, (.iload_n 3, 1)), (85, (.iload 5, 2)), (87, (.iadd, 1)), (88, (.aload_n 0, 1)), (89, (.getfield 24, 3)), (92, (.iload_n 3, 1)), (93, (.bipush 16, 2)), (95, (.isub, 1))]
set_option maxRecDepth 100000 in
theorem da_X0_expandKey_0 : dl_X0_expandKey_0.all (fun q => decide (decode cX0_expandKey q.1 = .ok q.2)) = true := by decide +kernel
theorem dX0_expandKey_0 : decode cX0_expandKey 0 = .ok (.aload_n 1, 1) := dec_of da_X0_expandKey_0 (k := 0) rfl
theorem dX0_expandKey_1 : decode cX0_expandKey 1 = .ok (.iconst 0, 1) := dec_of da_X0_expandKey_0 (k := 1) rfl
theorem dX0_expandKey_2 : decode cX0_expandKey 2 = .ok (.aload_n 0, 1) := dec_of da_X0_expandKey_0 (k := 2) rfl
theorem dX0_expandKey_3 : decode cX0_expandKey 3 = .ok (.getfield 24, 3) := dec_of da_X0_expandKey_0 (k := 3) rfl
theorem dX0_expandKey_6 : decode cX0_expandKey 6 = .ok (.iconst 0, 1) := dec_of da_X0_expandKey_0 (k := 4) rfl
theorem dX0_expandKey_7 : decode cX0_expandKey 7 = .ok (.bipush 16, 2) := dec_of da_X0_expandKey_0 (k := 5) rfl
theorem dX0_expandKey_9 : decode cX0_expandKey 9 = .ok (.invokestatic 31, 3) := dec_of da_X0_expandKey_0 (k := 6) rfl
theorem dX0_expandKey_12 : decode cX0_expandKey 12 = .ok (.iconst 1, 1) := dec_of da_X0_expandKey_0 (k := 7) rfl
theorem dX0_expandKey_13 : decode cX0_expandKey 13 = .ok (.istore_n 2, 1) := dec_of da_X0_expandKey_0 (k := 8) rfl
theorem dX0_expandKey_14 : decode cX0_expandKey 14 = .ok (.bipush 16, 2) := dec_of da_X0_expandKey_0 (k := 9) rfl
theorem dX0_expandKey_16 : decode cX0_expandKey 16 = .ok (.istore_n 3, 1) := dec_of da_X0_expandKey_0 (k := 10) rfl
theorem dX0_expandKey_17 : decode cX0_expandKey 17 = .ok (.iload_n 3, 1) := dec_of da_X0_expandKey_0 (k := 11) rfl
theorem dX0_expandKey_18 : decode cX0_expandKey 18 = .ok (.aload_n 0, 1) := dec_of da_X0_expandKey_0 (k := 12) rfl
theorem dX0_expandKey_19 : decode cX0_expandKey 19 = .ok (.getfield 24, 3) := dec_of da_X0_expandKey_0 (k := 13) rfl
theorem dX0_expandKey_22 : decode cX0_expandKey 22 = .ok (.arraylength, 1) := dec_of da_X0_expandKey_0 (k := 14) rfl
theorem dX0_expandKey_23 : decode cX0_expandKey 23 = .ok (.if_icmp .ge 139, 3) := dec_of da_X0_expandKey_0 (k := 15) rfl
theorem dX0_expandKey_26 : decode cX0_expandKey 26 = .ok (.iload_n 3, 1) := dec_of da_X0_expandKey_0 (k := 16) rfl
theorem dX0_expandKey_27 : decode cX0_expandKey 27 = .ok (.bipush 16, 2) := dec_of da_X0_expandKey_0 (k := 17) rfl
theorem dX0_expandKey_29 : decode cX0_expandKey 29 = .ok (.irem, 1) := dec_of da_X0_expandKey_0 (k := 18) rfl
theorem dX0_expandKey_30 : decode cX0_expandKey 30 = .ok (.ifCond .ne 7, 3) := dec_of da_X0_expandKey_0 (k := 19) rfl
theorem dX0_expandKey_33 : decode cX0_expandKey 33 = .ok (.iconst 1, 1) := dec_of da_X0_expandKey_0 (k := 20) rfl
theorem dX0_expandKey_34 : decode cX0_expandKey 34 = .ok (.goto 4, 3) := dec_of da_X0_expandKey_0 (k := 21) rfl
theorem dX0_expandKey_37 : decode cX0_expandKey 37 = .ok (.iconst 0, 1) := dec_of da_X0_expandKey_0 (k := 22) rfl
theorem dX0_expandKey_38 : decode cX0_expandKey 38 = .ok (.istore 4, 2) := dec_of da_X0_expandKey_0 (k := 23) rfl
theorem dX0_expandKey_40 : decode cX0_expandKey 40 = .ok (.iconst 0, 1) := dec_of da_X0_expandKey_0 (k := 24) rfl
theorem dX0_expandKey_41 : decode cX0_expandKey 41 = .ok (.istore 5, 2) := dec_of da_X0_expandKey_0 (k := 25) rfl
theorem dX0_expandKey_43 : decode cX0_expandKey 43 = .ok (.iload 5, 2) := dec_of da_X0_expandKey_0 (k := 26) rfl
theorem dX0_expandKey_45 : decode cX0_expandKey 45 = .ok (.iconst 4, 1) := dec_of da_X0_expandKey_0 (k := 27) rfl
theorem dX0_expandKey_46 : decode cX0_expandKey 46 = .ok (.if_icmp .ge 82, 3) := dec_of da_X0_expandKey_0 (k := 28) rfl
theorem dX0_expandKey_49 : decode cX0_expandKey 49 = .ok (.aload_n 0, 1) := dec_of da_X0_expandKey_0 (k := 29) rfl
theorem dX0_expandKey_50 : decode cX0_expandKey 50 = .ok (.getfield 24, 3) := dec_of da_X0_expandKey_0 (k := 30) rfl
theorem dX0_expandKey_53 : decode cX0_expandKey 53 = .ok (.iload 4, 2) := dec_of da_X0_expandKey_0 (k := 31) rfl
theorem dX0_expandKey_55 : decode cX0_expandKey 55 = .ok (.ifCond .eq 16, 3) := dec_of da_X0_expandKey_0 (k := 32) rfl
theorem dX0_expandKey_58 : decode cX0_expandKey 58 = .ok (.iload_n 3, 1) := dec_of da_X0_expandKey_0 (k := 33) rfl
theorem dX0_expandKey_59 : decode cX0_expandKey 59 = .ok (.iconst 4, 1) := dec_of da_X0_expandKey_0 (k := 34) rfl
theorem dX0_expandKey_60 : decode cX0_expandKey 60 = .ok (.isub, 1) := dec_of da_X0_expandKey_0 (k := 35) rfl
theorem dX0_expandKey_61 : decode cX0_expandKey 61 = .ok (.iload 5, 2) := dec_of da_X0_expandKey_0 (k := 36) rfl
theorem dX0_expandKey_63 : decode cX0_expandKey 63 = .ok (.iconst 1, 1) := dec_of da_X0_expandKey_0 (k := 37) rfl
theorem dX0_expandKey_64 : decode cX0_expandKey 64 = .ok (.iadd, 1) := dec_of da_X0_expandKey_0 (k := 38) rfl
theorem dX0_expandKey_65 : decode cX0_expandKey 65 = .ok (.iconst 4, 1) := dec_of da_X0_expandKey_0 (k := 39) rfl
theorem dX0_expandKey_66 : decode cX0_expandKey 66 = .ok (.irem, 1) := dec_of da_X0_expandKey_0 (k := 40) rfl
theorem dX0_expandKey_67 : decode cX0_expandKey 67 = .ok (.iadd, 1) := dec_of da_X0_expandKey_0 (k := 41) rfl
theorem dX0_expandKey_68 : decode cX0_expandKey 68 = .ok (.goto 9, 3) := dec_of da_X0_expandKey_0 (k := 42) rfl
theorem dX0_expandKey_71 : decode cX0_expandKey 71 = .ok (.iload_n 3, 1) := dec_of da_X0_expandKey_0 (k := 43) rfl
theorem dX0_expandKey_72 : decode cX0_expandKey 72 = .ok (.iconst 4, 1) := dec_of da_X0_expandKey_0 (k := 44) rfl
theorem dX0_expandKey_73 : decode cX0_expandKey 73 = .ok (.isub, 1) := dec_of da_X0_expandKey_0 (k := 45) rfl
theorem dX0_expandKey_74 : decode cX0_expandKey 74 = .ok (.iload 5, 2) := dec_of da_X0_expandKey_0 (k := 46) rfl
theorem dX0_expandKey_76 : decode cX0_expandKey 76 = .ok (.iadd, 1) := dec_of da_X0_expandKey_0 (k := 47) rfl
theorem dX0_expandKey_77 : decode cX0_expandKey 77 = .ok (.iaload, 1) := dec_of da_X0_expandKey_0 (k := 48) rfl
theorem dX0_expandKey_78 : decode cX0_expandKey 78 = .ok (.istore 6, 2) := dec_of da_X0_expandKey_0 (k := 49) rfl
theorem dX0_expandKey_80 : decode cX0_expandKey 80 = .ok (.aload_n 0, 1) := dec_of da_X0_expandKey_0 (k := 50) rfl
theorem dX0_expandKey_81 : decode cX0_expandKey 81 = .ok (.getfield 24, 3) := dec_of da_X0_expandKey_0 (k := 51) rfl
theorem dX0_expandKey_84 : decode cX0_expandKey 84 = .ok (.iload_n 3, 1) := dec_of da_X0_expandKey_0 (k := 52) rfl
theorem dX0_expandKey_85 : decode cX0_expandKey 85 = .ok (.iload 5, 2) := dec_of da_X0_expandKey_0 (k := 53) rfl
theorem dX0_expandKey_87 : decode cX0_expandKey 87 = .ok (.iadd, 1) := dec_of da_X0_expandKey_0 (k := 54) rfl
theorem dX0_expandKey_88 : decode cX0_expandKey 88 = .ok (.aload_n 0, 1) := dec_of da_X0_expandKey_0 (k := 55) rfl
theorem dX0_expandKey_89 : decode cX0_expandKey 89 = .ok (.getfield 24, 3) := dec_of da_X0_expandKey_0 (k := 56) rfl
theorem dX0_expandKey_92 : decode cX0_expandKey 92 = .ok (.iload_n 3, 1) := dec_of da_X0_expandKey_0 (k := 57) rfl
theorem dX0_expandKey_93 : decode cX0_expandKey 93 = .ok (.bipush 16, 2) := dec_of da_X0_expandKey_0 (k := 58) rfl
theorem dX0_expandKey_95 : decode cX0_expandKey 95 = .ok (.isub, 1) := dec_of da_X0_expandKey_0 (k := 59) rfl
def dl_X0_expandKey_1 : List (Nat × (Instr × Nat)) := [(96, (.iload 5, 2)), (98, (.iadd, 1)), (99, (.iaload, 1)), (100, (.iload 4, 2)), (102, (.ifCond .eq 16, 3)), (105, (.getstatic 55, 3)), (108, (.iload 6, 2)), (110, (.sipush 255, 3)), (113, (.iand, 1)), (114, (.iaload, 1)), (115, (.goto 5, 3)), (118, (.iload 6, 2)), (120, (.ixor, 1)), (121, (.iastore, 1)), (122, (.iinc 5 1, 3)), (125, (.goto (-82), 3)), (128, (.iload 4, 2)), (130, (.ifCond .eq 26, 3)), (133, (.aload_n 0, 1)), (134, (.getfield 24, 3)), (137, (.iload_n 3, 1)), (138, (.dup2, 1)), (139, (.iaload, 1)), (140, (.iload_n 2, 1)), (141, (.ixor, 1)), (142, (.iastore, 1)), (143, (.iload_n 2, 1)), (144, (.iconst 1, 1)), (145, (.ishl, 1)), (146, (.iload_n 2, 1)), (147, (.bipush 7, 2)), (149, (.ishr, 1)), (150, (.sipush 283, 3)), (153, (.imul, 1)), (154, (.ixor, 1)), (155, (.istore_n 2, 1)), (156, (.iinc 3 4, 3)), (159, (.goto (-142), 3)), (162, (.return_, 1))]
set_option maxRecDepth 100000 in
theorem da_X0_expandKey_1 : dl_X0_expandKey_1.all (fun q => decide (decode cX0_expandKey q.1 = .ok q.2)) = true := by decide +kernel
theorem dX0_expandKey_96 : decode cX0_expandKey 96 = .ok (.iload 5, 2) := dec_of da_X0_expandKey_1 (k := 0) rfl
theorem dX0_expandKey_98 : decode cX0_expandKey 98 = .ok (.iadd, 1) := dec_of da_X0_expandKey_1 (k := 1) rfl
theorem dX0_expandKey_99 : decode cX0_expandKey 99 = .ok (.iaload, 1) := dec_of da_X0_expandKey_1 (k := 2) rfl
theorem dX0_expandKey_100 : decode cX0_expandKey 100 = .ok (.iload 4, 2) := dec_of da_X0_expandKey_1 (k := 3) rfl
theorem dX0_expandKey_102 : decode cX0_expandKey 102 = .ok (.ifCond .eq 16, 3) := dec_of da_X0_expandKey_1 (k := 4) rfl
theorem dX0_expandKey_105 : decode cX0_expandKey 105 = .ok (.getstatic 55, 3) := dec_of da_X0_expandKey_1 (k := 5) rfl
theorem dX0_expandKey_108 : decode cX0_expandKey 108 = .ok (.iload 6, 2) := dec_of da_X0_expandKey_1 (k := 6) rfl
theorem dX0_expandKey_110 : decode cX0_expandKey 110 = .ok (.sipush 255, 3) := dec_of da_X0_expandKey_1 (k := 7) rfl
theorem dX0_expandKey_113 : decode cX0_expandKey 113 = .ok (.iand, 1) := dec_of da_X0_expandKey_1 (k := 8) rfl
theorem dX0_expandKey_114 : decode cX0_expandKey 114 = .ok (.iaload, 1) := dec_of da_X0_expandKey_1 (k := 9) rfl
theorem dX0_expandKey_115 : decode cX0_expandKey 115 = .ok (.goto 5, 3) := dec_of da_X0_expandKey_1 (k := 10) rfl
theorem dX0_expandKey_118 : decode cX0_expandKey 118 = .ok (.iload 6, 2) := dec_of da_X0_expandKey_1 (k := 11) rfl
theorem dX0_expandKey_120 : decode cX0_expandKey 120 = .ok (.ixor, 1) := dec_of da_X0_expandKey_1 (k := 12) rfl
theorem dX0_expandKey_121 : decode cX0_expandKey 121 = .ok (.iastore, 1) := dec_of da_X0_expandKey_1 (k := 13) rfl
theorem dX0_expandKey_122 : decode cX0_expandKey 122 = .ok (.iinc 5 1, 3) := dec_of da_X0_expandKey_1 (k := 14) rfl
theorem dX0_expandKey_125 : decode cX0_expandKey 125 = .ok (.goto (-82), 3) := dec_of da_X0_expandKey_1 (k := 15) rfl
theorem dX0_expandKey_128 : decode cX0_expandKey 128 = .ok (.iload 4, 2) := dec_of da_X0_expandKey_1 (k := 16) rfl
theorem dX0_expandKey_130 : decode cX0_expandKey 130 = .ok (.ifCond .eq 26, 3) := dec_of da_X0_expandKey_1 (k := 17) rfl
theorem dX0_expandKey_133 : decode cX0_expandKey 133 = .ok (.aload_n 0, 1) := dec_of da_X0_expandKey_1 (k := 18) rfl
theorem dX0_expandKey_134 : decode cX0_expandKey 134 = .ok (.getfield 24, 3) := dec_of da_X0_expandKey_1 (k := 19) rfl
theorem dX0_expandKey_137 : decode cX0_expandKey 137 = .ok (.iload_n 3, 1) := dec_of da_X0_expandKey_1 (k := 20) rfl
theorem dX0_expandKey_138 : decode cX0_expandKey 138 = .ok (.dup2, 1) := dec_of da_X0_expandKey_1 (k := 21) rfl
theorem dX0_expandKey_139 : decode cX0_expandKey 139 = .ok (.iaload, 1) := dec_of da_X0_expandKey_1 (k := 22) rfl
theorem dX0_expandKey_140 : decode cX0_expandKey 140 = .ok (.iload_n 2, 1) := dec_of da_X0_expandKey_1 (k := 23) rfl
theorem dX0_expandKey_141 : decode cX0_expandKey 141 = .ok (.ixor, 1) := dec_of da_X0_expandKey_1 (k := 24) rfl
theorem dX0_expandKey_142 : decode cX0_expandKey 142 = .ok (.iastore, 1) := dec_of da_X0_expandKey_1 (k := 25) rfl
theorem dX0_expandKey_143 : decode cX0_expandKey 143 = .ok (.iload_n 2, 1) := dec_of da_X0_expandKey_1 (k := 26) rfl
theorem dX0_expandKey_144 : decode cX0_expandKey 144 = .ok (.iconst 1, 1) := dec_of da_X0_expandKey_1 (k := 27) rfl
theorem dX0_expandKey_145 : decode cX0_expandKey 145 = .ok (.ishl, 1) := dec_of da_X0_expandKey_1 (k := 28) rfl
theorem dX0_expandKey_146 : decode cX0_expandKey 146 = .ok (.iload_n 2, 1) := dec_of da_X0_expandKey_1 (k := 29) rfl
theorem dX0_expandKey_147 : decode cX0_expandKey 147 = .ok (.bipush 7, 2) := dec_of da_X0_expandKey_1 (k := 30) rfl
theorem dX0_expandKey_149 : decode cX0_expandKey 149 = .ok (.ishr, 1) := dec_of da_X0_expandKey_1 (k := 31) rfl
theorem dX0_expandKey_150 : decode cX0_expandKey 150 = .ok (.sipush 283, 3) := dec_of da_X0_expandKey_1 (k := 32) rfl
theorem dX0_expandKey_153 : decode cX0_expandKey 153 = .ok (.imul, 1) := dec_of da_X0_expandKey_1 (k := 33) rfl
theorem dX0_expandKey_154 : decode cX0_expandKey 154 = .ok (.ixor, 1) := dec_of da_X0_expandKey_1 (k := 34) rfl
theorem dX0_expandKey_155 : decode cX0_expandKey 155 = .ok (.istore_n 2, 1) := dec_of da_X0_expandKey_1 (k := 35) rfl
theorem dX0_expandKey_156 : decode cX0_expandKey 156 = .ok (.iinc 3 4, 3) := dec_of da_X0_expandKey_1 (k := 36) rfl
theorem dX0_expandKey_159 : decode cX0_expandKey 159 = .ok (.goto (-142), 3) := dec_of da_X0_expandKey_1 (k := 37) rfl
theorem dX0_expandKey_162 : decode cX0_expandKey 162 = .ok (.return_, 1) := dec_of da_X0_expandKey_1 (k := 38) rfl
def dl_X0_encrypt_0 : List (Nat × (Instr × Nat)) := [(0, (.iconst 0, 1)), (1, (.istore_n 2, 1)), (2, (.iload_n 2, 1)), (3, (.bipush 16, 2)), (5, (.if_icmp .ge 21, 3)), (8, (.aload_n 1, 1)), (9, (.iload_n 2, 1)), (10, (.dup2, 1)), (11, (.iaload, 1)), (12, (.aload_n 0, 1)), (13, (.getfield 24, 3)), (16, (.iload_n 2, 1)), (17, (.iaload, 1)), (18, (.ixor, 1)), (19, (.iastore, 1)), (20, (.iinc 2 1, 3)), (23, (.goto (-21), 3)), (26, (.iconst 1, 1)), (27, (.istore_n 2, 1)), (28, (.iload_n 2, 1)), (29, (.bipush 10, 2)), (31, (.if_icmp .gt 179, 3)), (34, (.iconst 0, 1)), (35, (.istore_n 3, 1)), (36, (.iload_n 3, 1)), (37, (.bipush 16, 2)), (39, (.if_icmp .ge 35, 3)), (42, (.aload_n 0, 1)), (43, (.getfield 21, 3)), (46, (.iload_n 3, 1)), (47, (.getstatic 55, 3)), (50, (.aload_n 1, 1)), (51, (.iload_n 3, 1)), (52, (.iconst 4, 1)), (53, (.iload_n 3, 1)), (54, (.iconst 3, 1)), (55, (.iand, 1)), (56, (.imul, 1)), (57, (.iadd, 1)), (58, (.bipush 15, 2)), (60, (.iand, 1)), (61, (.iaload, 1)), (62, (.sipush 255, 3)), (65, (.iand, 1)), (66, (.iaload, 1)), (67, (.iastore, 1)), (68, (.iinc 3 1, 3)), (71, (.goto (-35), 3)), (74, (.iconst 0, 1)), (75, (.istore_n 3, 1)), (76, (.iload_n 3, 1)), (77, (.bipush 16, 2)), (79, (.if_icmp .ge 125, 3)), (82, (.aload_n 0, 1)), (83, (.getfield 21, 3)), (86, (.iload_n 3, 1)), (87, (.iaload, 1)), (88, (.istore 4, 2)), (90, (.iload_n 2, 1)), (91, (.bipush 10, 2))]
set_option maxRecDepth 100000 in
theorem da_X0_encrypt_0 : dl_X0_encrypt_0.all (fun q => decide (decode cX0_encrypt q.1 = .ok q.2)) = true := by decide +kernel
theorem dX0_encrypt_0 : decode cX0_encrypt 0 = .ok (.iconst 0, 1) := dec_of da_X0_encrypt_0 (k := 0) rfl
theorem dX0_encrypt_1 : decode cX0_encrypt 1 = .ok (.istore_n 2, 1) := dec_of da_X0_encrypt_0 (k := 1) rfl
theorem dX0_encrypt_2 : decode cX0_encrypt 2 = .ok (.iload_n 2, 1) := dec_of da_X0_encrypt_0 (k := 2) rfl
theorem dX0_encrypt_3 : decode cX0_encrypt 3 = .ok (.bipush 16, 2) := dec_of da_X0_encrypt_0 (k := 3) rfl
theorem dX0_encrypt_5 : decode cX0_encrypt 5 = .ok (.if_icmp .ge 21, 3) := dec_of da_X0_encrypt_0 (k := 4) rfl
theorem dX0_encrypt_8 : decode cX0_encrypt 8 = .ok (.aload_n 1, 1) := dec_of da_X0_encrypt_0 (k := 5) rfl
theorem dX0_encrypt_9 : decode cX0_encrypt 9 = .ok (.iload_n 2, 1) := dec_of da_X0_encrypt_0 (k := 6) rfl
theorem dX0_encrypt_10 : decode cX0_encrypt 10 = .ok (.dup2, 1) := dec_of da_X0_encrypt_0 (k := 7) rfl
theorem dX0_encrypt_11 : decode cX0_encrypt 11 = .ok (.iaload, 1) := dec_of da_X0_encrypt_0 (k := 8) rfl
theorem dX0_encrypt_12 : decode cX0_encrypt 12 = .ok (.aload_n 0, 1) := dec_of da_X0_encrypt_0 (k := 9) rfl
theorem dX0_encrypt_13 : decode cX0_encrypt 13 = .ok (.getfield 24, 3) := dec_of da_X0_encrypt_0 (k := 10) rfl
theorem dX0_encrypt_16 : decode cX0_encrypt 16 = .ok (.iload_n 2, 1) := dec_of da_X0_encrypt_0 (k := 11) rfl
theorem dX0_encrypt_17 : decode cX0_encrypt 17 = .ok (.iaload, 1) := dec_of da_X0_encrypt_0 (k := 12) rfl
theorem dX0_encrypt_18 : decode cX0_encrypt 18 = .ok (.ixor, 1) := dec_of da_X0_encrypt_0 (k := 13) rfl
theorem dX0_encrypt_19 : decode cX0_encrypt 19 = .ok (.iastore, 1) := dec_of da_X0_encrypt_0 (k := 14) rfl
theorem dX0_encrypt_20 : decode cX0_encrypt 20 = .ok (.iinc 2 1, 3) := dec_of da_X0_encrypt_0 (k := 15) rfl
theorem dX0_encrypt_23 : decode cX0_encrypt 23 = .ok (.goto (-21), 3) := dec_of da_X0_encrypt_0 (k := 16) rfl
theorem dX0_encrypt_26 : decode cX0_encrypt 26 = .ok (.iconst 1, 1) := dec_of da_X0_encrypt_0 (k := 17) rfl
theorem dX0_encrypt_27 : decode cX0_encrypt 27 = .ok (.istore_n 2, 1) := dec_of da_X0_encrypt_0 (k := 18) rfl
theorem dX0_encrypt_28 : decode cX0_encrypt 28 = .ok (.iload_n 2, 1) := dec_of da_X0_encrypt_0 (k := 19) rfl
theorem dX0_encrypt_29 : decode cX0_encrypt 29 = .ok (.bipush 10, 2) := dec_of da_X0_encrypt_0 (k := 20) rfl
theorem dX0_encrypt_31 : decode cX0_encrypt 31 = .ok (.if_icmp .gt 179, 3) := dec_of da_X0_encrypt_0 (k := 21) rfl
theorem dX0_encrypt_34 : decode cX0_encrypt 34 = .ok (.iconst 0, 1) := dec_of da_X0_encrypt_0 (k := 22) rfl
theorem dX0_encrypt_35 : decode cX0_encrypt 35 = .ok (.istore_n 3, 1) := dec_of da_X0_encrypt_0 (k := 23) rfl
theorem dX0_encrypt_36 : decode cX0_encrypt 36 = .ok (.iload_n 3, 1) := dec_of da_X0_encrypt_0 (k := 24) rfl
theorem dX0_encrypt_37 : decode cX0_encrypt 37 = .ok (.bipush 16, 2) := dec_of da_X0_encrypt_0 (k := 25) rfl
theorem dX0_encrypt_39 : decode cX0_encrypt 39 = .ok (.if_icmp .ge 35, 3) := dec_of da_X0_encrypt_0 (k := 26) rfl
theorem dX0_encrypt_42 : decode cX0_encrypt 42 = .ok (.aload_n 0, 1) := dec_of da_X0_encrypt_0 (k := 27) rfl
theorem dX0_encrypt_43 : decode cX0_encrypt 43 = .ok (.getfield 21, 3) := dec_of da_X0_encrypt_0 (k := 28) rfl
theorem dX0_encrypt_46 : decode cX0_encrypt 46 = .ok (.iload_n 3, 1) := dec_of da_X0_encrypt_0 (k := 29) rfl
theorem dX0_encrypt_47 : decode cX0_encrypt 47 = .ok (.getstatic 55, 3) := dec_of da_X0_encrypt_0 (k := 30) rfl
theorem dX0_encrypt_50 : decode cX0_encrypt 50 = .ok (.aload_n 1, 1) := dec_of da_X0_encrypt_0 (k := 31) rfl
theorem dX0_encrypt_51 : decode cX0_encrypt 51 = .ok (.iload_n 3, 1) := dec_of da_X0_encrypt_0 (k := 32) rfl
theorem dX0_encrypt_52 : decode cX0_encrypt 52 = .ok (.iconst 4, 1) := dec_of da_X0_encrypt_0 (k := 33) rfl
theorem dX0_encrypt_53 : decode cX0_encrypt 53 = .ok (.iload_n 3, 1) := dec_of da_X0_encrypt_0 (k := 34) rfl
theorem dX0_encrypt_54 : decode cX0_encrypt 54 = .ok (.iconst 3, 1) := dec_of da_X0_encrypt_0 (k := 35) rfl
theorem dX0_encrypt_55 : decode cX0_encrypt 55 = .ok (.iand, 1) := dec_of da_X0_encrypt_0 (k := 36) rfl
theorem dX0_encrypt_56 : decode cX0_encrypt 56 = .ok (.imul, 1) := dec_of da_X0_encrypt_0 (k := 37) rfl
theorem dX0_encrypt_57 : decode cX0_encrypt 57 = .ok (.iadd, 1) := dec_of da_X0_encrypt_0 (k := 38) rfl
theorem dX0_encrypt_58 : decode cX0_encrypt 58 = .ok (.bipush 15, 2) := dec_of da_X0_encrypt_0 (k := 39) rfl
theorem dX0_encrypt_60 : decode cX0_encrypt 60 = .ok (.iand, 1) := dec_of da_X0_encrypt_0 (k := 40) rfl
theorem dX0_encrypt_61 : decode cX0_encrypt 61 = .ok (.iaload, 1) := dec_of da_X0_encrypt_0 (k := 41) rfl
theorem dX0_encrypt_62 : decode cX0_encrypt 62 = .ok (.sipush 255, 3) := dec_of da_X0_encrypt_0 (k := 42) rfl
theorem dX0_encrypt_65 : decode cX0_encrypt 65 = .ok (.iand, 1) := dec_of da_X0_encrypt_0 (k := 43) rfl
theorem dX0_encrypt_66 : decode cX0_encrypt 66 = .ok (.iaload, 1) := dec_of da_X0_encrypt_0 (k := 44) rfl
theorem dX0_encrypt_67 : decode cX0_encrypt 67 = .ok (.iastore, 1) := dec_of da_X0_encrypt_0 (k := 45) rfl
theorem dX0_encrypt_68 : decode cX0_encrypt 68 = .ok (.iinc 3 1, 3) := dec_of da_X0_encrypt_0 (k := 46) rfl
theorem dX0_encrypt_71 : decode cX0_encrypt 71 = .ok (.goto (-35), 3) := dec_of da_X0_encrypt_0 (k := 47) rfl
theorem dX0_encrypt_74 : decode cX0_encrypt 74 = .ok (.iconst 0, 1) := dec_of da_X0_encrypt_0 (k := 48) rfl
theorem dX0_encrypt_75 : decode cX0_encrypt 75 = .ok (.istore_n 3, 1) := dec_of da_X0_encrypt_0 (k := 49) rfl
theorem dX0_encrypt_76 : decode cX0_encrypt 76 = .ok (.iload_n 3, 1) := dec_of da_X0_encrypt_0 (k := 50) rfl
theorem dX0_encrypt_77 : decode cX0_encrypt 77 = .ok (.bipush 16, 2) := dec_of da_X0_encrypt_0 (k := 51) rfl
theorem dX0_encrypt_79 : decode cX0_encrypt 79 = .ok (.if_icmp .ge 125, 3) := dec_of da_X0_encrypt_0 (k := 52) rfl
theorem dX0_encrypt_82 : decode cX0_encrypt 82 = .ok (.aload_n 0, 1) := dec_of da_X0_encrypt_0 (k := 53) rfl
theorem dX0_encrypt_83 : decode cX0_encrypt 83 = .ok (.getfield 21, 3) := dec_of da_X0_encrypt_0 (k := 54) rfl
theorem dX0_encrypt_86 : decode cX0_encrypt 86 = .ok (.iload_n 3, 1) := dec_of da_X0_encrypt_0 (k := 55) rfl
theorem dX0_encrypt_87 : decode cX0_encrypt 87 = .ok (.iaload, 1) := dec_of da_X0_encrypt_0 (k := 56) rfl
theorem dX0_encrypt_88 : decode cX0_encrypt 88 = .ok (.istore 4, 2) := dec_of da_X0_encrypt_0 (k := 57) rfl
theorem dX0_encrypt_90 : decode cX0_encrypt 90 = .ok (.iload_n 2, 1) := dec_of da_X0_encrypt_0 (k := 58) rfl
theorem dX0_encrypt_91 : decode cX0_encrypt 91 = .ok (.bipush 10, 2) := dec_of da_X0_encrypt_0 (k := 59) rfl
def dl_X0_encrypt_1 : List (Nat × (Instr × Nat)) := [(93, (.if_icmp .ge 88, 3)), (96, (.iload_n 3, 1)), (97, (.bipush 12, 2)), (99, (.iand, 1)), (100, (.istore 5, 2)), (102, (.iload 4, 2)), (104, (.aload_n 0, 1)), (105, (.getfield 21, 3)), (108, (.iload 5, 2)), (110, (.iload_n 3, 1)), (111, (.iconst 1, 1)), (112, (.iadd, 1)), (113, (.iconst 3, 1)), (114, (.iand, 1)), (115, (.ior, 1)), (116, (.iaload, 1)), (117, (.ixor, 1)), (118, (.istore 6, 2)), (120, (.iload 4, 2)), (122, (.aload_n 0, 1)), (123, (.getfield 21, 3)), (126, (.iload 5, 2)), (128, (.iaload, 1)), (129, (.aload_n 0, 1)), (130, (.getfield 21, 3)), (133, (.iload 5, 2)), (135, (.iconst 1, 1)), (136, (.iadd, 1)), (137, (.iaload, 1)), (138, (.ixor, 1)), (139, (.aload_n 0, 1)), (140, (.getfield 21, 3)), (143, (.iload 5, 2)), (145, (.iconst 2, 1)), (146, (.iadd, 1)), (147, (.iaload, 1)), (148, (.ixor, 1)), (149, (.aload_n 0, 1)), (150, (.getfield 21, 3)), (153, (.iload 5, 2)), (155, (.iconst 3, 1)), (156, (.iadd, 1)), (157, (.iaload, 1)), (158, (.ixor, 1)), (159, (.ixor, 1)), (160, (.istore 4, 2)), (162, (.iload 4, 2)), (164, (.iload 6, 2)), (166, (.iconst 1, 1)), (167, (.ishl, 1)), (168, (.iload 6, 2)), (170, (.bipush 7, 2)), (172, (.ishr, 1)), (173, (.sipush 283, 3)), (176, (.imul, 1)), (177, (.ixor, 1)), (178, (.ixor, 1)), (179, (.istore 4, 2)), (181, (.aload_n 1, 1)), (182, (.iload_n 3, 1))]
set_option maxRecDepth 100000 in
theorem da_X0_encrypt_1 : dl_X0_encrypt_1.all (fun q => decide (decode cX0_encrypt q.1 = .ok q.2)) = true := by decide +kernel
theorem dX0_encrypt_93 : decode cX0_encrypt 93 = .ok (.if_icmp .ge 88, 3) := dec_of da_X0_encrypt_1 (k := 0) rfl
theorem dX0_encrypt_96 : decode cX0_encrypt 96 = .ok (.iload_n 3, 1) := dec_of da_X0_encrypt_1 (k := 1) rfl
theorem dX0_encrypt_97 : decode cX0_encrypt 97 = .ok (.bipush 12, 2) := dec_of da_X0_encrypt_1 (k := 2) rfl
theorem dX0_encrypt_99 : decode cX0_encrypt 99 = .ok (.iand, 1) := dec_of da_X0_encrypt_1 (k := 3) rfl
theorem dX0_encrypt_100 : decode cX0_encrypt 100 = .ok (.istore 5, 2) := dec_of da_X0_encrypt_1 (k := 4) rfl
theorem dX0_encrypt_102 : decode cX0_encrypt 102 = .ok (.iload 4, 2) := dec_of da_X0_encrypt_1 (k := 5) rfl
theorem dX0_encrypt_104 : decode cX0_encrypt 104 = .ok (.aload_n 0, 1) := dec_of da_X0_encrypt_1 (k := 6) rfl
theorem dX0_encrypt_105 : decode cX0_encrypt 105 = .ok (.getfield 21, 3) := dec_of da_X0_encrypt_1 (k := 7) rfl
theorem dX0_encrypt_108 : decode cX0_encrypt 108 = .ok (.iload 5, 2) := dec_of da_X0_encrypt_1 (k := 8) rfl
theorem dX0_encrypt_110 : decode cX0_encrypt 110 = .ok (.iload_n 3, 1) := dec_of da_X0_encrypt_1 (k := 9) rfl
theorem dX0_encrypt_111 : decode cX0_encrypt 111 = .ok (.iconst 1, 1) := dec_of da_X0_encrypt_1 (k := 10) rfl
theorem dX0_encrypt_112 : decode cX0_encrypt 112 = .ok (.iadd, 1) := dec_of da_X0_encrypt_1 (k := 11) rfl
theorem dX0_encrypt_113 : decode cX0_encrypt 113 = .ok (.iconst 3, 1) := dec_of da_X0_encrypt_1 (k := 12) rfl
theorem dX0_encrypt_114 : decode cX0_encrypt 114 = .ok (.iand, 1) := dec_of da_X0_encrypt_1 (k := 13) rfl
theorem dX0_encrypt_115 : decode cX0_encrypt 115 = .ok (.ior, 1) := dec_of da_X0_encrypt_1 (k := 14) rfl
theorem dX0_encrypt_116 : decode cX0_encrypt 116 = .ok (.iaload, 1) := dec_of da_X0_encrypt_1 (k := 15) rfl
theorem dX0_encrypt_117 : decode cX0_encrypt 117 = .ok (.ixor, 1) := dec_of da_X0_encrypt_1 (k := 16) rfl
theorem dX0_encrypt_118 : decode cX0_encrypt 118 = .ok (.istore 6, 2) := dec_of da_X0_encrypt_1 (k := 17) rfl
theorem dX0_encrypt_120 : decode cX0_encrypt 120 = .ok (.iload 4, 2) := dec_of da_X0_encrypt_1 (k := 18) rfl
theorem dX0_encrypt_122 : decode cX0_encrypt 122 = .ok (.aload_n 0, 1) := dec_of da_X0_encrypt_1 (k := 19) rfl
theorem dX0_encrypt_123 : decode cX0_encrypt 123 = .ok (.getfield 21, 3) := dec_of da_X0_encrypt_1 (k := 20) rfl
theorem dX0_encrypt_126 : decode cX0_encrypt 126 = .ok (.iload 5, 2) := dec_of da_X0_encrypt_1 (k := 21) rfl
theorem dX0_encrypt_128 : decode cX0_encrypt 128 = .ok (.iaload, 1) := dec_of da_X0_encrypt_1 (k := 22) rfl
theorem dX0_encrypt_129 : decode cX0_encrypt 129 = .ok (.aload_n 0, 1) := dec_of da_X0_encrypt_1 (k := 23) rfl
theorem dX0_encrypt_130 : decode cX0_encrypt 130 = .ok (.getfield 21, 3) := dec_of da_X0_encrypt_1 (k := 24) rfl
theorem dX0_encrypt_133 : decode cX0_encrypt 133 = .ok (.iload 5, 2) := dec_of da_X0_encrypt_1 (k := 25) rfl
theorem dX0_encrypt_135 : decode cX0_encrypt 135 = .ok (.iconst 1, 1) := dec_of da_X0_encrypt_1 (k := 26) rfl
theorem dX0_encrypt_136 : decode cX0_encrypt 136 = .ok (.iadd, 1) := dec_of da_X0_encrypt_1 (k := 27) rfl
theorem dX0_encrypt_137 : decode cX0_encrypt 137 = .ok (.iaload, 1) := dec_of da_X0_encrypt_1 (k := 28) rfl
theorem dX0_encrypt_138 : decode cX0_encrypt 138 = .ok (.ixor, 1) := dec_of da_X0_encrypt_1 (k := 29) rfl
theorem dX0_encrypt_139 : decode cX0_encrypt 139 = .ok (.aload_n 0, 1) := dec_of da_X0_encrypt_1 (k := 30) rfl
theorem dX0_encrypt_140 : decode cX0_encrypt 140 = .ok (.getfield 21, 3) := dec_of da_X0_encrypt_1 (k := 31) rfl
theorem dX0_encrypt_143 : decode cX0_encrypt 143 = .ok (.iload 5, 2) := dec_of da_X0_encrypt_1 (k := 32) rfl
theorem dX0_encrypt_145 : decode cX0_encrypt 145 = .ok (.iconst 2, 1) := dec_of da_X0_encrypt_1 (k := 33) rfl
theorem dX0_encrypt_146 : decode cX0_encrypt 146 = .ok (.iadd, 1) := dec_of da_X0_encrypt_1 (k := 34) rfl
theorem dX0_encrypt_147 : decode cX0_encrypt 147 = .ok (.iaload, 1) := dec_of da_X0_encrypt_1 (k := 35) rfl
theorem dX0_encrypt_148 : decode cX0_encrypt 148 = .ok (.ixor, 1) := dec_of da_X0_encrypt_1 (k := 36) rfl
theorem dX0_encrypt_149 : decode cX0_encrypt 149 = .ok (.aload_n 0, 1) := dec_of da_X0_encrypt_1 (k := 37) rfl
theorem dX0_encrypt_150 : decode cX0_encrypt 150 = .ok (.getfield 21, 3) := dec_of da_X0_encrypt_1 (k := 38) rfl
theorem dX0_encrypt_153 : decode cX0_encrypt 153 = .ok (.iload 5, 2) := dec_of da_X0_encrypt_1 (k := 39) rfl
theorem dX0_encrypt_155 : decode cX0_encrypt 155 = .ok (.iconst 3, 1) := dec_of da_X0_encrypt_1 (k := 40) rfl
theorem dX0_encrypt_156 : decode cX0_encrypt 156 = .ok (.iadd, 1) := dec_of da_X0_encrypt_1 (k := 41) rfl
theorem dX0_encrypt_157 : decode cX0_encrypt 157 = .ok (.iaload, 1) := dec_of da_X0_encrypt_1 (k := 42) rfl
theorem dX0_encrypt_158 : decode cX0_encrypt 158 = .ok (.ixor, 1) := dec_of da_X0_encrypt_1 (k := 43) rfl
theorem dX0_encrypt_159 : decode cX0_encrypt 159 = .ok (.ixor, 1) := dec_of da_X0_encrypt_1 (k := 44) rfl
theorem dX0_encrypt_160 : decode cX0_encrypt 160 = .ok (.istore 4, 2) := dec_of da_X0_encrypt_1 (k := 45) rfl
theorem dX0_encrypt_162 : decode cX0_encrypt 162 = .ok (.iload 4, 2) := dec_of da_X0_encrypt_1 (k := 46) rfl
theorem dX0_encrypt_164 : decode cX0_encrypt 164 = .ok (.iload 6, 2) := dec_of da_X0_encrypt_1 (k := 47) rfl
theorem dX0_encrypt_166 : decode cX0_encrypt 166 = .ok (.iconst 1, 1) := dec_of da_X0_encrypt_1 (k := 48) rfl
theorem dX0_encrypt_167 : decode cX0_encrypt 167 = .ok (.ishl, 1) := dec_of da_X0_encrypt_1 (k := 49) rfl
theorem dX0_encrypt_168 : decode cX0_encrypt 168 = .ok (.iload 6, 2) := dec_of da_X0_encrypt_1 (k := 50) rfl
theorem dX0_encrypt_170 : decode cX0_encrypt 170 = .ok (.bipush 7, 2) := dec_of da_X0_encrypt_1 (k := 51) rfl
theorem dX0_encrypt_172 : decode cX0_encrypt 172 = .ok (.ishr, 1) := dec_of da_X0_encrypt_1 (k := 52) rfl
theorem dX0_encrypt_173 : decode cX0_encrypt 173 = .ok (.sipush 283, 3) := dec_of da_X0_encrypt_1 (k := 53) rfl
theorem dX0_encrypt_176 : decode cX0_encrypt 176 = .ok (.imul, 1) := dec_of da_X0_encrypt_1 (k := 54) rfl
theorem dX0_encrypt_177 : decode cX0_encrypt 177 = .ok (.ixor, 1) := dec_of da_X0_encrypt_1 (k := 55) rfl
theorem dX0_encrypt_178 : decode cX0_encrypt 178 = .ok (.ixor, 1) := dec_of da_X0_encrypt_1 (k := 56) rfl
theorem dX0_encrypt_179 : decode cX0_encrypt 179 = .ok (.istore 4, 2) := dec_of da_X0_encrypt_1 (k := 57) rfl
theorem dX0_encrypt_181 : decode cX0_encrypt 181 = .ok (.aload_n 1, 1) := dec_of da_X0_encrypt_1 (k := 58) rfl
theorem dX0_encrypt_182 : decode cX0_encrypt 182 = .ok (.iload_n 3, 1) := dec_of da_X0_encrypt_1 (k := 59) rfl
def dl_X0_encrypt_2 : List (Nat × (Instr × Nat)) := [(183, (.iload 4, 2)), (185, (.aload_n 0, 1)), (186, (.getfield 24, 3)), (189, (.bipush 16, 2)), (191, (.iload_n 2, 1)), (192, (.imul, 1)), (193, (.iload_n 3, 1)), (194, (.iadd, 1)), (195, (.iaload, 1)), (196, (.ixor, 1)), (197, (.iastore, 1)), (198, (.iinc 3 1, 3)), (201, (.goto (-125), 3)), (204, (.iinc 2 1, 3)), (207, (.goto (-179), 3)), (210, (.return_, 1))]
set_option maxRecDepth 100000 in
theorem da_X0_encrypt_2 : dl_X0_encrypt_2.all (fun q => decide (decode cX0_encrypt q.1 = .ok q.2)) = true := by decide +kernel
theorem dX0_encrypt_183 : decode cX0_encrypt 183 = .ok (.iload 4, 2) := dec_of da_X0_encrypt_2 (k := 0) rfl
theorem dX0_encrypt_185 : decode cX0_encrypt 185 = .ok (.aload_n 0, 1) := dec_of da_X0_encrypt_2 (k := 1) rfl
theorem dX0_encrypt_186 : decode cX0_encrypt 186 = .ok (.getfield 24, 3) := dec_of da_X0_encrypt_2 (k := 2) rfl
theorem dX0_encrypt_189 : decode cX0_encrypt 189 = .ok (.bipush 16, 2) := dec_of da_X0_encrypt_2 (k := 3) rfl
theorem dX0_encrypt_191 : decode cX0_encrypt 191 = .ok (.iload_n 2, 1) := dec_of da_X0_encrypt_2 (k := 4) rfl
theorem dX0_encrypt_192 : decode cX0_encrypt 192 = .ok (.imul, 1) := dec_of da_X0_encrypt_2 (k := 5) rfl
theorem dX0_encrypt_193 : decode cX0_encrypt 193 = .ok (.iload_n 3, 1) := dec_of da_X0_encrypt_2 (k := 6) rfl
theorem dX0_encrypt_194 : decode cX0_encrypt 194 = .ok (.iadd, 1) := dec_of da_X0_encrypt_2 (k := 7) rfl
theorem dX0_encrypt_195 : decode cX0_encrypt 195 = .ok (.iaload, 1) := dec_of da_X0_encrypt_2 (k := 8) rfl
theorem dX0_encrypt_196 : decode cX0_encrypt 196 = .ok (.ixor, 1) := dec_of da_X0_encrypt_2 (k := 9) rfl
theorem dX0_encrypt_197 : decode cX0_encrypt 197 = .ok (.iastore, 1) := dec_of da_X0_encrypt_2 (k := 10) rfl
theorem dX0_encrypt_198 : decode cX0_encrypt 198 = .ok (.iinc 3 1, 3) := dec_of da_X0_encrypt_2 (k := 11) rfl
theorem dX0_encrypt_201 : decode cX0_encrypt 201 = .ok (.goto (-125), 3) := dec_of da_X0_encrypt_2 (k := 12) rfl
theorem dX0_encrypt_204 : decode cX0_encrypt 204 = .ok (.iinc 2 1, 3) := dec_of da_X0_encrypt_2 (k := 13) rfl
theorem dX0_encrypt_207 : decode cX0_encrypt 207 = .ok (.goto (-179), 3) := dec_of da_X0_encrypt_2 (k := 14) rfl
theorem dX0_encrypt_210 : decode cX0_encrypt 210 = .ok (.return_, 1) := dec_of da_X0_encrypt_2 (k := 15) rfl
def dl_X1_init_0 : List (Nat × (Instr × Nat)) := [(0, (.aload_n 0, 1)), (1, (.invokespecial 1, 3)), (4, (.aload_n 0, 1)), (5, (.sipush 200, 3)), (8, (.newarray .int, 2)), (10, (.putfield 9, 3)), (13, (.return_, 1))]
set_option maxRecDepth 100000 in
theorem da_X1_init_0 : dl_X1_init_0.all (fun q => decide (decode cX1_init q.1 = .ok q.2)) = true := by decide +kernel
theorem dX1_init_0 : decode cX1_init 0 = .ok (.aload_n 0, 1) := dec_of da_X1_init_0 (k := 0) rfl
theorem dX1_init_1 : decode cX1_init 1 = .ok (.invokespecial 1, 3) := dec_of da_X1_init_0 (k := 1) rfl
theorem dX1_init_4 : decode cX1_init 4 = .ok (.aload_n 0, 1) := dec_of da_X1_init_0 (k := 2) rfl
theorem dX1_init_5 : decode cX1_init 5 = .ok (.sipush 200, 3) := dec_of da_X1_init_0 (k := 3) rfl
theorem dX1_init_8 : decode cX1_init 8 = .ok (.newarray .int, 2) := dec_of da_X1_init_0 (k := 4) rfl
theorem dX1_init_10 : decode cX1_init 10 = .ok (.putfield 9, 3) := dec_of da_X1_init_0 (k := 5) rfl
theorem dX1_init_13 : decode cX1_init 13 = .ok (.return_, 1) := dec_of da_X1_init_0 (k := 6) rfl
def dl_X1_addLast_0 : List (Nat × (Instr × Nat)) := [(0, (.aload_n 0, 1)), (1, (.getfield 13, 3)), (4, (.sipush 200, 3)), (7, (.if_icmp .lt 5, 3)), (10, (.iconst 0, 1)), (11, (.ireturn, 1)), (12, (.aload_n 0, 1)), (13, (.getfield 9, 3)), (16, (.aload_n 0, 1)), (17, (.getfield 17, 3)), (20, (.aload_n 0, 1)), (21, (.getfield 13, 3)), (24, (.iadd, 1)), (25, (.sipush 200, 3)), (28, (.irem, 1)), (29, (.iload_n 1, 1)), (30, (.iastore, 1)), (31, (.aload_n 0, 1)), (32, (.dup, 1)), (33, (.getfield 13, 3)), (36, (.iconst 1, 1)), (37, (.iadd, 1)), (38, (.putfield 13, 3)), (41, (.iconst 1, 1)), (42, (.ireturn, 1))]
set_option maxRecDepth 100000 in
theorem da_X1_addLast_0 : dl_X1_addLast_0.all (fun q => decide (decode cX1_addLast q.1 = .ok q.2)) = true := by decide +kernel
theorem dX1_addLast_0 : decode cX1_addLast 0 = .ok (.aload_n 0, 1) := dec_of da_X1_addLast_0 (k := 0) rfl
theorem dX1_addLast_1 : decode cX1_addLast 1 = .ok (.getfield 13, 3) := dec_of da_X1_addLast_0 (k := 1) rfl
theorem dX1_addLast_4 : decode cX1_addLast 4 = .ok (.sipush 200, 3) := dec_of da_X1_addLast_0 (k := 2) rfl
theorem dX1_addLast_7 : decode cX1_addLast 7 = .ok (.if_icmp .lt 5, 3) := dec_of da_X1_addLast_0 (k := 3) rfl
theorem dX1_addLast_10 : decode cX1_addLast 10 = .ok (.iconst 0, 1) := dec_of da_X1_addLast_0 (k := 4) rfl
theorem dX1_addLast_11 : decode cX1_addLast 11 = .ok (.ireturn, 1) := dec_of da_X1_addLast_0 (k := 5) rfl
theorem dX1_addLast_12 : decode cX1_addLast 12 = .ok (.aload_n 0, 1) := dec_of da_X1_addLast_0 (k := 6) rfl
theorem dX1_addLast_13 : decode cX1_addLast 13 = .ok (.getfield 9, 3) := dec_of da_X1_addLast_0 (k := 7) rfl
theorem dX1_addLast_16 : decode cX1_addLast 16 = .ok (.aload_n 0, 1) := dec_of da_X1_addLast_0 (k := 8) rfl
theorem dX1_addLast_17 : decode cX1_addLast 17 = .ok (.getfield 17, 3) := dec_of da_X1_addLast_0 (k := 9) rfl
theorem dX1_addLast_20 : decode cX1_addLast 20 = .ok (.aload_n 0, 1) := dec_of da_X1_addLast_0 (k := 10) rfl
theorem dX1_addLast_21 : decode cX1_addLast 21 = .ok (.getfield 13, 3) := dec_of da_X1_addLast_0 (k := 11) rfl
theorem dX1_addLast_24 : decode cX1_addLast 24 = .ok (.iadd, 1) := dec_of da_X1_addLast_0 (k := 12) rfl
theorem dX1_addLast_25 : decode cX1_addLast 25 = .ok (.sipush 200, 3) := dec_of da_X1_addLast_0 (k := 13) rfl
theorem dX1_addLast_28 : decode cX1_addLast 28 = .ok (.irem, 1) := dec_of da_X1_addLast_0 (k := 14) rfl
theorem dX1_addLast_29 : decode cX1_addLast 29 = .ok (.iload_n 1, 1) := dec_of da_X1_addLast_0 (k := 15) rfl
theorem dX1_addLast_30 : decode cX1_addLast 30 = .ok (.iastore, 1) := dec_of da_X1_addLast_0 (k := 16) rfl
theorem dX1_addLast_31 : decode cX1_addLast 31 = .ok (.aload_n 0, 1) := dec_of da_X1_addLast_0 (k := 17) rfl
theorem dX1_addLast_32 : decode cX1_addLast 32 = .ok (.dup, 1) := dec_of da_X1_addLast_0 (k := 18) rfl
theorem dX1_addLast_33 : decode cX1_addLast 33 = .ok (.getfield 13, 3) := dec_of da_X1_addLast_0 (k := 19) rfl
theorem dX1_addLast_36 : decode cX1_addLast 36 = .ok (.iconst 1, 1) := dec_of da_X1_addLast_0 (k := 20) rfl
theorem dX1_addLast_37 : decode cX1_addLast 37 = .ok (.iadd, 1) := dec_of da_X1_addLast_0 (k := 21) rfl
theorem dX1_addLast_38 : decode cX1_addLast 38 = .ok (.putfield 13, 3) := dec_of da_X1_addLast_0 (k := 22) rfl
theorem dX1_addLast_41 : decode cX1_addLast 41 = .ok (.iconst 1, 1) := dec_of da_X1_addLast_0 (k := 23) rfl
theorem dX1_addLast_42 : decode cX1_addLast 42 = .ok (.ireturn, 1) := dec_of da_X1_addLast_0 (k := 24) rfl
def dl_X1_takeFirst_0 : List (Nat × (Instr × Nat)) := [(0, (.aload_n 0, 1)), (1, (.getfield 13, 3)), (4, (.ifCond .ne 5, 3)), (7, (.iconst 0, 1)), (8, (.ireturn, 1)), (9, (.aload_n 0, 1)), (10, (.getfield 9, 3)), (13, (.aload_n 0, 1)), (14, (.getfield 17, 3)), (17, (.iaload, 1)), (18, (.istore_n 1, 1)), (19, (.aload_n 0, 1)), (20, (.aload_n 0, 1)), (21, (.getfield 17, 3)), (24, (.iconst 1, 1)), (25, (.iadd, 1)), (26, (.sipush 200, 3)), (29, (.irem, 1)), (30, (.putfield 17, 3)), (33, (.aload_n 0, 1)), (34, (.dup, 1)), (35, (.getfield 13, 3)), (38, (.iconst 1, 1)), (39, (.isub, 1)), (40, (.putfield 13, 3)), (43, (.iload_n 1, 1)), (44, (.ireturn, 1))]
set_option maxRecDepth 100000 in
theorem da_X1_takeFirst_0 : dl_X1_takeFirst_0.all (fun q => decide (decode cX1_takeFirst q.1 = .ok q.2)) = true := by decide +kernel
theorem dX1_takeFirst_0 : decode cX1_takeFirst 0 = .ok (.aload_n 0, 1) := dec_of da_X1_takeFirst_0 (k := 0) rfl
theorem dX1_takeFirst_1 : decode cX1_takeFirst 1 = .ok (.getfield 13, 3) := dec_of da_X1_takeFirst_0 (k := 1) rfl
theorem dX1_takeFirst_4 : decode cX1_takeFirst 4 = .ok (.ifCond .ne 5, 3) := dec_of da_X1_takeFirst_0 (k := 2) rfl
theorem dX1_takeFirst_7 : decode cX1_takeFirst 7 = .ok (.iconst 0, 1) := dec_of da_X1_takeFirst_0 (k := 3) rfl
theorem dX1_takeFirst_8 : decode cX1_takeFirst 8 = .ok (.ireturn, 1) := dec_of da_X1_takeFirst_0 (k := 4) rfl
theorem dX1_takeFirst_9 : decode cX1_takeFirst 9 = .ok (.aload_n 0, 1) := dec_of da_X1_takeFirst_0 (k := 5) rfl
theorem dX1_takeFirst_10 : decode cX1_takeFirst 10 = .ok (.getfield 9, 3) := dec_of da_X1_takeFirst_0 (k := 6) rfl
theorem dX1_takeFirst_13 : decode cX1_takeFirst 13 = .ok (.aload_n 0, 1) := dec_of da_X1_takeFirst_0 (k := 7) rfl
theorem dX1_takeFirst_14 : decode cX1_takeFirst 14 = .ok (.getfield 17, 3) := dec_of da_X1_takeFirst_0 (k := 8) rfl
theorem dX1_takeFirst_17 : decode cX1_takeFirst 17 = .ok (.iaload, 1) := dec_of da_X1_takeFirst_0 (k := 9) rfl
theorem dX1_takeFirst_18 : decode cX1_takeFirst 18 = .ok (.istore_n 1, 1) := dec_of da_X1_takeFirst_0 (k := 10) rfl
theorem dX1_takeFirst_19 : decode cX1_takeFirst 19 = .ok (.aload_n 0, 1) := dec_of da_X1_takeFirst_0 (k := 11) rfl
theorem dX1_takeFirst_20 : decode cX1_takeFirst 20 = .ok (.aload_n 0, 1) := dec_of da_X1_takeFirst_0 (k := 12) rfl
theorem dX1_takeFirst_21 : decode cX1_takeFirst 21 = .ok (.getfield 17, 3) := dec_of da_X1_takeFirst_0 (k := 13) rfl
theorem dX1_takeFirst_24 : decode cX1_takeFirst 24 = .ok (.iconst 1, 1) := dec_of da_X1_takeFirst_0 (k := 14) rfl
theorem dX1_takeFirst_25 : decode cX1_takeFirst 25 = .ok (.iadd, 1) := dec_of da_X1_takeFirst_0 (k := 15) rfl
theorem dX1_takeFirst_26 : decode cX1_takeFirst 26 = .ok (.sipush 200, 3) := dec_of da_X1_takeFirst_0 (k := 16) rfl
theorem dX1_takeFirst_29 : decode cX1_takeFirst 29 = .ok (.irem, 1) := dec_of da_X1_takeFirst_0 (k := 17) rfl
theorem dX1_takeFirst_30 : decode cX1_takeFirst 30 = .ok (.putfield 17, 3) := dec_of da_X1_takeFirst_0 (k := 18) rfl
theorem dX1_takeFirst_33 : decode cX1_takeFirst 33 = .ok (.aload_n 0, 1) := dec_of da_X1_takeFirst_0 (k := 19) rfl
theorem dX1_takeFirst_34 : decode cX1_takeFirst 34 = .ok (.dup, 1) := dec_of da_X1_takeFirst_0 (k := 20) rfl
theorem dX1_takeFirst_35 : decode cX1_takeFirst 35 = .ok (.getfield 13, 3) := dec_of da_X1_takeFirst_0 (k := 21) rfl
theorem dX1_takeFirst_38 : decode cX1_takeFirst 38 = .ok (.iconst 1, 1) := dec_of da_X1_takeFirst_0 (k := 22) rfl
theorem dX1_takeFirst_39 : decode cX1_takeFirst 39 = .ok (.isub, 1) := dec_of da_X1_takeFirst_0 (k := 23) rfl
theorem dX1_takeFirst_40 : decode cX1_takeFirst 40 = .ok (.putfield 13, 3) := dec_of da_X1_takeFirst_0 (k := 24) rfl
theorem dX1_takeFirst_43 : decode cX1_takeFirst 43 = .ok (.iload_n 1, 1) := dec_of da_X1_takeFirst_0 (k := 25) rfl
theorem dX1_takeFirst_44 : decode cX1_takeFirst 44 = .ok (.ireturn, 1) := dec_of da_X1_takeFirst_0 (k := 26) rfl
def dl_X2_writeHighestFirst_0 : List (Nat × (Instr × Nat)) := [(0, (.iconst 0, 1)), (1, (.istore 5, 2)), (3, (.iload 5, 2)), (5, (.iload_n 2, 1)), (6, (.if_icmp .ge 31, 3)), (9, (.aload_n 0, 1)), (10, (.iload_n 1, 1)), (11, (.iload 5, 2)), (13, (.iadd, 1)), (14, (.lload_n 3, 1)), (15, (.bipush 8, 2)), (17, (.iload_n 2, 1)), (18, (.iconst 1, 1)), (19, (.isub, 1)), (20, (.iload 5, 2)), (22, (.isub, 1)), (23, (.imul, 1)), (24, (.lshr, 1)), (25, (.l2i, 1)), (26, (.sipush 255, 3)), (29, (.iand, 1)), (30, (.iastore, 1)), (31, (.iinc 5 1, 3)), (34, (.goto (-31), 3)), (37, (.return_, 1))]
set_option maxRecDepth 100000 in
theorem da_X2_writeHighestFirst_0 : dl_X2_writeHighestFirst_0.all (fun q => decide (decode cX2_writeHighestFirst q.1 = .ok q.2)) = true := by decide +kernel
theorem dX2_writeHighestFirst_0 : decode cX2_writeHighestFirst 0 = .ok (.iconst 0, 1) := dec_of da_X2_writeHighestFirst_0 (k := 0) rfl
theorem dX2_writeHighestFirst_1 : decode cX2_writeHighestFirst 1 = .ok (.istore 5, 2) := dec_of da_X2_writeHighestFirst_0 (k := 1) rfl
theorem dX2_writeHighestFirst_3 : decode cX2_writeHighestFirst 3 = .ok (.iload 5, 2) := dec_of da_X2_writeHighestFirst_0 (k := 2) rfl
theorem dX2_writeHighestFirst_5 : decode cX2_writeHighestFirst 5 = .ok (.iload_n 2, 1) := dec_of da_X2_writeHighestFirst_0 (k := 3) rfl
theorem dX2_writeHighestFirst_6 : decode cX2_writeHighestFirst 6 = .ok (.if_icmp .ge 31, 3) := dec_of da_X2_writeHighestFirst_0 (k := 4) rfl
theorem dX2_writeHighestFirst_9 : decode cX2_writeHighestFirst 9 = .ok (.aload_n 0, 1) := dec_of da_X2_writeHighestFirst_0 (k := 5) rfl
theorem dX2_writeHighestFirst_10 : decode cX2_writeHighestFirst 10 = .ok (.iload_n 1, 1) := dec_of da_X2_writeHighestFirst_0 (k := 6) rfl
theorem dX2_writeHighestFirst_11 : decode cX2_writeHighestFirst 11 = .ok (.iload 5, 2) := dec_of da_X2_writeHighestFirst_0 (k := 7) rfl
theorem dX2_writeHighestFirst_13 : decode cX2_writeHighestFirst 13 = .ok (.iadd, 1) := dec_of da_X2_writeHighestFirst_0 (k := 8) rfl
theorem dX2_writeHighestFirst_14 : decode cX2_writeHighestFirst 14 = .ok (.lload_n 3, 1) := dec_of da_X2_writeHighestFirst_0 (k := 9) rfl
theorem dX2_writeHighestFirst_15 : decode cX2_writeHighestFirst 15 = .ok (.bipush 8, 2) := dec_of da_X2_writeHighestFirst_0 (k := 10) rfl
theorem dX2_writeHighestFirst_17 : decode cX2_writeHighestFirst 17 = .ok (.iload_n 2, 1) := dec_of da_X2_writeHighestFirst_0 (k := 11) rfl
theorem dX2_writeHighestFirst_18 : decode cX2_writeHighestFirst 18 = .ok (.iconst 1, 1) := dec_of da_X2_writeHighestFirst_0 (k := 12) rfl
theorem dX2_writeHighestFirst_19 : decode cX2_writeHighestFirst 19 = .ok (.isub, 1) := dec_of da_X2_writeHighestFirst_0 (k := 13) rfl
theorem dX2_writeHighestFirst_20 : decode cX2_writeHighestFirst 20 = .ok (.iload 5, 2) := dec_of da_X2_writeHighestFirst_0 (k := 14) rfl
theorem dX2_writeHighestFirst_22 : decode cX2_writeHighestFirst 22 = .ok (.isub, 1) := dec_of da_X2_writeHighestFirst_0 (k := 15) rfl
theorem dX2_writeHighestFirst_23 : decode cX2_writeHighestFirst 23 = .ok (.imul, 1) := dec_of da_X2_writeHighestFirst_0 (k := 16) rfl
theorem dX2_writeHighestFirst_24 : decode cX2_writeHighestFirst 24 = .ok (.lshr, 1) := dec_of da_X2_writeHighestFirst_0 (k := 17) rfl
theorem dX2_writeHighestFirst_25 : decode cX2_writeHighestFirst 25 = .ok (.l2i, 1) := dec_of da_X2_writeHighestFirst_0 (k := 18) rfl
theorem dX2_writeHighestFirst_26 : decode cX2_writeHighestFirst 26 = .ok (.sipush 255, 3) := dec_of da_X2_writeHighestFirst_0 (k := 19) rfl
theorem dX2_writeHighestFirst_29 : decode cX2_writeHighestFirst 29 = .ok (.iand, 1) := dec_of da_X2_writeHighestFirst_0 (k := 20) rfl
theorem dX2_writeHighestFirst_30 : decode cX2_writeHighestFirst 30 = .ok (.iastore, 1) := dec_of da_X2_writeHighestFirst_0 (k := 21) rfl
theorem dX2_writeHighestFirst_31 : decode cX2_writeHighestFirst 31 = .ok (.iinc 5 1, 3) := dec_of da_X2_writeHighestFirst_0 (k := 22) rfl
theorem dX2_writeHighestFirst_34 : decode cX2_writeHighestFirst 34 = .ok (.goto (-31), 3) := dec_of da_X2_writeHighestFirst_0 (k := 23) rfl
theorem dX2_writeHighestFirst_37 : decode cX2_writeHighestFirst 37 = .ok (.return_, 1) := dec_of da_X2_writeHighestFirst_0 (k := 24) rfl
def dl_X2_crcOf_0 : List (Nat × (Instr × Nat)) := [(0, (.iconst (-1), 1)), (1, (.istore_n 2, 1)), (2, (.iconst 0, 1)), (3, (.istore_n 3, 1)), (4, (.iload_n 3, 1)), (5, (.iload_n 1, 1)), (6, (.if_icmp .ge 41, 3)), (9, (.iload_n 2, 1)), (10, (.aload_n 0, 1)), (11, (.iload_n 3, 1)), (12, (.iaload, 1)), (13, (.ixor, 1)), (14, (.istore_n 2, 1)), (15, (.iload_n 2, 1)), (16, (.iconst 4, 1)), (17, (.iushr, 1)), (18, (.getstatic 11, 3)), (21, (.iload_n 2, 1)), (22, (.bipush 15, 2)), (24, (.iand, 1)), (25, (.iaload, 1)), (26, (.ixor, 1)), (27, (.istore_n 2, 1)), (28, (.iload_n 2, 1)), (29, (.iconst 4, 1)), (30, (.iushr, 1)), (31, (.getstatic 11, 3)), (34, (.iload_n 2, 1)), (35, (.bipush 15, 2)), (37, (.iand, 1)), (38, (.iaload, 1)), (39, (.ixor, 1)), (40, (.istore_n 2, 1)), (41, (.iinc 3 1, 3)), (44, (.goto (-40), 3)), (47, (.iload_n 2, 1)), (48, (.iconst (-1), 1)), (49, (.ixor, 1)), (50, (.ireturn, 1))]
set_option maxRecDepth 100000 in
theorem da_X2_crcOf_0 : dl_X2_crcOf_0.all (fun q => decide (decode cX2_crcOf q.1 = .ok q.2)) = true := by decide +kernel
theorem dX2_crcOf_0 : decode cX2_crcOf 0 = .ok (.iconst (-1), 1) := dec_of da_X2_crcOf_0 (k := 0) rfl
theorem dX2_crcOf_1 : decode cX2_crcOf 1 = .ok (.istore_n 2, 1) := dec_of da_X2_crcOf_0 (k := 1) rfl
theorem dX2_crcOf_2 : decode cX2_crcOf 2 = .ok (.iconst 0, 1) := dec_of da_X2_crcOf_0 (k := 2) rfl
theorem dX2_crcOf_3 : decode cX2_crcOf 3 = .ok (.istore_n 3, 1) := dec_of da_X2_crcOf_0 (k := 3) rfl
theorem dX2_crcOf_4 : decode cX2_crcOf 4 = .ok (.iload_n 3, 1) := dec_of da_X2_crcOf_0 (k := 4) rfl
theorem dX2_crcOf_5 : decode cX2_crcOf 5 = .ok (.iload_n 1, 1) := dec_of da_X2_crcOf_0 (k := 5) rfl
theorem dX2_crcOf_6 : decode cX2_crcOf 6 = .ok (.if_icmp .ge 41, 3) := dec_of da_X2_crcOf_0 (k := 6) rfl
theorem dX2_crcOf_9 : decode cX2_crcOf 9 = .ok (.iload_n 2, 1) := dec_of da_X2_crcOf_0 (k := 7) rfl
theorem dX2_crcOf_10 : decode cX2_crcOf 10 = .ok (.aload_n 0, 1) := dec_of da_X2_crcOf_0 (k := 8) rfl
theorem dX2_crcOf_11 : decode cX2_crcOf 11 = .ok (.iload_n 3, 1) := dec_of da_X2_crcOf_0 (k := 9) rfl
theorem dX2_crcOf_12 : decode cX2_crcOf 12 = .ok (.iaload, 1) := dec_of da_X2_crcOf_0 (k := 10) rfl
theorem dX2_crcOf_13 : decode cX2_crcOf 13 = .ok (.ixor, 1) := dec_of da_X2_crcOf_0 (k := 11) rfl
theorem dX2_crcOf_14 : decode cX2_crcOf 14 = .ok (.istore_n 2, 1) := dec_of da_X2_crcOf_0 (k := 12) rfl
theorem dX2_crcOf_15 : decode cX2_crcOf 15 = .ok (.iload_n 2, 1) := dec_of da_X2_crcOf_0 (k := 13) rfl
theorem dX2_crcOf_16 : decode cX2_crcOf 16 = .ok (.iconst 4, 1) := dec_of da_X2_crcOf_0 (k := 14) rfl
theorem dX2_crcOf_17 : decode cX2_crcOf 17 = .ok (.iushr, 1) := dec_of da_X2_crcOf_0 (k := 15) rfl
theorem dX2_crcOf_18 : decode cX2_crcOf 18 = .ok (.getstatic 11, 3) := dec_of da_X2_crcOf_0 (k := 16) rfl
theorem dX2_crcOf_21 : decode cX2_crcOf 21 = .ok (.iload_n 2, 1) := dec_of da_X2_crcOf_0 (k := 17) rfl
theorem dX2_crcOf_22 : decode cX2_crcOf 22 = .ok (.bipush 15, 2) := dec_of da_X2_crcOf_0 (k := 18) rfl
theorem dX2_crcOf_24 : decode cX2_crcOf 24 = .ok (.iand, 1) := dec_of da_X2_crcOf_0 (k := 19) rfl
theorem dX2_crcOf_25 : decode cX2_crcOf 25 = .ok (.iaload, 1) := dec_of da_X2_crcOf_0 (k := 20) rfl
theorem dX2_crcOf_26 : decode cX2_crcOf 26 = .ok (.ixor, 1) := dec_of da_X2_crcOf_0 (k := 21) rfl
theorem dX2_crcOf_27 : decode cX2_crcOf 27 = .ok (.istore_n 2, 1) := dec_of da_X2_crcOf_0 (k := 22) rfl
theorem dX2_crcOf_28 : decode cX2_crcOf 28 = .ok (.iload_n 2, 1) := dec_of da_X2_crcOf_0 (k := 23) rfl
theorem dX2_crcOf_29 : decode cX2_crcOf 29 = .ok (.iconst 4, 1) := dec_of da_X2_crcOf_0 (k := 24) rfl
theorem dX2_crcOf_30 : decode cX2_crcOf 30 = .ok (.iushr, 1) := dec_of da_X2_crcOf_0 (k := 25) rfl
theorem dX2_crcOf_31 : decode cX2_crcOf 31 = .ok (.getstatic 11, 3) := dec_of da_X2_crcOf_0 (k := 26) rfl
theorem dX2_crcOf_34 : decode cX2_crcOf 34 = .ok (.iload_n 2, 1) := dec_of da_X2_crcOf_0 (k := 27) rfl
theorem dX2_crcOf_35 : decode cX2_crcOf 35 = .ok (.bipush 15, 2) := dec_of da_X2_crcOf_0 (k := 28) rfl
theorem dX2_crcOf_37 : decode cX2_crcOf 37 = .ok (.iand, 1) := dec_of da_X2_crcOf_0 (k := 29) rfl
theorem dX2_crcOf_38 : decode cX2_crcOf 38 = .ok (.iaload, 1) := dec_of da_X2_crcOf_0 (k := 30) rfl
theorem dX2_crcOf_39 : decode cX2_crcOf 39 = .ok (.ixor, 1) := dec_of da_X2_crcOf_0 (k := 31) rfl
theorem dX2_crcOf_40 : decode cX2_crcOf 40 = .ok (.istore_n 2, 1) := dec_of da_X2_crcOf_0 (k := 32) rfl
theorem dX2_crcOf_41 : decode cX2_crcOf 41 = .ok (.iinc 3 1, 3) := dec_of da_X2_crcOf_0 (k := 33) rfl
theorem dX2_crcOf_44 : decode cX2_crcOf 44 = .ok (.goto (-40), 3) := dec_of da_X2_crcOf_0 (k := 34) rfl
theorem dX2_crcOf_47 : decode cX2_crcOf 47 = .ok (.iload_n 2, 1) := dec_of da_X2_crcOf_0 (k := 35) rfl
theorem dX2_crcOf_48 : decode cX2_crcOf 48 = .ok (.iconst (-1), 1) := dec_of da_X2_crcOf_0 (k := 36) rfl
theorem dX2_crcOf_49 : decode cX2_crcOf 49 = .ok (.ixor, 1) := dec_of da_X2_crcOf_0 (k := 37) rfl
theorem dX2_crcOf_50 : decode cX2_crcOf 50 = .ok (.ireturn, 1) := dec_of da_X2_crcOf_0 (k := 38) rfl
def dl_X2_writeFcs_0 : List (Nat × (Instr × Nat)) := [(0, (.aload_n 0, 1)), (1, (.iload_n 1, 1)), (2, (.invokestatic 15, 3)), (5, (.istore_n 2, 1)), (6, (.iconst 0, 1)), (7, (.istore_n 3, 1)), (8, (.iload_n 3, 1)), (9, (.iconst 4, 1)), (10, (.if_icmp .ge 24, 3)), (13, (.aload_n 0, 1)), (14, (.iload_n 1, 1)), (15, (.iload_n 3, 1)), (16, (.iadd, 1)), (17, (.iload_n 2, 1)), (18, (.bipush 8, 2)), (20, (.iload_n 3, 1)), (21, (.imul, 1)), (22, (.iushr, 1)), (23, (.sipush 255, 3)), (26, (.iand, 1)), (27, (.iastore, 1)), (28, (.iinc 3 1, 3)), (31, (.goto (-23), 3)), (34, (.return_, 1))]
set_option maxRecDepth 100000 in
theorem da_X2_writeFcs_0 : dl_X2_writeFcs_0.all (fun q => decide (decode cX2_writeFcs q.1 = .ok q.2)) = true := by decide +kernel
theorem dX2_writeFcs_0 : decode cX2_writeFcs 0 = .ok (.aload_n 0, 1) := dec_of da_X2_writeFcs_0 (k := 0) rfl
theorem dX2_writeFcs_1 : decode cX2_writeFcs 1 = .ok (.iload_n 1, 1) := dec_of da_X2_writeFcs_0 (k := 1) rfl
theorem dX2_writeFcs_2 : decode cX2_writeFcs 2 = .ok (.invokestatic 15, 3) := dec_of da_X2_writeFcs_0 (k := 2) rfl
theorem dX2_writeFcs_5 : decode cX2_writeFcs 5 = .ok (.istore_n 2, 1) := dec_of da_X2_writeFcs_0 (k := 3) rfl
theorem dX2_writeFcs_6 : decode cX2_writeFcs 6 = .ok (.iconst 0, 1) := dec_of da_X2_writeFcs_0 (k := 4) rfl
theorem dX2_writeFcs_7 : decode cX2_writeFcs 7 = .ok (.istore_n 3, 1) := dec_of da_X2_writeFcs_0 (k := 5) rfl
theorem dX2_writeFcs_8 : decode cX2_writeFcs 8 = .ok (.iload_n 3, 1) := dec_of da_X2_writeFcs_0 (k := 6) rfl
theorem dX2_writeFcs_9 : decode cX2_writeFcs 9 = .ok (.iconst 4, 1) := dec_of da_X2_writeFcs_0 (k := 7) rfl
theorem dX2_writeFcs_10 : decode cX2_writeFcs 10 = .ok (.if_icmp .ge 24, 3) := dec_of da_X2_writeFcs_0 (k := 8) rfl
theorem dX2_writeFcs_13 : decode cX2_writeFcs 13 = .ok (.aload_n 0, 1) := dec_of da_X2_writeFcs_0 (k := 9) rfl
theorem dX2_writeFcs_14 : decode cX2_writeFcs 14 = .ok (.iload_n 1, 1) := dec_of da_X2_writeFcs_0 (k := 10) rfl
theorem dX2_writeFcs_15 : decode cX2_writeFcs 15 = .ok (.iload_n 3, 1) := dec_of da_X2_writeFcs_0 (k := 11) rfl
theorem dX2_writeFcs_16 : decode cX2_writeFcs 16 = .ok (.iadd, 1) := dec_of da_X2_writeFcs_0 (k := 12) rfl
theorem dX2_writeFcs_17 : decode cX2_writeFcs 17 = .ok (.iload_n 2, 1) := dec_of da_X2_writeFcs_0 (k := 13) rfl
theorem dX2_writeFcs_18 : decode cX2_writeFcs 18 = .ok (.bipush 8, 2) := dec_of da_X2_writeFcs_0 (k := 14) rfl
theorem dX2_writeFcs_20 : decode cX2_writeFcs 20 = .ok (.iload_n 3, 1) := dec_of da_X2_writeFcs_0 (k := 15) rfl
theorem dX2_writeFcs_21 : decode cX2_writeFcs 21 = .ok (.imul, 1) := dec_of da_X2_writeFcs_0 (k := 16) rfl
theorem dX2_writeFcs_22 : decode cX2_writeFcs 22 = .ok (.iushr, 1) := dec_of da_X2_writeFcs_0 (k := 17) rfl
theorem dX2_writeFcs_23 : decode cX2_writeFcs 23 = .ok (.sipush 255, 3) := dec_of da_X2_writeFcs_0 (k := 18) rfl
theorem dX2_writeFcs_26 : decode cX2_writeFcs 26 = .ok (.iand, 1) := dec_of da_X2_writeFcs_0 (k := 19) rfl
theorem dX2_writeFcs_27 : decode cX2_writeFcs 27 = .ok (.iastore, 1) := dec_of da_X2_writeFcs_0 (k := 20) rfl
theorem dX2_writeFcs_28 : decode cX2_writeFcs 28 = .ok (.iinc 3 1, 3) := dec_of da_X2_writeFcs_0 (k := 21) rfl
theorem dX2_writeFcs_31 : decode cX2_writeFcs 31 = .ok (.goto (-23), 3) := dec_of da_X2_writeFcs_0 (k := 22) rfl
theorem dX2_writeFcs_34 : decode cX2_writeFcs 34 = .ok (.return_, 1) := dec_of da_X2_writeFcs_0 (k := 23) rfl
def dl_X2_hasRightFcs_0 : List (Nat × (Instr × Nat)) := [(0, (.iload_n 1, 1)), (1, (.iconst 4, 1)), (2, (.isub, 1)), (3, (.istore_n 2, 1)), (4, (.aload_n 0, 1)), (5, (.iload_n 2, 1)), (6, (.invokestatic 15, 3)), (9, (.istore_n 3, 1)), (10, (.iconst 0, 1)), (11, (.istore 4, 2)), (13, (.iload 4, 2)), (15, (.iconst 4, 1)), (16, (.if_icmp .ge 31, 3)), (19, (.aload_n 0, 1)), (20, (.iload_n 2, 1)), (21, (.iload 4, 2)), (23, (.iadd, 1)), (24, (.iaload, 1)), (25, (.iload_n 3, 1)), (26, (.bipush 8, 2)), (28, (.iload 4, 2)), (30, (.imul, 1)), (31, (.iushr, 1)), (32, (.sipush 255, 3)), (35, (.iand, 1)), (36, (.if_icmp .eq 5, 3)), (39, (.iconst 0, 1)), (40, (.ireturn, 1)), (41, (.iinc 4 1, 3)), (44, (.goto (-31), 3)), (47, (.iconst 1, 1)), (48, (.ireturn, 1))]
set_option maxRecDepth 100000 in
theorem da_X2_hasRightFcs_0 : dl_X2_hasRightFcs_0.all (fun q => decide (decode cX2_hasRightFcs q.1 = .ok q.2)) = true := by decide +kernel
theorem dX2_hasRightFcs_0 : decode cX2_hasRightFcs 0 = .ok (.iload_n 1, 1) := dec_of da_X2_hasRightFcs_0 (k := 0) rfl
theorem dX2_hasRightFcs_1 : decode cX2_hasRightFcs 1 = .ok (.iconst 4, 1) := dec_of da_X2_hasRightFcs_0 (k := 1) rfl
theorem dX2_hasRightFcs_2 : decode cX2_hasRightFcs 2 = .ok (.isub, 1) := dec_of da_X2_hasRightFcs_0 (k := 2) rfl
theorem dX2_hasRightFcs_3 : decode cX2_hasRightFcs 3 = .ok (.istore_n 2, 1) := dec_of da_X2_hasRightFcs_0 (k := 3) rfl
theorem dX2_hasRightFcs_4 : decode cX2_hasRightFcs 4 = .ok (.aload_n 0, 1) := dec_of da_X2_hasRightFcs_0 (k := 4) rfl
theorem dX2_hasRightFcs_5 : decode cX2_hasRightFcs 5 = .ok (.iload_n 2, 1) := dec_of da_X2_hasRightFcs_0 (k := 5) rfl
theorem dX2_hasRightFcs_6 : decode cX2_hasRightFcs 6 = .ok (.invokestatic 15, 3) := dec_of da_X2_hasRightFcs_0 (k := 6) rfl
theorem dX2_hasRightFcs_9 : decode cX2_hasRightFcs 9 = .ok (.istore_n 3, 1) := dec_of da_X2_hasRightFcs_0 (k := 7) rfl
theorem dX2_hasRightFcs_10 : decode cX2_hasRightFcs 10 = .ok (.iconst 0, 1) := dec_of da_X2_hasRightFcs_0 (k := 8) rfl
theorem dX2_hasRightFcs_11 : decode cX2_hasRightFcs 11 = .ok (.istore 4, 2) := dec_of da_X2_hasRightFcs_0 (k := 9) rfl
theorem dX2_hasRightFcs_13 : decode cX2_hasRightFcs 13 = .ok (.iload 4, 2) := dec_of da_X2_hasRightFcs_0 (k := 10) rfl
theorem dX2_hasRightFcs_15 : decode cX2_hasRightFcs 15 = .ok (.iconst 4, 1) := dec_of da_X2_hasRightFcs_0 (k := 11) rfl
theorem dX2_hasRightFcs_16 : decode cX2_hasRightFcs 16 = .ok (.if_icmp .ge 31, 3) := dec_of da_X2_hasRightFcs_0 (k := 12) rfl
theorem dX2_hasRightFcs_19 : decode cX2_hasRightFcs 19 = .ok (.aload_n 0, 1) := dec_of da_X2_hasRightFcs_0 (k := 13) rfl
theorem dX2_hasRightFcs_20 : decode cX2_hasRightFcs 20 = .ok (.iload_n 2, 1) := dec_of da_X2_hasRightFcs_0 (k := 14) rfl
theorem dX2_hasRightFcs_21 : decode cX2_hasRightFcs 21 = .ok (.iload 4, 2) := dec_of da_X2_hasRightFcs_0 (k := 15) rfl
theorem dX2_hasRightFcs_23 : decode cX2_hasRightFcs 23 = .ok (.iadd, 1) := dec_of da_X2_hasRightFcs_0 (k := 16) rfl
theorem dX2_hasRightFcs_24 : decode cX2_hasRightFcs 24 = .ok (.iaload, 1) := dec_of da_X2_hasRightFcs_0 (k := 17) rfl
theorem dX2_hasRightFcs_25 : decode cX2_hasRightFcs 25 = .ok (.iload_n 3, 1) := dec_of da_X2_hasRightFcs_0 (k := 18) rfl
theorem dX2_hasRightFcs_26 : decode cX2_hasRightFcs 26 = .ok (.bipush 8, 2) := dec_of da_X2_hasRightFcs_0 (k := 19) rfl
theorem dX2_hasRightFcs_28 : decode cX2_hasRightFcs 28 = .ok (.iload 4, 2) := dec_of da_X2_hasRightFcs_0 (k := 20) rfl
theorem dX2_hasRightFcs_30 : decode cX2_hasRightFcs 30 = .ok (.imul, 1) := dec_of da_X2_hasRightFcs_0 (k := 21) rfl
theorem dX2_hasRightFcs_31 : decode cX2_hasRightFcs 31 = .ok (.iushr, 1) := dec_of da_X2_hasRightFcs_0 (k := 22) rfl
theorem dX2_hasRightFcs_32 : decode cX2_hasRightFcs 32 = .ok (.sipush 255, 3) := dec_of da_X2_hasRightFcs_0 (k := 23) rfl
theorem dX2_hasRightFcs_35 : decode cX2_hasRightFcs 35 = .ok (.iand, 1) := dec_of da_X2_hasRightFcs_0 (k := 24) rfl
theorem dX2_hasRightFcs_36 : decode cX2_hasRightFcs 36 = .ok (.if_icmp .eq 5, 3) := dec_of da_X2_hasRightFcs_0 (k := 25) rfl
theorem dX2_hasRightFcs_39 : decode cX2_hasRightFcs 39 = .ok (.iconst 0, 1) := dec_of da_X2_hasRightFcs_0 (k := 26) rfl
theorem dX2_hasRightFcs_40 : decode cX2_hasRightFcs 40 = .ok (.ireturn, 1) := dec_of da_X2_hasRightFcs_0 (k := 27) rfl
theorem dX2_hasRightFcs_41 : decode cX2_hasRightFcs 41 = .ok (.iinc 4 1, 3) := dec_of da_X2_hasRightFcs_0 (k := 28) rfl
theorem dX2_hasRightFcs_44 : decode cX2_hasRightFcs 44 = .ok (.goto (-31), 3) := dec_of da_X2_hasRightFcs_0 (k := 29) rfl
theorem dX2_hasRightFcs_47 : decode cX2_hasRightFcs 47 = .ok (.iconst 1, 1) := dec_of da_X2_hasRightFcs_0 (k := 30) rfl
theorem dX2_hasRightFcs_48 : decode cX2_hasRightFcs 48 = .ok (.ireturn, 1) := dec_of da_X2_hasRightFcs_0 (k := 31) rfl
def dl_X2_isTakeable_0 : List (Nat × (Instr × Nat)) := [(0, (.iload_n 1, 1)), (1, (.bipush 14, 2)), (3, (.if_icmp .lt 23, 3)), (6, (.aload_n 0, 1)), (7, (.iload_n 1, 1)), (8, (.invokestatic 19, 3)), (11, (.ifCond .eq 15, 3)), (14, (.aload_n 0, 1)), (15, (.iload_n 1, 1)), (16, (.invokestatic 23, 3)), (19, (.ifCond .eq 7, 3)), (22, (.iconst 1, 1)), (23, (.goto 4, 3)), (26, (.iconst 0, 1)), (27, (.ireturn, 1))]
set_option maxRecDepth 100000 in
theorem da_X2_isTakeable_0 : dl_X2_isTakeable_0.all (fun q => decide (decode cX2_isTakeable q.1 = .ok q.2)) = true := by decide +kernel
theorem dX2_isTakeable_0 : decode cX2_isTakeable 0 = .ok (.iload_n 1, 1) := dec_of da_X2_isTakeable_0 (k := 0) rfl
theorem dX2_isTakeable_1 : decode cX2_isTakeable 1 = .ok (.bipush 14, 2) := dec_of da_X2_isTakeable_0 (k := 1) rfl
theorem dX2_isTakeable_3 : decode cX2_isTakeable 3 = .ok (.if_icmp .lt 23, 3) := dec_of da_X2_isTakeable_0 (k := 2) rfl
theorem dX2_isTakeable_6 : decode cX2_isTakeable 6 = .ok (.aload_n 0, 1) := dec_of da_X2_isTakeable_0 (k := 3) rfl
theorem dX2_isTakeable_7 : decode cX2_isTakeable 7 = .ok (.iload_n 1, 1) := dec_of da_X2_isTakeable_0 (k := 4) rfl
theorem dX2_isTakeable_8 : decode cX2_isTakeable 8 = .ok (.invokestatic 19, 3) := dec_of da_X2_isTakeable_0 (k := 5) rfl
theorem dX2_isTakeable_11 : decode cX2_isTakeable 11 = .ok (.ifCond .eq 15, 3) := dec_of da_X2_isTakeable_0 (k := 6) rfl
theorem dX2_isTakeable_14 : decode cX2_isTakeable 14 = .ok (.aload_n 0, 1) := dec_of da_X2_isTakeable_0 (k := 7) rfl
theorem dX2_isTakeable_15 : decode cX2_isTakeable 15 = .ok (.iload_n 1, 1) := dec_of da_X2_isTakeable_0 (k := 8) rfl
theorem dX2_isTakeable_16 : decode cX2_isTakeable 16 = .ok (.invokestatic 23, 3) := dec_of da_X2_isTakeable_0 (k := 9) rfl
theorem dX2_isTakeable_19 : decode cX2_isTakeable 19 = .ok (.ifCond .eq 7, 3) := dec_of da_X2_isTakeable_0 (k := 10) rfl
theorem dX2_isTakeable_22 : decode cX2_isTakeable 22 = .ok (.iconst 1, 1) := dec_of da_X2_isTakeable_0 (k := 11) rfl
theorem dX2_isTakeable_23 : decode cX2_isTakeable 23 = .ok (.goto 4, 3) := dec_of da_X2_isTakeable_0 (k := 12) rfl
theorem dX2_isTakeable_26 : decode cX2_isTakeable 26 = .ok (.iconst 0, 1) := dec_of da_X2_isTakeable_0 (k := 13) rfl
theorem dX2_isTakeable_27 : decode cX2_isTakeable 27 = .ok (.ireturn, 1) := dec_of da_X2_isTakeable_0 (k := 14) rfl
def dl_X2_hasToldControl_0 : List (Nat × (Instr × Nat)) := [(0, (.aload_n 0, 1)), (1, (.iconst 0, 1)), (2, (.iaload, 1)), (3, (.lookupswitch 117 #[(0, 75), (8, 96), (16, 75), (176, 75), (192, 75), (212, 57)], 57)), (60, (.iload_n 1, 1)), (61, (.bipush 14, 2)), (63, (.if_icmp .ne 13, 3)), (66, (.aload_n 0, 1)), (67, (.iconst 1, 1)), (68, (.iaload, 1)), (69, (.ifCond .ne 7, 3)), (72, (.iconst 1, 1)), (73, (.goto 4, 3)), (76, (.iconst 0, 1)), (77, (.ireturn, 1)), (78, (.iload_n 1, 1)), (79, (.bipush 28, 2)), (81, (.if_icmp .lt 16, 3)), (84, (.aload_n 0, 1)), (85, (.iconst 1, 1)), (86, (.iaload, 1)), (87, (.bipush (-9), 2)), (89, (.iand, 1)), (90, (.ifCond .ne 7, 3)), (93, (.iconst 1, 1)), (94, (.goto 4, 3)), (97, (.iconst 0, 1)), (98, (.ireturn, 1)), (99, (.iload_n 1, 1)), (100, (.bipush 28, 2)), (102, (.if_icmp .lt 16, 3)), (105, (.aload_n 0, 1)), (106, (.iconst 1, 1)), (107, (.iaload, 1)), (108, (.bipush (-80), 2)), (110, (.iand, 1)), (111, (.ifCond .ne 7, 3)), (114, (.iconst 1, 1)), (115, (.goto 4, 3)), (118, (.iconst 0, 1)), (119, (.ireturn, 1)), (120, (.iconst 0, 1)), (121, (.ireturn, 1))]
set_option maxRecDepth 100000 in
theorem da_X2_hasToldControl_0 : dl_X2_hasToldControl_0.all (fun q => decide (decode cX2_hasToldControl q.1 = .ok q.2)) = true := by decide +kernel
theorem dX2_hasToldControl_0 : decode cX2_hasToldControl 0 = .ok (.aload_n 0, 1) := dec_of da_X2_hasToldControl_0 (k := 0) rfl
theorem dX2_hasToldControl_1 : decode cX2_hasToldControl 1 = .ok (.iconst 0, 1) := dec_of da_X2_hasToldControl_0 (k := 1) rfl
theorem dX2_hasToldControl_2 : decode cX2_hasToldControl 2 = .ok (.iaload, 1) := dec_of da_X2_hasToldControl_0 (k := 2) rfl
theorem dX2_hasToldControl_3 : decode cX2_hasToldControl 3 = .ok (.lookupswitch 117 #[(0, 75), (8, 96), (16, 75), (176, 75), (192, 75), (212, 57)], 57) := dec_of da_X2_hasToldControl_0 (k := 3) rfl
theorem dX2_hasToldControl_60 : decode cX2_hasToldControl 60 = .ok (.iload_n 1, 1) := dec_of da_X2_hasToldControl_0 (k := 4) rfl
theorem dX2_hasToldControl_61 : decode cX2_hasToldControl 61 = .ok (.bipush 14, 2) := dec_of da_X2_hasToldControl_0 (k := 5) rfl
theorem dX2_hasToldControl_63 : decode cX2_hasToldControl 63 = .ok (.if_icmp .ne 13, 3) := dec_of da_X2_hasToldControl_0 (k := 6) rfl
theorem dX2_hasToldControl_66 : decode cX2_hasToldControl 66 = .ok (.aload_n 0, 1) := dec_of da_X2_hasToldControl_0 (k := 7) rfl
theorem dX2_hasToldControl_67 : decode cX2_hasToldControl 67 = .ok (.iconst 1, 1) := dec_of da_X2_hasToldControl_0 (k := 8) rfl
theorem dX2_hasToldControl_68 : decode cX2_hasToldControl 68 = .ok (.iaload, 1) := dec_of da_X2_hasToldControl_0 (k := 9) rfl
theorem dX2_hasToldControl_69 : decode cX2_hasToldControl 69 = .ok (.ifCond .ne 7, 3) := dec_of da_X2_hasToldControl_0 (k := 10) rfl
theorem dX2_hasToldControl_72 : decode cX2_hasToldControl 72 = .ok (.iconst 1, 1) := dec_of da_X2_hasToldControl_0 (k := 11) rfl
theorem dX2_hasToldControl_73 : decode cX2_hasToldControl 73 = .ok (.goto 4, 3) := dec_of da_X2_hasToldControl_0 (k := 12) rfl
theorem dX2_hasToldControl_76 : decode cX2_hasToldControl 76 = .ok (.iconst 0, 1) := dec_of da_X2_hasToldControl_0 (k := 13) rfl
theorem dX2_hasToldControl_77 : decode cX2_hasToldControl 77 = .ok (.ireturn, 1) := dec_of da_X2_hasToldControl_0 (k := 14) rfl
theorem dX2_hasToldControl_78 : decode cX2_hasToldControl 78 = .ok (.iload_n 1, 1) := dec_of da_X2_hasToldControl_0 (k := 15) rfl
theorem dX2_hasToldControl_79 : decode cX2_hasToldControl 79 = .ok (.bipush 28, 2) := dec_of da_X2_hasToldControl_0 (k := 16) rfl
theorem dX2_hasToldControl_81 : decode cX2_hasToldControl 81 = .ok (.if_icmp .lt 16, 3) := dec_of da_X2_hasToldControl_0 (k := 17) rfl
theorem dX2_hasToldControl_84 : decode cX2_hasToldControl 84 = .ok (.aload_n 0, 1) := dec_of da_X2_hasToldControl_0 (k := 18) rfl
theorem dX2_hasToldControl_85 : decode cX2_hasToldControl 85 = .ok (.iconst 1, 1) := dec_of da_X2_hasToldControl_0 (k := 19) rfl
theorem dX2_hasToldControl_86 : decode cX2_hasToldControl 86 = .ok (.iaload, 1) := dec_of da_X2_hasToldControl_0 (k := 20) rfl
theorem dX2_hasToldControl_87 : decode cX2_hasToldControl 87 = .ok (.bipush (-9), 2) := dec_of da_X2_hasToldControl_0 (k := 21) rfl
theorem dX2_hasToldControl_89 : decode cX2_hasToldControl 89 = .ok (.iand, 1) := dec_of da_X2_hasToldControl_0 (k := 22) rfl
theorem dX2_hasToldControl_90 : decode cX2_hasToldControl 90 = .ok (.ifCond .ne 7, 3) := dec_of da_X2_hasToldControl_0 (k := 23) rfl
theorem dX2_hasToldControl_93 : decode cX2_hasToldControl 93 = .ok (.iconst 1, 1) := dec_of da_X2_hasToldControl_0 (k := 24) rfl
theorem dX2_hasToldControl_94 : decode cX2_hasToldControl 94 = .ok (.goto 4, 3) := dec_of da_X2_hasToldControl_0 (k := 25) rfl
theorem dX2_hasToldControl_97 : decode cX2_hasToldControl 97 = .ok (.iconst 0, 1) := dec_of da_X2_hasToldControl_0 (k := 26) rfl
theorem dX2_hasToldControl_98 : decode cX2_hasToldControl 98 = .ok (.ireturn, 1) := dec_of da_X2_hasToldControl_0 (k := 27) rfl
theorem dX2_hasToldControl_99 : decode cX2_hasToldControl 99 = .ok (.iload_n 1, 1) := dec_of da_X2_hasToldControl_0 (k := 28) rfl
theorem dX2_hasToldControl_100 : decode cX2_hasToldControl 100 = .ok (.bipush 28, 2) := dec_of da_X2_hasToldControl_0 (k := 29) rfl
theorem dX2_hasToldControl_102 : decode cX2_hasToldControl 102 = .ok (.if_icmp .lt 16, 3) := dec_of da_X2_hasToldControl_0 (k := 30) rfl
theorem dX2_hasToldControl_105 : decode cX2_hasToldControl 105 = .ok (.aload_n 0, 1) := dec_of da_X2_hasToldControl_0 (k := 31) rfl
theorem dX2_hasToldControl_106 : decode cX2_hasToldControl 106 = .ok (.iconst 1, 1) := dec_of da_X2_hasToldControl_0 (k := 32) rfl
theorem dX2_hasToldControl_107 : decode cX2_hasToldControl 107 = .ok (.iaload, 1) := dec_of da_X2_hasToldControl_0 (k := 33) rfl
theorem dX2_hasToldControl_108 : decode cX2_hasToldControl 108 = .ok (.bipush (-80), 2) := dec_of da_X2_hasToldControl_0 (k := 34) rfl
theorem dX2_hasToldControl_110 : decode cX2_hasToldControl 110 = .ok (.iand, 1) := dec_of da_X2_hasToldControl_0 (k := 35) rfl
theorem dX2_hasToldControl_111 : decode cX2_hasToldControl 111 = .ok (.ifCond .ne 7, 3) := dec_of da_X2_hasToldControl_0 (k := 36) rfl
theorem dX2_hasToldControl_114 : decode cX2_hasToldControl 114 = .ok (.iconst 1, 1) := dec_of da_X2_hasToldControl_0 (k := 37) rfl
theorem dX2_hasToldControl_115 : decode cX2_hasToldControl 115 = .ok (.goto 4, 3) := dec_of da_X2_hasToldControl_0 (k := 38) rfl
theorem dX2_hasToldControl_118 : decode cX2_hasToldControl 118 = .ok (.iconst 0, 1) := dec_of da_X2_hasToldControl_0 (k := 39) rfl
theorem dX2_hasToldControl_119 : decode cX2_hasToldControl 119 = .ok (.ireturn, 1) := dec_of da_X2_hasToldControl_0 (k := 40) rfl
theorem dX2_hasToldControl_120 : decode cX2_hasToldControl 120 = .ok (.iconst 0, 1) := dec_of da_X2_hasToldControl_0 (k := 41) rfl
theorem dX2_hasToldControl_121 : decode cX2_hasToldControl 121 = .ok (.ireturn, 1) := dec_of da_X2_hasToldControl_0 (k := 42) rfl
def dl_X2_writeAddress_0 : List (Nat × (Instr × Nat)) := [(0, (.aload_n 0, 1)), (1, (.iload_n 1, 1)), (2, (.iconst 2, 1)), (3, (.iastore, 1)), (4, (.aload_n 0, 1)), (5, (.iload_n 1, 1)), (6, (.iconst 1, 1)), (7, (.iadd, 1)), (8, (.iload_n 1, 1)), (9, (.iconst 5, 1)), (10, (.iadd, 1)), (11, (.iconst 0, 1)), (12, (.invokestatic 26, 3)), (15, (.aload_n 0, 1)), (16, (.iload_n 1, 1)), (17, (.iconst 5, 1)), (18, (.iadd, 1)), (19, (.iload_n 2, 1)), (20, (.iastore, 1)), (21, (.return_, 1))]
set_option maxRecDepth 100000 in
theorem da_X2_writeAddress_0 : dl_X2_writeAddress_0.all (fun q => decide (decode cX2_writeAddress q.1 = .ok q.2)) = true := by decide +kernel
theorem dX2_writeAddress_0 : decode cX2_writeAddress 0 = .ok (.aload_n 0, 1) := dec_of da_X2_writeAddress_0 (k := 0) rfl
theorem dX2_writeAddress_1 : decode cX2_writeAddress 1 = .ok (.iload_n 1, 1) := dec_of da_X2_writeAddress_0 (k := 1) rfl
theorem dX2_writeAddress_2 : decode cX2_writeAddress 2 = .ok (.iconst 2, 1) := dec_of da_X2_writeAddress_0 (k := 2) rfl
theorem dX2_writeAddress_3 : decode cX2_writeAddress 3 = .ok (.iastore, 1) := dec_of da_X2_writeAddress_0 (k := 3) rfl
theorem dX2_writeAddress_4 : decode cX2_writeAddress 4 = .ok (.aload_n 0, 1) := dec_of da_X2_writeAddress_0 (k := 4) rfl
theorem dX2_writeAddress_5 : decode cX2_writeAddress 5 = .ok (.iload_n 1, 1) := dec_of da_X2_writeAddress_0 (k := 5) rfl
theorem dX2_writeAddress_6 : decode cX2_writeAddress 6 = .ok (.iconst 1, 1) := dec_of da_X2_writeAddress_0 (k := 6) rfl
theorem dX2_writeAddress_7 : decode cX2_writeAddress 7 = .ok (.iadd, 1) := dec_of da_X2_writeAddress_0 (k := 7) rfl
theorem dX2_writeAddress_8 : decode cX2_writeAddress 8 = .ok (.iload_n 1, 1) := dec_of da_X2_writeAddress_0 (k := 8) rfl
theorem dX2_writeAddress_9 : decode cX2_writeAddress 9 = .ok (.iconst 5, 1) := dec_of da_X2_writeAddress_0 (k := 9) rfl
theorem dX2_writeAddress_10 : decode cX2_writeAddress 10 = .ok (.iadd, 1) := dec_of da_X2_writeAddress_0 (k := 10) rfl
theorem dX2_writeAddress_11 : decode cX2_writeAddress 11 = .ok (.iconst 0, 1) := dec_of da_X2_writeAddress_0 (k := 11) rfl
theorem dX2_writeAddress_12 : decode cX2_writeAddress 12 = .ok (.invokestatic 26, 3) := dec_of da_X2_writeAddress_0 (k := 12) rfl
theorem dX2_writeAddress_15 : decode cX2_writeAddress 15 = .ok (.aload_n 0, 1) := dec_of da_X2_writeAddress_0 (k := 13) rfl
theorem dX2_writeAddress_16 : decode cX2_writeAddress 16 = .ok (.iload_n 1, 1) := dec_of da_X2_writeAddress_0 (k := 14) rfl
theorem dX2_writeAddress_17 : decode cX2_writeAddress 17 = .ok (.iconst 5, 1) := dec_of da_X2_writeAddress_0 (k := 15) rfl
theorem dX2_writeAddress_18 : decode cX2_writeAddress 18 = .ok (.iadd, 1) := dec_of da_X2_writeAddress_0 (k := 16) rfl
theorem dX2_writeAddress_19 : decode cX2_writeAddress 19 = .ok (.iload_n 2, 1) := dec_of da_X2_writeAddress_0 (k := 17) rfl
theorem dX2_writeAddress_20 : decode cX2_writeAddress 20 = .ok (.iastore, 1) := dec_of da_X2_writeAddress_0 (k := 18) rfl
theorem dX2_writeAddress_21 : decode cX2_writeAddress 21 = .ok (.return_, 1) := dec_of da_X2_writeAddress_0 (k := 19) rfl
def dl_X2_nodeAt_0 : List (Nat × (Instr × Nat)) := [(0, (.iconst 1, 1)), (1, (.istore_n 2, 1)), (2, (.iload_n 2, 1)), (3, (.iconst 5, 1)), (4, (.if_icmp .ge 19, 3)), (7, (.aload_n 0, 1)), (8, (.iload_n 1, 1)), (9, (.iload_n 2, 1)), (10, (.iadd, 1)), (11, (.iaload, 1)), (12, (.ifCond .eq 5, 3)), (15, (.iconst (-1), 1)), (16, (.ireturn, 1)), (17, (.iinc 2 1, 3)), (20, (.goto (-18), 3)), (23, (.aload_n 0, 1)), (24, (.iload_n 1, 1)), (25, (.iaload, 1)), (26, (.iconst 2, 1)), (27, (.if_icmp .ne 22, 3)), (30, (.aload_n 0, 1)), (31, (.iload_n 1, 1)), (32, (.iconst 5, 1)), (33, (.iadd, 1)), (34, (.iaload, 1)), (35, (.invokestatic 32, 3)), (38, (.ifCond .eq 11, 3)), (41, (.aload_n 0, 1)), (42, (.iload_n 1, 1)), (43, (.iconst 5, 1)), (44, (.iadd, 1)), (45, (.iaload, 1)), (46, (.goto 4, 3)), (49, (.iconst (-1), 1)), (50, (.ireturn, 1))]
set_option maxRecDepth 100000 in
theorem da_X2_nodeAt_0 : dl_X2_nodeAt_0.all (fun q => decide (decode cX2_nodeAt q.1 = .ok q.2)) = true := by decide +kernel
theorem dX2_nodeAt_0 : decode cX2_nodeAt 0 = .ok (.iconst 1, 1) := dec_of da_X2_nodeAt_0 (k := 0) rfl
theorem dX2_nodeAt_1 : decode cX2_nodeAt 1 = .ok (.istore_n 2, 1) := dec_of da_X2_nodeAt_0 (k := 1) rfl
theorem dX2_nodeAt_2 : decode cX2_nodeAt 2 = .ok (.iload_n 2, 1) := dec_of da_X2_nodeAt_0 (k := 2) rfl
theorem dX2_nodeAt_3 : decode cX2_nodeAt 3 = .ok (.iconst 5, 1) := dec_of da_X2_nodeAt_0 (k := 3) rfl
theorem dX2_nodeAt_4 : decode cX2_nodeAt 4 = .ok (.if_icmp .ge 19, 3) := dec_of da_X2_nodeAt_0 (k := 4) rfl
theorem dX2_nodeAt_7 : decode cX2_nodeAt 7 = .ok (.aload_n 0, 1) := dec_of da_X2_nodeAt_0 (k := 5) rfl
theorem dX2_nodeAt_8 : decode cX2_nodeAt 8 = .ok (.iload_n 1, 1) := dec_of da_X2_nodeAt_0 (k := 6) rfl
theorem dX2_nodeAt_9 : decode cX2_nodeAt 9 = .ok (.iload_n 2, 1) := dec_of da_X2_nodeAt_0 (k := 7) rfl
theorem dX2_nodeAt_10 : decode cX2_nodeAt 10 = .ok (.iadd, 1) := dec_of da_X2_nodeAt_0 (k := 8) rfl
theorem dX2_nodeAt_11 : decode cX2_nodeAt 11 = .ok (.iaload, 1) := dec_of da_X2_nodeAt_0 (k := 9) rfl
theorem dX2_nodeAt_12 : decode cX2_nodeAt 12 = .ok (.ifCond .eq 5, 3) := dec_of da_X2_nodeAt_0 (k := 10) rfl
theorem dX2_nodeAt_15 : decode cX2_nodeAt 15 = .ok (.iconst (-1), 1) := dec_of da_X2_nodeAt_0 (k := 11) rfl
theorem dX2_nodeAt_16 : decode cX2_nodeAt 16 = .ok (.ireturn, 1) := dec_of da_X2_nodeAt_0 (k := 12) rfl
theorem dX2_nodeAt_17 : decode cX2_nodeAt 17 = .ok (.iinc 2 1, 3) := dec_of da_X2_nodeAt_0 (k := 13) rfl
theorem dX2_nodeAt_20 : decode cX2_nodeAt 20 = .ok (.goto (-18), 3) := dec_of da_X2_nodeAt_0 (k := 14) rfl
theorem dX2_nodeAt_23 : decode cX2_nodeAt 23 = .ok (.aload_n 0, 1) := dec_of da_X2_nodeAt_0 (k := 15) rfl
theorem dX2_nodeAt_24 : decode cX2_nodeAt 24 = .ok (.iload_n 1, 1) := dec_of da_X2_nodeAt_0 (k := 16) rfl
theorem dX2_nodeAt_25 : decode cX2_nodeAt 25 = .ok (.iaload, 1) := dec_of da_X2_nodeAt_0 (k := 17) rfl
theorem dX2_nodeAt_26 : decode cX2_nodeAt 26 = .ok (.iconst 2, 1) := dec_of da_X2_nodeAt_0 (k := 18) rfl
theorem dX2_nodeAt_27 : decode cX2_nodeAt 27 = .ok (.if_icmp .ne 22, 3) := dec_of da_X2_nodeAt_0 (k := 19) rfl
theorem dX2_nodeAt_30 : decode cX2_nodeAt 30 = .ok (.aload_n 0, 1) := dec_of da_X2_nodeAt_0 (k := 20) rfl
theorem dX2_nodeAt_31 : decode cX2_nodeAt 31 = .ok (.iload_n 1, 1) := dec_of da_X2_nodeAt_0 (k := 21) rfl
theorem dX2_nodeAt_32 : decode cX2_nodeAt 32 = .ok (.iconst 5, 1) := dec_of da_X2_nodeAt_0 (k := 22) rfl
theorem dX2_nodeAt_33 : decode cX2_nodeAt 33 = .ok (.iadd, 1) := dec_of da_X2_nodeAt_0 (k := 23) rfl
theorem dX2_nodeAt_34 : decode cX2_nodeAt 34 = .ok (.iaload, 1) := dec_of da_X2_nodeAt_0 (k := 24) rfl
theorem dX2_nodeAt_35 : decode cX2_nodeAt 35 = .ok (.invokestatic 32, 3) := dec_of da_X2_nodeAt_0 (k := 25) rfl
theorem dX2_nodeAt_38 : decode cX2_nodeAt 38 = .ok (.ifCond .eq 11, 3) := dec_of da_X2_nodeAt_0 (k := 26) rfl
theorem dX2_nodeAt_41 : decode cX2_nodeAt 41 = .ok (.aload_n 0, 1) := dec_of da_X2_nodeAt_0 (k := 27) rfl
theorem dX2_nodeAt_42 : decode cX2_nodeAt 42 = .ok (.iload_n 1, 1) := dec_of da_X2_nodeAt_0 (k := 28) rfl
theorem dX2_nodeAt_43 : decode cX2_nodeAt 43 = .ok (.iconst 5, 1) := dec_of da_X2_nodeAt_0 (k := 29) rfl
theorem dX2_nodeAt_44 : decode cX2_nodeAt 44 = .ok (.iadd, 1) := dec_of da_X2_nodeAt_0 (k := 30) rfl
theorem dX2_nodeAt_45 : decode cX2_nodeAt 45 = .ok (.iaload, 1) := dec_of da_X2_nodeAt_0 (k := 31) rfl
theorem dX2_nodeAt_46 : decode cX2_nodeAt 46 = .ok (.goto 4, 3) := dec_of da_X2_nodeAt_0 (k := 32) rfl
theorem dX2_nodeAt_49 : decode cX2_nodeAt 49 = .ok (.iconst (-1), 1) := dec_of da_X2_nodeAt_0 (k := 33) rfl
theorem dX2_nodeAt_50 : decode cX2_nodeAt 50 = .ok (.ireturn, 1) := dec_of da_X2_nodeAt_0 (k := 34) rfl
def dl_X2_writeHeader_0 : List (Nat × (Instr × Nat)) := [(0, (.aload_n 0, 1)), (1, (.iconst 0, 1)), (2, (.aload_n 1, 1)), (3, (.getfield 36, 3)), (6, (.iastore, 1)), (7, (.aload_n 0, 1)), (8, (.iconst 1, 1)), (9, (.aload_n 1, 1)), (10, (.getfield 36, 3)), (13, (.bipush 8, 2)), (15, (.if_icmp .ne 12, 3)), (18, (.aload_n 1, 1)), (19, (.iload_n 2, 1)), (20, (.iload_n 3, 1)), (21, (.invokestatic 42, 3)), (24, (.goto 4, 3)), (27, (.iconst 0, 1)), (28, (.iastore, 1)), (29, (.aload_n 0, 1)), (30, (.iconst 2, 1)), (31, (.iconst 0, 1)), (32, (.iastore, 1)), (33, (.aload_n 0, 1)), (34, (.iconst 3, 1)), (35, (.iconst 0, 1)), (36, (.iastore, 1)), (37, (.aload_n 0, 1)), (38, (.iconst 4, 1)), (39, (.aload_n 1, 1)), (40, (.getfield 46, 3)), (43, (.invokestatic 49, 3)), (46, (.aload_n 0, 1)), (47, (.bipush 10, 2)), (49, (.iload_n 2, 1)), (50, (.invokestatic 49, 3)), (53, (.aload_n 0, 1)), (54, (.bipush 16, 2)), (56, (.aload_n 1, 1)), (57, (.getfield 53, 3)), (60, (.invokestatic 49, 3)), (63, (.iload_n 3, 1)), (64, (.bipush 16, 2)), (66, (.aload_n 1, 1)), (67, (.getfield 56, 3)), (70, (.imul, 1)), (71, (.iadd, 1)), (72, (.istore 4, 2)), (74, (.aload_n 0, 1)), (75, (.bipush 22, 2)), (77, (.iload 4, 2)), (79, (.sipush 255, 3)), (82, (.iand, 1)), (83, (.iastore, 1)), (84, (.aload_n 0, 1)), (85, (.bipush 23, 2)), (87, (.iload 4, 2)), (89, (.bipush 8, 2)), (91, (.ishr, 1)), (92, (.sipush 255, 3)), (95, (.iand, 1))]
set_option maxRecDepth 100000 in
theorem da_X2_writeHeader_0 : dl_X2_writeHeader_0.all (fun q => decide (decode cX2_writeHeader q.1 = .ok q.2)) = true := by decide +kernel
theorem dX2_writeHeader_0 : decode cX2_writeHeader 0 = .ok (.aload_n 0, 1) := dec_of da_X2_writeHeader_0 (k := 0) rfl
theorem dX2_writeHeader_1 : decode cX2_writeHeader 1 = .ok (.iconst 0, 1) := dec_of da_X2_writeHeader_0 (k := 1) rfl
theorem dX2_writeHeader_2 : decode cX2_writeHeader 2 = .ok (.aload_n 1, 1) := dec_of da_X2_writeHeader_0 (k := 2) rfl
theorem dX2_writeHeader_3 : decode cX2_writeHeader 3 = .ok (.getfield 36, 3) := dec_of da_X2_writeHeader_0 (k := 3) rfl
theorem dX2_writeHeader_6 : decode cX2_writeHeader 6 = .ok (.iastore, 1) := dec_of da_X2_writeHeader_0 (k := 4) rfl
theorem dX2_writeHeader_7 : decode cX2_writeHeader 7 = .ok (.aload_n 0, 1) := dec_of da_X2_writeHeader_0 (k := 5) rfl
theorem dX2_writeHeader_8 : decode cX2_writeHeader 8 = .ok (.iconst 1, 1) := dec_of da_X2_writeHeader_0 (k := 6) rfl
theorem dX2_writeHeader_9 : decode cX2_writeHeader 9 = .ok (.aload_n 1, 1) := dec_of da_X2_writeHeader_0 (k := 7) rfl
theorem dX2_writeHeader_10 : decode cX2_writeHeader 10 = .ok (.getfield 36, 3) := dec_of da_X2_writeHeader_0 (k := 8) rfl
theorem dX2_writeHeader_13 : decode cX2_writeHeader 13 = .ok (.bipush 8, 2) := dec_of da_X2_writeHeader_0 (k := 9) rfl
theorem dX2_writeHeader_15 : decode cX2_writeHeader 15 = .ok (.if_icmp .ne 12, 3) := dec_of da_X2_writeHeader_0 (k := 10) rfl
theorem dX2_writeHeader_18 : decode cX2_writeHeader 18 = .ok (.aload_n 1, 1) := dec_of da_X2_writeHeader_0 (k := 11) rfl
theorem dX2_writeHeader_19 : decode cX2_writeHeader 19 = .ok (.iload_n 2, 1) := dec_of da_X2_writeHeader_0 (k := 12) rfl
theorem dX2_writeHeader_20 : decode cX2_writeHeader 20 = .ok (.iload_n 3, 1) := dec_of da_X2_writeHeader_0 (k := 13) rfl
theorem dX2_writeHeader_21 : decode cX2_writeHeader 21 = .ok (.invokestatic 42, 3) := dec_of da_X2_writeHeader_0 (k := 14) rfl
theorem dX2_writeHeader_24 : decode cX2_writeHeader 24 = .ok (.goto 4, 3) := dec_of da_X2_writeHeader_0 (k := 15) rfl
theorem dX2_writeHeader_27 : decode cX2_writeHeader 27 = .ok (.iconst 0, 1) := dec_of da_X2_writeHeader_0 (k := 16) rfl
theorem dX2_writeHeader_28 : decode cX2_writeHeader 28 = .ok (.iastore, 1) := dec_of da_X2_writeHeader_0 (k := 17) rfl
theorem dX2_writeHeader_29 : decode cX2_writeHeader 29 = .ok (.aload_n 0, 1) := dec_of da_X2_writeHeader_0 (k := 18) rfl
theorem dX2_writeHeader_30 : decode cX2_writeHeader 30 = .ok (.iconst 2, 1) := dec_of da_X2_writeHeader_0 (k := 19) rfl
theorem dX2_writeHeader_31 : decode cX2_writeHeader 31 = .ok (.iconst 0, 1) := dec_of da_X2_writeHeader_0 (k := 20) rfl
theorem dX2_writeHeader_32 : decode cX2_writeHeader 32 = .ok (.iastore, 1) := dec_of da_X2_writeHeader_0 (k := 21) rfl
theorem dX2_writeHeader_33 : decode cX2_writeHeader 33 = .ok (.aload_n 0, 1) := dec_of da_X2_writeHeader_0 (k := 22) rfl
theorem dX2_writeHeader_34 : decode cX2_writeHeader 34 = .ok (.iconst 3, 1) := dec_of da_X2_writeHeader_0 (k := 23) rfl
theorem dX2_writeHeader_35 : decode cX2_writeHeader 35 = .ok (.iconst 0, 1) := dec_of da_X2_writeHeader_0 (k := 24) rfl
theorem dX2_writeHeader_36 : decode cX2_writeHeader 36 = .ok (.iastore, 1) := dec_of da_X2_writeHeader_0 (k := 25) rfl
theorem dX2_writeHeader_37 : decode cX2_writeHeader 37 = .ok (.aload_n 0, 1) := dec_of da_X2_writeHeader_0 (k := 26) rfl
theorem dX2_writeHeader_38 : decode cX2_writeHeader 38 = .ok (.iconst 4, 1) := dec_of da_X2_writeHeader_0 (k := 27) rfl
theorem dX2_writeHeader_39 : decode cX2_writeHeader 39 = .ok (.aload_n 1, 1) := dec_of da_X2_writeHeader_0 (k := 28) rfl
theorem dX2_writeHeader_40 : decode cX2_writeHeader 40 = .ok (.getfield 46, 3) := dec_of da_X2_writeHeader_0 (k := 29) rfl
theorem dX2_writeHeader_43 : decode cX2_writeHeader 43 = .ok (.invokestatic 49, 3) := dec_of da_X2_writeHeader_0 (k := 30) rfl
theorem dX2_writeHeader_46 : decode cX2_writeHeader 46 = .ok (.aload_n 0, 1) := dec_of da_X2_writeHeader_0 (k := 31) rfl
theorem dX2_writeHeader_47 : decode cX2_writeHeader 47 = .ok (.bipush 10, 2) := dec_of da_X2_writeHeader_0 (k := 32) rfl
theorem dX2_writeHeader_49 : decode cX2_writeHeader 49 = .ok (.iload_n 2, 1) := dec_of da_X2_writeHeader_0 (k := 33) rfl
theorem dX2_writeHeader_50 : decode cX2_writeHeader 50 = .ok (.invokestatic 49, 3) := dec_of da_X2_writeHeader_0 (k := 34) rfl
theorem dX2_writeHeader_53 : decode cX2_writeHeader 53 = .ok (.aload_n 0, 1) := dec_of da_X2_writeHeader_0 (k := 35) rfl
theorem dX2_writeHeader_54 : decode cX2_writeHeader 54 = .ok (.bipush 16, 2) := dec_of da_X2_writeHeader_0 (k := 36) rfl
theorem dX2_writeHeader_56 : decode cX2_writeHeader 56 = .ok (.aload_n 1, 1) := dec_of da_X2_writeHeader_0 (k := 37) rfl
theorem dX2_writeHeader_57 : decode cX2_writeHeader 57 = .ok (.getfield 53, 3) := dec_of da_X2_writeHeader_0 (k := 38) rfl
theorem dX2_writeHeader_60 : decode cX2_writeHeader 60 = .ok (.invokestatic 49, 3) := dec_of da_X2_writeHeader_0 (k := 39) rfl
theorem dX2_writeHeader_63 : decode cX2_writeHeader 63 = .ok (.iload_n 3, 1) := dec_of da_X2_writeHeader_0 (k := 40) rfl
theorem dX2_writeHeader_64 : decode cX2_writeHeader 64 = .ok (.bipush 16, 2) := dec_of da_X2_writeHeader_0 (k := 41) rfl
theorem dX2_writeHeader_66 : decode cX2_writeHeader 66 = .ok (.aload_n 1, 1) := dec_of da_X2_writeHeader_0 (k := 42) rfl
theorem dX2_writeHeader_67 : decode cX2_writeHeader 67 = .ok (.getfield 56, 3) := dec_of da_X2_writeHeader_0 (k := 43) rfl
theorem dX2_writeHeader_70 : decode cX2_writeHeader 70 = .ok (.imul, 1) := dec_of da_X2_writeHeader_0 (k := 44) rfl
theorem dX2_writeHeader_71 : decode cX2_writeHeader 71 = .ok (.iadd, 1) := dec_of da_X2_writeHeader_0 (k := 45) rfl
theorem dX2_writeHeader_72 : decode cX2_writeHeader 72 = .ok (.istore 4, 2) := dec_of da_X2_writeHeader_0 (k := 46) rfl
theorem dX2_writeHeader_74 : decode cX2_writeHeader 74 = .ok (.aload_n 0, 1) := dec_of da_X2_writeHeader_0 (k := 47) rfl
theorem dX2_writeHeader_75 : decode cX2_writeHeader 75 = .ok (.bipush 22, 2) := dec_of da_X2_writeHeader_0 (k := 48) rfl
theorem dX2_writeHeader_77 : decode cX2_writeHeader 77 = .ok (.iload 4, 2) := dec_of da_X2_writeHeader_0 (k := 49) rfl
theorem dX2_writeHeader_79 : decode cX2_writeHeader 79 = .ok (.sipush 255, 3) := dec_of da_X2_writeHeader_0 (k := 50) rfl
theorem dX2_writeHeader_82 : decode cX2_writeHeader 82 = .ok (.iand, 1) := dec_of da_X2_writeHeader_0 (k := 51) rfl
theorem dX2_writeHeader_83 : decode cX2_writeHeader 83 = .ok (.iastore, 1) := dec_of da_X2_writeHeader_0 (k := 52) rfl
theorem dX2_writeHeader_84 : decode cX2_writeHeader 84 = .ok (.aload_n 0, 1) := dec_of da_X2_writeHeader_0 (k := 53) rfl
theorem dX2_writeHeader_85 : decode cX2_writeHeader 85 = .ok (.bipush 23, 2) := dec_of da_X2_writeHeader_0 (k := 54) rfl
theorem dX2_writeHeader_87 : decode cX2_writeHeader 87 = .ok (.iload 4, 2) := dec_of da_X2_writeHeader_0 (k := 55) rfl
theorem dX2_writeHeader_89 : decode cX2_writeHeader 89 = .ok (.bipush 8, 2) := dec_of da_X2_writeHeader_0 (k := 56) rfl
theorem dX2_writeHeader_91 : decode cX2_writeHeader 91 = .ok (.ishr, 1) := dec_of da_X2_writeHeader_0 (k := 57) rfl
theorem dX2_writeHeader_92 : decode cX2_writeHeader 92 = .ok (.sipush 255, 3) := dec_of da_X2_writeHeader_0 (k := 58) rfl
theorem dX2_writeHeader_95 : decode cX2_writeHeader 95 = .ok (.iand, 1) := dec_of da_X2_writeHeader_0 (k := 59) rfl
def dl_X2_writeHeader_1 : List (Nat × (Instr × Nat)) := [(96, (.iastore, 1)), (97, (.return_, 1))]
set_option maxRecDepth 100000 in
theorem da_X2_writeHeader_1 : dl_X2_writeHeader_1.all (fun q => decide (decode cX2_writeHeader q.1 = .ok q.2)) = true := by decide +kernel
theorem dX2_writeHeader_96 : decode cX2_writeHeader 96 = .ok (.iastore, 1) := dec_of da_X2_writeHeader_1 (k := 0) rfl
theorem dX2_writeHeader_97 : decode cX2_writeHeader 97 = .ok (.return_, 1) := dec_of da_X2_writeHeader_1 (k := 1) rfl
def dl_X2_dataFlags_0 : List (Nat × (Instr × Nat)) := [(0, (.iload_n 2, 1)), (1, (.iconst 1, 1)), (2, (.iadd, 1)), (3, (.aload_n 0, 1)), (4, (.getfield 59, 3)), (7, (.imul, 1)), (8, (.aload_n 0, 1)), (9, (.getfield 62, 3)), (12, (.if_icmp .ge 7, 3)), (15, (.iconst 1, 1)), (16, (.goto 4, 3)), (19, (.iconst 0, 1)), (20, (.istore_n 3, 1)), (21, (.iload_n 1, 1)), (22, (.ifCond .ne 7, 3)), (25, (.iconst 2, 1)), (26, (.goto 4, 3)), (29, (.iconst 1, 1)), (30, (.iload_n 3, 1)), (31, (.ifCond .eq 7, 3)), (34, (.iconst 4, 1)), (35, (.goto 4, 3)), (38, (.iconst 0, 1)), (39, (.ior, 1)), (40, (.aload_n 0, 1)), (41, (.getfield 65, 3)), (44, (.ifCond .eq 8, 3)), (47, (.bipush 64, 2)), (49, (.goto 4, 3)), (52, (.iconst 0, 1)), (53, (.ior, 1)), (54, (.ireturn, 1))]
set_option maxRecDepth 100000 in
theorem da_X2_dataFlags_0 : dl_X2_dataFlags_0.all (fun q => decide (decode cX2_dataFlags q.1 = .ok q.2)) = true := by decide +kernel
theorem dX2_dataFlags_0 : decode cX2_dataFlags 0 = .ok (.iload_n 2, 1) := dec_of da_X2_dataFlags_0 (k := 0) rfl
theorem dX2_dataFlags_1 : decode cX2_dataFlags 1 = .ok (.iconst 1, 1) := dec_of da_X2_dataFlags_0 (k := 1) rfl
theorem dX2_dataFlags_2 : decode cX2_dataFlags 2 = .ok (.iadd, 1) := dec_of da_X2_dataFlags_0 (k := 2) rfl
theorem dX2_dataFlags_3 : decode cX2_dataFlags 3 = .ok (.aload_n 0, 1) := dec_of da_X2_dataFlags_0 (k := 3) rfl
theorem dX2_dataFlags_4 : decode cX2_dataFlags 4 = .ok (.getfield 59, 3) := dec_of da_X2_dataFlags_0 (k := 4) rfl
theorem dX2_dataFlags_7 : decode cX2_dataFlags 7 = .ok (.imul, 1) := dec_of da_X2_dataFlags_0 (k := 5) rfl
theorem dX2_dataFlags_8 : decode cX2_dataFlags 8 = .ok (.aload_n 0, 1) := dec_of da_X2_dataFlags_0 (k := 6) rfl
theorem dX2_dataFlags_9 : decode cX2_dataFlags 9 = .ok (.getfield 62, 3) := dec_of da_X2_dataFlags_0 (k := 7) rfl
theorem dX2_dataFlags_12 : decode cX2_dataFlags 12 = .ok (.if_icmp .ge 7, 3) := dec_of da_X2_dataFlags_0 (k := 8) rfl
theorem dX2_dataFlags_15 : decode cX2_dataFlags 15 = .ok (.iconst 1, 1) := dec_of da_X2_dataFlags_0 (k := 9) rfl
theorem dX2_dataFlags_16 : decode cX2_dataFlags 16 = .ok (.goto 4, 3) := dec_of da_X2_dataFlags_0 (k := 10) rfl
theorem dX2_dataFlags_19 : decode cX2_dataFlags 19 = .ok (.iconst 0, 1) := dec_of da_X2_dataFlags_0 (k := 11) rfl
theorem dX2_dataFlags_20 : decode cX2_dataFlags 20 = .ok (.istore_n 3, 1) := dec_of da_X2_dataFlags_0 (k := 12) rfl
theorem dX2_dataFlags_21 : decode cX2_dataFlags 21 = .ok (.iload_n 1, 1) := dec_of da_X2_dataFlags_0 (k := 13) rfl
theorem dX2_dataFlags_22 : decode cX2_dataFlags 22 = .ok (.ifCond .ne 7, 3) := dec_of da_X2_dataFlags_0 (k := 14) rfl
theorem dX2_dataFlags_25 : decode cX2_dataFlags 25 = .ok (.iconst 2, 1) := dec_of da_X2_dataFlags_0 (k := 15) rfl
theorem dX2_dataFlags_26 : decode cX2_dataFlags 26 = .ok (.goto 4, 3) := dec_of da_X2_dataFlags_0 (k := 16) rfl
theorem dX2_dataFlags_29 : decode cX2_dataFlags 29 = .ok (.iconst 1, 1) := dec_of da_X2_dataFlags_0 (k := 17) rfl
theorem dX2_dataFlags_30 : decode cX2_dataFlags 30 = .ok (.iload_n 3, 1) := dec_of da_X2_dataFlags_0 (k := 18) rfl
theorem dX2_dataFlags_31 : decode cX2_dataFlags 31 = .ok (.ifCond .eq 7, 3) := dec_of da_X2_dataFlags_0 (k := 19) rfl
theorem dX2_dataFlags_34 : decode cX2_dataFlags 34 = .ok (.iconst 4, 1) := dec_of da_X2_dataFlags_0 (k := 20) rfl
theorem dX2_dataFlags_35 : decode cX2_dataFlags 35 = .ok (.goto 4, 3) := dec_of da_X2_dataFlags_0 (k := 21) rfl
theorem dX2_dataFlags_38 : decode cX2_dataFlags 38 = .ok (.iconst 0, 1) := dec_of da_X2_dataFlags_0 (k := 22) rfl
theorem dX2_dataFlags_39 : decode cX2_dataFlags 39 = .ok (.ior, 1) := dec_of da_X2_dataFlags_0 (k := 23) rfl
theorem dX2_dataFlags_40 : decode cX2_dataFlags 40 = .ok (.aload_n 0, 1) := dec_of da_X2_dataFlags_0 (k := 24) rfl
theorem dX2_dataFlags_41 : decode cX2_dataFlags 41 = .ok (.getfield 65, 3) := dec_of da_X2_dataFlags_0 (k := 25) rfl
theorem dX2_dataFlags_44 : decode cX2_dataFlags 44 = .ok (.ifCond .eq 8, 3) := dec_of da_X2_dataFlags_0 (k := 26) rfl
theorem dX2_dataFlags_47 : decode cX2_dataFlags 47 = .ok (.bipush 64, 2) := dec_of da_X2_dataFlags_0 (k := 27) rfl
theorem dX2_dataFlags_49 : decode cX2_dataFlags 49 = .ok (.goto 4, 3) := dec_of da_X2_dataFlags_0 (k := 28) rfl
theorem dX2_dataFlags_52 : decode cX2_dataFlags 52 = .ok (.iconst 0, 1) := dec_of da_X2_dataFlags_0 (k := 29) rfl
theorem dX2_dataFlags_53 : decode cX2_dataFlags 53 = .ok (.ior, 1) := dec_of da_X2_dataFlags_0 (k := 30) rfl
theorem dX2_dataFlags_54 : decode cX2_dataFlags 54 = .ok (.ireturn, 1) := dec_of da_X2_dataFlags_0 (k := 31) rfl
def dl_X2_writeSealHeader_0 : List (Nat × (Instr × Nat)) := [(0, (.aload_n 0, 1)), (1, (.bipush 24, 2)), (3, (.lload_n 1, 1)), (4, (.l2i, 1)), (5, (.sipush 255, 3)), (8, (.iand, 1)), (9, (.iastore, 1)), (10, (.aload_n 0, 1)), (11, (.bipush 25, 2)), (13, (.lload_n 1, 1)), (14, (.bipush 8, 2)), (16, (.lshr, 1)), (17, (.l2i, 1)), (18, (.sipush 255, 3)), (21, (.iand, 1)), (22, (.iastore, 1)), (23, (.aload_n 0, 1)), (24, (.bipush 26, 2)), (26, (.iconst 0, 1)), (27, (.iastore, 1)), (28, (.aload_n 0, 1)), (29, (.bipush 27, 2)), (31, (.bipush 32, 2)), (33, (.iastore, 1)), (34, (.iconst 2, 1)), (35, (.istore_n 3, 1)), (36, (.iload_n 3, 1)), (37, (.bipush 6, 2)), (39, (.if_icmp .ge 26, 3)), (42, (.aload_n 0, 1)), (43, (.bipush 26, 2)), (45, (.iload_n 3, 1)), (46, (.iadd, 1)), (47, (.lload_n 1, 1)), (48, (.bipush 8, 2)), (50, (.iload_n 3, 1)), (51, (.imul, 1)), (52, (.lshr, 1)), (53, (.l2i, 1)), (54, (.sipush 255, 3)), (57, (.iand, 1)), (58, (.iastore, 1)), (59, (.iinc 3 1, 3)), (62, (.goto (-26), 3)), (65, (.return_, 1))]
set_option maxRecDepth 100000 in
theorem da_X2_writeSealHeader_0 : dl_X2_writeSealHeader_0.all (fun q => decide (decode cX2_writeSealHeader q.1 = .ok q.2)) = true := by decide +kernel
theorem dX2_writeSealHeader_0 : decode cX2_writeSealHeader 0 = .ok (.aload_n 0, 1) := dec_of da_X2_writeSealHeader_0 (k := 0) rfl
theorem dX2_writeSealHeader_1 : decode cX2_writeSealHeader 1 = .ok (.bipush 24, 2) := dec_of da_X2_writeSealHeader_0 (k := 1) rfl
theorem dX2_writeSealHeader_3 : decode cX2_writeSealHeader 3 = .ok (.lload_n 1, 1) := dec_of da_X2_writeSealHeader_0 (k := 2) rfl
theorem dX2_writeSealHeader_4 : decode cX2_writeSealHeader 4 = .ok (.l2i, 1) := dec_of da_X2_writeSealHeader_0 (k := 3) rfl
theorem dX2_writeSealHeader_5 : decode cX2_writeSealHeader 5 = .ok (.sipush 255, 3) := dec_of da_X2_writeSealHeader_0 (k := 4) rfl
theorem dX2_writeSealHeader_8 : decode cX2_writeSealHeader 8 = .ok (.iand, 1) := dec_of da_X2_writeSealHeader_0 (k := 5) rfl
theorem dX2_writeSealHeader_9 : decode cX2_writeSealHeader 9 = .ok (.iastore, 1) := dec_of da_X2_writeSealHeader_0 (k := 6) rfl
theorem dX2_writeSealHeader_10 : decode cX2_writeSealHeader 10 = .ok (.aload_n 0, 1) := dec_of da_X2_writeSealHeader_0 (k := 7) rfl
theorem dX2_writeSealHeader_11 : decode cX2_writeSealHeader 11 = .ok (.bipush 25, 2) := dec_of da_X2_writeSealHeader_0 (k := 8) rfl
theorem dX2_writeSealHeader_13 : decode cX2_writeSealHeader 13 = .ok (.lload_n 1, 1) := dec_of da_X2_writeSealHeader_0 (k := 9) rfl
theorem dX2_writeSealHeader_14 : decode cX2_writeSealHeader 14 = .ok (.bipush 8, 2) := dec_of da_X2_writeSealHeader_0 (k := 10) rfl
theorem dX2_writeSealHeader_16 : decode cX2_writeSealHeader 16 = .ok (.lshr, 1) := dec_of da_X2_writeSealHeader_0 (k := 11) rfl
theorem dX2_writeSealHeader_17 : decode cX2_writeSealHeader 17 = .ok (.l2i, 1) := dec_of da_X2_writeSealHeader_0 (k := 12) rfl
theorem dX2_writeSealHeader_18 : decode cX2_writeSealHeader 18 = .ok (.sipush 255, 3) := dec_of da_X2_writeSealHeader_0 (k := 13) rfl
theorem dX2_writeSealHeader_21 : decode cX2_writeSealHeader 21 = .ok (.iand, 1) := dec_of da_X2_writeSealHeader_0 (k := 14) rfl
theorem dX2_writeSealHeader_22 : decode cX2_writeSealHeader 22 = .ok (.iastore, 1) := dec_of da_X2_writeSealHeader_0 (k := 15) rfl
theorem dX2_writeSealHeader_23 : decode cX2_writeSealHeader 23 = .ok (.aload_n 0, 1) := dec_of da_X2_writeSealHeader_0 (k := 16) rfl
theorem dX2_writeSealHeader_24 : decode cX2_writeSealHeader 24 = .ok (.bipush 26, 2) := dec_of da_X2_writeSealHeader_0 (k := 17) rfl
theorem dX2_writeSealHeader_26 : decode cX2_writeSealHeader 26 = .ok (.iconst 0, 1) := dec_of da_X2_writeSealHeader_0 (k := 18) rfl
theorem dX2_writeSealHeader_27 : decode cX2_writeSealHeader 27 = .ok (.iastore, 1) := dec_of da_X2_writeSealHeader_0 (k := 19) rfl
theorem dX2_writeSealHeader_28 : decode cX2_writeSealHeader 28 = .ok (.aload_n 0, 1) := dec_of da_X2_writeSealHeader_0 (k := 20) rfl
theorem dX2_writeSealHeader_29 : decode cX2_writeSealHeader 29 = .ok (.bipush 27, 2) := dec_of da_X2_writeSealHeader_0 (k := 21) rfl
theorem dX2_writeSealHeader_31 : decode cX2_writeSealHeader 31 = .ok (.bipush 32, 2) := dec_of da_X2_writeSealHeader_0 (k := 22) rfl
theorem dX2_writeSealHeader_33 : decode cX2_writeSealHeader 33 = .ok (.iastore, 1) := dec_of da_X2_writeSealHeader_0 (k := 23) rfl
theorem dX2_writeSealHeader_34 : decode cX2_writeSealHeader 34 = .ok (.iconst 2, 1) := dec_of da_X2_writeSealHeader_0 (k := 24) rfl
theorem dX2_writeSealHeader_35 : decode cX2_writeSealHeader 35 = .ok (.istore_n 3, 1) := dec_of da_X2_writeSealHeader_0 (k := 25) rfl
theorem dX2_writeSealHeader_36 : decode cX2_writeSealHeader 36 = .ok (.iload_n 3, 1) := dec_of da_X2_writeSealHeader_0 (k := 26) rfl
theorem dX2_writeSealHeader_37 : decode cX2_writeSealHeader 37 = .ok (.bipush 6, 2) := dec_of da_X2_writeSealHeader_0 (k := 27) rfl
theorem dX2_writeSealHeader_39 : decode cX2_writeSealHeader 39 = .ok (.if_icmp .ge 26, 3) := dec_of da_X2_writeSealHeader_0 (k := 28) rfl
theorem dX2_writeSealHeader_42 : decode cX2_writeSealHeader 42 = .ok (.aload_n 0, 1) := dec_of da_X2_writeSealHeader_0 (k := 29) rfl
theorem dX2_writeSealHeader_43 : decode cX2_writeSealHeader 43 = .ok (.bipush 26, 2) := dec_of da_X2_writeSealHeader_0 (k := 30) rfl
theorem dX2_writeSealHeader_45 : decode cX2_writeSealHeader 45 = .ok (.iload_n 3, 1) := dec_of da_X2_writeSealHeader_0 (k := 31) rfl
theorem dX2_writeSealHeader_46 : decode cX2_writeSealHeader 46 = .ok (.iadd, 1) := dec_of da_X2_writeSealHeader_0 (k := 32) rfl
theorem dX2_writeSealHeader_47 : decode cX2_writeSealHeader 47 = .ok (.lload_n 1, 1) := dec_of da_X2_writeSealHeader_0 (k := 33) rfl
theorem dX2_writeSealHeader_48 : decode cX2_writeSealHeader 48 = .ok (.bipush 8, 2) := dec_of da_X2_writeSealHeader_0 (k := 34) rfl
theorem dX2_writeSealHeader_50 : decode cX2_writeSealHeader 50 = .ok (.iload_n 3, 1) := dec_of da_X2_writeSealHeader_0 (k := 35) rfl
theorem dX2_writeSealHeader_51 : decode cX2_writeSealHeader 51 = .ok (.imul, 1) := dec_of da_X2_writeSealHeader_0 (k := 36) rfl
theorem dX2_writeSealHeader_52 : decode cX2_writeSealHeader 52 = .ok (.lshr, 1) := dec_of da_X2_writeSealHeader_0 (k := 37) rfl
theorem dX2_writeSealHeader_53 : decode cX2_writeSealHeader 53 = .ok (.l2i, 1) := dec_of da_X2_writeSealHeader_0 (k := 38) rfl
theorem dX2_writeSealHeader_54 : decode cX2_writeSealHeader 54 = .ok (.sipush 255, 3) := dec_of da_X2_writeSealHeader_0 (k := 39) rfl
theorem dX2_writeSealHeader_57 : decode cX2_writeSealHeader 57 = .ok (.iand, 1) := dec_of da_X2_writeSealHeader_0 (k := 40) rfl
theorem dX2_writeSealHeader_58 : decode cX2_writeSealHeader 58 = .ok (.iastore, 1) := dec_of da_X2_writeSealHeader_0 (k := 41) rfl
theorem dX2_writeSealHeader_59 : decode cX2_writeSealHeader 59 = .ok (.iinc 3 1, 3) := dec_of da_X2_writeSealHeader_0 (k := 42) rfl
theorem dX2_writeSealHeader_62 : decode cX2_writeSealHeader 62 = .ok (.goto (-26), 3) := dec_of da_X2_writeSealHeader_0 (k := 43) rfl
theorem dX2_writeSealHeader_65 : decode cX2_writeSealHeader 65 = .ok (.return_, 1) := dec_of da_X2_writeSealHeader_0 (k := 44) rfl
def dl_X2_sealNumber_0 : List (Nat × (Instr × Nat)) := [(0, (.lconst 0, 1)), (1, (.lstore_n 1, 1)), (2, (.iconst 5, 1)), (3, (.istore_n 3, 1)), (4, (.iload_n 3, 1)), (5, (.iconst 2, 1)), (6, (.if_icmp .lt 23, 3)), (9, (.ldc2_w 69, 3)), (12, (.lload_n 1, 1)), (13, (.lmul, 1)), (14, (.aload_n 0, 1)), (15, (.bipush 26, 2)), (17, (.iload_n 3, 1)), (18, (.iadd, 1)), (19, (.iaload, 1)), (20, (.i2l, 1)), (21, (.ladd, 1)), (22, (.lstore_n 1, 1)), (23, (.iinc 3 (-1), 3)), (26, (.goto (-22), 3)), (29, (.ldc2_w 71, 3)), (32, (.lload_n 1, 1)), (33, (.lmul, 1)), (34, (.sipush 256, 3)), (37, (.aload_n 0, 1)), (38, (.bipush 25, 2)), (40, (.iaload, 1)), (41, (.imul, 1)), (42, (.i2l, 1)), (43, (.ladd, 1)), (44, (.aload_n 0, 1)), (45, (.bipush 24, 2)), (47, (.iaload, 1)), (48, (.i2l, 1)), (49, (.ladd, 1)), (50, (.lreturn, 1))]
set_option maxRecDepth 100000 in
theorem da_X2_sealNumber_0 : dl_X2_sealNumber_0.all (fun q => decide (decode cX2_sealNumber q.1 = .ok q.2)) = true := by decide +kernel
theorem dX2_sealNumber_0 : decode cX2_sealNumber 0 = .ok (.lconst 0, 1) := dec_of da_X2_sealNumber_0 (k := 0) rfl
theorem dX2_sealNumber_1 : decode cX2_sealNumber 1 = .ok (.lstore_n 1, 1) := dec_of da_X2_sealNumber_0 (k := 1) rfl
theorem dX2_sealNumber_2 : decode cX2_sealNumber 2 = .ok (.iconst 5, 1) := dec_of da_X2_sealNumber_0 (k := 2) rfl
theorem dX2_sealNumber_3 : decode cX2_sealNumber 3 = .ok (.istore_n 3, 1) := dec_of da_X2_sealNumber_0 (k := 3) rfl
theorem dX2_sealNumber_4 : decode cX2_sealNumber 4 = .ok (.iload_n 3, 1) := dec_of da_X2_sealNumber_0 (k := 4) rfl
theorem dX2_sealNumber_5 : decode cX2_sealNumber 5 = .ok (.iconst 2, 1) := dec_of da_X2_sealNumber_0 (k := 5) rfl
theorem dX2_sealNumber_6 : decode cX2_sealNumber 6 = .ok (.if_icmp .lt 23, 3) := dec_of da_X2_sealNumber_0 (k := 6) rfl
theorem dX2_sealNumber_9 : decode cX2_sealNumber 9 = .ok (.ldc2_w 69, 3) := dec_of da_X2_sealNumber_0 (k := 7) rfl
theorem dX2_sealNumber_12 : decode cX2_sealNumber 12 = .ok (.lload_n 1, 1) := dec_of da_X2_sealNumber_0 (k := 8) rfl
theorem dX2_sealNumber_13 : decode cX2_sealNumber 13 = .ok (.lmul, 1) := dec_of da_X2_sealNumber_0 (k := 9) rfl
theorem dX2_sealNumber_14 : decode cX2_sealNumber 14 = .ok (.aload_n 0, 1) := dec_of da_X2_sealNumber_0 (k := 10) rfl
theorem dX2_sealNumber_15 : decode cX2_sealNumber 15 = .ok (.bipush 26, 2) := dec_of da_X2_sealNumber_0 (k := 11) rfl
theorem dX2_sealNumber_17 : decode cX2_sealNumber 17 = .ok (.iload_n 3, 1) := dec_of da_X2_sealNumber_0 (k := 12) rfl
theorem dX2_sealNumber_18 : decode cX2_sealNumber 18 = .ok (.iadd, 1) := dec_of da_X2_sealNumber_0 (k := 13) rfl
theorem dX2_sealNumber_19 : decode cX2_sealNumber 19 = .ok (.iaload, 1) := dec_of da_X2_sealNumber_0 (k := 14) rfl
theorem dX2_sealNumber_20 : decode cX2_sealNumber 20 = .ok (.i2l, 1) := dec_of da_X2_sealNumber_0 (k := 15) rfl
theorem dX2_sealNumber_21 : decode cX2_sealNumber 21 = .ok (.ladd, 1) := dec_of da_X2_sealNumber_0 (k := 16) rfl
theorem dX2_sealNumber_22 : decode cX2_sealNumber 22 = .ok (.lstore_n 1, 1) := dec_of da_X2_sealNumber_0 (k := 17) rfl
theorem dX2_sealNumber_23 : decode cX2_sealNumber 23 = .ok (.iinc 3 (-1), 3) := dec_of da_X2_sealNumber_0 (k := 18) rfl
theorem dX2_sealNumber_26 : decode cX2_sealNumber 26 = .ok (.goto (-22), 3) := dec_of da_X2_sealNumber_0 (k := 19) rfl
theorem dX2_sealNumber_29 : decode cX2_sealNumber 29 = .ok (.ldc2_w 71, 3) := dec_of da_X2_sealNumber_0 (k := 20) rfl
theorem dX2_sealNumber_32 : decode cX2_sealNumber 32 = .ok (.lload_n 1, 1) := dec_of da_X2_sealNumber_0 (k := 21) rfl
theorem dX2_sealNumber_33 : decode cX2_sealNumber 33 = .ok (.lmul, 1) := dec_of da_X2_sealNumber_0 (k := 22) rfl
theorem dX2_sealNumber_34 : decode cX2_sealNumber 34 = .ok (.sipush 256, 3) := dec_of da_X2_sealNumber_0 (k := 23) rfl
theorem dX2_sealNumber_37 : decode cX2_sealNumber 37 = .ok (.aload_n 0, 1) := dec_of da_X2_sealNumber_0 (k := 24) rfl
theorem dX2_sealNumber_38 : decode cX2_sealNumber 38 = .ok (.bipush 25, 2) := dec_of da_X2_sealNumber_0 (k := 25) rfl
theorem dX2_sealNumber_40 : decode cX2_sealNumber 40 = .ok (.iaload, 1) := dec_of da_X2_sealNumber_0 (k := 26) rfl
theorem dX2_sealNumber_41 : decode cX2_sealNumber 41 = .ok (.imul, 1) := dec_of da_X2_sealNumber_0 (k := 27) rfl
theorem dX2_sealNumber_42 : decode cX2_sealNumber 42 = .ok (.i2l, 1) := dec_of da_X2_sealNumber_0 (k := 28) rfl
theorem dX2_sealNumber_43 : decode cX2_sealNumber 43 = .ok (.ladd, 1) := dec_of da_X2_sealNumber_0 (k := 29) rfl
theorem dX2_sealNumber_44 : decode cX2_sealNumber 44 = .ok (.aload_n 0, 1) := dec_of da_X2_sealNumber_0 (k := 30) rfl
theorem dX2_sealNumber_45 : decode cX2_sealNumber 45 = .ok (.bipush 24, 2) := dec_of da_X2_sealNumber_0 (k := 31) rfl
theorem dX2_sealNumber_47 : decode cX2_sealNumber 47 = .ok (.iaload, 1) := dec_of da_X2_sealNumber_0 (k := 32) rfl
theorem dX2_sealNumber_48 : decode cX2_sealNumber 48 = .ok (.i2l, 1) := dec_of da_X2_sealNumber_0 (k := 33) rfl
theorem dX2_sealNumber_49 : decode cX2_sealNumber 49 = .ok (.ladd, 1) := dec_of da_X2_sealNumber_0 (k := 34) rfl
theorem dX2_sealNumber_50 : decode cX2_sealNumber 50 = .ok (.lreturn, 1) := dec_of da_X2_sealNumber_0 (k := 35) rfl
def dl_X2_writeBody_0 : List (Nat × (Instr × Nat)) := [(0, (.aload_n 0, 1)), (1, (.iconst 0, 1)), (2, (.bipush 6, 2)), (4, (.iconst 0, 1)), (5, (.invokestatic 26, 3)), (8, (.iload_n 1, 1)), (9, (.lookupswitch 70 #[(0, 42), (16, 53), (176, 35)], 35)), (44, (.aload_n 0, 1)), (45, (.iconst 2, 1)), (46, (.iload_n 2, 1)), (47, (.iastore, 1)), (48, (.bipush 6, 2)), (50, (.ireturn, 1)), (51, (.aload_n 0, 1)), (52, (.iconst 0, 1)), (53, (.iconst 1, 1)), (54, (.iastore, 1)), (55, (.aload_n 0, 1)), (56, (.iconst 2, 1)), (57, (.bipush 10, 2)), (59, (.iastore, 1)), (60, (.iconst 4, 1)), (61, (.ireturn, 1)), (62, (.aload_n 0, 1)), (63, (.iconst 0, 1)), (64, (.iconst 1, 1)), (65, (.iastore, 1)), (66, (.aload_n 0, 1)), (67, (.iconst 4, 1)), (68, (.iload_n 2, 1)), (69, (.iastore, 1)), (70, (.aload_n 0, 1)), (71, (.iconst 5, 1)), (72, (.sipush 192, 3)), (75, (.iastore, 1)), (76, (.bipush 6, 2)), (78, (.ireturn, 1)), (79, (.aload_n 0, 1)), (80, (.iconst 0, 1)), (81, (.iload_n 2, 1)), (82, (.iastore, 1)), (83, (.iconst 2, 1)), (84, (.ireturn, 1))]
set_option maxRecDepth 100000 in
theorem da_X2_writeBody_0 : dl_X2_writeBody_0.all (fun q => decide (decode cX2_writeBody q.1 = .ok q.2)) = true := by decide +kernel
theorem dX2_writeBody_0 : decode cX2_writeBody 0 = .ok (.aload_n 0, 1) := dec_of da_X2_writeBody_0 (k := 0) rfl
theorem dX2_writeBody_1 : decode cX2_writeBody 1 = .ok (.iconst 0, 1) := dec_of da_X2_writeBody_0 (k := 1) rfl
theorem dX2_writeBody_2 : decode cX2_writeBody 2 = .ok (.bipush 6, 2) := dec_of da_X2_writeBody_0 (k := 2) rfl
theorem dX2_writeBody_4 : decode cX2_writeBody 4 = .ok (.iconst 0, 1) := dec_of da_X2_writeBody_0 (k := 3) rfl
theorem dX2_writeBody_5 : decode cX2_writeBody 5 = .ok (.invokestatic 26, 3) := dec_of da_X2_writeBody_0 (k := 4) rfl
theorem dX2_writeBody_8 : decode cX2_writeBody 8 = .ok (.iload_n 1, 1) := dec_of da_X2_writeBody_0 (k := 5) rfl
theorem dX2_writeBody_9 : decode cX2_writeBody 9 = .ok (.lookupswitch 70 #[(0, 42), (16, 53), (176, 35)], 35) := dec_of da_X2_writeBody_0 (k := 6) rfl
theorem dX2_writeBody_44 : decode cX2_writeBody 44 = .ok (.aload_n 0, 1) := dec_of da_X2_writeBody_0 (k := 7) rfl
theorem dX2_writeBody_45 : decode cX2_writeBody 45 = .ok (.iconst 2, 1) := dec_of da_X2_writeBody_0 (k := 8) rfl
theorem dX2_writeBody_46 : decode cX2_writeBody 46 = .ok (.iload_n 2, 1) := dec_of da_X2_writeBody_0 (k := 9) rfl
theorem dX2_writeBody_47 : decode cX2_writeBody 47 = .ok (.iastore, 1) := dec_of da_X2_writeBody_0 (k := 10) rfl
theorem dX2_writeBody_48 : decode cX2_writeBody 48 = .ok (.bipush 6, 2) := dec_of da_X2_writeBody_0 (k := 11) rfl
theorem dX2_writeBody_50 : decode cX2_writeBody 50 = .ok (.ireturn, 1) := dec_of da_X2_writeBody_0 (k := 12) rfl
theorem dX2_writeBody_51 : decode cX2_writeBody 51 = .ok (.aload_n 0, 1) := dec_of da_X2_writeBody_0 (k := 13) rfl
theorem dX2_writeBody_52 : decode cX2_writeBody 52 = .ok (.iconst 0, 1) := dec_of da_X2_writeBody_0 (k := 14) rfl
theorem dX2_writeBody_53 : decode cX2_writeBody 53 = .ok (.iconst 1, 1) := dec_of da_X2_writeBody_0 (k := 15) rfl
theorem dX2_writeBody_54 : decode cX2_writeBody 54 = .ok (.iastore, 1) := dec_of da_X2_writeBody_0 (k := 16) rfl
theorem dX2_writeBody_55 : decode cX2_writeBody 55 = .ok (.aload_n 0, 1) := dec_of da_X2_writeBody_0 (k := 17) rfl
theorem dX2_writeBody_56 : decode cX2_writeBody 56 = .ok (.iconst 2, 1) := dec_of da_X2_writeBody_0 (k := 18) rfl
theorem dX2_writeBody_57 : decode cX2_writeBody 57 = .ok (.bipush 10, 2) := dec_of da_X2_writeBody_0 (k := 19) rfl
theorem dX2_writeBody_59 : decode cX2_writeBody 59 = .ok (.iastore, 1) := dec_of da_X2_writeBody_0 (k := 20) rfl
theorem dX2_writeBody_60 : decode cX2_writeBody 60 = .ok (.iconst 4, 1) := dec_of da_X2_writeBody_0 (k := 21) rfl
theorem dX2_writeBody_61 : decode cX2_writeBody 61 = .ok (.ireturn, 1) := dec_of da_X2_writeBody_0 (k := 22) rfl
theorem dX2_writeBody_62 : decode cX2_writeBody 62 = .ok (.aload_n 0, 1) := dec_of da_X2_writeBody_0 (k := 23) rfl
theorem dX2_writeBody_63 : decode cX2_writeBody 63 = .ok (.iconst 0, 1) := dec_of da_X2_writeBody_0 (k := 24) rfl
theorem dX2_writeBody_64 : decode cX2_writeBody 64 = .ok (.iconst 1, 1) := dec_of da_X2_writeBody_0 (k := 25) rfl
theorem dX2_writeBody_65 : decode cX2_writeBody 65 = .ok (.iastore, 1) := dec_of da_X2_writeBody_0 (k := 26) rfl
theorem dX2_writeBody_66 : decode cX2_writeBody 66 = .ok (.aload_n 0, 1) := dec_of da_X2_writeBody_0 (k := 27) rfl
theorem dX2_writeBody_67 : decode cX2_writeBody 67 = .ok (.iconst 4, 1) := dec_of da_X2_writeBody_0 (k := 28) rfl
theorem dX2_writeBody_68 : decode cX2_writeBody 68 = .ok (.iload_n 2, 1) := dec_of da_X2_writeBody_0 (k := 29) rfl
theorem dX2_writeBody_69 : decode cX2_writeBody 69 = .ok (.iastore, 1) := dec_of da_X2_writeBody_0 (k := 30) rfl
theorem dX2_writeBody_70 : decode cX2_writeBody 70 = .ok (.aload_n 0, 1) := dec_of da_X2_writeBody_0 (k := 31) rfl
theorem dX2_writeBody_71 : decode cX2_writeBody 71 = .ok (.iconst 5, 1) := dec_of da_X2_writeBody_0 (k := 32) rfl
theorem dX2_writeBody_72 : decode cX2_writeBody 72 = .ok (.sipush 192, 3) := dec_of da_X2_writeBody_0 (k := 33) rfl
theorem dX2_writeBody_75 : decode cX2_writeBody 75 = .ok (.iastore, 1) := dec_of da_X2_writeBody_0 (k := 34) rfl
theorem dX2_writeBody_76 : decode cX2_writeBody 76 = .ok (.bipush 6, 2) := dec_of da_X2_writeBody_0 (k := 35) rfl
theorem dX2_writeBody_78 : decode cX2_writeBody 78 = .ok (.ireturn, 1) := dec_of da_X2_writeBody_0 (k := 36) rfl
theorem dX2_writeBody_79 : decode cX2_writeBody 79 = .ok (.aload_n 0, 1) := dec_of da_X2_writeBody_0 (k := 37) rfl
theorem dX2_writeBody_80 : decode cX2_writeBody 80 = .ok (.iconst 0, 1) := dec_of da_X2_writeBody_0 (k := 38) rfl
theorem dX2_writeBody_81 : decode cX2_writeBody 81 = .ok (.iload_n 2, 1) := dec_of da_X2_writeBody_0 (k := 39) rfl
theorem dX2_writeBody_82 : decode cX2_writeBody 82 = .ok (.iastore, 1) := dec_of da_X2_writeBody_0 (k := 40) rfl
theorem dX2_writeBody_83 : decode cX2_writeBody 83 = .ok (.iconst 2, 1) := dec_of da_X2_writeBody_0 (k := 41) rfl
theorem dX2_writeBody_84 : decode cX2_writeBody 84 = .ok (.ireturn, 1) := dec_of da_X2_writeBody_0 (k := 42) rfl
def dl_X2_writeHead_0 : List (Nat × (Instr × Nat)) := [(0, (.getstatic 73, 3)), (3, (.iconst 0, 1)), (4, (.aload_n 0, 1)), (5, (.iconst 0, 1)), (6, (.getstatic 73, 3)), (9, (.arraylength, 1)), (10, (.invokestatic 76, 3)), (13, (.aload_n 0, 1)), (14, (.bipush 6, 2)), (16, (.iload_n 1, 1)), (17, (.iastore, 1)), (18, (.aload_n 0, 1)), (19, (.bipush 7, 2)), (21, (.iload_n 2, 1)), (22, (.iastore, 1)), (23, (.return_, 1))]
set_option maxRecDepth 100000 in
theorem da_X2_writeHead_0 : dl_X2_writeHead_0.all (fun q => decide (decode cX2_writeHead q.1 = .ok q.2)) = true := by decide +kernel
theorem dX2_writeHead_0 : decode cX2_writeHead 0 = .ok (.getstatic 73, 3) := dec_of da_X2_writeHead_0 (k := 0) rfl
theorem dX2_writeHead_3 : decode cX2_writeHead 3 = .ok (.iconst 0, 1) := dec_of da_X2_writeHead_0 (k := 1) rfl
theorem dX2_writeHead_4 : decode cX2_writeHead 4 = .ok (.aload_n 0, 1) := dec_of da_X2_writeHead_0 (k := 2) rfl
theorem dX2_writeHead_5 : decode cX2_writeHead 5 = .ok (.iconst 0, 1) := dec_of da_X2_writeHead_0 (k := 3) rfl
theorem dX2_writeHead_6 : decode cX2_writeHead 6 = .ok (.getstatic 73, 3) := dec_of da_X2_writeHead_0 (k := 4) rfl
theorem dX2_writeHead_9 : decode cX2_writeHead 9 = .ok (.arraylength, 1) := dec_of da_X2_writeHead_0 (k := 5) rfl
theorem dX2_writeHead_10 : decode cX2_writeHead 10 = .ok (.invokestatic 76, 3) := dec_of da_X2_writeHead_0 (k := 6) rfl
theorem dX2_writeHead_13 : decode cX2_writeHead 13 = .ok (.aload_n 0, 1) := dec_of da_X2_writeHead_0 (k := 7) rfl
theorem dX2_writeHead_14 : decode cX2_writeHead 14 = .ok (.bipush 6, 2) := dec_of da_X2_writeHead_0 (k := 8) rfl
theorem dX2_writeHead_16 : decode cX2_writeHead 16 = .ok (.iload_n 1, 1) := dec_of da_X2_writeHead_0 (k := 9) rfl
theorem dX2_writeHead_17 : decode cX2_writeHead 17 = .ok (.iastore, 1) := dec_of da_X2_writeHead_0 (k := 10) rfl
theorem dX2_writeHead_18 : decode cX2_writeHead 18 = .ok (.aload_n 0, 1) := dec_of da_X2_writeHead_0 (k := 11) rfl
theorem dX2_writeHead_19 : decode cX2_writeHead 19 = .ok (.bipush 7, 2) := dec_of da_X2_writeHead_0 (k := 12) rfl
theorem dX2_writeHead_21 : decode cX2_writeHead 21 = .ok (.iload_n 2, 1) := dec_of da_X2_writeHead_0 (k := 13) rfl
theorem dX2_writeHead_22 : decode cX2_writeHead 22 = .ok (.iastore, 1) := dec_of da_X2_writeHead_0 (k := 14) rfl
theorem dX2_writeHead_23 : decode cX2_writeHead 23 = .ok (.return_, 1) := dec_of da_X2_writeHead_0 (k := 15) rfl
def dl_X2_hasHead_0 : List (Nat × (Instr × Nat)) := [(0, (.aload_n 0, 1)), (1, (.iload_n 1, 1)), (2, (.getstatic 73, 3)), (5, (.iconst 0, 1)), (6, (.getstatic 73, 3)), (9, (.arraylength, 1)), (10, (.invokestatic 82, 3)), (13, (.ifCond .eq 27, 3)), (16, (.aload_n 0, 1)), (17, (.iload_n 1, 1)), (18, (.bipush 6, 2)), (20, (.iadd, 1)), (21, (.iaload, 1)), (22, (.iload_n 2, 1)), (23, (.if_icmp .ne 17, 3)), (26, (.aload_n 0, 1)), (27, (.iload_n 1, 1)), (28, (.bipush 7, 2)), (30, (.iadd, 1)), (31, (.iaload, 1)), (32, (.iload_n 3, 1)), (33, (.if_icmp .ne 7, 3)), (36, (.iconst 1, 1)), (37, (.goto 4, 3)), (40, (.iconst 0, 1)), (41, (.ireturn, 1))]
set_option maxRecDepth 100000 in
theorem da_X2_hasHead_0 : dl_X2_hasHead_0.all (fun q => decide (decode cX2_hasHead q.1 = .ok q.2)) = true := by decide +kernel
theorem dX2_hasHead_0 : decode cX2_hasHead 0 = .ok (.aload_n 0, 1) := dec_of da_X2_hasHead_0 (k := 0) rfl
theorem dX2_hasHead_1 : decode cX2_hasHead 1 = .ok (.iload_n 1, 1) := dec_of da_X2_hasHead_0 (k := 1) rfl
theorem dX2_hasHead_2 : decode cX2_hasHead 2 = .ok (.getstatic 73, 3) := dec_of da_X2_hasHead_0 (k := 2) rfl
theorem dX2_hasHead_5 : decode cX2_hasHead 5 = .ok (.iconst 0, 1) := dec_of da_X2_hasHead_0 (k := 3) rfl
theorem dX2_hasHead_6 : decode cX2_hasHead 6 = .ok (.getstatic 73, 3) := dec_of da_X2_hasHead_0 (k := 4) rfl
theorem dX2_hasHead_9 : decode cX2_hasHead 9 = .ok (.arraylength, 1) := dec_of da_X2_hasHead_0 (k := 5) rfl
theorem dX2_hasHead_10 : decode cX2_hasHead 10 = .ok (.invokestatic 82, 3) := dec_of da_X2_hasHead_0 (k := 6) rfl
theorem dX2_hasHead_13 : decode cX2_hasHead 13 = .ok (.ifCond .eq 27, 3) := dec_of da_X2_hasHead_0 (k := 7) rfl
theorem dX2_hasHead_16 : decode cX2_hasHead 16 = .ok (.aload_n 0, 1) := dec_of da_X2_hasHead_0 (k := 8) rfl
theorem dX2_hasHead_17 : decode cX2_hasHead 17 = .ok (.iload_n 1, 1) := dec_of da_X2_hasHead_0 (k := 9) rfl
theorem dX2_hasHead_18 : decode cX2_hasHead 18 = .ok (.bipush 6, 2) := dec_of da_X2_hasHead_0 (k := 10) rfl
theorem dX2_hasHead_20 : decode cX2_hasHead 20 = .ok (.iadd, 1) := dec_of da_X2_hasHead_0 (k := 11) rfl
theorem dX2_hasHead_21 : decode cX2_hasHead 21 = .ok (.iaload, 1) := dec_of da_X2_hasHead_0 (k := 12) rfl
theorem dX2_hasHead_22 : decode cX2_hasHead 22 = .ok (.iload_n 2, 1) := dec_of da_X2_hasHead_0 (k := 13) rfl
theorem dX2_hasHead_23 : decode cX2_hasHead 23 = .ok (.if_icmp .ne 17, 3) := dec_of da_X2_hasHead_0 (k := 14) rfl
theorem dX2_hasHead_26 : decode cX2_hasHead 26 = .ok (.aload_n 0, 1) := dec_of da_X2_hasHead_0 (k := 15) rfl
theorem dX2_hasHead_27 : decode cX2_hasHead 27 = .ok (.iload_n 1, 1) := dec_of da_X2_hasHead_0 (k := 16) rfl
theorem dX2_hasHead_28 : decode cX2_hasHead 28 = .ok (.bipush 7, 2) := dec_of da_X2_hasHead_0 (k := 17) rfl
theorem dX2_hasHead_30 : decode cX2_hasHead 30 = .ok (.iadd, 1) := dec_of da_X2_hasHead_0 (k := 18) rfl
theorem dX2_hasHead_31 : decode cX2_hasHead 31 = .ok (.iaload, 1) := dec_of da_X2_hasHead_0 (k := 19) rfl
theorem dX2_hasHead_32 : decode cX2_hasHead 32 = .ok (.iload_n 3, 1) := dec_of da_X2_hasHead_0 (k := 20) rfl
theorem dX2_hasHead_33 : decode cX2_hasHead 33 = .ok (.if_icmp .ne 7, 3) := dec_of da_X2_hasHead_0 (k := 21) rfl
theorem dX2_hasHead_36 : decode cX2_hasHead 36 = .ok (.iconst 1, 1) := dec_of da_X2_hasHead_0 (k := 22) rfl
theorem dX2_hasHead_37 : decode cX2_hasHead 37 = .ok (.goto 4, 3) := dec_of da_X2_hasHead_0 (k := 23) rfl
theorem dX2_hasHead_40 : decode cX2_hasHead 40 = .ok (.iconst 0, 1) := dec_of da_X2_hasHead_0 (k := 24) rfl
theorem dX2_hasHead_41 : decode cX2_hasHead 41 = .ok (.ireturn, 1) := dec_of da_X2_hasHead_0 (k := 25) rfl
def dl_X2_handIn_0 : List (Nat × (Instr × Nat)) := [(0, (.aload_n 0, 1)), (1, (.iconst 1, 1)), (2, (.iaload, 1)), (3, (.iconst 4, 1)), (4, (.iand, 1)), (5, (.ifCond .ne 19, 3)), (8, (.aload_n 0, 1)), (9, (.bipush 22, 2)), (11, (.iaload, 1)), (12, (.bipush 15, 2)), (14, (.iand, 1)), (15, (.ifCond .ne 9, 3)), (18, (.iload_n 1, 1)), (19, (.bipush 36, 2)), (21, (.if_icmp .gt 5, 3)), (24, (.iconst (-1), 1)), (25, (.ireturn, 1)), (26, (.aload_n 0, 1)), (27, (.bipush 32, 2)), (29, (.iaload, 1)), (30, (.istore_n 2, 1)), (31, (.iload_n 2, 1)), (32, (.iconst 1, 1)), (33, (.if_icmp .lt 22, 3)), (36, (.iload_n 2, 1)), (37, (.iconst 4, 1)), (38, (.if_icmp .gt 17, 3)), (41, (.iload_n 1, 1)), (42, (.bipush 32, 2)), (44, (.getstatic 86, 3)), (47, (.iload_n 2, 1)), (48, (.iaload, 1)), (49, (.iadd, 1)), (50, (.iconst 4, 1)), (51, (.iadd, 1)), (52, (.if_icmp .eq 5, 3)), (55, (.iconst (-1), 1)), (56, (.ireturn, 1)), (57, (.aload_n 0, 1)), (58, (.bipush 24, 2)), (60, (.sipush 136, 3)), (63, (.sipush 142, 3)), (66, (.invokestatic 89, 3)), (69, (.ifCond .eq 7, 3)), (72, (.iload_n 2, 1)), (73, (.goto 4, 3)), (76, (.iconst (-1), 1)), (77, (.ireturn, 1))]
set_option maxRecDepth 100000 in
theorem da_X2_handIn_0 : dl_X2_handIn_0.all (fun q => decide (decode cX2_handIn q.1 = .ok q.2)) = true := by decide +kernel
theorem dX2_handIn_0 : decode cX2_handIn 0 = .ok (.aload_n 0, 1) := dec_of da_X2_handIn_0 (k := 0) rfl
theorem dX2_handIn_1 : decode cX2_handIn 1 = .ok (.iconst 1, 1) := dec_of da_X2_handIn_0 (k := 1) rfl
theorem dX2_handIn_2 : decode cX2_handIn 2 = .ok (.iaload, 1) := dec_of da_X2_handIn_0 (k := 2) rfl
theorem dX2_handIn_3 : decode cX2_handIn 3 = .ok (.iconst 4, 1) := dec_of da_X2_handIn_0 (k := 3) rfl
theorem dX2_handIn_4 : decode cX2_handIn 4 = .ok (.iand, 1) := dec_of da_X2_handIn_0 (k := 4) rfl
theorem dX2_handIn_5 : decode cX2_handIn 5 = .ok (.ifCond .ne 19, 3) := dec_of da_X2_handIn_0 (k := 5) rfl
theorem dX2_handIn_8 : decode cX2_handIn 8 = .ok (.aload_n 0, 1) := dec_of da_X2_handIn_0 (k := 6) rfl
theorem dX2_handIn_9 : decode cX2_handIn 9 = .ok (.bipush 22, 2) := dec_of da_X2_handIn_0 (k := 7) rfl
theorem dX2_handIn_11 : decode cX2_handIn 11 = .ok (.iaload, 1) := dec_of da_X2_handIn_0 (k := 8) rfl
theorem dX2_handIn_12 : decode cX2_handIn 12 = .ok (.bipush 15, 2) := dec_of da_X2_handIn_0 (k := 9) rfl
theorem dX2_handIn_14 : decode cX2_handIn 14 = .ok (.iand, 1) := dec_of da_X2_handIn_0 (k := 10) rfl
theorem dX2_handIn_15 : decode cX2_handIn 15 = .ok (.ifCond .ne 9, 3) := dec_of da_X2_handIn_0 (k := 11) rfl
theorem dX2_handIn_18 : decode cX2_handIn 18 = .ok (.iload_n 1, 1) := dec_of da_X2_handIn_0 (k := 12) rfl
theorem dX2_handIn_19 : decode cX2_handIn 19 = .ok (.bipush 36, 2) := dec_of da_X2_handIn_0 (k := 13) rfl
theorem dX2_handIn_21 : decode cX2_handIn 21 = .ok (.if_icmp .gt 5, 3) := dec_of da_X2_handIn_0 (k := 14) rfl
theorem dX2_handIn_24 : decode cX2_handIn 24 = .ok (.iconst (-1), 1) := dec_of da_X2_handIn_0 (k := 15) rfl
theorem dX2_handIn_25 : decode cX2_handIn 25 = .ok (.ireturn, 1) := dec_of da_X2_handIn_0 (k := 16) rfl
theorem dX2_handIn_26 : decode cX2_handIn 26 = .ok (.aload_n 0, 1) := dec_of da_X2_handIn_0 (k := 17) rfl
theorem dX2_handIn_27 : decode cX2_handIn 27 = .ok (.bipush 32, 2) := dec_of da_X2_handIn_0 (k := 18) rfl
theorem dX2_handIn_29 : decode cX2_handIn 29 = .ok (.iaload, 1) := dec_of da_X2_handIn_0 (k := 19) rfl
theorem dX2_handIn_30 : decode cX2_handIn 30 = .ok (.istore_n 2, 1) := dec_of da_X2_handIn_0 (k := 20) rfl
theorem dX2_handIn_31 : decode cX2_handIn 31 = .ok (.iload_n 2, 1) := dec_of da_X2_handIn_0 (k := 21) rfl
theorem dX2_handIn_32 : decode cX2_handIn 32 = .ok (.iconst 1, 1) := dec_of da_X2_handIn_0 (k := 22) rfl
theorem dX2_handIn_33 : decode cX2_handIn 33 = .ok (.if_icmp .lt 22, 3) := dec_of da_X2_handIn_0 (k := 23) rfl
theorem dX2_handIn_36 : decode cX2_handIn 36 = .ok (.iload_n 2, 1) := dec_of da_X2_handIn_0 (k := 24) rfl
theorem dX2_handIn_37 : decode cX2_handIn 37 = .ok (.iconst 4, 1) := dec_of da_X2_handIn_0 (k := 25) rfl
theorem dX2_handIn_38 : decode cX2_handIn 38 = .ok (.if_icmp .gt 17, 3) := dec_of da_X2_handIn_0 (k := 26) rfl
theorem dX2_handIn_41 : decode cX2_handIn 41 = .ok (.iload_n 1, 1) := dec_of da_X2_handIn_0 (k := 27) rfl
theorem dX2_handIn_42 : decode cX2_handIn 42 = .ok (.bipush 32, 2) := dec_of da_X2_handIn_0 (k := 28) rfl
theorem dX2_handIn_44 : decode cX2_handIn 44 = .ok (.getstatic 86, 3) := dec_of da_X2_handIn_0 (k := 29) rfl
theorem dX2_handIn_47 : decode cX2_handIn 47 = .ok (.iload_n 2, 1) := dec_of da_X2_handIn_0 (k := 30) rfl
theorem dX2_handIn_48 : decode cX2_handIn 48 = .ok (.iaload, 1) := dec_of da_X2_handIn_0 (k := 31) rfl
theorem dX2_handIn_49 : decode cX2_handIn 49 = .ok (.iadd, 1) := dec_of da_X2_handIn_0 (k := 32) rfl
theorem dX2_handIn_50 : decode cX2_handIn 50 = .ok (.iconst 4, 1) := dec_of da_X2_handIn_0 (k := 33) rfl
theorem dX2_handIn_51 : decode cX2_handIn 51 = .ok (.iadd, 1) := dec_of da_X2_handIn_0 (k := 34) rfl
theorem dX2_handIn_52 : decode cX2_handIn 52 = .ok (.if_icmp .eq 5, 3) := dec_of da_X2_handIn_0 (k := 35) rfl
theorem dX2_handIn_55 : decode cX2_handIn 55 = .ok (.iconst (-1), 1) := dec_of da_X2_handIn_0 (k := 36) rfl
theorem dX2_handIn_56 : decode cX2_handIn 56 = .ok (.ireturn, 1) := dec_of da_X2_handIn_0 (k := 37) rfl
theorem dX2_handIn_57 : decode cX2_handIn 57 = .ok (.aload_n 0, 1) := dec_of da_X2_handIn_0 (k := 38) rfl
theorem dX2_handIn_58 : decode cX2_handIn 58 = .ok (.bipush 24, 2) := dec_of da_X2_handIn_0 (k := 39) rfl
theorem dX2_handIn_60 : decode cX2_handIn 60 = .ok (.sipush 136, 3) := dec_of da_X2_handIn_0 (k := 40) rfl
theorem dX2_handIn_63 : decode cX2_handIn 63 = .ok (.sipush 142, 3) := dec_of da_X2_handIn_0 (k := 41) rfl
theorem dX2_handIn_66 : decode cX2_handIn 66 = .ok (.invokestatic 89, 3) := dec_of da_X2_handIn_0 (k := 42) rfl
theorem dX2_handIn_69 : decode cX2_handIn 69 = .ok (.ifCond .eq 7, 3) := dec_of da_X2_handIn_0 (k := 43) rfl
theorem dX2_handIn_72 : decode cX2_handIn 72 = .ok (.iload_n 2, 1) := dec_of da_X2_handIn_0 (k := 44) rfl
theorem dX2_handIn_73 : decode cX2_handIn 73 = .ok (.goto 4, 3) := dec_of da_X2_handIn_0 (k := 45) rfl
theorem dX2_handIn_76 : decode cX2_handIn 76 = .ok (.iconst (-1), 1) := dec_of da_X2_handIn_0 (k := 46) rfl
theorem dX2_handIn_77 : decode cX2_handIn 77 = .ok (.ireturn, 1) := dec_of da_X2_handIn_0 (k := 47) rfl
def dl_X2_sameBytes_0 : List (Nat × (Instr × Nat)) := [(0, (.iconst 0, 1)), (1, (.istore 5, 2)), (3, (.iload 5, 2)), (5, (.iload 4, 2)), (7, (.if_icmp .ge 26, 3)), (10, (.aload_n 0, 1)), (11, (.iload_n 1, 1)), (12, (.iload 5, 2)), (14, (.iadd, 1)), (15, (.iaload, 1)), (16, (.aload_n 2, 1)), (17, (.iload_n 3, 1)), (18, (.iload 5, 2)), (20, (.iadd, 1)), (21, (.iaload, 1)), (22, (.if_icmp .eq 5, 3)), (25, (.iconst 0, 1)), (26, (.ireturn, 1)), (27, (.iinc 5 1, 3)), (30, (.goto (-27), 3)), (33, (.iconst 1, 1)), (34, (.ireturn, 1))]
set_option maxRecDepth 100000 in
theorem da_X2_sameBytes_0 : dl_X2_sameBytes_0.all (fun q => decide (decode cX2_sameBytes q.1 = .ok q.2)) = true := by decide +kernel
theorem dX2_sameBytes_0 : decode cX2_sameBytes 0 = .ok (.iconst 0, 1) := dec_of da_X2_sameBytes_0 (k := 0) rfl
theorem dX2_sameBytes_1 : decode cX2_sameBytes 1 = .ok (.istore 5, 2) := dec_of da_X2_sameBytes_0 (k := 1) rfl
theorem dX2_sameBytes_3 : decode cX2_sameBytes 3 = .ok (.iload 5, 2) := dec_of da_X2_sameBytes_0 (k := 2) rfl
theorem dX2_sameBytes_5 : decode cX2_sameBytes 5 = .ok (.iload 4, 2) := dec_of da_X2_sameBytes_0 (k := 3) rfl
theorem dX2_sameBytes_7 : decode cX2_sameBytes 7 = .ok (.if_icmp .ge 26, 3) := dec_of da_X2_sameBytes_0 (k := 4) rfl
theorem dX2_sameBytes_10 : decode cX2_sameBytes 10 = .ok (.aload_n 0, 1) := dec_of da_X2_sameBytes_0 (k := 5) rfl
theorem dX2_sameBytes_11 : decode cX2_sameBytes 11 = .ok (.iload_n 1, 1) := dec_of da_X2_sameBytes_0 (k := 6) rfl
theorem dX2_sameBytes_12 : decode cX2_sameBytes 12 = .ok (.iload 5, 2) := dec_of da_X2_sameBytes_0 (k := 7) rfl
theorem dX2_sameBytes_14 : decode cX2_sameBytes 14 = .ok (.iadd, 1) := dec_of da_X2_sameBytes_0 (k := 8) rfl
theorem dX2_sameBytes_15 : decode cX2_sameBytes 15 = .ok (.iaload, 1) := dec_of da_X2_sameBytes_0 (k := 9) rfl
theorem dX2_sameBytes_16 : decode cX2_sameBytes 16 = .ok (.aload_n 2, 1) := dec_of da_X2_sameBytes_0 (k := 10) rfl
theorem dX2_sameBytes_17 : decode cX2_sameBytes 17 = .ok (.iload_n 3, 1) := dec_of da_X2_sameBytes_0 (k := 11) rfl
theorem dX2_sameBytes_18 : decode cX2_sameBytes 18 = .ok (.iload 5, 2) := dec_of da_X2_sameBytes_0 (k := 12) rfl
theorem dX2_sameBytes_20 : decode cX2_sameBytes 20 = .ok (.iadd, 1) := dec_of da_X2_sameBytes_0 (k := 13) rfl
theorem dX2_sameBytes_21 : decode cX2_sameBytes 21 = .ok (.iaload, 1) := dec_of da_X2_sameBytes_0 (k := 14) rfl
theorem dX2_sameBytes_22 : decode cX2_sameBytes 22 = .ok (.if_icmp .eq 5, 3) := dec_of da_X2_sameBytes_0 (k := 15) rfl
theorem dX2_sameBytes_25 : decode cX2_sameBytes 25 = .ok (.iconst 0, 1) := dec_of da_X2_sameBytes_0 (k := 16) rfl
theorem dX2_sameBytes_26 : decode cX2_sameBytes 26 = .ok (.ireturn, 1) := dec_of da_X2_sameBytes_0 (k := 17) rfl
theorem dX2_sameBytes_27 : decode cX2_sameBytes 27 = .ok (.iinc 5 1, 3) := dec_of da_X2_sameBytes_0 (k := 18) rfl
theorem dX2_sameBytes_30 : decode cX2_sameBytes 30 = .ok (.goto (-27), 3) := dec_of da_X2_sameBytes_0 (k := 19) rfl
theorem dX2_sameBytes_33 : decode cX2_sameBytes 33 = .ok (.iconst 1, 1) := dec_of da_X2_sameBytes_0 (k := 20) rfl
theorem dX2_sameBytes_34 : decode cX2_sameBytes 34 = .ok (.ireturn, 1) := dec_of da_X2_sameBytes_0 (k := 21) rfl
def dl_X3_init_0 : List (Nat × (Instr × Nat)) := [(0, (.aload_n 0, 1)), (1, (.invokespecial 3, 3)), (4, (.aload_n 0, 1)), (5, (.bipush 12, 2)), (7, (.sipush 200, 3)), (10, (.multianewarray 11 2, 4)), (14, (.putfield 13, 3)), (17, (.aload_n 0, 1)), (18, (.bipush 12, 2)), (20, (.newarray .int, 2)), (22, (.putfield 16, 3)), (25, (.aload_n 0, 1)), (26, (.bipush 12, 2)), (28, (.newarray .int, 2)), (30, (.putfield 20, 3)), (33, (.return_, 1))]
set_option maxRecDepth 100000 in
theorem da_X3_init_0 : dl_X3_init_0.all (fun q => decide (decode cX3_init q.1 = .ok q.2)) = true := by decide +kernel
theorem dX3_init_0 : decode cX3_init 0 = .ok (.aload_n 0, 1) := dec_of da_X3_init_0 (k := 0) rfl
theorem dX3_init_1 : decode cX3_init 1 = .ok (.invokespecial 3, 3) := dec_of da_X3_init_0 (k := 1) rfl
theorem dX3_init_4 : decode cX3_init 4 = .ok (.aload_n 0, 1) := dec_of da_X3_init_0 (k := 2) rfl
theorem dX3_init_5 : decode cX3_init 5 = .ok (.bipush 12, 2) := dec_of da_X3_init_0 (k := 3) rfl
theorem dX3_init_7 : decode cX3_init 7 = .ok (.sipush 200, 3) := dec_of da_X3_init_0 (k := 4) rfl
theorem dX3_init_10 : decode cX3_init 10 = .ok (.multianewarray 11 2, 4) := dec_of da_X3_init_0 (k := 5) rfl
theorem dX3_init_14 : decode cX3_init 14 = .ok (.putfield 13, 3) := dec_of da_X3_init_0 (k := 6) rfl
theorem dX3_init_17 : decode cX3_init 17 = .ok (.aload_n 0, 1) := dec_of da_X3_init_0 (k := 7) rfl
theorem dX3_init_18 : decode cX3_init 18 = .ok (.bipush 12, 2) := dec_of da_X3_init_0 (k := 8) rfl
theorem dX3_init_20 : decode cX3_init 20 = .ok (.newarray .int, 2) := dec_of da_X3_init_0 (k := 9) rfl
theorem dX3_init_22 : decode cX3_init 22 = .ok (.putfield 16, 3) := dec_of da_X3_init_0 (k := 10) rfl
theorem dX3_init_25 : decode cX3_init 25 = .ok (.aload_n 0, 1) := dec_of da_X3_init_0 (k := 11) rfl
theorem dX3_init_26 : decode cX3_init 26 = .ok (.bipush 12, 2) := dec_of da_X3_init_0 (k := 12) rfl
theorem dX3_init_28 : decode cX3_init 28 = .ok (.newarray .int, 2) := dec_of da_X3_init_0 (k := 13) rfl
theorem dX3_init_30 : decode cX3_init 30 = .ok (.putfield 20, 3) := dec_of da_X3_init_0 (k := 14) rfl
theorem dX3_init_33 : decode cX3_init 33 = .ok (.return_, 1) := dec_of da_X3_init_0 (k := 15) rfl
def dl_X3_addLast_0 : List (Nat × (Instr × Nat)) := [(0, (.aload_n 0, 1)), (1, (.getfield 23, 3)), (4, (.bipush 12, 2)), (6, (.if_icmp .ge 46, 3)), (9, (.aload_n 0, 1)), (10, (.getfield 20, 3)), (13, (.aload_n 0, 1)), (14, (.getfield 23, 3)), (17, (.iload_n 1, 1)), (18, (.iastore, 1)), (19, (.aload_n 0, 1)), (20, (.getfield 16, 3)), (23, (.aload_n 0, 1)), (24, (.getfield 23, 3)), (27, (.iload_n 3, 1)), (28, (.bipush 8, 2)), (30, (.isub, 1)), (31, (.iastore, 1)), (32, (.aload_n 2, 1)), (33, (.bipush 8, 2)), (35, (.aload_n 0, 1)), (36, (.getfield 13, 3)), (39, (.aload_n 0, 1)), (40, (.getfield 23, 3)), (43, (.aaload, 1)), (44, (.iconst 0, 1)), (45, (.iload_n 3, 1)), (46, (.bipush 8, 2)), (48, (.isub, 1)), (49, (.invokestatic 27, 3)), (52, (.aload_n 0, 1)), (53, (.dup, 1)), (54, (.getfield 23, 3)), (57, (.iconst 1, 1)), (58, (.iadd, 1)), (59, (.putfield 23, 3)), (62, (.return_, 1))]
set_option maxRecDepth 100000 in
theorem da_X3_addLast_0 : dl_X3_addLast_0.all (fun q => decide (decode cX3_addLast q.1 = .ok q.2)) = true := by decide +kernel
theorem dX3_addLast_0 : decode cX3_addLast 0 = .ok (.aload_n 0, 1) := dec_of da_X3_addLast_0 (k := 0) rfl
theorem dX3_addLast_1 : decode cX3_addLast 1 = .ok (.getfield 23, 3) := dec_of da_X3_addLast_0 (k := 1) rfl
theorem dX3_addLast_4 : decode cX3_addLast 4 = .ok (.bipush 12, 2) := dec_of da_X3_addLast_0 (k := 2) rfl
theorem dX3_addLast_6 : decode cX3_addLast 6 = .ok (.if_icmp .ge 46, 3) := dec_of da_X3_addLast_0 (k := 3) rfl
theorem dX3_addLast_9 : decode cX3_addLast 9 = .ok (.aload_n 0, 1) := dec_of da_X3_addLast_0 (k := 4) rfl
theorem dX3_addLast_10 : decode cX3_addLast 10 = .ok (.getfield 20, 3) := dec_of da_X3_addLast_0 (k := 5) rfl
theorem dX3_addLast_13 : decode cX3_addLast 13 = .ok (.aload_n 0, 1) := dec_of da_X3_addLast_0 (k := 6) rfl
theorem dX3_addLast_14 : decode cX3_addLast 14 = .ok (.getfield 23, 3) := dec_of da_X3_addLast_0 (k := 7) rfl
theorem dX3_addLast_17 : decode cX3_addLast 17 = .ok (.iload_n 1, 1) := dec_of da_X3_addLast_0 (k := 8) rfl
theorem dX3_addLast_18 : decode cX3_addLast 18 = .ok (.iastore, 1) := dec_of da_X3_addLast_0 (k := 9) rfl
theorem dX3_addLast_19 : decode cX3_addLast 19 = .ok (.aload_n 0, 1) := dec_of da_X3_addLast_0 (k := 10) rfl
theorem dX3_addLast_20 : decode cX3_addLast 20 = .ok (.getfield 16, 3) := dec_of da_X3_addLast_0 (k := 11) rfl
theorem dX3_addLast_23 : decode cX3_addLast 23 = .ok (.aload_n 0, 1) := dec_of da_X3_addLast_0 (k := 12) rfl
theorem dX3_addLast_24 : decode cX3_addLast 24 = .ok (.getfield 23, 3) := dec_of da_X3_addLast_0 (k := 13) rfl
theorem dX3_addLast_27 : decode cX3_addLast 27 = .ok (.iload_n 3, 1) := dec_of da_X3_addLast_0 (k := 14) rfl
theorem dX3_addLast_28 : decode cX3_addLast 28 = .ok (.bipush 8, 2) := dec_of da_X3_addLast_0 (k := 15) rfl
theorem dX3_addLast_30 : decode cX3_addLast 30 = .ok (.isub, 1) := dec_of da_X3_addLast_0 (k := 16) rfl
theorem dX3_addLast_31 : decode cX3_addLast 31 = .ok (.iastore, 1) := dec_of da_X3_addLast_0 (k := 17) rfl
theorem dX3_addLast_32 : decode cX3_addLast 32 = .ok (.aload_n 2, 1) := dec_of da_X3_addLast_0 (k := 18) rfl
theorem dX3_addLast_33 : decode cX3_addLast 33 = .ok (.bipush 8, 2) := dec_of da_X3_addLast_0 (k := 19) rfl
theorem dX3_addLast_35 : decode cX3_addLast 35 = .ok (.aload_n 0, 1) := dec_of da_X3_addLast_0 (k := 20) rfl
theorem dX3_addLast_36 : decode cX3_addLast 36 = .ok (.getfield 13, 3) := dec_of da_X3_addLast_0 (k := 21) rfl
theorem dX3_addLast_39 : decode cX3_addLast 39 = .ok (.aload_n 0, 1) := dec_of da_X3_addLast_0 (k := 22) rfl
theorem dX3_addLast_40 : decode cX3_addLast 40 = .ok (.getfield 23, 3) := dec_of da_X3_addLast_0 (k := 23) rfl
theorem dX3_addLast_43 : decode cX3_addLast 43 = .ok (.aaload, 1) := dec_of da_X3_addLast_0 (k := 24) rfl
theorem dX3_addLast_44 : decode cX3_addLast 44 = .ok (.iconst 0, 1) := dec_of da_X3_addLast_0 (k := 25) rfl
theorem dX3_addLast_45 : decode cX3_addLast 45 = .ok (.iload_n 3, 1) := dec_of da_X3_addLast_0 (k := 26) rfl
theorem dX3_addLast_46 : decode cX3_addLast 46 = .ok (.bipush 8, 2) := dec_of da_X3_addLast_0 (k := 27) rfl
theorem dX3_addLast_48 : decode cX3_addLast 48 = .ok (.isub, 1) := dec_of da_X3_addLast_0 (k := 28) rfl
theorem dX3_addLast_49 : decode cX3_addLast 49 = .ok (.invokestatic 27, 3) := dec_of da_X3_addLast_0 (k := 29) rfl
theorem dX3_addLast_52 : decode cX3_addLast 52 = .ok (.aload_n 0, 1) := dec_of da_X3_addLast_0 (k := 30) rfl
theorem dX3_addLast_53 : decode cX3_addLast 53 = .ok (.dup, 1) := dec_of da_X3_addLast_0 (k := 31) rfl
theorem dX3_addLast_54 : decode cX3_addLast 54 = .ok (.getfield 23, 3) := dec_of da_X3_addLast_0 (k := 32) rfl
theorem dX3_addLast_57 : decode cX3_addLast 57 = .ok (.iconst 1, 1) := dec_of da_X3_addLast_0 (k := 33) rfl
theorem dX3_addLast_58 : decode cX3_addLast 58 = .ok (.iadd, 1) := dec_of da_X3_addLast_0 (k := 34) rfl
theorem dX3_addLast_59 : decode cX3_addLast 59 = .ok (.putfield 23, 3) := dec_of da_X3_addLast_0 (k := 35) rfl
theorem dX3_addLast_62 : decode cX3_addLast 62 = .ok (.return_, 1) := dec_of da_X3_addLast_0 (k := 36) rfl
def dl_X3_detail_0 : List (Nat × (Instr × Nat)) := [(0, (.iload_n 1, 1)), (1, (.ifCond .lt 17, 3)), (4, (.iload_n 1, 1)), (5, (.bipush 12, 2)), (7, (.if_icmp .ge 11, 3)), (10, (.iload_n 1, 1)), (11, (.aload_n 0, 1)), (12, (.getfield 23, 3)), (15, (.if_icmp .lt 5, 3)), (18, (.iconst (-1), 1)), (19, (.ireturn, 1)), (20, (.iload_n 2, 1)), (21, (.ifCond .ne 10, 3)), (24, (.aload_n 0, 1)), (25, (.getfield 20, 3)), (28, (.iload_n 1, 1)), (29, (.iaload, 1)), (30, (.ireturn, 1)), (31, (.iload_n 2, 1)), (32, (.iconst 1, 1)), (33, (.if_icmp .ne 10, 3)), (36, (.aload_n 0, 1)), (37, (.getfield 16, 3)), (40, (.iload_n 1, 1)), (41, (.iaload, 1)), (42, (.ireturn, 1)), (43, (.iload_n 2, 1)), (44, (.bipush 10, 2)), (46, (.if_icmp .lt 30, 3)), (49, (.iload_n 2, 1)), (50, (.bipush 10, 2)), (52, (.isub, 1)), (53, (.aload_n 0, 1)), (54, (.getfield 16, 3)), (57, (.iload_n 1, 1)), (58, (.iaload, 1)), (59, (.if_icmp .ge 17, 3)), (62, (.aload_n 0, 1)), (63, (.getfield 13, 3)), (66, (.iload_n 1, 1)), (67, (.aaload, 1)), (68, (.iload_n 2, 1)), (69, (.bipush 10, 2)), (71, (.isub, 1)), (72, (.iaload, 1)), (73, (.goto 4, 3)), (76, (.iconst (-1), 1)), (77, (.ireturn, 1))]
set_option maxRecDepth 100000 in
theorem da_X3_detail_0 : dl_X3_detail_0.all (fun q => decide (decode cX3_detail q.1 = .ok q.2)) = true := by decide +kernel
theorem dX3_detail_0 : decode cX3_detail 0 = .ok (.iload_n 1, 1) := dec_of da_X3_detail_0 (k := 0) rfl
theorem dX3_detail_1 : decode cX3_detail 1 = .ok (.ifCond .lt 17, 3) := dec_of da_X3_detail_0 (k := 1) rfl
theorem dX3_detail_4 : decode cX3_detail 4 = .ok (.iload_n 1, 1) := dec_of da_X3_detail_0 (k := 2) rfl
theorem dX3_detail_5 : decode cX3_detail 5 = .ok (.bipush 12, 2) := dec_of da_X3_detail_0 (k := 3) rfl
theorem dX3_detail_7 : decode cX3_detail 7 = .ok (.if_icmp .ge 11, 3) := dec_of da_X3_detail_0 (k := 4) rfl
theorem dX3_detail_10 : decode cX3_detail 10 = .ok (.iload_n 1, 1) := dec_of da_X3_detail_0 (k := 5) rfl
theorem dX3_detail_11 : decode cX3_detail 11 = .ok (.aload_n 0, 1) := dec_of da_X3_detail_0 (k := 6) rfl
theorem dX3_detail_12 : decode cX3_detail 12 = .ok (.getfield 23, 3) := dec_of da_X3_detail_0 (k := 7) rfl
theorem dX3_detail_15 : decode cX3_detail 15 = .ok (.if_icmp .lt 5, 3) := dec_of da_X3_detail_0 (k := 8) rfl
theorem dX3_detail_18 : decode cX3_detail 18 = .ok (.iconst (-1), 1) := dec_of da_X3_detail_0 (k := 9) rfl
theorem dX3_detail_19 : decode cX3_detail 19 = .ok (.ireturn, 1) := dec_of da_X3_detail_0 (k := 10) rfl
theorem dX3_detail_20 : decode cX3_detail 20 = .ok (.iload_n 2, 1) := dec_of da_X3_detail_0 (k := 11) rfl
theorem dX3_detail_21 : decode cX3_detail 21 = .ok (.ifCond .ne 10, 3) := dec_of da_X3_detail_0 (k := 12) rfl
theorem dX3_detail_24 : decode cX3_detail 24 = .ok (.aload_n 0, 1) := dec_of da_X3_detail_0 (k := 13) rfl
theorem dX3_detail_25 : decode cX3_detail 25 = .ok (.getfield 20, 3) := dec_of da_X3_detail_0 (k := 14) rfl
theorem dX3_detail_28 : decode cX3_detail 28 = .ok (.iload_n 1, 1) := dec_of da_X3_detail_0 (k := 15) rfl
theorem dX3_detail_29 : decode cX3_detail 29 = .ok (.iaload, 1) := dec_of da_X3_detail_0 (k := 16) rfl
theorem dX3_detail_30 : decode cX3_detail 30 = .ok (.ireturn, 1) := dec_of da_X3_detail_0 (k := 17) rfl
theorem dX3_detail_31 : decode cX3_detail 31 = .ok (.iload_n 2, 1) := dec_of da_X3_detail_0 (k := 18) rfl
theorem dX3_detail_32 : decode cX3_detail 32 = .ok (.iconst 1, 1) := dec_of da_X3_detail_0 (k := 19) rfl
theorem dX3_detail_33 : decode cX3_detail 33 = .ok (.if_icmp .ne 10, 3) := dec_of da_X3_detail_0 (k := 20) rfl
theorem dX3_detail_36 : decode cX3_detail 36 = .ok (.aload_n 0, 1) := dec_of da_X3_detail_0 (k := 21) rfl
theorem dX3_detail_37 : decode cX3_detail 37 = .ok (.getfield 16, 3) := dec_of da_X3_detail_0 (k := 22) rfl
theorem dX3_detail_40 : decode cX3_detail 40 = .ok (.iload_n 1, 1) := dec_of da_X3_detail_0 (k := 23) rfl
theorem dX3_detail_41 : decode cX3_detail 41 = .ok (.iaload, 1) := dec_of da_X3_detail_0 (k := 24) rfl
theorem dX3_detail_42 : decode cX3_detail 42 = .ok (.ireturn, 1) := dec_of da_X3_detail_0 (k := 25) rfl
theorem dX3_detail_43 : decode cX3_detail 43 = .ok (.iload_n 2, 1) := dec_of da_X3_detail_0 (k := 26) rfl
theorem dX3_detail_44 : decode cX3_detail 44 = .ok (.bipush 10, 2) := dec_of da_X3_detail_0 (k := 27) rfl
theorem dX3_detail_46 : decode cX3_detail 46 = .ok (.if_icmp .lt 30, 3) := dec_of da_X3_detail_0 (k := 28) rfl
theorem dX3_detail_49 : decode cX3_detail 49 = .ok (.iload_n 2, 1) := dec_of da_X3_detail_0 (k := 29) rfl
theorem dX3_detail_50 : decode cX3_detail 50 = .ok (.bipush 10, 2) := dec_of da_X3_detail_0 (k := 30) rfl
theorem dX3_detail_52 : decode cX3_detail 52 = .ok (.isub, 1) := dec_of da_X3_detail_0 (k := 31) rfl
theorem dX3_detail_53 : decode cX3_detail 53 = .ok (.aload_n 0, 1) := dec_of da_X3_detail_0 (k := 32) rfl
theorem dX3_detail_54 : decode cX3_detail 54 = .ok (.getfield 16, 3) := dec_of da_X3_detail_0 (k := 33) rfl
theorem dX3_detail_57 : decode cX3_detail 57 = .ok (.iload_n 1, 1) := dec_of da_X3_detail_0 (k := 34) rfl
theorem dX3_detail_58 : decode cX3_detail 58 = .ok (.iaload, 1) := dec_of da_X3_detail_0 (k := 35) rfl
theorem dX3_detail_59 : decode cX3_detail 59 = .ok (.if_icmp .ge 17, 3) := dec_of da_X3_detail_0 (k := 36) rfl
theorem dX3_detail_62 : decode cX3_detail 62 = .ok (.aload_n 0, 1) := dec_of da_X3_detail_0 (k := 37) rfl
theorem dX3_detail_63 : decode cX3_detail 63 = .ok (.getfield 13, 3) := dec_of da_X3_detail_0 (k := 38) rfl
theorem dX3_detail_66 : decode cX3_detail 66 = .ok (.iload_n 1, 1) := dec_of da_X3_detail_0 (k := 39) rfl
theorem dX3_detail_67 : decode cX3_detail 67 = .ok (.aaload, 1) := dec_of da_X3_detail_0 (k := 40) rfl
theorem dX3_detail_68 : decode cX3_detail 68 = .ok (.iload_n 2, 1) := dec_of da_X3_detail_0 (k := 41) rfl
theorem dX3_detail_69 : decode cX3_detail 69 = .ok (.bipush 10, 2) := dec_of da_X3_detail_0 (k := 42) rfl
theorem dX3_detail_71 : decode cX3_detail 71 = .ok (.isub, 1) := dec_of da_X3_detail_0 (k := 43) rfl
theorem dX3_detail_72 : decode cX3_detail 72 = .ok (.iaload, 1) := dec_of da_X3_detail_0 (k := 44) rfl
theorem dX3_detail_73 : decode cX3_detail 73 = .ok (.goto 4, 3) := dec_of da_X3_detail_0 (k := 45) rfl
theorem dX3_detail_76 : decode cX3_detail 76 = .ok (.iconst (-1), 1) := dec_of da_X3_detail_0 (k := 46) rfl
theorem dX3_detail_77 : decode cX3_detail 77 = .ok (.ireturn, 1) := dec_of da_X3_detail_0 (k := 47) rfl
def dl_X4_init_0 : List (Nat × (Instr × Nat)) := [(0, (.aload_n 0, 1)), (1, (.invokespecial 3, 3)), (4, (.aload_n 0, 1)), (5, (.iconst 1, 1)), (6, (.putfield 9, 3)), (9, (.aload_n 0, 1)), (10, (.bipush 32, 2)), (12, (.newarray .int, 2)), (14, (.putfield 15, 3)), (17, (.aload_n 0, 1)), (18, (.bipush 48, 2)), (20, (.newarray .int, 2)), (22, (.putfield 21, 3)), (25, (.aload_n 0, 1)), (26, (.bipush 32, 2)), (28, (.newarray .int, 2)), (30, (.putfield 24, 3)), (33, (.aload_n 0, 1)), (34, (.bipush 16, 2)), (36, (.newarray .int, 2)), (38, (.putfield 27, 3)), (41, (.aload_n 0, 1)), (42, (.lconst 1, 1)), (43, (.putfield 30, 3)), (46, (.aload_n 0, 1)), (47, (.sipush 208, 3)), (50, (.newarray .int, 2)), (52, (.putfield 34, 3)), (55, (.return_, 1))]
set_option maxRecDepth 100000 in
theorem da_X4_init_0 : dl_X4_init_0.all (fun q => decide (decode cX4_init q.1 = .ok q.2)) = true := by decide +kernel
theorem dX4_init_0 : decode cX4_init 0 = .ok (.aload_n 0, 1) := dec_of da_X4_init_0 (k := 0) rfl
theorem dX4_init_1 : decode cX4_init 1 = .ok (.invokespecial 3, 3) := dec_of da_X4_init_0 (k := 1) rfl
theorem dX4_init_4 : decode cX4_init 4 = .ok (.aload_n 0, 1) := dec_of da_X4_init_0 (k := 2) rfl
theorem dX4_init_5 : decode cX4_init 5 = .ok (.iconst 1, 1) := dec_of da_X4_init_0 (k := 3) rfl
theorem dX4_init_6 : decode cX4_init 6 = .ok (.putfield 9, 3) := dec_of da_X4_init_0 (k := 4) rfl
theorem dX4_init_9 : decode cX4_init 9 = .ok (.aload_n 0, 1) := dec_of da_X4_init_0 (k := 5) rfl
theorem dX4_init_10 : decode cX4_init 10 = .ok (.bipush 32, 2) := dec_of da_X4_init_0 (k := 6) rfl
theorem dX4_init_12 : decode cX4_init 12 = .ok (.newarray .int, 2) := dec_of da_X4_init_0 (k := 7) rfl
theorem dX4_init_14 : decode cX4_init 14 = .ok (.putfield 15, 3) := dec_of da_X4_init_0 (k := 8) rfl
theorem dX4_init_17 : decode cX4_init 17 = .ok (.aload_n 0, 1) := dec_of da_X4_init_0 (k := 9) rfl
theorem dX4_init_18 : decode cX4_init 18 = .ok (.bipush 48, 2) := dec_of da_X4_init_0 (k := 10) rfl
theorem dX4_init_20 : decode cX4_init 20 = .ok (.newarray .int, 2) := dec_of da_X4_init_0 (k := 11) rfl
theorem dX4_init_22 : decode cX4_init 22 = .ok (.putfield 21, 3) := dec_of da_X4_init_0 (k := 12) rfl
theorem dX4_init_25 : decode cX4_init 25 = .ok (.aload_n 0, 1) := dec_of da_X4_init_0 (k := 13) rfl
theorem dX4_init_26 : decode cX4_init 26 = .ok (.bipush 32, 2) := dec_of da_X4_init_0 (k := 14) rfl
theorem dX4_init_28 : decode cX4_init 28 = .ok (.newarray .int, 2) := dec_of da_X4_init_0 (k := 15) rfl
theorem dX4_init_30 : decode cX4_init 30 = .ok (.putfield 24, 3) := dec_of da_X4_init_0 (k := 16) rfl
theorem dX4_init_33 : decode cX4_init 33 = .ok (.aload_n 0, 1) := dec_of da_X4_init_0 (k := 17) rfl
theorem dX4_init_34 : decode cX4_init 34 = .ok (.bipush 16, 2) := dec_of da_X4_init_0 (k := 18) rfl
theorem dX4_init_36 : decode cX4_init 36 = .ok (.newarray .int, 2) := dec_of da_X4_init_0 (k := 19) rfl
theorem dX4_init_38 : decode cX4_init 38 = .ok (.putfield 27, 3) := dec_of da_X4_init_0 (k := 20) rfl
theorem dX4_init_41 : decode cX4_init 41 = .ok (.aload_n 0, 1) := dec_of da_X4_init_0 (k := 21) rfl
theorem dX4_init_42 : decode cX4_init 42 = .ok (.lconst 1, 1) := dec_of da_X4_init_0 (k := 22) rfl
theorem dX4_init_43 : decode cX4_init 43 = .ok (.putfield 30, 3) := dec_of da_X4_init_0 (k := 23) rfl
theorem dX4_init_46 : decode cX4_init 46 = .ok (.aload_n 0, 1) := dec_of da_X4_init_0 (k := 24) rfl
theorem dX4_init_47 : decode cX4_init 47 = .ok (.sipush 208, 3) := dec_of da_X4_init_0 (k := 25) rfl
theorem dX4_init_50 : decode cX4_init 50 = .ok (.newarray .int, 2) := dec_of da_X4_init_0 (k := 26) rfl
theorem dX4_init_52 : decode cX4_init 52 = .ok (.putfield 34, 3) := dec_of da_X4_init_0 (k := 27) rfl
theorem dX4_init_55 : decode cX4_init 55 = .ok (.return_, 1) := dec_of da_X4_init_0 (k := 28) rfl
def dl_X4_loseKey_0 : List (Nat × (Instr × Nat)) := [(0, (.aload_n 0, 1)), (1, (.iload_n 1, 1)), (2, (.putfield 9, 3)), (5, (.aload_n 0, 1)), (6, (.iconst 0, 1)), (7, (.putfield 37, 3)), (10, (.aload_n 0, 1)), (11, (.iconst 0, 1)), (12, (.putfield 41, 3)), (15, (.return_, 1))]
set_option maxRecDepth 100000 in
theorem da_X4_loseKey_0 : dl_X4_loseKey_0.all (fun q => decide (decode cX4_loseKey q.1 = .ok q.2)) = true := by decide +kernel
theorem dX4_loseKey_0 : decode cX4_loseKey 0 = .ok (.aload_n 0, 1) := dec_of da_X4_loseKey_0 (k := 0) rfl
theorem dX4_loseKey_1 : decode cX4_loseKey 1 = .ok (.iload_n 1, 1) := dec_of da_X4_loseKey_0 (k := 1) rfl
theorem dX4_loseKey_2 : decode cX4_loseKey 2 = .ok (.putfield 9, 3) := dec_of da_X4_loseKey_0 (k := 2) rfl
theorem dX4_loseKey_5 : decode cX4_loseKey 5 = .ok (.aload_n 0, 1) := dec_of da_X4_loseKey_0 (k := 3) rfl
theorem dX4_loseKey_6 : decode cX4_loseKey 6 = .ok (.iconst 0, 1) := dec_of da_X4_loseKey_0 (k := 4) rfl
theorem dX4_loseKey_7 : decode cX4_loseKey 7 = .ok (.putfield 37, 3) := dec_of da_X4_loseKey_0 (k := 5) rfl
theorem dX4_loseKey_10 : decode cX4_loseKey 10 = .ok (.aload_n 0, 1) := dec_of da_X4_loseKey_0 (k := 6) rfl
theorem dX4_loseKey_11 : decode cX4_loseKey 11 = .ok (.iconst 0, 1) := dec_of da_X4_loseKey_0 (k := 7) rfl
theorem dX4_loseKey_12 : decode cX4_loseKey 12 = .ok (.putfield 41, 3) := dec_of da_X4_loseKey_0 (k := 8) rfl
theorem dX4_loseKey_15 : decode cX4_loseKey 15 = .ok (.return_, 1) := dec_of da_X4_loseKey_0 (k := 9) rfl
def dl_X4_keepTried_0 : List (Nat × (Instr × Nat)) := [(0, (.aload_n 1, 1)), (1, (.iconst 0, 1)), (2, (.aload_n 0, 1)), (3, (.getfield 21, 3)), (6, (.iconst 0, 1)), (7, (.bipush 48, 2)), (9, (.invokestatic 44, 3)), (12, (.aload_n 0, 1)), (13, (.iconst 1, 1)), (14, (.putfield 37, 3)), (17, (.return_, 1))]
set_option maxRecDepth 100000 in
theorem da_X4_keepTried_0 : dl_X4_keepTried_0.all (fun q => decide (decode cX4_keepTried q.1 = .ok q.2)) = true := by decide +kernel
theorem dX4_keepTried_0 : decode cX4_keepTried 0 = .ok (.aload_n 1, 1) := dec_of da_X4_keepTried_0 (k := 0) rfl
theorem dX4_keepTried_1 : decode cX4_keepTried 1 = .ok (.iconst 0, 1) := dec_of da_X4_keepTried_0 (k := 1) rfl
theorem dX4_keepTried_2 : decode cX4_keepTried 2 = .ok (.aload_n 0, 1) := dec_of da_X4_keepTried_0 (k := 2) rfl
theorem dX4_keepTried_3 : decode cX4_keepTried 3 = .ok (.getfield 21, 3) := dec_of da_X4_keepTried_0 (k := 3) rfl
theorem dX4_keepTried_6 : decode cX4_keepTried 6 = .ok (.iconst 0, 1) := dec_of da_X4_keepTried_0 (k := 4) rfl
theorem dX4_keepTried_7 : decode cX4_keepTried 7 = .ok (.bipush 48, 2) := dec_of da_X4_keepTried_0 (k := 5) rfl
theorem dX4_keepTried_9 : decode cX4_keepTried 9 = .ok (.invokestatic 44, 3) := dec_of da_X4_keepTried_0 (k := 6) rfl
theorem dX4_keepTried_12 : decode cX4_keepTried 12 = .ok (.aload_n 0, 1) := dec_of da_X4_keepTried_0 (k := 7) rfl
theorem dX4_keepTried_13 : decode cX4_keepTried 13 = .ok (.iconst 1, 1) := dec_of da_X4_keepTried_0 (k := 8) rfl
theorem dX4_keepTried_14 : decode cX4_keepTried 14 = .ok (.putfield 37, 3) := dec_of da_X4_keepTried_0 (k := 9) rfl
theorem dX4_keepTried_17 : decode cX4_keepTried 17 = .ok (.return_, 1) := dec_of da_X4_keepTried_0 (k := 10) rfl
def dl_X4_keyByTried_0 : List (Nat × (Instr × Nat)) := [(0, (.aload_n 0, 1)), (1, (.iconst 4, 1)), (2, (.putfield 9, 3)), (5, (.aload_n 0, 1)), (6, (.getfield 21, 3)), (9, (.bipush 32, 2)), (11, (.aload_n 0, 1)), (12, (.getfield 27, 3)), (15, (.iconst 0, 1)), (16, (.bipush 16, 2)), (18, (.invokestatic 44, 3)), (21, (.aload_n 0, 1)), (22, (.lconst 0, 1)), (23, (.putfield 50, 3)), (26, (.aload_n 0, 1)), (27, (.lconst 1, 1)), (28, (.putfield 30, 3)), (31, (.aload_n 0, 1)), (32, (.iconst 0, 1)), (33, (.putfield 41, 3)), (36, (.return_, 1))]
set_option maxRecDepth 100000 in
theorem da_X4_keyByTried_0 : dl_X4_keyByTried_0.all (fun q => decide (decode cX4_keyByTried q.1 = .ok q.2)) = true := by decide +kernel
theorem dX4_keyByTried_0 : decode cX4_keyByTried 0 = .ok (.aload_n 0, 1) := dec_of da_X4_keyByTried_0 (k := 0) rfl
theorem dX4_keyByTried_1 : decode cX4_keyByTried 1 = .ok (.iconst 4, 1) := dec_of da_X4_keyByTried_0 (k := 1) rfl
theorem dX4_keyByTried_2 : decode cX4_keyByTried 2 = .ok (.putfield 9, 3) := dec_of da_X4_keyByTried_0 (k := 2) rfl
theorem dX4_keyByTried_5 : decode cX4_keyByTried 5 = .ok (.aload_n 0, 1) := dec_of da_X4_keyByTried_0 (k := 3) rfl
theorem dX4_keyByTried_6 : decode cX4_keyByTried 6 = .ok (.getfield 21, 3) := dec_of da_X4_keyByTried_0 (k := 4) rfl
theorem dX4_keyByTried_9 : decode cX4_keyByTried 9 = .ok (.bipush 32, 2) := dec_of da_X4_keyByTried_0 (k := 5) rfl
theorem dX4_keyByTried_11 : decode cX4_keyByTried 11 = .ok (.aload_n 0, 1) := dec_of da_X4_keyByTried_0 (k := 6) rfl
theorem dX4_keyByTried_12 : decode cX4_keyByTried 12 = .ok (.getfield 27, 3) := dec_of da_X4_keyByTried_0 (k := 7) rfl
theorem dX4_keyByTried_15 : decode cX4_keyByTried 15 = .ok (.iconst 0, 1) := dec_of da_X4_keyByTried_0 (k := 8) rfl
theorem dX4_keyByTried_16 : decode cX4_keyByTried 16 = .ok (.bipush 16, 2) := dec_of da_X4_keyByTried_0 (k := 9) rfl
theorem dX4_keyByTried_18 : decode cX4_keyByTried 18 = .ok (.invokestatic 44, 3) := dec_of da_X4_keyByTried_0 (k := 10) rfl
theorem dX4_keyByTried_21 : decode cX4_keyByTried 21 = .ok (.aload_n 0, 1) := dec_of da_X4_keyByTried_0 (k := 11) rfl
theorem dX4_keyByTried_22 : decode cX4_keyByTried 22 = .ok (.lconst 0, 1) := dec_of da_X4_keyByTried_0 (k := 12) rfl
theorem dX4_keyByTried_23 : decode cX4_keyByTried 23 = .ok (.putfield 50, 3) := dec_of da_X4_keyByTried_0 (k := 13) rfl
theorem dX4_keyByTried_26 : decode cX4_keyByTried 26 = .ok (.aload_n 0, 1) := dec_of da_X4_keyByTried_0 (k := 14) rfl
theorem dX4_keyByTried_27 : decode cX4_keyByTried 27 = .ok (.lconst 1, 1) := dec_of da_X4_keyByTried_0 (k := 15) rfl
theorem dX4_keyByTried_28 : decode cX4_keyByTried 28 = .ok (.putfield 30, 3) := dec_of da_X4_keyByTried_0 (k := 16) rfl
theorem dX4_keyByTried_31 : decode cX4_keyByTried 31 = .ok (.aload_n 0, 1) := dec_of da_X4_keyByTried_0 (k := 17) rfl
theorem dX4_keyByTried_32 : decode cX4_keyByTried 32 = .ok (.iconst 0, 1) := dec_of da_X4_keyByTried_0 (k := 18) rfl
theorem dX4_keyByTried_33 : decode cX4_keyByTried 33 = .ok (.putfield 41, 3) := dec_of da_X4_keyByTried_0 (k := 19) rfl
theorem dX4_keyByTried_36 : decode cX4_keyByTried 36 = .ok (.return_, 1) := dec_of da_X4_keyByTried_0 (k := 20) rfl
def dl_X4_addPart_0 : List (Nat × (Instr × Nat)) := [(0, (.aload_n 1, 1)), (1, (.bipush 22, 2)), (3, (.iaload, 1)), (4, (.bipush 15, 2)), (6, (.iand, 1)), (7, (.istore 4, 2)), (9, (.aload_n 1, 1)), (10, (.bipush 22, 2)), (12, (.iaload, 1)), (13, (.sipush 256, 3)), (16, (.aload_n 1, 1)), (17, (.bipush 23, 2)), (19, (.iaload, 1)), (20, (.imul, 1)), (21, (.iadd, 1)), (22, (.iconst 4, 1)), (23, (.ishr, 1)), (24, (.istore 5, 2)), (26, (.iload 4, 2)), (28, (.ifCond .ne 24, 3)), (31, (.aload_n 0, 1)), (32, (.iconst 1, 1)), (33, (.putfield 41, 3)), (36, (.aload_n 0, 1)), (37, (.iload 5, 2)), (39, (.putfield 53, 3)), (42, (.aload_n 0, 1)), (43, (.iconst 0, 1)), (44, (.putfield 56, 3)), (47, (.aload_n 0, 1)), (48, (.iconst 0, 1)), (49, (.putfield 59, 3)), (52, (.aload_n 0, 1)), (53, (.getfield 41, 3)), (56, (.ifCond .eq 37, 3)), (59, (.iload 4, 2)), (61, (.aload_n 0, 1)), (62, (.getfield 56, 3)), (65, (.if_icmp .ne 28, 3)), (68, (.iload 5, 2)), (70, (.aload_n 0, 1)), (71, (.getfield 53, 3)), (74, (.if_icmp .ne 19, 3)), (77, (.aload_n 0, 1)), (78, (.getfield 59, 3)), (81, (.iload_n 3, 1)), (82, (.iadd, 1)), (83, (.sipush 208, 3)), (86, (.if_icmp .gt 7, 3)), (89, (.iconst 1, 1)), (90, (.goto 4, 3)), (93, (.iconst 0, 1)), (94, (.istore 6, 2)), (96, (.iload 6, 2)), (98, (.ifCond .ne 10, 3)), (101, (.aload_n 0, 1)), (102, (.iconst 0, 1)), (103, (.putfield 41, 3)), (106, (.iconst 0, 1)), (107, (.ireturn, 1))]
set_option maxRecDepth 100000 in
theorem da_X4_addPart_0 : dl_X4_addPart_0.all (fun q => decide (decode cX4_addPart q.1 = .ok q.2)) = true := by decide +kernel
theorem dX4_addPart_0 : decode cX4_addPart 0 = .ok (.aload_n 1, 1) := dec_of da_X4_addPart_0 (k := 0) rfl
theorem dX4_addPart_1 : decode cX4_addPart 1 = .ok (.bipush 22, 2) := dec_of da_X4_addPart_0 (k := 1) rfl
theorem dX4_addPart_3 : decode cX4_addPart 3 = .ok (.iaload, 1) := dec_of da_X4_addPart_0 (k := 2) rfl
theorem dX4_addPart_4 : decode cX4_addPart 4 = .ok (.bipush 15, 2) := dec_of da_X4_addPart_0 (k := 3) rfl
theorem dX4_addPart_6 : decode cX4_addPart 6 = .ok (.iand, 1) := dec_of da_X4_addPart_0 (k := 4) rfl
theorem dX4_addPart_7 : decode cX4_addPart 7 = .ok (.istore 4, 2) := dec_of da_X4_addPart_0 (k := 5) rfl
theorem dX4_addPart_9 : decode cX4_addPart 9 = .ok (.aload_n 1, 1) := dec_of da_X4_addPart_0 (k := 6) rfl
theorem dX4_addPart_10 : decode cX4_addPart 10 = .ok (.bipush 22, 2) := dec_of da_X4_addPart_0 (k := 7) rfl
theorem dX4_addPart_12 : decode cX4_addPart 12 = .ok (.iaload, 1) := dec_of da_X4_addPart_0 (k := 8) rfl
theorem dX4_addPart_13 : decode cX4_addPart 13 = .ok (.sipush 256, 3) := dec_of da_X4_addPart_0 (k := 9) rfl
theorem dX4_addPart_16 : decode cX4_addPart 16 = .ok (.aload_n 1, 1) := dec_of da_X4_addPart_0 (k := 10) rfl
theorem dX4_addPart_17 : decode cX4_addPart 17 = .ok (.bipush 23, 2) := dec_of da_X4_addPart_0 (k := 11) rfl
theorem dX4_addPart_19 : decode cX4_addPart 19 = .ok (.iaload, 1) := dec_of da_X4_addPart_0 (k := 12) rfl
theorem dX4_addPart_20 : decode cX4_addPart 20 = .ok (.imul, 1) := dec_of da_X4_addPart_0 (k := 13) rfl
theorem dX4_addPart_21 : decode cX4_addPart 21 = .ok (.iadd, 1) := dec_of da_X4_addPart_0 (k := 14) rfl
theorem dX4_addPart_22 : decode cX4_addPart 22 = .ok (.iconst 4, 1) := dec_of da_X4_addPart_0 (k := 15) rfl
theorem dX4_addPart_23 : decode cX4_addPart 23 = .ok (.ishr, 1) := dec_of da_X4_addPart_0 (k := 16) rfl
theorem dX4_addPart_24 : decode cX4_addPart 24 = .ok (.istore 5, 2) := dec_of da_X4_addPart_0 (k := 17) rfl
theorem dX4_addPart_26 : decode cX4_addPart 26 = .ok (.iload 4, 2) := dec_of da_X4_addPart_0 (k := 18) rfl
theorem dX4_addPart_28 : decode cX4_addPart 28 = .ok (.ifCond .ne 24, 3) := dec_of da_X4_addPart_0 (k := 19) rfl
theorem dX4_addPart_31 : decode cX4_addPart 31 = .ok (.aload_n 0, 1) := dec_of da_X4_addPart_0 (k := 20) rfl
theorem dX4_addPart_32 : decode cX4_addPart 32 = .ok (.iconst 1, 1) := dec_of da_X4_addPart_0 (k := 21) rfl
theorem dX4_addPart_33 : decode cX4_addPart 33 = .ok (.putfield 41, 3) := dec_of da_X4_addPart_0 (k := 22) rfl
theorem dX4_addPart_36 : decode cX4_addPart 36 = .ok (.aload_n 0, 1) := dec_of da_X4_addPart_0 (k := 23) rfl
theorem dX4_addPart_37 : decode cX4_addPart 37 = .ok (.iload 5, 2) := dec_of da_X4_addPart_0 (k := 24) rfl
theorem dX4_addPart_39 : decode cX4_addPart 39 = .ok (.putfield 53, 3) := dec_of da_X4_addPart_0 (k := 25) rfl
theorem dX4_addPart_42 : decode cX4_addPart 42 = .ok (.aload_n 0, 1) := dec_of da_X4_addPart_0 (k := 26) rfl
theorem dX4_addPart_43 : decode cX4_addPart 43 = .ok (.iconst 0, 1) := dec_of da_X4_addPart_0 (k := 27) rfl
theorem dX4_addPart_44 : decode cX4_addPart 44 = .ok (.putfield 56, 3) := dec_of da_X4_addPart_0 (k := 28) rfl
theorem dX4_addPart_47 : decode cX4_addPart 47 = .ok (.aload_n 0, 1) := dec_of da_X4_addPart_0 (k := 29) rfl
theorem dX4_addPart_48 : decode cX4_addPart 48 = .ok (.iconst 0, 1) := dec_of da_X4_addPart_0 (k := 30) rfl
theorem dX4_addPart_49 : decode cX4_addPart 49 = .ok (.putfield 59, 3) := dec_of da_X4_addPart_0 (k := 31) rfl
theorem dX4_addPart_52 : decode cX4_addPart 52 = .ok (.aload_n 0, 1) := dec_of da_X4_addPart_0 (k := 32) rfl
theorem dX4_addPart_53 : decode cX4_addPart 53 = .ok (.getfield 41, 3) := dec_of da_X4_addPart_0 (k := 33) rfl
theorem dX4_addPart_56 : decode cX4_addPart 56 = .ok (.ifCond .eq 37, 3) := dec_of da_X4_addPart_0 (k := 34) rfl
theorem dX4_addPart_59 : decode cX4_addPart 59 = .ok (.iload 4, 2) := dec_of da_X4_addPart_0 (k := 35) rfl
theorem dX4_addPart_61 : decode cX4_addPart 61 = .ok (.aload_n 0, 1) := dec_of da_X4_addPart_0 (k := 36) rfl
theorem dX4_addPart_62 : decode cX4_addPart 62 = .ok (.getfield 56, 3) := dec_of da_X4_addPart_0 (k := 37) rfl
theorem dX4_addPart_65 : decode cX4_addPart 65 = .ok (.if_icmp .ne 28, 3) := dec_of da_X4_addPart_0 (k := 38) rfl
theorem dX4_addPart_68 : decode cX4_addPart 68 = .ok (.iload 5, 2) := dec_of da_X4_addPart_0 (k := 39) rfl
theorem dX4_addPart_70 : decode cX4_addPart 70 = .ok (.aload_n 0, 1) := dec_of da_X4_addPart_0 (k := 40) rfl
theorem dX4_addPart_71 : decode cX4_addPart 71 = .ok (.getfield 53, 3) := dec_of da_X4_addPart_0 (k := 41) rfl
theorem dX4_addPart_74 : decode cX4_addPart 74 = .ok (.if_icmp .ne 19, 3) := dec_of da_X4_addPart_0 (k := 42) rfl
theorem dX4_addPart_77 : decode cX4_addPart 77 = .ok (.aload_n 0, 1) := dec_of da_X4_addPart_0 (k := 43) rfl
theorem dX4_addPart_78 : decode cX4_addPart 78 = .ok (.getfield 59, 3) := dec_of da_X4_addPart_0 (k := 44) rfl
theorem dX4_addPart_81 : decode cX4_addPart 81 = .ok (.iload_n 3, 1) := dec_of da_X4_addPart_0 (k := 45) rfl
theorem dX4_addPart_82 : decode cX4_addPart 82 = .ok (.iadd, 1) := dec_of da_X4_addPart_0 (k := 46) rfl
theorem dX4_addPart_83 : decode cX4_addPart 83 = .ok (.sipush 208, 3) := dec_of da_X4_addPart_0 (k := 47) rfl
theorem dX4_addPart_86 : decode cX4_addPart 86 = .ok (.if_icmp .gt 7, 3) := dec_of da_X4_addPart_0 (k := 48) rfl
theorem dX4_addPart_89 : decode cX4_addPart 89 = .ok (.iconst 1, 1) := dec_of da_X4_addPart_0 (k := 49) rfl
theorem dX4_addPart_90 : decode cX4_addPart 90 = .ok (.goto 4, 3) := dec_of da_X4_addPart_0 (k := 50) rfl
theorem dX4_addPart_93 : decode cX4_addPart 93 = .ok (.iconst 0, 1) := dec_of da_X4_addPart_0 (k := 51) rfl
theorem dX4_addPart_94 : decode cX4_addPart 94 = .ok (.istore 6, 2) := dec_of da_X4_addPart_0 (k := 52) rfl
theorem dX4_addPart_96 : decode cX4_addPart 96 = .ok (.iload 6, 2) := dec_of da_X4_addPart_0 (k := 53) rfl
theorem dX4_addPart_98 : decode cX4_addPart 98 = .ok (.ifCond .ne 10, 3) := dec_of da_X4_addPart_0 (k := 54) rfl
theorem dX4_addPart_101 : decode cX4_addPart 101 = .ok (.aload_n 0, 1) := dec_of da_X4_addPart_0 (k := 55) rfl
theorem dX4_addPart_102 : decode cX4_addPart 102 = .ok (.iconst 0, 1) := dec_of da_X4_addPart_0 (k := 56) rfl
theorem dX4_addPart_103 : decode cX4_addPart 103 = .ok (.putfield 41, 3) := dec_of da_X4_addPart_0 (k := 57) rfl
theorem dX4_addPart_106 : decode cX4_addPart 106 = .ok (.iconst 0, 1) := dec_of da_X4_addPart_0 (k := 58) rfl
theorem dX4_addPart_107 : decode cX4_addPart 107 = .ok (.ireturn, 1) := dec_of da_X4_addPart_0 (k := 59) rfl
def dl_X4_addPart_1 : List (Nat × (Instr × Nat)) := [(108, (.aload_n 2, 1)), (109, (.iconst 0, 1)), (110, (.aload_n 0, 1)), (111, (.getfield 34, 3)), (114, (.aload_n 0, 1)), (115, (.getfield 59, 3)), (118, (.iload_n 3, 1)), (119, (.invokestatic 44, 3)), (122, (.aload_n 0, 1)), (123, (.dup, 1)), (124, (.getfield 59, 3)), (127, (.iload_n 3, 1)), (128, (.iadd, 1)), (129, (.putfield 59, 3)), (132, (.aload_n 0, 1)), (133, (.dup, 1)), (134, (.getfield 56, 3)), (137, (.iconst 1, 1)), (138, (.iadd, 1)), (139, (.putfield 56, 3)), (142, (.iconst 1, 1)), (143, (.ireturn, 1))]
set_option maxRecDepth 100000 in
theorem da_X4_addPart_1 : dl_X4_addPart_1.all (fun q => decide (decode cX4_addPart q.1 = .ok q.2)) = true := by decide +kernel
theorem dX4_addPart_108 : decode cX4_addPart 108 = .ok (.aload_n 2, 1) := dec_of da_X4_addPart_1 (k := 0) rfl
theorem dX4_addPart_109 : decode cX4_addPart 109 = .ok (.iconst 0, 1) := dec_of da_X4_addPart_1 (k := 1) rfl
theorem dX4_addPart_110 : decode cX4_addPart 110 = .ok (.aload_n 0, 1) := dec_of da_X4_addPart_1 (k := 2) rfl
theorem dX4_addPart_111 : decode cX4_addPart 111 = .ok (.getfield 34, 3) := dec_of da_X4_addPart_1 (k := 3) rfl
theorem dX4_addPart_114 : decode cX4_addPart 114 = .ok (.aload_n 0, 1) := dec_of da_X4_addPart_1 (k := 4) rfl
theorem dX4_addPart_115 : decode cX4_addPart 115 = .ok (.getfield 59, 3) := dec_of da_X4_addPart_1 (k := 5) rfl
theorem dX4_addPart_118 : decode cX4_addPart 118 = .ok (.iload_n 3, 1) := dec_of da_X4_addPart_1 (k := 6) rfl
theorem dX4_addPart_119 : decode cX4_addPart 119 = .ok (.invokestatic 44, 3) := dec_of da_X4_addPart_1 (k := 7) rfl
theorem dX4_addPart_122 : decode cX4_addPart 122 = .ok (.aload_n 0, 1) := dec_of da_X4_addPart_1 (k := 8) rfl
theorem dX4_addPart_123 : decode cX4_addPart 123 = .ok (.dup, 1) := dec_of da_X4_addPart_1 (k := 9) rfl
theorem dX4_addPart_124 : decode cX4_addPart 124 = .ok (.getfield 59, 3) := dec_of da_X4_addPart_1 (k := 10) rfl
theorem dX4_addPart_127 : decode cX4_addPart 127 = .ok (.iload_n 3, 1) := dec_of da_X4_addPart_1 (k := 11) rfl
theorem dX4_addPart_128 : decode cX4_addPart 128 = .ok (.iadd, 1) := dec_of da_X4_addPart_1 (k := 12) rfl
theorem dX4_addPart_129 : decode cX4_addPart 129 = .ok (.putfield 59, 3) := dec_of da_X4_addPart_1 (k := 13) rfl
theorem dX4_addPart_132 : decode cX4_addPart 132 = .ok (.aload_n 0, 1) := dec_of da_X4_addPart_1 (k := 14) rfl
theorem dX4_addPart_133 : decode cX4_addPart 133 = .ok (.dup, 1) := dec_of da_X4_addPart_1 (k := 15) rfl
theorem dX4_addPart_134 : decode cX4_addPart 134 = .ok (.getfield 56, 3) := dec_of da_X4_addPart_1 (k := 16) rfl
theorem dX4_addPart_137 : decode cX4_addPart 137 = .ok (.iconst 1, 1) := dec_of da_X4_addPart_1 (k := 17) rfl
theorem dX4_addPart_138 : decode cX4_addPart 138 = .ok (.iadd, 1) := dec_of da_X4_addPart_1 (k := 18) rfl
theorem dX4_addPart_139 : decode cX4_addPart 139 = .ok (.putfield 56, 3) := dec_of da_X4_addPart_1 (k := 19) rfl
theorem dX4_addPart_142 : decode cX4_addPart 142 = .ok (.iconst 1, 1) := dec_of da_X4_addPart_1 (k := 20) rfl
theorem dX4_addPart_143 : decode cX4_addPart 143 = .ok (.ireturn, 1) := dec_of da_X4_addPart_1 (k := 21) rfl
def dl_X5_init_0 : List (Nat × (Instr × Nat)) := [(0, (.aload_n 0, 1)), (1, (.invokespecial 3, 3)), (4, (.aload_n 0, 1)), (5, (.bipush 40, 2)), (7, (.sipush 300, 3)), (10, (.multianewarray 11 2, 4)), (14, (.putfield 13, 3)), (17, (.aload_n 0, 1)), (18, (.bipush 40, 2)), (20, (.newarray .int, 2)), (22, (.putfield 16, 3)), (25, (.aload_n 0, 1)), (26, (.bipush 40, 2)), (28, (.newarray .int, 2)), (30, (.putfield 20, 3)), (33, (.aload_n 0, 1)), (34, (.bipush 40, 2)), (36, (.newarray .int, 2)), (38, (.putfield 23, 3)), (41, (.aload_n 0, 1)), (42, (.bipush 40, 2)), (44, (.newarray .int, 2)), (46, (.putfield 26, 3)), (49, (.aload_n 0, 1)), (50, (.bipush 40, 2)), (52, (.newarray .boolean, 2)), (54, (.putfield 29, 3)), (57, (.aload_n 0, 1)), (58, (.bipush 39, 2)), (60, (.putfield 33, 3)), (63, (.aload_n 0, 1)), (64, (.bipush 16, 2)), (66, (.newarray .int, 2)), (68, (.putfield 37, 3)), (71, (.aload_n 0, 1)), (72, (.bipush (-4), 2)), (74, (.putfield 40, 3)), (77, (.aload_n 0, 1)), (78, (.bipush 30, 2)), (80, (.newarray .int, 2)), (82, (.putfield 43, 3)), (85, (.aload_n 0, 1)), (86, (.bipush 30, 2)), (88, (.newarray .int, 2)), (90, (.putfield 46, 3)), (93, (.return_, 1))]
set_option maxRecDepth 100000 in
theorem da_X5_init_0 : dl_X5_init_0.all (fun q => decide (decode cX5_init q.1 = .ok q.2)) = true := by decide +kernel
theorem dX5_init_0 : decode cX5_init 0 = .ok (.aload_n 0, 1) := dec_of da_X5_init_0 (k := 0) rfl
theorem dX5_init_1 : decode cX5_init 1 = .ok (.invokespecial 3, 3) := dec_of da_X5_init_0 (k := 1) rfl
theorem dX5_init_4 : decode cX5_init 4 = .ok (.aload_n 0, 1) := dec_of da_X5_init_0 (k := 2) rfl
theorem dX5_init_5 : decode cX5_init 5 = .ok (.bipush 40, 2) := dec_of da_X5_init_0 (k := 3) rfl
theorem dX5_init_7 : decode cX5_init 7 = .ok (.sipush 300, 3) := dec_of da_X5_init_0 (k := 4) rfl
theorem dX5_init_10 : decode cX5_init 10 = .ok (.multianewarray 11 2, 4) := dec_of da_X5_init_0 (k := 5) rfl
theorem dX5_init_14 : decode cX5_init 14 = .ok (.putfield 13, 3) := dec_of da_X5_init_0 (k := 6) rfl
theorem dX5_init_17 : decode cX5_init 17 = .ok (.aload_n 0, 1) := dec_of da_X5_init_0 (k := 7) rfl
theorem dX5_init_18 : decode cX5_init 18 = .ok (.bipush 40, 2) := dec_of da_X5_init_0 (k := 8) rfl
theorem dX5_init_20 : decode cX5_init 20 = .ok (.newarray .int, 2) := dec_of da_X5_init_0 (k := 9) rfl
theorem dX5_init_22 : decode cX5_init 22 = .ok (.putfield 16, 3) := dec_of da_X5_init_0 (k := 10) rfl
theorem dX5_init_25 : decode cX5_init 25 = .ok (.aload_n 0, 1) := dec_of da_X5_init_0 (k := 11) rfl
theorem dX5_init_26 : decode cX5_init 26 = .ok (.bipush 40, 2) := dec_of da_X5_init_0 (k := 12) rfl
theorem dX5_init_28 : decode cX5_init 28 = .ok (.newarray .int, 2) := dec_of da_X5_init_0 (k := 13) rfl
theorem dX5_init_30 : decode cX5_init 30 = .ok (.putfield 20, 3) := dec_of da_X5_init_0 (k := 14) rfl
theorem dX5_init_33 : decode cX5_init 33 = .ok (.aload_n 0, 1) := dec_of da_X5_init_0 (k := 15) rfl
theorem dX5_init_34 : decode cX5_init 34 = .ok (.bipush 40, 2) := dec_of da_X5_init_0 (k := 16) rfl
theorem dX5_init_36 : decode cX5_init 36 = .ok (.newarray .int, 2) := dec_of da_X5_init_0 (k := 17) rfl
theorem dX5_init_38 : decode cX5_init 38 = .ok (.putfield 23, 3) := dec_of da_X5_init_0 (k := 18) rfl
theorem dX5_init_41 : decode cX5_init 41 = .ok (.aload_n 0, 1) := dec_of da_X5_init_0 (k := 19) rfl
theorem dX5_init_42 : decode cX5_init 42 = .ok (.bipush 40, 2) := dec_of da_X5_init_0 (k := 20) rfl
theorem dX5_init_44 : decode cX5_init 44 = .ok (.newarray .int, 2) := dec_of da_X5_init_0 (k := 21) rfl
theorem dX5_init_46 : decode cX5_init 46 = .ok (.putfield 26, 3) := dec_of da_X5_init_0 (k := 22) rfl
theorem dX5_init_49 : decode cX5_init 49 = .ok (.aload_n 0, 1) := dec_of da_X5_init_0 (k := 23) rfl
theorem dX5_init_50 : decode cX5_init 50 = .ok (.bipush 40, 2) := dec_of da_X5_init_0 (k := 24) rfl
theorem dX5_init_52 : decode cX5_init 52 = .ok (.newarray .boolean, 2) := dec_of da_X5_init_0 (k := 25) rfl
theorem dX5_init_54 : decode cX5_init 54 = .ok (.putfield 29, 3) := dec_of da_X5_init_0 (k := 26) rfl
theorem dX5_init_57 : decode cX5_init 57 = .ok (.aload_n 0, 1) := dec_of da_X5_init_0 (k := 27) rfl
theorem dX5_init_58 : decode cX5_init 58 = .ok (.bipush 39, 2) := dec_of da_X5_init_0 (k := 28) rfl
theorem dX5_init_60 : decode cX5_init 60 = .ok (.putfield 33, 3) := dec_of da_X5_init_0 (k := 29) rfl
theorem dX5_init_63 : decode cX5_init 63 = .ok (.aload_n 0, 1) := dec_of da_X5_init_0 (k := 30) rfl
theorem dX5_init_64 : decode cX5_init 64 = .ok (.bipush 16, 2) := dec_of da_X5_init_0 (k := 31) rfl
theorem dX5_init_66 : decode cX5_init 66 = .ok (.newarray .int, 2) := dec_of da_X5_init_0 (k := 32) rfl
theorem dX5_init_68 : decode cX5_init 68 = .ok (.putfield 37, 3) := dec_of da_X5_init_0 (k := 33) rfl
theorem dX5_init_71 : decode cX5_init 71 = .ok (.aload_n 0, 1) := dec_of da_X5_init_0 (k := 34) rfl
theorem dX5_init_72 : decode cX5_init 72 = .ok (.bipush (-4), 2) := dec_of da_X5_init_0 (k := 35) rfl
theorem dX5_init_74 : decode cX5_init 74 = .ok (.putfield 40, 3) := dec_of da_X5_init_0 (k := 36) rfl
theorem dX5_init_77 : decode cX5_init 77 = .ok (.aload_n 0, 1) := dec_of da_X5_init_0 (k := 37) rfl
theorem dX5_init_78 : decode cX5_init 78 = .ok (.bipush 30, 2) := dec_of da_X5_init_0 (k := 38) rfl
theorem dX5_init_80 : decode cX5_init 80 = .ok (.newarray .int, 2) := dec_of da_X5_init_0 (k := 39) rfl
theorem dX5_init_82 : decode cX5_init 82 = .ok (.putfield 43, 3) := dec_of da_X5_init_0 (k := 40) rfl
theorem dX5_init_85 : decode cX5_init 85 = .ok (.aload_n 0, 1) := dec_of da_X5_init_0 (k := 41) rfl
theorem dX5_init_86 : decode cX5_init 86 = .ok (.bipush 30, 2) := dec_of da_X5_init_0 (k := 42) rfl
theorem dX5_init_88 : decode cX5_init 88 = .ok (.newarray .int, 2) := dec_of da_X5_init_0 (k := 43) rfl
theorem dX5_init_90 : decode cX5_init 90 = .ok (.putfield 46, 3) := dec_of da_X5_init_0 (k := 44) rfl
theorem dX5_init_93 : decode cX5_init 93 = .ok (.return_, 1) := dec_of da_X5_init_0 (k := 45) rfl
def dl_X5_addNoise_0 : List (Nat × (Instr × Nat)) := [(0, (.aload_n 0, 1)), (1, (.getfield 49, 3)), (4, (.bipush 30, 2)), (6, (.if_icmp .ge 21, 3)), (9, (.iload_n 1, 1)), (10, (.ifCond .lt 17, 3)), (13, (.iload_n 2, 1)), (14, (.iload_n 1, 1)), (15, (.if_icmp .lt 12, 3)), (18, (.iload_n 2, 1)), (19, (.iload_n 1, 1)), (20, (.isub, 1)), (21, (.sipush 2000, 3)), (24, (.if_icmp .lt 5, 3)), (27, (.iconst 0, 1)), (28, (.ireturn, 1)), (29, (.aload_n 0, 1)), (30, (.getfield 43, 3)), (33, (.aload_n 0, 1)), (34, (.getfield 49, 3)), (37, (.iload_n 1, 1)), (38, (.iastore, 1)), (39, (.aload_n 0, 1)), (40, (.getfield 46, 3)), (43, (.aload_n 0, 1)), (44, (.getfield 49, 3)), (47, (.iload_n 2, 1)), (48, (.iastore, 1)), (49, (.aload_n 0, 1)), (50, (.dup, 1)), (51, (.getfield 49, 3)), (54, (.iconst 1, 1)), (55, (.iadd, 1)), (56, (.putfield 49, 3)), (59, (.iconst 1, 1)), (60, (.ireturn, 1))]
set_option maxRecDepth 100000 in
theorem da_X5_addNoise_0 : dl_X5_addNoise_0.all (fun q => decide (decode cX5_addNoise q.1 = .ok q.2)) = true := by decide +kernel
theorem dX5_addNoise_0 : decode cX5_addNoise 0 = .ok (.aload_n 0, 1) := dec_of da_X5_addNoise_0 (k := 0) rfl
theorem dX5_addNoise_1 : decode cX5_addNoise 1 = .ok (.getfield 49, 3) := dec_of da_X5_addNoise_0 (k := 1) rfl
theorem dX5_addNoise_4 : decode cX5_addNoise 4 = .ok (.bipush 30, 2) := dec_of da_X5_addNoise_0 (k := 2) rfl
theorem dX5_addNoise_6 : decode cX5_addNoise 6 = .ok (.if_icmp .ge 21, 3) := dec_of da_X5_addNoise_0 (k := 3) rfl
theorem dX5_addNoise_9 : decode cX5_addNoise 9 = .ok (.iload_n 1, 1) := dec_of da_X5_addNoise_0 (k := 4) rfl
theorem dX5_addNoise_10 : decode cX5_addNoise 10 = .ok (.ifCond .lt 17, 3) := dec_of da_X5_addNoise_0 (k := 5) rfl
theorem dX5_addNoise_13 : decode cX5_addNoise 13 = .ok (.iload_n 2, 1) := dec_of da_X5_addNoise_0 (k := 6) rfl
theorem dX5_addNoise_14 : decode cX5_addNoise 14 = .ok (.iload_n 1, 1) := dec_of da_X5_addNoise_0 (k := 7) rfl
theorem dX5_addNoise_15 : decode cX5_addNoise 15 = .ok (.if_icmp .lt 12, 3) := dec_of da_X5_addNoise_0 (k := 8) rfl
theorem dX5_addNoise_18 : decode cX5_addNoise 18 = .ok (.iload_n 2, 1) := dec_of da_X5_addNoise_0 (k := 9) rfl
theorem dX5_addNoise_19 : decode cX5_addNoise 19 = .ok (.iload_n 1, 1) := dec_of da_X5_addNoise_0 (k := 10) rfl
theorem dX5_addNoise_20 : decode cX5_addNoise 20 = .ok (.isub, 1) := dec_of da_X5_addNoise_0 (k := 11) rfl
theorem dX5_addNoise_21 : decode cX5_addNoise 21 = .ok (.sipush 2000, 3) := dec_of da_X5_addNoise_0 (k := 12) rfl
theorem dX5_addNoise_24 : decode cX5_addNoise 24 = .ok (.if_icmp .lt 5, 3) := dec_of da_X5_addNoise_0 (k := 13) rfl
theorem dX5_addNoise_27 : decode cX5_addNoise 27 = .ok (.iconst 0, 1) := dec_of da_X5_addNoise_0 (k := 14) rfl
theorem dX5_addNoise_28 : decode cX5_addNoise 28 = .ok (.ireturn, 1) := dec_of da_X5_addNoise_0 (k := 15) rfl
theorem dX5_addNoise_29 : decode cX5_addNoise 29 = .ok (.aload_n 0, 1) := dec_of da_X5_addNoise_0 (k := 16) rfl
theorem dX5_addNoise_30 : decode cX5_addNoise 30 = .ok (.getfield 43, 3) := dec_of da_X5_addNoise_0 (k := 17) rfl
theorem dX5_addNoise_33 : decode cX5_addNoise 33 = .ok (.aload_n 0, 1) := dec_of da_X5_addNoise_0 (k := 18) rfl
theorem dX5_addNoise_34 : decode cX5_addNoise 34 = .ok (.getfield 49, 3) := dec_of da_X5_addNoise_0 (k := 19) rfl
theorem dX5_addNoise_37 : decode cX5_addNoise 37 = .ok (.iload_n 1, 1) := dec_of da_X5_addNoise_0 (k := 20) rfl
theorem dX5_addNoise_38 : decode cX5_addNoise 38 = .ok (.iastore, 1) := dec_of da_X5_addNoise_0 (k := 21) rfl
theorem dX5_addNoise_39 : decode cX5_addNoise 39 = .ok (.aload_n 0, 1) := dec_of da_X5_addNoise_0 (k := 22) rfl
theorem dX5_addNoise_40 : decode cX5_addNoise 40 = .ok (.getfield 46, 3) := dec_of da_X5_addNoise_0 (k := 23) rfl
theorem dX5_addNoise_43 : decode cX5_addNoise 43 = .ok (.aload_n 0, 1) := dec_of da_X5_addNoise_0 (k := 24) rfl
theorem dX5_addNoise_44 : decode cX5_addNoise 44 = .ok (.getfield 49, 3) := dec_of da_X5_addNoise_0 (k := 25) rfl
theorem dX5_addNoise_47 : decode cX5_addNoise 47 = .ok (.iload_n 2, 1) := dec_of da_X5_addNoise_0 (k := 26) rfl
theorem dX5_addNoise_48 : decode cX5_addNoise 48 = .ok (.iastore, 1) := dec_of da_X5_addNoise_0 (k := 27) rfl
theorem dX5_addNoise_49 : decode cX5_addNoise 49 = .ok (.aload_n 0, 1) := dec_of da_X5_addNoise_0 (k := 28) rfl
theorem dX5_addNoise_50 : decode cX5_addNoise 50 = .ok (.dup, 1) := dec_of da_X5_addNoise_0 (k := 29) rfl
theorem dX5_addNoise_51 : decode cX5_addNoise 51 = .ok (.getfield 49, 3) := dec_of da_X5_addNoise_0 (k := 30) rfl
theorem dX5_addNoise_54 : decode cX5_addNoise 54 = .ok (.iconst 1, 1) := dec_of da_X5_addNoise_0 (k := 31) rfl
theorem dX5_addNoise_55 : decode cX5_addNoise 55 = .ok (.iadd, 1) := dec_of da_X5_addNoise_0 (k := 32) rfl
theorem dX5_addNoise_56 : decode cX5_addNoise 56 = .ok (.putfield 49, 3) := dec_of da_X5_addNoise_0 (k := 33) rfl
theorem dX5_addNoise_59 : decode cX5_addNoise 59 = .ok (.iconst 1, 1) := dec_of da_X5_addNoise_0 (k := 34) rfl
theorem dX5_addNoise_60 : decode cX5_addNoise 60 = .ok (.ireturn, 1) := dec_of da_X5_addNoise_0 (k := 35) rfl
def dl_X5_isNoisy_0 : List (Nat × (Instr × Nat)) := [(0, (.iconst 0, 1)), (1, (.istore_n 1, 1)), (2, (.iload_n 1, 1)), (3, (.aload_n 0, 1)), (4, (.getfield 49, 3)), (7, (.if_icmp .ge 37, 3)), (10, (.aload_n 0, 1)), (11, (.getfield 43, 3)), (14, (.iload_n 1, 1)), (15, (.iaload, 1)), (16, (.aload_n 0, 1)), (17, (.getfield 52, 3)), (20, (.if_icmp .gt 18, 3)), (23, (.aload_n 0, 1)), (24, (.getfield 52, 3)), (27, (.aload_n 0, 1)), (28, (.getfield 46, 3)), (31, (.iload_n 1, 1)), (32, (.iaload, 1)), (33, (.if_icmp .gt 5, 3)), (36, (.iconst 1, 1)), (37, (.ireturn, 1)), (38, (.iinc 1 1, 3)), (41, (.goto (-39), 3)), (44, (.iconst 0, 1)), (45, (.ireturn, 1))]
set_option maxRecDepth 100000 in
theorem da_X5_isNoisy_0 : dl_X5_isNoisy_0.all (fun q => decide (decode cX5_isNoisy q.1 = .ok q.2)) = true := by decide +kernel
theorem dX5_isNoisy_0 : decode cX5_isNoisy 0 = .ok (.iconst 0, 1) := dec_of da_X5_isNoisy_0 (k := 0) rfl
theorem dX5_isNoisy_1 : decode cX5_isNoisy 1 = .ok (.istore_n 1, 1) := dec_of da_X5_isNoisy_0 (k := 1) rfl
theorem dX5_isNoisy_2 : decode cX5_isNoisy 2 = .ok (.iload_n 1, 1) := dec_of da_X5_isNoisy_0 (k := 2) rfl
theorem dX5_isNoisy_3 : decode cX5_isNoisy 3 = .ok (.aload_n 0, 1) := dec_of da_X5_isNoisy_0 (k := 3) rfl
theorem dX5_isNoisy_4 : decode cX5_isNoisy 4 = .ok (.getfield 49, 3) := dec_of da_X5_isNoisy_0 (k := 4) rfl
theorem dX5_isNoisy_7 : decode cX5_isNoisy 7 = .ok (.if_icmp .ge 37, 3) := dec_of da_X5_isNoisy_0 (k := 5) rfl
theorem dX5_isNoisy_10 : decode cX5_isNoisy 10 = .ok (.aload_n 0, 1) := dec_of da_X5_isNoisy_0 (k := 6) rfl
theorem dX5_isNoisy_11 : decode cX5_isNoisy 11 = .ok (.getfield 43, 3) := dec_of da_X5_isNoisy_0 (k := 7) rfl
theorem dX5_isNoisy_14 : decode cX5_isNoisy 14 = .ok (.iload_n 1, 1) := dec_of da_X5_isNoisy_0 (k := 8) rfl
theorem dX5_isNoisy_15 : decode cX5_isNoisy 15 = .ok (.iaload, 1) := dec_of da_X5_isNoisy_0 (k := 9) rfl
theorem dX5_isNoisy_16 : decode cX5_isNoisy 16 = .ok (.aload_n 0, 1) := dec_of da_X5_isNoisy_0 (k := 10) rfl
theorem dX5_isNoisy_17 : decode cX5_isNoisy 17 = .ok (.getfield 52, 3) := dec_of da_X5_isNoisy_0 (k := 11) rfl
theorem dX5_isNoisy_20 : decode cX5_isNoisy 20 = .ok (.if_icmp .gt 18, 3) := dec_of da_X5_isNoisy_0 (k := 12) rfl
theorem dX5_isNoisy_23 : decode cX5_isNoisy 23 = .ok (.aload_n 0, 1) := dec_of da_X5_isNoisy_0 (k := 13) rfl
theorem dX5_isNoisy_24 : decode cX5_isNoisy 24 = .ok (.getfield 52, 3) := dec_of da_X5_isNoisy_0 (k := 14) rfl
theorem dX5_isNoisy_27 : decode cX5_isNoisy 27 = .ok (.aload_n 0, 1) := dec_of da_X5_isNoisy_0 (k := 15) rfl
theorem dX5_isNoisy_28 : decode cX5_isNoisy 28 = .ok (.getfield 46, 3) := dec_of da_X5_isNoisy_0 (k := 16) rfl
theorem dX5_isNoisy_31 : decode cX5_isNoisy 31 = .ok (.iload_n 1, 1) := dec_of da_X5_isNoisy_0 (k := 17) rfl
theorem dX5_isNoisy_32 : decode cX5_isNoisy 32 = .ok (.iaload, 1) := dec_of da_X5_isNoisy_0 (k := 18) rfl
theorem dX5_isNoisy_33 : decode cX5_isNoisy 33 = .ok (.if_icmp .gt 5, 3) := dec_of da_X5_isNoisy_0 (k := 19) rfl
theorem dX5_isNoisy_36 : decode cX5_isNoisy 36 = .ok (.iconst 1, 1) := dec_of da_X5_isNoisy_0 (k := 20) rfl
theorem dX5_isNoisy_37 : decode cX5_isNoisy 37 = .ok (.ireturn, 1) := dec_of da_X5_isNoisy_0 (k := 21) rfl
theorem dX5_isNoisy_38 : decode cX5_isNoisy 38 = .ok (.iinc 1 1, 3) := dec_of da_X5_isNoisy_0 (k := 22) rfl
theorem dX5_isNoisy_41 : decode cX5_isNoisy 41 = .ok (.goto (-39), 3) := dec_of da_X5_isNoisy_0 (k := 23) rfl
theorem dX5_isNoisy_44 : decode cX5_isNoisy 44 = .ok (.iconst 0, 1) := dec_of da_X5_isNoisy_0 (k := 24) rfl
theorem dX5_isNoisy_45 : decode cX5_isNoisy 45 = .ok (.ireturn, 1) := dec_of da_X5_isNoisy_0 (k := 25) rfl
def dl_X5_isQuietSince_0 : List (Nat × (Instr × Nat)) := [(0, (.aload_n 0, 1)), (1, (.getfield 52, 3)), (4, (.aload_n 0, 1)), (5, (.getfield 40, 3)), (8, (.isub, 1)), (9, (.iconst 3, 1)), (10, (.if_icmp .le 7, 3)), (13, (.iconst 1, 1)), (14, (.goto 4, 3)), (17, (.iconst 0, 1)), (18, (.ireturn, 1))]
set_option maxRecDepth 100000 in
theorem da_X5_isQuietSince_0 : dl_X5_isQuietSince_0.all (fun q => decide (decode cX5_isQuietSince q.1 = .ok q.2)) = true := by decide +kernel
theorem dX5_isQuietSince_0 : decode cX5_isQuietSince 0 = .ok (.aload_n 0, 1) := dec_of da_X5_isQuietSince_0 (k := 0) rfl
theorem dX5_isQuietSince_1 : decode cX5_isQuietSince 1 = .ok (.getfield 52, 3) := dec_of da_X5_isQuietSince_0 (k := 1) rfl
theorem dX5_isQuietSince_4 : decode cX5_isQuietSince 4 = .ok (.aload_n 0, 1) := dec_of da_X5_isQuietSince_0 (k := 2) rfl
theorem dX5_isQuietSince_5 : decode cX5_isQuietSince 5 = .ok (.getfield 40, 3) := dec_of da_X5_isQuietSince_0 (k := 3) rfl
theorem dX5_isQuietSince_8 : decode cX5_isQuietSince 8 = .ok (.isub, 1) := dec_of da_X5_isQuietSince_0 (k := 4) rfl
theorem dX5_isQuietSince_9 : decode cX5_isQuietSince 9 = .ok (.iconst 3, 1) := dec_of da_X5_isQuietSince_0 (k := 5) rfl
theorem dX5_isQuietSince_10 : decode cX5_isQuietSince 10 = .ok (.if_icmp .le 7, 3) := dec_of da_X5_isQuietSince_0 (k := 6) rfl
theorem dX5_isQuietSince_13 : decode cX5_isQuietSince 13 = .ok (.iconst 1, 1) := dec_of da_X5_isQuietSince_0 (k := 7) rfl
theorem dX5_isQuietSince_14 : decode cX5_isQuietSince 14 = .ok (.goto 4, 3) := dec_of da_X5_isQuietSince_0 (k := 8) rfl
theorem dX5_isQuietSince_17 : decode cX5_isQuietSince 17 = .ok (.iconst 0, 1) := dec_of da_X5_isQuietSince_0 (k := 9) rfl
theorem dX5_isQuietSince_18 : decode cX5_isQuietSince 18 = .ok (.ireturn, 1) := dec_of da_X5_isQuietSince_0 (k := 10) rfl
def dl_X5_passQuiet_0 : List (Nat × (Instr × Nat)) := [(0, (.aload_n 0, 1)), (1, (.dup, 1)), (2, (.getfield 52, 3)), (5, (.iload_n 1, 1)), (6, (.iadd, 1)), (7, (.putfield 52, 3)), (10, (.aload_n 0, 1)), (11, (.dup, 1)), (12, (.getfield 55, 3)), (15, (.iload_n 1, 1)), (16, (.iadd, 1)), (17, (.putfield 55, 3)), (20, (.return_, 1))]
set_option maxRecDepth 100000 in
theorem da_X5_passQuiet_0 : dl_X5_passQuiet_0.all (fun q => decide (decode cX5_passQuiet q.1 = .ok q.2)) = true := by decide +kernel
theorem dX5_passQuiet_0 : decode cX5_passQuiet 0 = .ok (.aload_n 0, 1) := dec_of da_X5_passQuiet_0 (k := 0) rfl
theorem dX5_passQuiet_1 : decode cX5_passQuiet 1 = .ok (.dup, 1) := dec_of da_X5_passQuiet_0 (k := 1) rfl
theorem dX5_passQuiet_2 : decode cX5_passQuiet 2 = .ok (.getfield 52, 3) := dec_of da_X5_passQuiet_0 (k := 2) rfl
theorem dX5_passQuiet_5 : decode cX5_passQuiet 5 = .ok (.iload_n 1, 1) := dec_of da_X5_passQuiet_0 (k := 3) rfl
theorem dX5_passQuiet_6 : decode cX5_passQuiet 6 = .ok (.iadd, 1) := dec_of da_X5_passQuiet_0 (k := 4) rfl
theorem dX5_passQuiet_7 : decode cX5_passQuiet 7 = .ok (.putfield 52, 3) := dec_of da_X5_passQuiet_0 (k := 5) rfl
theorem dX5_passQuiet_10 : decode cX5_passQuiet 10 = .ok (.aload_n 0, 1) := dec_of da_X5_passQuiet_0 (k := 6) rfl
theorem dX5_passQuiet_11 : decode cX5_passQuiet 11 = .ok (.dup, 1) := dec_of da_X5_passQuiet_0 (k := 7) rfl
theorem dX5_passQuiet_12 : decode cX5_passQuiet 12 = .ok (.getfield 55, 3) := dec_of da_X5_passQuiet_0 (k := 8) rfl
theorem dX5_passQuiet_15 : decode cX5_passQuiet 15 = .ok (.iload_n 1, 1) := dec_of da_X5_passQuiet_0 (k := 9) rfl
theorem dX5_passQuiet_16 : decode cX5_passQuiet 16 = .ok (.iadd, 1) := dec_of da_X5_passQuiet_0 (k := 10) rfl
theorem dX5_passQuiet_17 : decode cX5_passQuiet 17 = .ok (.putfield 55, 3) := dec_of da_X5_passQuiet_0 (k := 11) rfl
theorem dX5_passQuiet_20 : decode cX5_passQuiet 20 = .ok (.return_, 1) := dec_of da_X5_passQuiet_0 (k := 12) rfl
def dl_X5_begin_0 : List (Nat × (Instr × Nat)) := [(0, (.aload_n 0, 1)), (1, (.getfield 52, 3)), (4, (.iload_n 2, 1)), (5, (.invokestatic 58, 3)), (8, (.iadd, 1)), (9, (.iconst 1, 1)), (10, (.isub, 1)), (11, (.istore 4, 2)), (13, (.aload_n 0, 1)), (14, (.aload_n 0, 1)), (15, (.getfield 33, 3)), (18, (.iconst 1, 1)), (19, (.iadd, 1)), (20, (.bipush 40, 2)), (22, (.irem, 1)), (23, (.putfield 33, 3)), (26, (.aload_n 0, 1)), (27, (.aload_n 0, 1)), (28, (.getfield 62, 3)), (31, (.iconst 1, 1)), (32, (.iadd, 1)), (33, (.bipush 40, 2)), (35, (.invokestatic 65, 3)), (38, (.putfield 62, 3)), (41, (.aload_n 1, 1)), (42, (.iconst 0, 1)), (43, (.aload_n 0, 1)), (44, (.getfield 13, 3)), (47, (.aload_n 0, 1)), (48, (.getfield 33, 3)), (51, (.aaload, 1)), (52, (.iconst 0, 1)), (53, (.iload_n 2, 1)), (54, (.invokestatic 71, 3)), (57, (.aload_n 0, 1)), (58, (.getfield 16, 3)), (61, (.aload_n 0, 1)), (62, (.getfield 33, 3)), (65, (.iload_n 2, 1)), (66, (.iastore, 1)), (67, (.aload_n 0, 1)), (68, (.getfield 20, 3)), (71, (.aload_n 0, 1)), (72, (.getfield 33, 3)), (75, (.iload_n 3, 1)), (76, (.iastore, 1)), (77, (.aload_n 0, 1)), (78, (.getfield 23, 3)), (81, (.aload_n 0, 1)), (82, (.getfield 33, 3)), (85, (.aload_n 0, 1)), (86, (.getfield 52, 3)), (89, (.iastore, 1)), (90, (.aload_n 0, 1)), (91, (.getfield 26, 3)), (94, (.aload_n 0, 1)), (95, (.getfield 33, 3)), (98, (.iload 4, 2)), (100, (.iastore, 1)), (101, (.aload_n 0, 1))]
set_option maxRecDepth 100000 in
theorem da_X5_begin_0 : dl_X5_begin_0.all (fun q => decide (decode cX5_begin q.1 = .ok q.2)) = true := by decide +kernel
theorem dX5_begin_0 : decode cX5_begin 0 = .ok (.aload_n 0, 1) := dec_of da_X5_begin_0 (k := 0) rfl
theorem dX5_begin_1 : decode cX5_begin 1 = .ok (.getfield 52, 3) := dec_of da_X5_begin_0 (k := 1) rfl
theorem dX5_begin_4 : decode cX5_begin 4 = .ok (.iload_n 2, 1) := dec_of da_X5_begin_0 (k := 2) rfl
theorem dX5_begin_5 : decode cX5_begin 5 = .ok (.invokestatic 58, 3) := dec_of da_X5_begin_0 (k := 3) rfl
theorem dX5_begin_8 : decode cX5_begin 8 = .ok (.iadd, 1) := dec_of da_X5_begin_0 (k := 4) rfl
theorem dX5_begin_9 : decode cX5_begin 9 = .ok (.iconst 1, 1) := dec_of da_X5_begin_0 (k := 5) rfl
theorem dX5_begin_10 : decode cX5_begin 10 = .ok (.isub, 1) := dec_of da_X5_begin_0 (k := 6) rfl
theorem dX5_begin_11 : decode cX5_begin 11 = .ok (.istore 4, 2) := dec_of da_X5_begin_0 (k := 7) rfl
theorem dX5_begin_13 : decode cX5_begin 13 = .ok (.aload_n 0, 1) := dec_of da_X5_begin_0 (k := 8) rfl
theorem dX5_begin_14 : decode cX5_begin 14 = .ok (.aload_n 0, 1) := dec_of da_X5_begin_0 (k := 9) rfl
theorem dX5_begin_15 : decode cX5_begin 15 = .ok (.getfield 33, 3) := dec_of da_X5_begin_0 (k := 10) rfl
theorem dX5_begin_18 : decode cX5_begin 18 = .ok (.iconst 1, 1) := dec_of da_X5_begin_0 (k := 11) rfl
theorem dX5_begin_19 : decode cX5_begin 19 = .ok (.iadd, 1) := dec_of da_X5_begin_0 (k := 12) rfl
theorem dX5_begin_20 : decode cX5_begin 20 = .ok (.bipush 40, 2) := dec_of da_X5_begin_0 (k := 13) rfl
theorem dX5_begin_22 : decode cX5_begin 22 = .ok (.irem, 1) := dec_of da_X5_begin_0 (k := 14) rfl
theorem dX5_begin_23 : decode cX5_begin 23 = .ok (.putfield 33, 3) := dec_of da_X5_begin_0 (k := 15) rfl
theorem dX5_begin_26 : decode cX5_begin 26 = .ok (.aload_n 0, 1) := dec_of da_X5_begin_0 (k := 16) rfl
theorem dX5_begin_27 : decode cX5_begin 27 = .ok (.aload_n 0, 1) := dec_of da_X5_begin_0 (k := 17) rfl
theorem dX5_begin_28 : decode cX5_begin 28 = .ok (.getfield 62, 3) := dec_of da_X5_begin_0 (k := 18) rfl
theorem dX5_begin_31 : decode cX5_begin 31 = .ok (.iconst 1, 1) := dec_of da_X5_begin_0 (k := 19) rfl
theorem dX5_begin_32 : decode cX5_begin 32 = .ok (.iadd, 1) := dec_of da_X5_begin_0 (k := 20) rfl
theorem dX5_begin_33 : decode cX5_begin 33 = .ok (.bipush 40, 2) := dec_of da_X5_begin_0 (k := 21) rfl
theorem dX5_begin_35 : decode cX5_begin 35 = .ok (.invokestatic 65, 3) := dec_of da_X5_begin_0 (k := 22) rfl
theorem dX5_begin_38 : decode cX5_begin 38 = .ok (.putfield 62, 3) := dec_of da_X5_begin_0 (k := 23) rfl
theorem dX5_begin_41 : decode cX5_begin 41 = .ok (.aload_n 1, 1) := dec_of da_X5_begin_0 (k := 24) rfl
theorem dX5_begin_42 : decode cX5_begin 42 = .ok (.iconst 0, 1) := dec_of da_X5_begin_0 (k := 25) rfl
theorem dX5_begin_43 : decode cX5_begin 43 = .ok (.aload_n 0, 1) := dec_of da_X5_begin_0 (k := 26) rfl
theorem dX5_begin_44 : decode cX5_begin 44 = .ok (.getfield 13, 3) := dec_of da_X5_begin_0 (k := 27) rfl
theorem dX5_begin_47 : decode cX5_begin 47 = .ok (.aload_n 0, 1) := dec_of da_X5_begin_0 (k := 28) rfl
theorem dX5_begin_48 : decode cX5_begin 48 = .ok (.getfield 33, 3) := dec_of da_X5_begin_0 (k := 29) rfl
theorem dX5_begin_51 : decode cX5_begin 51 = .ok (.aaload, 1) := dec_of da_X5_begin_0 (k := 30) rfl
theorem dX5_begin_52 : decode cX5_begin 52 = .ok (.iconst 0, 1) := dec_of da_X5_begin_0 (k := 31) rfl
theorem dX5_begin_53 : decode cX5_begin 53 = .ok (.iload_n 2, 1) := dec_of da_X5_begin_0 (k := 32) rfl
theorem dX5_begin_54 : decode cX5_begin 54 = .ok (.invokestatic 71, 3) := dec_of da_X5_begin_0 (k := 33) rfl
theorem dX5_begin_57 : decode cX5_begin 57 = .ok (.aload_n 0, 1) := dec_of da_X5_begin_0 (k := 34) rfl
theorem dX5_begin_58 : decode cX5_begin 58 = .ok (.getfield 16, 3) := dec_of da_X5_begin_0 (k := 35) rfl
theorem dX5_begin_61 : decode cX5_begin 61 = .ok (.aload_n 0, 1) := dec_of da_X5_begin_0 (k := 36) rfl
theorem dX5_begin_62 : decode cX5_begin 62 = .ok (.getfield 33, 3) := dec_of da_X5_begin_0 (k := 37) rfl
theorem dX5_begin_65 : decode cX5_begin 65 = .ok (.iload_n 2, 1) := dec_of da_X5_begin_0 (k := 38) rfl
theorem dX5_begin_66 : decode cX5_begin 66 = .ok (.iastore, 1) := dec_of da_X5_begin_0 (k := 39) rfl
theorem dX5_begin_67 : decode cX5_begin 67 = .ok (.aload_n 0, 1) := dec_of da_X5_begin_0 (k := 40) rfl
theorem dX5_begin_68 : decode cX5_begin 68 = .ok (.getfield 20, 3) := dec_of da_X5_begin_0 (k := 41) rfl
theorem dX5_begin_71 : decode cX5_begin 71 = .ok (.aload_n 0, 1) := dec_of da_X5_begin_0 (k := 42) rfl
theorem dX5_begin_72 : decode cX5_begin 72 = .ok (.getfield 33, 3) := dec_of da_X5_begin_0 (k := 43) rfl
theorem dX5_begin_75 : decode cX5_begin 75 = .ok (.iload_n 3, 1) := dec_of da_X5_begin_0 (k := 44) rfl
theorem dX5_begin_76 : decode cX5_begin 76 = .ok (.iastore, 1) := dec_of da_X5_begin_0 (k := 45) rfl
theorem dX5_begin_77 : decode cX5_begin 77 = .ok (.aload_n 0, 1) := dec_of da_X5_begin_0 (k := 46) rfl
theorem dX5_begin_78 : decode cX5_begin 78 = .ok (.getfield 23, 3) := dec_of da_X5_begin_0 (k := 47) rfl
theorem dX5_begin_81 : decode cX5_begin 81 = .ok (.aload_n 0, 1) := dec_of da_X5_begin_0 (k := 48) rfl
theorem dX5_begin_82 : decode cX5_begin 82 = .ok (.getfield 33, 3) := dec_of da_X5_begin_0 (k := 49) rfl
theorem dX5_begin_85 : decode cX5_begin 85 = .ok (.aload_n 0, 1) := dec_of da_X5_begin_0 (k := 50) rfl
theorem dX5_begin_86 : decode cX5_begin 86 = .ok (.getfield 52, 3) := dec_of da_X5_begin_0 (k := 51) rfl
theorem dX5_begin_89 : decode cX5_begin 89 = .ok (.iastore, 1) := dec_of da_X5_begin_0 (k := 52) rfl
theorem dX5_begin_90 : decode cX5_begin 90 = .ok (.aload_n 0, 1) := dec_of da_X5_begin_0 (k := 53) rfl
theorem dX5_begin_91 : decode cX5_begin 91 = .ok (.getfield 26, 3) := dec_of da_X5_begin_0 (k := 54) rfl
theorem dX5_begin_94 : decode cX5_begin 94 = .ok (.aload_n 0, 1) := dec_of da_X5_begin_0 (k := 55) rfl
theorem dX5_begin_95 : decode cX5_begin 95 = .ok (.getfield 33, 3) := dec_of da_X5_begin_0 (k := 56) rfl
theorem dX5_begin_98 : decode cX5_begin 98 = .ok (.iload 4, 2) := dec_of da_X5_begin_0 (k := 57) rfl
theorem dX5_begin_100 : decode cX5_begin 100 = .ok (.iastore, 1) := dec_of da_X5_begin_0 (k := 58) rfl
theorem dX5_begin_101 : decode cX5_begin 101 = .ok (.aload_n 0, 1) := dec_of da_X5_begin_0 (k := 59) rfl
def dl_X5_begin_1 : List (Nat × (Instr × Nat)) := [(102, (.getfield 29, 3)), (105, (.aload_n 0, 1)), (106, (.getfield 33, 3)), (109, (.iconst 0, 1)), (110, (.bastore, 1)), (111, (.aload_n 0, 1)), (112, (.getfield 37, 3)), (115, (.iload 4, 2)), (117, (.bipush 15, 2)), (119, (.iand, 1)), (120, (.dup2, 1)), (121, (.iaload, 1)), (122, (.iconst 1, 1)), (123, (.iadd, 1)), (124, (.iastore, 1)), (125, (.aload_n 0, 1)), (126, (.dup, 1)), (127, (.getfield 77, 3)), (130, (.iconst 1, 1)), (131, (.iadd, 1)), (132, (.putfield 77, 3)), (135, (.aload_n 0, 1)), (136, (.dup, 1)), (137, (.getfield 80, 3)), (140, (.iconst 1, 1)), (141, (.iadd, 1)), (142, (.putfield 80, 3)), (145, (.iload 4, 2)), (147, (.ireturn, 1))]
set_option maxRecDepth 100000 in
theorem da_X5_begin_1 : dl_X5_begin_1.all (fun q => decide (decode cX5_begin q.1 = .ok q.2)) = true := by decide +kernel
theorem dX5_begin_102 : decode cX5_begin 102 = .ok (.getfield 29, 3) := dec_of da_X5_begin_1 (k := 0) rfl
theorem dX5_begin_105 : decode cX5_begin 105 = .ok (.aload_n 0, 1) := dec_of da_X5_begin_1 (k := 1) rfl
theorem dX5_begin_106 : decode cX5_begin 106 = .ok (.getfield 33, 3) := dec_of da_X5_begin_1 (k := 2) rfl
theorem dX5_begin_109 : decode cX5_begin 109 = .ok (.iconst 0, 1) := dec_of da_X5_begin_1 (k := 3) rfl
theorem dX5_begin_110 : decode cX5_begin 110 = .ok (.bastore, 1) := dec_of da_X5_begin_1 (k := 4) rfl
theorem dX5_begin_111 : decode cX5_begin 111 = .ok (.aload_n 0, 1) := dec_of da_X5_begin_1 (k := 5) rfl
theorem dX5_begin_112 : decode cX5_begin 112 = .ok (.getfield 37, 3) := dec_of da_X5_begin_1 (k := 6) rfl
theorem dX5_begin_115 : decode cX5_begin 115 = .ok (.iload 4, 2) := dec_of da_X5_begin_1 (k := 7) rfl
theorem dX5_begin_117 : decode cX5_begin 117 = .ok (.bipush 15, 2) := dec_of da_X5_begin_1 (k := 8) rfl
theorem dX5_begin_119 : decode cX5_begin 119 = .ok (.iand, 1) := dec_of da_X5_begin_1 (k := 9) rfl
theorem dX5_begin_120 : decode cX5_begin 120 = .ok (.dup2, 1) := dec_of da_X5_begin_1 (k := 10) rfl
theorem dX5_begin_121 : decode cX5_begin 121 = .ok (.iaload, 1) := dec_of da_X5_begin_1 (k := 11) rfl
theorem dX5_begin_122 : decode cX5_begin 122 = .ok (.iconst 1, 1) := dec_of da_X5_begin_1 (k := 12) rfl
theorem dX5_begin_123 : decode cX5_begin 123 = .ok (.iadd, 1) := dec_of da_X5_begin_1 (k := 13) rfl
theorem dX5_begin_124 : decode cX5_begin 124 = .ok (.iastore, 1) := dec_of da_X5_begin_1 (k := 14) rfl
theorem dX5_begin_125 : decode cX5_begin 125 = .ok (.aload_n 0, 1) := dec_of da_X5_begin_1 (k := 15) rfl
theorem dX5_begin_126 : decode cX5_begin 126 = .ok (.dup, 1) := dec_of da_X5_begin_1 (k := 16) rfl
theorem dX5_begin_127 : decode cX5_begin 127 = .ok (.getfield 77, 3) := dec_of da_X5_begin_1 (k := 17) rfl
theorem dX5_begin_130 : decode cX5_begin 130 = .ok (.iconst 1, 1) := dec_of da_X5_begin_1 (k := 18) rfl
theorem dX5_begin_131 : decode cX5_begin 131 = .ok (.iadd, 1) := dec_of da_X5_begin_1 (k := 19) rfl
theorem dX5_begin_132 : decode cX5_begin 132 = .ok (.putfield 77, 3) := dec_of da_X5_begin_1 (k := 20) rfl
theorem dX5_begin_135 : decode cX5_begin 135 = .ok (.aload_n 0, 1) := dec_of da_X5_begin_1 (k := 21) rfl
theorem dX5_begin_136 : decode cX5_begin 136 = .ok (.dup, 1) := dec_of da_X5_begin_1 (k := 22) rfl
theorem dX5_begin_137 : decode cX5_begin 137 = .ok (.getfield 80, 3) := dec_of da_X5_begin_1 (k := 23) rfl
theorem dX5_begin_140 : decode cX5_begin 140 = .ok (.iconst 1, 1) := dec_of da_X5_begin_1 (k := 24) rfl
theorem dX5_begin_141 : decode cX5_begin 141 = .ok (.iadd, 1) := dec_of da_X5_begin_1 (k := 25) rfl
theorem dX5_begin_142 : decode cX5_begin 142 = .ok (.putfield 80, 3) := dec_of da_X5_begin_1 (k := 26) rfl
theorem dX5_begin_145 : decode cX5_begin 145 = .ok (.iload 4, 2) := dec_of da_X5_begin_1 (k := 27) rfl
theorem dX5_begin_147 : decode cX5_begin 147 = .ok (.ireturn, 1) := dec_of da_X5_begin_1 (k := 28) rfl
def dl_X5_slotsOf_0 : List (Nat × (Instr × Nat)) := [(0, (.iconst 2, 1)), (1, (.iload_n 0, 1)), (2, (.bipush 31, 2)), (4, (.iadd, 1)), (5, (.bipush 32, 2)), (7, (.idiv, 1)), (8, (.iadd, 1)), (9, (.ireturn, 1))]
set_option maxRecDepth 100000 in
theorem da_X5_slotsOf_0 : dl_X5_slotsOf_0.all (fun q => decide (decode cX5_slotsOf q.1 = .ok q.2)) = true := by decide +kernel
theorem dX5_slotsOf_0 : decode cX5_slotsOf 0 = .ok (.iconst 2, 1) := dec_of da_X5_slotsOf_0 (k := 0) rfl
theorem dX5_slotsOf_1 : decode cX5_slotsOf 1 = .ok (.iload_n 0, 1) := dec_of da_X5_slotsOf_0 (k := 1) rfl
theorem dX5_slotsOf_2 : decode cX5_slotsOf 2 = .ok (.bipush 31, 2) := dec_of da_X5_slotsOf_0 (k := 2) rfl
theorem dX5_slotsOf_4 : decode cX5_slotsOf 4 = .ok (.iadd, 1) := dec_of da_X5_slotsOf_0 (k := 3) rfl
theorem dX5_slotsOf_5 : decode cX5_slotsOf 5 = .ok (.bipush 32, 2) := dec_of da_X5_slotsOf_0 (k := 4) rfl
theorem dX5_slotsOf_7 : decode cX5_slotsOf 7 = .ok (.idiv, 1) := dec_of da_X5_slotsOf_0 (k := 5) rfl
theorem dX5_slotsOf_8 : decode cX5_slotsOf 8 = .ok (.iadd, 1) := dec_of da_X5_slotsOf_0 (k := 6) rfl
theorem dX5_slotsOf_9 : decode cX5_slotsOf 9 = .ok (.ireturn, 1) := dec_of da_X5_slotsOf_0 (k := 7) rfl
def dl_X5_closeBeginnings_0 : List (Nat × (Instr × Nat)) := [(0, (.aload_n 0, 1)), (1, (.getfield 80, 3)), (4, (.ifCond .ne 14, 3)), (7, (.aload_n 0, 1)), (8, (.dup, 1)), (9, (.getfield 55, 3)), (12, (.iconst 1, 1)), (13, (.iadd, 1)), (14, (.putfield 55, 3)), (17, (.return_, 1)), (18, (.aload_n 0, 1)), (19, (.aload_n 0, 1)), (20, (.getfield 52, 3)), (23, (.putfield 40, 3)), (26, (.aload_n 0, 1)), (27, (.getfield 80, 3)), (30, (.iconst 1, 1)), (31, (.if_icmp .gt 10, 3)), (34, (.aload_n 0, 1)), (35, (.invokevirtual 83, 3)), (38, (.ifCond .eq 7, 3)), (41, (.aload_n 0, 1)), (42, (.invokevirtual 87, 3)), (45, (.return_, 1))]
set_option maxRecDepth 100000 in
theorem da_X5_closeBeginnings_0 : dl_X5_closeBeginnings_0.all (fun q => decide (decode cX5_closeBeginnings q.1 = .ok q.2)) = true := by decide +kernel
theorem dX5_closeBeginnings_0 : decode cX5_closeBeginnings 0 = .ok (.aload_n 0, 1) := dec_of da_X5_closeBeginnings_0 (k := 0) rfl
theorem dX5_closeBeginnings_1 : decode cX5_closeBeginnings 1 = .ok (.getfield 80, 3) := dec_of da_X5_closeBeginnings_0 (k := 1) rfl
theorem dX5_closeBeginnings_4 : decode cX5_closeBeginnings 4 = .ok (.ifCond .ne 14, 3) := dec_of da_X5_closeBeginnings_0 (k := 2) rfl
theorem dX5_closeBeginnings_7 : decode cX5_closeBeginnings 7 = .ok (.aload_n 0, 1) := dec_of da_X5_closeBeginnings_0 (k := 3) rfl
theorem dX5_closeBeginnings_8 : decode cX5_closeBeginnings 8 = .ok (.dup, 1) := dec_of da_X5_closeBeginnings_0 (k := 4) rfl
theorem dX5_closeBeginnings_9 : decode cX5_closeBeginnings 9 = .ok (.getfield 55, 3) := dec_of da_X5_closeBeginnings_0 (k := 5) rfl
theorem dX5_closeBeginnings_12 : decode cX5_closeBeginnings 12 = .ok (.iconst 1, 1) := dec_of da_X5_closeBeginnings_0 (k := 6) rfl
theorem dX5_closeBeginnings_13 : decode cX5_closeBeginnings 13 = .ok (.iadd, 1) := dec_of da_X5_closeBeginnings_0 (k := 7) rfl
theorem dX5_closeBeginnings_14 : decode cX5_closeBeginnings 14 = .ok (.putfield 55, 3) := dec_of da_X5_closeBeginnings_0 (k := 8) rfl
theorem dX5_closeBeginnings_17 : decode cX5_closeBeginnings 17 = .ok (.return_, 1) := dec_of da_X5_closeBeginnings_0 (k := 9) rfl
theorem dX5_closeBeginnings_18 : decode cX5_closeBeginnings 18 = .ok (.aload_n 0, 1) := dec_of da_X5_closeBeginnings_0 (k := 10) rfl
theorem dX5_closeBeginnings_19 : decode cX5_closeBeginnings 19 = .ok (.aload_n 0, 1) := dec_of da_X5_closeBeginnings_0 (k := 11) rfl
theorem dX5_closeBeginnings_20 : decode cX5_closeBeginnings 20 = .ok (.getfield 52, 3) := dec_of da_X5_closeBeginnings_0 (k := 12) rfl
theorem dX5_closeBeginnings_23 : decode cX5_closeBeginnings 23 = .ok (.putfield 40, 3) := dec_of da_X5_closeBeginnings_0 (k := 13) rfl
theorem dX5_closeBeginnings_26 : decode cX5_closeBeginnings 26 = .ok (.aload_n 0, 1) := dec_of da_X5_closeBeginnings_0 (k := 14) rfl
theorem dX5_closeBeginnings_27 : decode cX5_closeBeginnings 27 = .ok (.getfield 80, 3) := dec_of da_X5_closeBeginnings_0 (k := 15) rfl
theorem dX5_closeBeginnings_30 : decode cX5_closeBeginnings 30 = .ok (.iconst 1, 1) := dec_of da_X5_closeBeginnings_0 (k := 16) rfl
theorem dX5_closeBeginnings_31 : decode cX5_closeBeginnings 31 = .ok (.if_icmp .gt 10, 3) := dec_of da_X5_closeBeginnings_0 (k := 17) rfl
theorem dX5_closeBeginnings_34 : decode cX5_closeBeginnings 34 = .ok (.aload_n 0, 1) := dec_of da_X5_closeBeginnings_0 (k := 18) rfl
theorem dX5_closeBeginnings_35 : decode cX5_closeBeginnings 35 = .ok (.invokevirtual 83, 3) := dec_of da_X5_closeBeginnings_0 (k := 19) rfl
theorem dX5_closeBeginnings_38 : decode cX5_closeBeginnings 38 = .ok (.ifCond .eq 7, 3) := dec_of da_X5_closeBeginnings_0 (k := 20) rfl
theorem dX5_closeBeginnings_41 : decode cX5_closeBeginnings 41 = .ok (.aload_n 0, 1) := dec_of da_X5_closeBeginnings_0 (k := 21) rfl
theorem dX5_closeBeginnings_42 : decode cX5_closeBeginnings 42 = .ok (.invokevirtual 87, 3) := dec_of da_X5_closeBeginnings_0 (k := 22) rfl
theorem dX5_closeBeginnings_45 : decode cX5_closeBeginnings 45 = .ok (.return_, 1) := dec_of da_X5_closeBeginnings_0 (k := 23) rfl
def dl_X5_spoilAll_0 : List (Nat × (Instr × Nat)) := [(0, (.iconst 0, 1)), (1, (.istore_n 1, 1)), (2, (.iload_n 1, 1)), (3, (.aload_n 0, 1)), (4, (.getfield 62, 3)), (7, (.if_icmp .ge 29, 3)), (10, (.aload_n 0, 1)), (11, (.getfield 26, 3)), (14, (.iload_n 1, 1)), (15, (.iaload, 1)), (16, (.aload_n 0, 1)), (17, (.getfield 52, 3)), (20, (.if_icmp .lt 10, 3)), (23, (.aload_n 0, 1)), (24, (.getfield 29, 3)), (27, (.iload_n 1, 1)), (28, (.iconst 1, 1)), (29, (.bastore, 1)), (30, (.iinc 1 1, 3)), (33, (.goto (-31), 3)), (36, (.return_, 1))]
set_option maxRecDepth 100000 in
theorem da_X5_spoilAll_0 : dl_X5_spoilAll_0.all (fun q => decide (decode cX5_spoilAll q.1 = .ok q.2)) = true := by decide +kernel
theorem dX5_spoilAll_0 : decode cX5_spoilAll 0 = .ok (.iconst 0, 1) := dec_of da_X5_spoilAll_0 (k := 0) rfl
theorem dX5_spoilAll_1 : decode cX5_spoilAll 1 = .ok (.istore_n 1, 1) := dec_of da_X5_spoilAll_0 (k := 1) rfl
theorem dX5_spoilAll_2 : decode cX5_spoilAll 2 = .ok (.iload_n 1, 1) := dec_of da_X5_spoilAll_0 (k := 2) rfl
theorem dX5_spoilAll_3 : decode cX5_spoilAll 3 = .ok (.aload_n 0, 1) := dec_of da_X5_spoilAll_0 (k := 3) rfl
theorem dX5_spoilAll_4 : decode cX5_spoilAll 4 = .ok (.getfield 62, 3) := dec_of da_X5_spoilAll_0 (k := 4) rfl
theorem dX5_spoilAll_7 : decode cX5_spoilAll 7 = .ok (.if_icmp .ge 29, 3) := dec_of da_X5_spoilAll_0 (k := 5) rfl
theorem dX5_spoilAll_10 : decode cX5_spoilAll 10 = .ok (.aload_n 0, 1) := dec_of da_X5_spoilAll_0 (k := 6) rfl
theorem dX5_spoilAll_11 : decode cX5_spoilAll 11 = .ok (.getfield 26, 3) := dec_of da_X5_spoilAll_0 (k := 7) rfl
theorem dX5_spoilAll_14 : decode cX5_spoilAll 14 = .ok (.iload_n 1, 1) := dec_of da_X5_spoilAll_0 (k := 8) rfl
theorem dX5_spoilAll_15 : decode cX5_spoilAll 15 = .ok (.iaload, 1) := dec_of da_X5_spoilAll_0 (k := 9) rfl
theorem dX5_spoilAll_16 : decode cX5_spoilAll 16 = .ok (.aload_n 0, 1) := dec_of da_X5_spoilAll_0 (k := 10) rfl
theorem dX5_spoilAll_17 : decode cX5_spoilAll 17 = .ok (.getfield 52, 3) := dec_of da_X5_spoilAll_0 (k := 11) rfl
theorem dX5_spoilAll_20 : decode cX5_spoilAll 20 = .ok (.if_icmp .lt 10, 3) := dec_of da_X5_spoilAll_0 (k := 12) rfl
theorem dX5_spoilAll_23 : decode cX5_spoilAll 23 = .ok (.aload_n 0, 1) := dec_of da_X5_spoilAll_0 (k := 13) rfl
theorem dX5_spoilAll_24 : decode cX5_spoilAll 24 = .ok (.getfield 29, 3) := dec_of da_X5_spoilAll_0 (k := 14) rfl
theorem dX5_spoilAll_27 : decode cX5_spoilAll 27 = .ok (.iload_n 1, 1) := dec_of da_X5_spoilAll_0 (k := 15) rfl
theorem dX5_spoilAll_28 : decode cX5_spoilAll 28 = .ok (.iconst 1, 1) := dec_of da_X5_spoilAll_0 (k := 16) rfl
theorem dX5_spoilAll_29 : decode cX5_spoilAll 29 = .ok (.bastore, 1) := dec_of da_X5_spoilAll_0 (k := 17) rfl
theorem dX5_spoilAll_30 : decode cX5_spoilAll 30 = .ok (.iinc 1 1, 3) := dec_of da_X5_spoilAll_0 (k := 18) rfl
theorem dX5_spoilAll_33 : decode cX5_spoilAll 33 = .ok (.goto (-31), 3) := dec_of da_X5_spoilAll_0 (k := 19) rfl
theorem dX5_spoilAll_36 : decode cX5_spoilAll 36 = .ok (.return_, 1) := dec_of da_X5_spoilAll_0 (k := 20) rfl
def dl_X5_closeEndings_0 : List (Nat × (Instr × Nat)) := [(0, (.aload_n 0, 1)), (1, (.getfield 52, 3)), (4, (.bipush 15, 2)), (6, (.iand, 1)), (7, (.istore_n 1, 1)), (8, (.aload_n 0, 1)), (9, (.getfield 37, 3)), (12, (.iload_n 1, 1)), (13, (.iaload, 1)), (14, (.istore_n 2, 1)), (15, (.iload_n 2, 1)), (16, (.ifCond .ne 5, 3)), (19, (.iconst 0, 1)), (20, (.ireturn, 1)), (21, (.aload_n 0, 1)), (22, (.getfield 37, 3)), (25, (.iload_n 1, 1)), (26, (.iconst 0, 1)), (27, (.iastore, 1)), (28, (.aload_n 0, 1)), (29, (.dup, 1)), (30, (.getfield 80, 3)), (33, (.iload_n 2, 1)), (34, (.isub, 1)), (35, (.putfield 80, 3)), (38, (.aload_n 0, 1)), (39, (.getfield 26, 3)), (42, (.aload_n 0, 1)), (43, (.getfield 33, 3)), (46, (.iaload, 1)), (47, (.aload_n 0, 1)), (48, (.getfield 52, 3)), (51, (.if_icmp .ne 19, 3)), (54, (.aload_n 0, 1)), (55, (.getfield 29, 3)), (58, (.aload_n 0, 1)), (59, (.getfield 33, 3)), (62, (.baload, 1)), (63, (.ifCond .ne 7, 3)), (66, (.iconst 1, 1)), (67, (.goto 4, 3)), (70, (.iconst 0, 1)), (71, (.istore_n 3, 1)), (72, (.aload_n 0, 1)), (73, (.dup, 1)), (74, (.getfield 90, 3)), (77, (.iload_n 3, 1)), (78, (.ifCond .eq 9, 3)), (81, (.iload_n 2, 1)), (82, (.iconst 1, 1)), (83, (.isub, 1)), (84, (.goto 4, 3)), (87, (.iload_n 2, 1)), (88, (.iadd, 1)), (89, (.putfield 90, 3)), (92, (.iload_n 3, 1)), (93, (.ireturn, 1))]
set_option maxRecDepth 100000 in
theorem da_X5_closeEndings_0 : dl_X5_closeEndings_0.all (fun q => decide (decode cX5_closeEndings q.1 = .ok q.2)) = true := by decide +kernel
theorem dX5_closeEndings_0 : decode cX5_closeEndings 0 = .ok (.aload_n 0, 1) := dec_of da_X5_closeEndings_0 (k := 0) rfl
theorem dX5_closeEndings_1 : decode cX5_closeEndings 1 = .ok (.getfield 52, 3) := dec_of da_X5_closeEndings_0 (k := 1) rfl
theorem dX5_closeEndings_4 : decode cX5_closeEndings 4 = .ok (.bipush 15, 2) := dec_of da_X5_closeEndings_0 (k := 2) rfl
theorem dX5_closeEndings_6 : decode cX5_closeEndings 6 = .ok (.iand, 1) := dec_of da_X5_closeEndings_0 (k := 3) rfl
theorem dX5_closeEndings_7 : decode cX5_closeEndings 7 = .ok (.istore_n 1, 1) := dec_of da_X5_closeEndings_0 (k := 4) rfl
theorem dX5_closeEndings_8 : decode cX5_closeEndings 8 = .ok (.aload_n 0, 1) := dec_of da_X5_closeEndings_0 (k := 5) rfl
theorem dX5_closeEndings_9 : decode cX5_closeEndings 9 = .ok (.getfield 37, 3) := dec_of da_X5_closeEndings_0 (k := 6) rfl
theorem dX5_closeEndings_12 : decode cX5_closeEndings 12 = .ok (.iload_n 1, 1) := dec_of da_X5_closeEndings_0 (k := 7) rfl
theorem dX5_closeEndings_13 : decode cX5_closeEndings 13 = .ok (.iaload, 1) := dec_of da_X5_closeEndings_0 (k := 8) rfl
theorem dX5_closeEndings_14 : decode cX5_closeEndings 14 = .ok (.istore_n 2, 1) := dec_of da_X5_closeEndings_0 (k := 9) rfl
theorem dX5_closeEndings_15 : decode cX5_closeEndings 15 = .ok (.iload_n 2, 1) := dec_of da_X5_closeEndings_0 (k := 10) rfl
theorem dX5_closeEndings_16 : decode cX5_closeEndings 16 = .ok (.ifCond .ne 5, 3) := dec_of da_X5_closeEndings_0 (k := 11) rfl
theorem dX5_closeEndings_19 : decode cX5_closeEndings 19 = .ok (.iconst 0, 1) := dec_of da_X5_closeEndings_0 (k := 12) rfl
theorem dX5_closeEndings_20 : decode cX5_closeEndings 20 = .ok (.ireturn, 1) := dec_of da_X5_closeEndings_0 (k := 13) rfl
theorem dX5_closeEndings_21 : decode cX5_closeEndings 21 = .ok (.aload_n 0, 1) := dec_of da_X5_closeEndings_0 (k := 14) rfl
theorem dX5_closeEndings_22 : decode cX5_closeEndings 22 = .ok (.getfield 37, 3) := dec_of da_X5_closeEndings_0 (k := 15) rfl
theorem dX5_closeEndings_25 : decode cX5_closeEndings 25 = .ok (.iload_n 1, 1) := dec_of da_X5_closeEndings_0 (k := 16) rfl
theorem dX5_closeEndings_26 : decode cX5_closeEndings 26 = .ok (.iconst 0, 1) := dec_of da_X5_closeEndings_0 (k := 17) rfl
theorem dX5_closeEndings_27 : decode cX5_closeEndings 27 = .ok (.iastore, 1) := dec_of da_X5_closeEndings_0 (k := 18) rfl
theorem dX5_closeEndings_28 : decode cX5_closeEndings 28 = .ok (.aload_n 0, 1) := dec_of da_X5_closeEndings_0 (k := 19) rfl
theorem dX5_closeEndings_29 : decode cX5_closeEndings 29 = .ok (.dup, 1) := dec_of da_X5_closeEndings_0 (k := 20) rfl
theorem dX5_closeEndings_30 : decode cX5_closeEndings 30 = .ok (.getfield 80, 3) := dec_of da_X5_closeEndings_0 (k := 21) rfl
theorem dX5_closeEndings_33 : decode cX5_closeEndings 33 = .ok (.iload_n 2, 1) := dec_of da_X5_closeEndings_0 (k := 22) rfl
theorem dX5_closeEndings_34 : decode cX5_closeEndings 34 = .ok (.isub, 1) := dec_of da_X5_closeEndings_0 (k := 23) rfl
theorem dX5_closeEndings_35 : decode cX5_closeEndings 35 = .ok (.putfield 80, 3) := dec_of da_X5_closeEndings_0 (k := 24) rfl
theorem dX5_closeEndings_38 : decode cX5_closeEndings 38 = .ok (.aload_n 0, 1) := dec_of da_X5_closeEndings_0 (k := 25) rfl
theorem dX5_closeEndings_39 : decode cX5_closeEndings 39 = .ok (.getfield 26, 3) := dec_of da_X5_closeEndings_0 (k := 26) rfl
theorem dX5_closeEndings_42 : decode cX5_closeEndings 42 = .ok (.aload_n 0, 1) := dec_of da_X5_closeEndings_0 (k := 27) rfl
theorem dX5_closeEndings_43 : decode cX5_closeEndings 43 = .ok (.getfield 33, 3) := dec_of da_X5_closeEndings_0 (k := 28) rfl
theorem dX5_closeEndings_46 : decode cX5_closeEndings 46 = .ok (.iaload, 1) := dec_of da_X5_closeEndings_0 (k := 29) rfl
theorem dX5_closeEndings_47 : decode cX5_closeEndings 47 = .ok (.aload_n 0, 1) := dec_of da_X5_closeEndings_0 (k := 30) rfl
theorem dX5_closeEndings_48 : decode cX5_closeEndings 48 = .ok (.getfield 52, 3) := dec_of da_X5_closeEndings_0 (k := 31) rfl
theorem dX5_closeEndings_51 : decode cX5_closeEndings 51 = .ok (.if_icmp .ne 19, 3) := dec_of da_X5_closeEndings_0 (k := 32) rfl
theorem dX5_closeEndings_54 : decode cX5_closeEndings 54 = .ok (.aload_n 0, 1) := dec_of da_X5_closeEndings_0 (k := 33) rfl
theorem dX5_closeEndings_55 : decode cX5_closeEndings 55 = .ok (.getfield 29, 3) := dec_of da_X5_closeEndings_0 (k := 34) rfl
theorem dX5_closeEndings_58 : decode cX5_closeEndings 58 = .ok (.aload_n 0, 1) := dec_of da_X5_closeEndings_0 (k := 35) rfl
theorem dX5_closeEndings_59 : decode cX5_closeEndings 59 = .ok (.getfield 33, 3) := dec_of da_X5_closeEndings_0 (k := 36) rfl
theorem dX5_closeEndings_62 : decode cX5_closeEndings 62 = .ok (.baload, 1) := dec_of da_X5_closeEndings_0 (k := 37) rfl
theorem dX5_closeEndings_63 : decode cX5_closeEndings 63 = .ok (.ifCond .ne 7, 3) := dec_of da_X5_closeEndings_0 (k := 38) rfl
theorem dX5_closeEndings_66 : decode cX5_closeEndings 66 = .ok (.iconst 1, 1) := dec_of da_X5_closeEndings_0 (k := 39) rfl
theorem dX5_closeEndings_67 : decode cX5_closeEndings 67 = .ok (.goto 4, 3) := dec_of da_X5_closeEndings_0 (k := 40) rfl
theorem dX5_closeEndings_70 : decode cX5_closeEndings 70 = .ok (.iconst 0, 1) := dec_of da_X5_closeEndings_0 (k := 41) rfl
theorem dX5_closeEndings_71 : decode cX5_closeEndings 71 = .ok (.istore_n 3, 1) := dec_of da_X5_closeEndings_0 (k := 42) rfl
theorem dX5_closeEndings_72 : decode cX5_closeEndings 72 = .ok (.aload_n 0, 1) := dec_of da_X5_closeEndings_0 (k := 43) rfl
theorem dX5_closeEndings_73 : decode cX5_closeEndings 73 = .ok (.dup, 1) := dec_of da_X5_closeEndings_0 (k := 44) rfl
theorem dX5_closeEndings_74 : decode cX5_closeEndings 74 = .ok (.getfield 90, 3) := dec_of da_X5_closeEndings_0 (k := 45) rfl
theorem dX5_closeEndings_77 : decode cX5_closeEndings 77 = .ok (.iload_n 3, 1) := dec_of da_X5_closeEndings_0 (k := 46) rfl
theorem dX5_closeEndings_78 : decode cX5_closeEndings 78 = .ok (.ifCond .eq 9, 3) := dec_of da_X5_closeEndings_0 (k := 47) rfl
theorem dX5_closeEndings_81 : decode cX5_closeEndings 81 = .ok (.iload_n 2, 1) := dec_of da_X5_closeEndings_0 (k := 48) rfl
theorem dX5_closeEndings_82 : decode cX5_closeEndings 82 = .ok (.iconst 1, 1) := dec_of da_X5_closeEndings_0 (k := 49) rfl
theorem dX5_closeEndings_83 : decode cX5_closeEndings 83 = .ok (.isub, 1) := dec_of da_X5_closeEndings_0 (k := 50) rfl
theorem dX5_closeEndings_84 : decode cX5_closeEndings 84 = .ok (.goto 4, 3) := dec_of da_X5_closeEndings_0 (k := 51) rfl
theorem dX5_closeEndings_87 : decode cX5_closeEndings 87 = .ok (.iload_n 2, 1) := dec_of da_X5_closeEndings_0 (k := 52) rfl
theorem dX5_closeEndings_88 : decode cX5_closeEndings 88 = .ok (.iadd, 1) := dec_of da_X5_closeEndings_0 (k := 53) rfl
theorem dX5_closeEndings_89 : decode cX5_closeEndings 89 = .ok (.putfield 90, 3) := dec_of da_X5_closeEndings_0 (k := 54) rfl
theorem dX5_closeEndings_92 : decode cX5_closeEndings 92 = .ok (.iload_n 3, 1) := dec_of da_X5_closeEndings_0 (k := 55) rfl
theorem dX5_closeEndings_93 : decode cX5_closeEndings 93 = .ok (.ireturn, 1) := dec_of da_X5_closeEndings_0 (k := 56) rfl
def dl_X5_newestBytes_0 : List (Nat × (Instr × Nat)) := [(0, (.aload_n 0, 1)), (1, (.getfield 13, 3)), (4, (.aload_n 0, 1)), (5, (.getfield 33, 3)), (8, (.aaload, 1)), (9, (.areturn, 1))]
set_option maxRecDepth 100000 in
theorem da_X5_newestBytes_0 : dl_X5_newestBytes_0.all (fun q => decide (decode cX5_newestBytes q.1 = .ok q.2)) = true := by decide +kernel
theorem dX5_newestBytes_0 : decode cX5_newestBytes 0 = .ok (.aload_n 0, 1) := dec_of da_X5_newestBytes_0 (k := 0) rfl
theorem dX5_newestBytes_1 : decode cX5_newestBytes 1 = .ok (.getfield 13, 3) := dec_of da_X5_newestBytes_0 (k := 1) rfl
theorem dX5_newestBytes_4 : decode cX5_newestBytes 4 = .ok (.aload_n 0, 1) := dec_of da_X5_newestBytes_0 (k := 2) rfl
theorem dX5_newestBytes_5 : decode cX5_newestBytes 5 = .ok (.getfield 33, 3) := dec_of da_X5_newestBytes_0 (k := 3) rfl
theorem dX5_newestBytes_8 : decode cX5_newestBytes 8 = .ok (.aaload, 1) := dec_of da_X5_newestBytes_0 (k := 4) rfl
theorem dX5_newestBytes_9 : decode cX5_newestBytes 9 = .ok (.areturn, 1) := dec_of da_X5_newestBytes_0 (k := 5) rfl
def dl_X5_newestLength_0 : List (Nat × (Instr × Nat)) := [(0, (.aload_n 0, 1)), (1, (.getfield 16, 3)), (4, (.aload_n 0, 1)), (5, (.getfield 33, 3)), (8, (.iaload, 1)), (9, (.ireturn, 1))]
set_option maxRecDepth 100000 in
theorem da_X5_newestLength_0 : dl_X5_newestLength_0.all (fun q => decide (decode cX5_newestLength q.1 = .ok q.2)) = true := by decide +kernel
theorem dX5_newestLength_0 : decode cX5_newestLength 0 = .ok (.aload_n 0, 1) := dec_of da_X5_newestLength_0 (k := 0) rfl
theorem dX5_newestLength_1 : decode cX5_newestLength 1 = .ok (.getfield 16, 3) := dec_of da_X5_newestLength_0 (k := 1) rfl
theorem dX5_newestLength_4 : decode cX5_newestLength 4 = .ok (.aload_n 0, 1) := dec_of da_X5_newestLength_0 (k := 2) rfl
theorem dX5_newestLength_5 : decode cX5_newestLength 5 = .ok (.getfield 33, 3) := dec_of da_X5_newestLength_0 (k := 3) rfl
theorem dX5_newestLength_8 : decode cX5_newestLength 8 = .ok (.iaload, 1) := dec_of da_X5_newestLength_0 (k := 4) rfl
theorem dX5_newestLength_9 : decode cX5_newestLength 9 = .ok (.ireturn, 1) := dec_of da_X5_newestLength_0 (k := 5) rfl
def dl_X5_newestSender_0 : List (Nat × (Instr × Nat)) := [(0, (.aload_n 0, 1)), (1, (.getfield 20, 3)), (4, (.aload_n 0, 1)), (5, (.getfield 33, 3)), (8, (.iaload, 1)), (9, (.ireturn, 1))]
set_option maxRecDepth 100000 in
theorem da_X5_newestSender_0 : dl_X5_newestSender_0.all (fun q => decide (decode cX5_newestSender q.1 = .ok q.2)) = true := by decide +kernel
theorem dX5_newestSender_0 : decode cX5_newestSender 0 = .ok (.aload_n 0, 1) := dec_of da_X5_newestSender_0 (k := 0) rfl
theorem dX5_newestSender_1 : decode cX5_newestSender 1 = .ok (.getfield 20, 3) := dec_of da_X5_newestSender_0 (k := 1) rfl
theorem dX5_newestSender_4 : decode cX5_newestSender 4 = .ok (.aload_n 0, 1) := dec_of da_X5_newestSender_0 (k := 2) rfl
theorem dX5_newestSender_5 : decode cX5_newestSender 5 = .ok (.getfield 33, 3) := dec_of da_X5_newestSender_0 (k := 3) rfl
theorem dX5_newestSender_8 : decode cX5_newestSender 8 = .ok (.iaload, 1) := dec_of da_X5_newestSender_0 (k := 4) rfl
theorem dX5_newestSender_9 : decode cX5_newestSender 9 = .ok (.ireturn, 1) := dec_of da_X5_newestSender_0 (k := 5) rfl
def dl_X5_rowOf_0 : List (Nat × (Instr × Nat)) := [(0, (.iload_n 1, 1)), (1, (.ifCond .lt 25, 3)), (4, (.iload_n 1, 1)), (5, (.aload_n 0, 1)), (6, (.getfield 62, 3)), (9, (.if_icmp .ge 17, 3)), (12, (.aload_n 0, 1)), (13, (.getfield 33, 3)), (16, (.iload_n 1, 1)), (17, (.isub, 1)), (18, (.bipush 40, 2)), (20, (.invokestatic 93, 3)), (23, (.goto 4, 3)), (26, (.iconst (-1), 1)), (27, (.ireturn, 1))]
set_option maxRecDepth 100000 in
theorem da_X5_rowOf_0 : dl_X5_rowOf_0.all (fun q => decide (decode cX5_rowOf q.1 = .ok q.2)) = true := by decide +kernel
theorem dX5_rowOf_0 : decode cX5_rowOf 0 = .ok (.iload_n 1, 1) := dec_of da_X5_rowOf_0 (k := 0) rfl
theorem dX5_rowOf_1 : decode cX5_rowOf 1 = .ok (.ifCond .lt 25, 3) := dec_of da_X5_rowOf_0 (k := 1) rfl
theorem dX5_rowOf_4 : decode cX5_rowOf 4 = .ok (.iload_n 1, 1) := dec_of da_X5_rowOf_0 (k := 2) rfl
theorem dX5_rowOf_5 : decode cX5_rowOf 5 = .ok (.aload_n 0, 1) := dec_of da_X5_rowOf_0 (k := 3) rfl
theorem dX5_rowOf_6 : decode cX5_rowOf 6 = .ok (.getfield 62, 3) := dec_of da_X5_rowOf_0 (k := 4) rfl
theorem dX5_rowOf_9 : decode cX5_rowOf 9 = .ok (.if_icmp .ge 17, 3) := dec_of da_X5_rowOf_0 (k := 5) rfl
theorem dX5_rowOf_12 : decode cX5_rowOf 12 = .ok (.aload_n 0, 1) := dec_of da_X5_rowOf_0 (k := 6) rfl
theorem dX5_rowOf_13 : decode cX5_rowOf 13 = .ok (.getfield 33, 3) := dec_of da_X5_rowOf_0 (k := 7) rfl
theorem dX5_rowOf_16 : decode cX5_rowOf 16 = .ok (.iload_n 1, 1) := dec_of da_X5_rowOf_0 (k := 8) rfl
theorem dX5_rowOf_17 : decode cX5_rowOf 17 = .ok (.isub, 1) := dec_of da_X5_rowOf_0 (k := 9) rfl
theorem dX5_rowOf_18 : decode cX5_rowOf 18 = .ok (.bipush 40, 2) := dec_of da_X5_rowOf_0 (k := 10) rfl
theorem dX5_rowOf_20 : decode cX5_rowOf 20 = .ok (.invokestatic 93, 3) := dec_of da_X5_rowOf_0 (k := 11) rfl
theorem dX5_rowOf_23 : decode cX5_rowOf 23 = .ok (.goto 4, 3) := dec_of da_X5_rowOf_0 (k := 12) rfl
theorem dX5_rowOf_26 : decode cX5_rowOf 26 = .ok (.iconst (-1), 1) := dec_of da_X5_rowOf_0 (k := 13) rfl
theorem dX5_rowOf_27 : decode cX5_rowOf 27 = .ok (.ireturn, 1) := dec_of da_X5_rowOf_0 (k := 14) rfl
def dl_X5_detail_0 : List (Nat × (Instr × Nat)) := [(0, (.iload_n 2, 1)), (1, (.tableswitch 98 0 4 #[35, 42, 49, 56, 66], 35)), (36, (.aload_n 0, 1)), (37, (.getfield 23, 3)), (40, (.iload_n 1, 1)), (41, (.iaload, 1)), (42, (.ireturn, 1)), (43, (.aload_n 0, 1)), (44, (.getfield 20, 3)), (47, (.iload_n 1, 1)), (48, (.iaload, 1)), (49, (.ireturn, 1)), (50, (.aload_n 0, 1)), (51, (.getfield 16, 3)), (54, (.iload_n 1, 1)), (55, (.iaload, 1)), (56, (.ireturn, 1)), (57, (.aload_n 0, 1)), (58, (.getfield 16, 3)), (61, (.iload_n 1, 1)), (62, (.iaload, 1)), (63, (.invokestatic 58, 3)), (66, (.ireturn, 1)), (67, (.aload_n 0, 1)), (68, (.getfield 26, 3)), (71, (.iload_n 1, 1)), (72, (.iaload, 1)), (73, (.aload_n 0, 1)), (74, (.getfield 52, 3)), (77, (.if_icmp .lt 7, 3)), (80, (.iconst 2, 1)), (81, (.goto 17, 3)), (84, (.aload_n 0, 1)), (85, (.getfield 29, 3)), (88, (.iload_n 1, 1)), (89, (.baload, 1)), (90, (.ifCond .eq 7, 3)), (93, (.iconst 0, 1)), (94, (.goto 4, 3)), (97, (.iconst 1, 1)), (98, (.ireturn, 1)), (99, (.iload_n 2, 1)), (100, (.bipush 10, 2)), (102, (.if_icmp .lt 30, 3)), (105, (.iload_n 2, 1)), (106, (.bipush 10, 2)), (108, (.isub, 1)), (109, (.aload_n 0, 1)), (110, (.getfield 16, 3)), (113, (.iload_n 1, 1)), (114, (.iaload, 1)), (115, (.if_icmp .ge 17, 3)), (118, (.aload_n 0, 1)), (119, (.getfield 13, 3)), (122, (.iload_n 1, 1)), (123, (.aaload, 1)), (124, (.iload_n 2, 1)), (125, (.bipush 10, 2)), (127, (.isub, 1)), (128, (.iaload, 1))]
set_option maxRecDepth 100000 in
theorem da_X5_detail_0 : dl_X5_detail_0.all (fun q => decide (decode cX5_detail q.1 = .ok q.2)) = true := by decide +kernel
theorem dX5_detail_0 : decode cX5_detail 0 = .ok (.iload_n 2, 1) := dec_of da_X5_detail_0 (k := 0) rfl
theorem dX5_detail_1 : decode cX5_detail 1 = .ok (.tableswitch 98 0 4 #[35, 42, 49, 56, 66], 35) := dec_of da_X5_detail_0 (k := 1) rfl
theorem dX5_detail_36 : decode cX5_detail 36 = .ok (.aload_n 0, 1) := dec_of da_X5_detail_0 (k := 2) rfl
theorem dX5_detail_37 : decode cX5_detail 37 = .ok (.getfield 23, 3) := dec_of da_X5_detail_0 (k := 3) rfl
theorem dX5_detail_40 : decode cX5_detail 40 = .ok (.iload_n 1, 1) := dec_of da_X5_detail_0 (k := 4) rfl
theorem dX5_detail_41 : decode cX5_detail 41 = .ok (.iaload, 1) := dec_of da_X5_detail_0 (k := 5) rfl
theorem dX5_detail_42 : decode cX5_detail 42 = .ok (.ireturn, 1) := dec_of da_X5_detail_0 (k := 6) rfl
theorem dX5_detail_43 : decode cX5_detail 43 = .ok (.aload_n 0, 1) := dec_of da_X5_detail_0 (k := 7) rfl
theorem dX5_detail_44 : decode cX5_detail 44 = .ok (.getfield 20, 3) := dec_of da_X5_detail_0 (k := 8) rfl
theorem dX5_detail_47 : decode cX5_detail 47 = .ok (.iload_n 1, 1) := dec_of da_X5_detail_0 (k := 9) rfl
theorem dX5_detail_48 : decode cX5_detail 48 = .ok (.iaload, 1) := dec_of da_X5_detail_0 (k := 10) rfl
theorem dX5_detail_49 : decode cX5_detail 49 = .ok (.ireturn, 1) := dec_of da_X5_detail_0 (k := 11) rfl
theorem dX5_detail_50 : decode cX5_detail 50 = .ok (.aload_n 0, 1) := dec_of da_X5_detail_0 (k := 12) rfl
theorem dX5_detail_51 : decode cX5_detail 51 = .ok (.getfield 16, 3) := dec_of da_X5_detail_0 (k := 13) rfl
theorem dX5_detail_54 : decode cX5_detail 54 = .ok (.iload_n 1, 1) := dec_of da_X5_detail_0 (k := 14) rfl
theorem dX5_detail_55 : decode cX5_detail 55 = .ok (.iaload, 1) := dec_of da_X5_detail_0 (k := 15) rfl
theorem dX5_detail_56 : decode cX5_detail 56 = .ok (.ireturn, 1) := dec_of da_X5_detail_0 (k := 16) rfl
theorem dX5_detail_57 : decode cX5_detail 57 = .ok (.aload_n 0, 1) := dec_of da_X5_detail_0 (k := 17) rfl
theorem dX5_detail_58 : decode cX5_detail 58 = .ok (.getfield 16, 3) := dec_of da_X5_detail_0 (k := 18) rfl
theorem dX5_detail_61 : decode cX5_detail 61 = .ok (.iload_n 1, 1) := dec_of da_X5_detail_0 (k := 19) rfl
theorem dX5_detail_62 : decode cX5_detail 62 = .ok (.iaload, 1) := dec_of da_X5_detail_0 (k := 20) rfl
theorem dX5_detail_63 : decode cX5_detail 63 = .ok (.invokestatic 58, 3) := dec_of da_X5_detail_0 (k := 21) rfl
theorem dX5_detail_66 : decode cX5_detail 66 = .ok (.ireturn, 1) := dec_of da_X5_detail_0 (k := 22) rfl
theorem dX5_detail_67 : decode cX5_detail 67 = .ok (.aload_n 0, 1) := dec_of da_X5_detail_0 (k := 23) rfl
theorem dX5_detail_68 : decode cX5_detail 68 = .ok (.getfield 26, 3) := dec_of da_X5_detail_0 (k := 24) rfl
theorem dX5_detail_71 : decode cX5_detail 71 = .ok (.iload_n 1, 1) := dec_of da_X5_detail_0 (k := 25) rfl
theorem dX5_detail_72 : decode cX5_detail 72 = .ok (.iaload, 1) := dec_of da_X5_detail_0 (k := 26) rfl
theorem dX5_detail_73 : decode cX5_detail 73 = .ok (.aload_n 0, 1) := dec_of da_X5_detail_0 (k := 27) rfl
theorem dX5_detail_74 : decode cX5_detail 74 = .ok (.getfield 52, 3) := dec_of da_X5_detail_0 (k := 28) rfl
theorem dX5_detail_77 : decode cX5_detail 77 = .ok (.if_icmp .lt 7, 3) := dec_of da_X5_detail_0 (k := 29) rfl
theorem dX5_detail_80 : decode cX5_detail 80 = .ok (.iconst 2, 1) := dec_of da_X5_detail_0 (k := 30) rfl
theorem dX5_detail_81 : decode cX5_detail 81 = .ok (.goto 17, 3) := dec_of da_X5_detail_0 (k := 31) rfl
theorem dX5_detail_84 : decode cX5_detail 84 = .ok (.aload_n 0, 1) := dec_of da_X5_detail_0 (k := 32) rfl
theorem dX5_detail_85 : decode cX5_detail 85 = .ok (.getfield 29, 3) := dec_of da_X5_detail_0 (k := 33) rfl
theorem dX5_detail_88 : decode cX5_detail 88 = .ok (.iload_n 1, 1) := dec_of da_X5_detail_0 (k := 34) rfl
theorem dX5_detail_89 : decode cX5_detail 89 = .ok (.baload, 1) := dec_of da_X5_detail_0 (k := 35) rfl
theorem dX5_detail_90 : decode cX5_detail 90 = .ok (.ifCond .eq 7, 3) := dec_of da_X5_detail_0 (k := 36) rfl
theorem dX5_detail_93 : decode cX5_detail 93 = .ok (.iconst 0, 1) := dec_of da_X5_detail_0 (k := 37) rfl
theorem dX5_detail_94 : decode cX5_detail 94 = .ok (.goto 4, 3) := dec_of da_X5_detail_0 (k := 38) rfl
theorem dX5_detail_97 : decode cX5_detail 97 = .ok (.iconst 1, 1) := dec_of da_X5_detail_0 (k := 39) rfl
theorem dX5_detail_98 : decode cX5_detail 98 = .ok (.ireturn, 1) := dec_of da_X5_detail_0 (k := 40) rfl
theorem dX5_detail_99 : decode cX5_detail 99 = .ok (.iload_n 2, 1) := dec_of da_X5_detail_0 (k := 41) rfl
theorem dX5_detail_100 : decode cX5_detail 100 = .ok (.bipush 10, 2) := dec_of da_X5_detail_0 (k := 42) rfl
theorem dX5_detail_102 : decode cX5_detail 102 = .ok (.if_icmp .lt 30, 3) := dec_of da_X5_detail_0 (k := 43) rfl
theorem dX5_detail_105 : decode cX5_detail 105 = .ok (.iload_n 2, 1) := dec_of da_X5_detail_0 (k := 44) rfl
theorem dX5_detail_106 : decode cX5_detail 106 = .ok (.bipush 10, 2) := dec_of da_X5_detail_0 (k := 45) rfl
theorem dX5_detail_108 : decode cX5_detail 108 = .ok (.isub, 1) := dec_of da_X5_detail_0 (k := 46) rfl
theorem dX5_detail_109 : decode cX5_detail 109 = .ok (.aload_n 0, 1) := dec_of da_X5_detail_0 (k := 47) rfl
theorem dX5_detail_110 : decode cX5_detail 110 = .ok (.getfield 16, 3) := dec_of da_X5_detail_0 (k := 48) rfl
theorem dX5_detail_113 : decode cX5_detail 113 = .ok (.iload_n 1, 1) := dec_of da_X5_detail_0 (k := 49) rfl
theorem dX5_detail_114 : decode cX5_detail 114 = .ok (.iaload, 1) := dec_of da_X5_detail_0 (k := 50) rfl
theorem dX5_detail_115 : decode cX5_detail 115 = .ok (.if_icmp .ge 17, 3) := dec_of da_X5_detail_0 (k := 51) rfl
theorem dX5_detail_118 : decode cX5_detail 118 = .ok (.aload_n 0, 1) := dec_of da_X5_detail_0 (k := 52) rfl
theorem dX5_detail_119 : decode cX5_detail 119 = .ok (.getfield 13, 3) := dec_of da_X5_detail_0 (k := 53) rfl
theorem dX5_detail_122 : decode cX5_detail 122 = .ok (.iload_n 1, 1) := dec_of da_X5_detail_0 (k := 54) rfl
theorem dX5_detail_123 : decode cX5_detail 123 = .ok (.aaload, 1) := dec_of da_X5_detail_0 (k := 55) rfl
theorem dX5_detail_124 : decode cX5_detail 124 = .ok (.iload_n 2, 1) := dec_of da_X5_detail_0 (k := 56) rfl
theorem dX5_detail_125 : decode cX5_detail 125 = .ok (.bipush 10, 2) := dec_of da_X5_detail_0 (k := 57) rfl
theorem dX5_detail_127 : decode cX5_detail 127 = .ok (.isub, 1) := dec_of da_X5_detail_0 (k := 58) rfl
theorem dX5_detail_128 : decode cX5_detail 128 = .ok (.iaload, 1) := dec_of da_X5_detail_0 (k := 59) rfl
def dl_X5_detail_1 : List (Nat × (Instr × Nat)) := [(129, (.goto 4, 3)), (132, (.iconst (-1), 1)), (133, (.ireturn, 1))]
set_option maxRecDepth 100000 in
theorem da_X5_detail_1 : dl_X5_detail_1.all (fun q => decide (decode cX5_detail q.1 = .ok q.2)) = true := by decide +kernel
theorem dX5_detail_129 : decode cX5_detail 129 = .ok (.goto 4, 3) := dec_of da_X5_detail_1 (k := 0) rfl
theorem dX5_detail_132 : decode cX5_detail 132 = .ok (.iconst (-1), 1) := dec_of da_X5_detail_1 (k := 1) rfl
theorem dX5_detail_133 : decode cX5_detail 133 = .ok (.ireturn, 1) := dec_of da_X5_detail_1 (k := 2) rfl
def dl_X6_init_0 : List (Nat × (Instr × Nat)) := [(0, (.aload_n 0, 1)), (1, (.invokespecial 3, 3)), (4, (.aload_n 0, 1)), (5, (.sipush 208, 3)), (8, (.newarray .int, 2)), (10, (.putfield 9, 3)), (13, (.return_, 1))]
set_option maxRecDepth 100000 in
theorem da_X6_init_0 : dl_X6_init_0.all (fun q => decide (decode cX6_init q.1 = .ok q.2)) = true := by decide +kernel
theorem dX6_init_0 : decode cX6_init 0 = .ok (.aload_n 0, 1) := dec_of da_X6_init_0 (k := 0) rfl
theorem dX6_init_1 : decode cX6_init 1 = .ok (.invokespecial 3, 3) := dec_of da_X6_init_0 (k := 1) rfl
theorem dX6_init_4 : decode cX6_init 4 = .ok (.aload_n 0, 1) := dec_of da_X6_init_0 (k := 2) rfl
theorem dX6_init_5 : decode cX6_init 5 = .ok (.sipush 208, 3) := dec_of da_X6_init_0 (k := 3) rfl
theorem dX6_init_8 : decode cX6_init 8 = .ok (.newarray .int, 2) := dec_of da_X6_init_0 (k := 4) rfl
theorem dX6_init_10 : decode cX6_init 10 = .ok (.putfield 9, 3) := dec_of da_X6_init_0 (k := 5) rfl
theorem dX6_init_13 : decode cX6_init 13 = .ok (.return_, 1) := dec_of da_X6_init_0 (k := 6) rfl
def dl_X7_init_0 : List (Nat × (Instr × Nat)) := [(0, (.aload_n 0, 1)), (1, (.invokespecial 3, 3)), (4, (.aload_n 0, 1)), (5, (.bipush 32, 2)), (7, (.newarray .int, 2)), (9, (.putfield 9, 3)), (12, (.aload_n 0, 1)), (13, (.new 15, 3)), (16, (.dup, 1)), (17, (.invokespecial 17, 3)), (20, (.putfield 18, 3)), (23, (.aload_n 0, 1)), (24, (.new 22, 3)), (27, (.dup, 1)), (28, (.invokespecial 24, 3)), (31, (.putfield 25, 3)), (34, (.aload_n 0, 1)), (35, (.bipush 9, 2)), (37, (.newarray .int, 2)), (39, (.putfield 29, 3)), (42, (.aload_n 0, 1)), (43, (.bipush 7, 2)), (45, (.putfield 32, 3)), (48, (.aload_n 0, 1)), (49, (.iconst (-1), 1)), (50, (.putfield 36, 3)), (53, (.aload_n 0, 1)), (54, (.bipush 6, 2)), (56, (.newarray .int, 2)), (58, (.putfield 39, 3)), (61, (.aload_n 0, 1)), (62, (.iconst (-1), 1)), (63, (.putfield 42, 3)), (66, (.aload_n 0, 1)), (67, (.iconst (-1), 1)), (68, (.putfield 45, 3)), (71, (.aload_n 0, 1)), (72, (.sipush 300, 3)), (75, (.newarray .int, 2)), (77, (.putfield 48, 3)), (80, (.aload_n 0, 1)), (81, (.iload_n 1, 1)), (82, (.putfield 51, 3)), (85, (.aload_n 0, 1)), (86, (.getfield 29, 3)), (89, (.iconst (-1), 1)), (90, (.invokestatic 54, 3)), (93, (.return_, 1))]
set_option maxRecDepth 100000 in
theorem da_X7_init_0 : dl_X7_init_0.all (fun q => decide (decode cX7_init q.1 = .ok q.2)) = true := by decide +kernel
theorem dX7_init_0 : decode cX7_init 0 = .ok (.aload_n 0, 1) := dec_of da_X7_init_0 (k := 0) rfl
theorem dX7_init_1 : decode cX7_init 1 = .ok (.invokespecial 3, 3) := dec_of da_X7_init_0 (k := 1) rfl
theorem dX7_init_4 : decode cX7_init 4 = .ok (.aload_n 0, 1) := dec_of da_X7_init_0 (k := 2) rfl
theorem dX7_init_5 : decode cX7_init 5 = .ok (.bipush 32, 2) := dec_of da_X7_init_0 (k := 3) rfl
theorem dX7_init_7 : decode cX7_init 7 = .ok (.newarray .int, 2) := dec_of da_X7_init_0 (k := 4) rfl
theorem dX7_init_9 : decode cX7_init 9 = .ok (.putfield 9, 3) := dec_of da_X7_init_0 (k := 5) rfl
theorem dX7_init_12 : decode cX7_init 12 = .ok (.aload_n 0, 1) := dec_of da_X7_init_0 (k := 6) rfl
theorem dX7_init_13 : decode cX7_init 13 = .ok (.new 15, 3) := dec_of da_X7_init_0 (k := 7) rfl
theorem dX7_init_16 : decode cX7_init 16 = .ok (.dup, 1) := dec_of da_X7_init_0 (k := 8) rfl
theorem dX7_init_17 : decode cX7_init 17 = .ok (.invokespecial 17, 3) := dec_of da_X7_init_0 (k := 9) rfl
theorem dX7_init_20 : decode cX7_init 20 = .ok (.putfield 18, 3) := dec_of da_X7_init_0 (k := 10) rfl
theorem dX7_init_23 : decode cX7_init 23 = .ok (.aload_n 0, 1) := dec_of da_X7_init_0 (k := 11) rfl
theorem dX7_init_24 : decode cX7_init 24 = .ok (.new 22, 3) := dec_of da_X7_init_0 (k := 12) rfl
theorem dX7_init_27 : decode cX7_init 27 = .ok (.dup, 1) := dec_of da_X7_init_0 (k := 13) rfl
theorem dX7_init_28 : decode cX7_init 28 = .ok (.invokespecial 24, 3) := dec_of da_X7_init_0 (k := 14) rfl
theorem dX7_init_31 : decode cX7_init 31 = .ok (.putfield 25, 3) := dec_of da_X7_init_0 (k := 15) rfl
theorem dX7_init_34 : decode cX7_init 34 = .ok (.aload_n 0, 1) := dec_of da_X7_init_0 (k := 16) rfl
theorem dX7_init_35 : decode cX7_init 35 = .ok (.bipush 9, 2) := dec_of da_X7_init_0 (k := 17) rfl
theorem dX7_init_37 : decode cX7_init 37 = .ok (.newarray .int, 2) := dec_of da_X7_init_0 (k := 18) rfl
theorem dX7_init_39 : decode cX7_init 39 = .ok (.putfield 29, 3) := dec_of da_X7_init_0 (k := 19) rfl
theorem dX7_init_42 : decode cX7_init 42 = .ok (.aload_n 0, 1) := dec_of da_X7_init_0 (k := 20) rfl
theorem dX7_init_43 : decode cX7_init 43 = .ok (.bipush 7, 2) := dec_of da_X7_init_0 (k := 21) rfl
theorem dX7_init_45 : decode cX7_init 45 = .ok (.putfield 32, 3) := dec_of da_X7_init_0 (k := 22) rfl
theorem dX7_init_48 : decode cX7_init 48 = .ok (.aload_n 0, 1) := dec_of da_X7_init_0 (k := 23) rfl
theorem dX7_init_49 : decode cX7_init 49 = .ok (.iconst (-1), 1) := dec_of da_X7_init_0 (k := 24) rfl
theorem dX7_init_50 : decode cX7_init 50 = .ok (.putfield 36, 3) := dec_of da_X7_init_0 (k := 25) rfl
theorem dX7_init_53 : decode cX7_init 53 = .ok (.aload_n 0, 1) := dec_of da_X7_init_0 (k := 26) rfl
theorem dX7_init_54 : decode cX7_init 54 = .ok (.bipush 6, 2) := dec_of da_X7_init_0 (k := 27) rfl
theorem dX7_init_56 : decode cX7_init 56 = .ok (.newarray .int, 2) := dec_of da_X7_init_0 (k := 28) rfl
theorem dX7_init_58 : decode cX7_init 58 = .ok (.putfield 39, 3) := dec_of da_X7_init_0 (k := 29) rfl
theorem dX7_init_61 : decode cX7_init 61 = .ok (.aload_n 0, 1) := dec_of da_X7_init_0 (k := 30) rfl
theorem dX7_init_62 : decode cX7_init 62 = .ok (.iconst (-1), 1) := dec_of da_X7_init_0 (k := 31) rfl
theorem dX7_init_63 : decode cX7_init 63 = .ok (.putfield 42, 3) := dec_of da_X7_init_0 (k := 32) rfl
theorem dX7_init_66 : decode cX7_init 66 = .ok (.aload_n 0, 1) := dec_of da_X7_init_0 (k := 33) rfl
theorem dX7_init_67 : decode cX7_init 67 = .ok (.iconst (-1), 1) := dec_of da_X7_init_0 (k := 34) rfl
theorem dX7_init_68 : decode cX7_init 68 = .ok (.putfield 45, 3) := dec_of da_X7_init_0 (k := 35) rfl
theorem dX7_init_71 : decode cX7_init 71 = .ok (.aload_n 0, 1) := dec_of da_X7_init_0 (k := 36) rfl
theorem dX7_init_72 : decode cX7_init 72 = .ok (.sipush 300, 3) := dec_of da_X7_init_0 (k := 37) rfl
theorem dX7_init_75 : decode cX7_init 75 = .ok (.newarray .int, 2) := dec_of da_X7_init_0 (k := 38) rfl
theorem dX7_init_77 : decode cX7_init 77 = .ok (.putfield 48, 3) := dec_of da_X7_init_0 (k := 39) rfl
theorem dX7_init_80 : decode cX7_init 80 = .ok (.aload_n 0, 1) := dec_of da_X7_init_0 (k := 40) rfl
theorem dX7_init_81 : decode cX7_init 81 = .ok (.iload_n 1, 1) := dec_of da_X7_init_0 (k := 41) rfl
theorem dX7_init_82 : decode cX7_init 82 = .ok (.putfield 51, 3) := dec_of da_X7_init_0 (k := 42) rfl
theorem dX7_init_85 : decode cX7_init 85 = .ok (.aload_n 0, 1) := dec_of da_X7_init_0 (k := 43) rfl
theorem dX7_init_86 : decode cX7_init 86 = .ok (.getfield 29, 3) := dec_of da_X7_init_0 (k := 44) rfl
theorem dX7_init_89 : decode cX7_init 89 = .ok (.iconst (-1), 1) := dec_of da_X7_init_0 (k := 45) rfl
theorem dX7_init_90 : decode cX7_init 90 = .ok (.invokestatic 54, 3) := dec_of da_X7_init_0 (k := 46) rfl
theorem dX7_init_93 : decode cX7_init 93 = .ok (.return_, 1) := dec_of da_X7_init_0 (k := 47) rfl
def dl_X7_contends_0 : List (Nat × (Instr × Nat)) := [(0, (.aload_n 0, 1)), (1, (.getfield 18, 3)), (4, (.getfield 60, 3)), (7, (.ifCond .le 31, 3)), (10, (.aload_n 0, 1)), (11, (.getfield 36, 3)), (14, (.iconst (-1), 1)), (15, (.if_icmp .ne 23, 3)), (18, (.aload_n 0, 1)), (19, (.getfield 45, 3)), (22, (.iconst (-1), 1)), (23, (.if_icmp .ne 15, 3)), (26, (.aload_n 0, 1)), (27, (.getfield 42, 3)), (30, (.iload_n 1, 1)), (31, (.if_icmp .ge 7, 3)), (34, (.iconst 1, 1)), (35, (.goto 4, 3)), (38, (.iconst 0, 1)), (39, (.ireturn, 1))]
set_option maxRecDepth 100000 in
theorem da_X7_contends_0 : dl_X7_contends_0.all (fun q => decide (decode cX7_contends q.1 = .ok q.2)) = true := by decide +kernel
theorem dX7_contends_0 : decode cX7_contends 0 = .ok (.aload_n 0, 1) := dec_of da_X7_contends_0 (k := 0) rfl
theorem dX7_contends_1 : decode cX7_contends 1 = .ok (.getfield 18, 3) := dec_of da_X7_contends_0 (k := 1) rfl
theorem dX7_contends_4 : decode cX7_contends 4 = .ok (.getfield 60, 3) := dec_of da_X7_contends_0 (k := 2) rfl
theorem dX7_contends_7 : decode cX7_contends 7 = .ok (.ifCond .le 31, 3) := dec_of da_X7_contends_0 (k := 3) rfl
theorem dX7_contends_10 : decode cX7_contends 10 = .ok (.aload_n 0, 1) := dec_of da_X7_contends_0 (k := 4) rfl
theorem dX7_contends_11 : decode cX7_contends 11 = .ok (.getfield 36, 3) := dec_of da_X7_contends_0 (k := 5) rfl
theorem dX7_contends_14 : decode cX7_contends 14 = .ok (.iconst (-1), 1) := dec_of da_X7_contends_0 (k := 6) rfl
theorem dX7_contends_15 : decode cX7_contends 15 = .ok (.if_icmp .ne 23, 3) := dec_of da_X7_contends_0 (k := 7) rfl
theorem dX7_contends_18 : decode cX7_contends 18 = .ok (.aload_n 0, 1) := dec_of da_X7_contends_0 (k := 8) rfl
theorem dX7_contends_19 : decode cX7_contends 19 = .ok (.getfield 45, 3) := dec_of da_X7_contends_0 (k := 9) rfl
theorem dX7_contends_22 : decode cX7_contends 22 = .ok (.iconst (-1), 1) := dec_of da_X7_contends_0 (k := 10) rfl
theorem dX7_contends_23 : decode cX7_contends 23 = .ok (.if_icmp .ne 15, 3) := dec_of da_X7_contends_0 (k := 11) rfl
theorem dX7_contends_26 : decode cX7_contends 26 = .ok (.aload_n 0, 1) := dec_of da_X7_contends_0 (k := 12) rfl
theorem dX7_contends_27 : decode cX7_contends 27 = .ok (.getfield 42, 3) := dec_of da_X7_contends_0 (k := 13) rfl
theorem dX7_contends_30 : decode cX7_contends 30 = .ok (.iload_n 1, 1) := dec_of da_X7_contends_0 (k := 14) rfl
theorem dX7_contends_31 : decode cX7_contends 31 = .ok (.if_icmp .ge 7, 3) := dec_of da_X7_contends_0 (k := 15) rfl
theorem dX7_contends_34 : decode cX7_contends 34 = .ok (.iconst 1, 1) := dec_of da_X7_contends_0 (k := 16) rfl
theorem dX7_contends_35 : decode cX7_contends 35 = .ok (.goto 4, 3) := dec_of da_X7_contends_0 (k := 17) rfl
theorem dX7_contends_38 : decode cX7_contends 38 = .ok (.iconst 0, 1) := dec_of da_X7_contends_0 (k := 18) rfl
theorem dX7_contends_39 : decode cX7_contends 39 = .ok (.ireturn, 1) := dec_of da_X7_contends_0 (k := 19) rfl
def dl_X7_dropsAgain_0 : List (Nat × (Instr × Nat)) := [(0, (.aload_n 1, 1)), (1, (.bipush 22, 2)), (3, (.iaload, 1)), (4, (.sipush 256, 3)), (7, (.aload_n 1, 1)), (8, (.bipush 23, 2)), (10, (.iaload, 1)), (11, (.imul, 1)), (12, (.iadd, 1)), (13, (.istore_n 3, 1)), (14, (.aload_n 1, 1)), (15, (.iconst 1, 1)), (16, (.iaload, 1)), (17, (.bipush 8, 2)), (19, (.iand, 1)), (20, (.ifCond .eq 25, 3)), (23, (.aload_n 0, 1)), (24, (.getfield 29, 3)), (27, (.iload_n 2, 1)), (28, (.iaload, 1)), (29, (.iload_n 3, 1)), (30, (.if_icmp .ne 15, 3)), (33, (.aload_n 0, 1)), (34, (.dup, 1)), (35, (.getfield 63, 3)), (38, (.iconst 1, 1)), (39, (.iadd, 1)), (40, (.putfield 63, 3)), (43, (.iconst 1, 1)), (44, (.ireturn, 1)), (45, (.aload_n 0, 1)), (46, (.getfield 29, 3)), (49, (.iload_n 2, 1)), (50, (.iload_n 3, 1)), (51, (.iastore, 1)), (52, (.iconst 0, 1)), (53, (.ireturn, 1))]
set_option maxRecDepth 100000 in
theorem da_X7_dropsAgain_0 : dl_X7_dropsAgain_0.all (fun q => decide (decode cX7_dropsAgain q.1 = .ok q.2)) = true := by decide +kernel
theorem dX7_dropsAgain_0 : decode cX7_dropsAgain 0 = .ok (.aload_n 1, 1) := dec_of da_X7_dropsAgain_0 (k := 0) rfl
theorem dX7_dropsAgain_1 : decode cX7_dropsAgain 1 = .ok (.bipush 22, 2) := dec_of da_X7_dropsAgain_0 (k := 1) rfl
theorem dX7_dropsAgain_3 : decode cX7_dropsAgain 3 = .ok (.iaload, 1) := dec_of da_X7_dropsAgain_0 (k := 2) rfl
theorem dX7_dropsAgain_4 : decode cX7_dropsAgain 4 = .ok (.sipush 256, 3) := dec_of da_X7_dropsAgain_0 (k := 3) rfl
theorem dX7_dropsAgain_7 : decode cX7_dropsAgain 7 = .ok (.aload_n 1, 1) := dec_of da_X7_dropsAgain_0 (k := 4) rfl
theorem dX7_dropsAgain_8 : decode cX7_dropsAgain 8 = .ok (.bipush 23, 2) := dec_of da_X7_dropsAgain_0 (k := 5) rfl
theorem dX7_dropsAgain_10 : decode cX7_dropsAgain 10 = .ok (.iaload, 1) := dec_of da_X7_dropsAgain_0 (k := 6) rfl
theorem dX7_dropsAgain_11 : decode cX7_dropsAgain 11 = .ok (.imul, 1) := dec_of da_X7_dropsAgain_0 (k := 7) rfl
theorem dX7_dropsAgain_12 : decode cX7_dropsAgain 12 = .ok (.iadd, 1) := dec_of da_X7_dropsAgain_0 (k := 8) rfl
theorem dX7_dropsAgain_13 : decode cX7_dropsAgain 13 = .ok (.istore_n 3, 1) := dec_of da_X7_dropsAgain_0 (k := 9) rfl
theorem dX7_dropsAgain_14 : decode cX7_dropsAgain 14 = .ok (.aload_n 1, 1) := dec_of da_X7_dropsAgain_0 (k := 10) rfl
theorem dX7_dropsAgain_15 : decode cX7_dropsAgain 15 = .ok (.iconst 1, 1) := dec_of da_X7_dropsAgain_0 (k := 11) rfl
theorem dX7_dropsAgain_16 : decode cX7_dropsAgain 16 = .ok (.iaload, 1) := dec_of da_X7_dropsAgain_0 (k := 12) rfl
theorem dX7_dropsAgain_17 : decode cX7_dropsAgain 17 = .ok (.bipush 8, 2) := dec_of da_X7_dropsAgain_0 (k := 13) rfl
theorem dX7_dropsAgain_19 : decode cX7_dropsAgain 19 = .ok (.iand, 1) := dec_of da_X7_dropsAgain_0 (k := 14) rfl
theorem dX7_dropsAgain_20 : decode cX7_dropsAgain 20 = .ok (.ifCond .eq 25, 3) := dec_of da_X7_dropsAgain_0 (k := 15) rfl
theorem dX7_dropsAgain_23 : decode cX7_dropsAgain 23 = .ok (.aload_n 0, 1) := dec_of da_X7_dropsAgain_0 (k := 16) rfl
theorem dX7_dropsAgain_24 : decode cX7_dropsAgain 24 = .ok (.getfield 29, 3) := dec_of da_X7_dropsAgain_0 (k := 17) rfl
theorem dX7_dropsAgain_27 : decode cX7_dropsAgain 27 = .ok (.iload_n 2, 1) := dec_of da_X7_dropsAgain_0 (k := 18) rfl
theorem dX7_dropsAgain_28 : decode cX7_dropsAgain 28 = .ok (.iaload, 1) := dec_of da_X7_dropsAgain_0 (k := 19) rfl
theorem dX7_dropsAgain_29 : decode cX7_dropsAgain 29 = .ok (.iload_n 3, 1) := dec_of da_X7_dropsAgain_0 (k := 20) rfl
theorem dX7_dropsAgain_30 : decode cX7_dropsAgain 30 = .ok (.if_icmp .ne 15, 3) := dec_of da_X7_dropsAgain_0 (k := 21) rfl
theorem dX7_dropsAgain_33 : decode cX7_dropsAgain 33 = .ok (.aload_n 0, 1) := dec_of da_X7_dropsAgain_0 (k := 22) rfl
theorem dX7_dropsAgain_34 : decode cX7_dropsAgain 34 = .ok (.dup, 1) := dec_of da_X7_dropsAgain_0 (k := 23) rfl
theorem dX7_dropsAgain_35 : decode cX7_dropsAgain 35 = .ok (.getfield 63, 3) := dec_of da_X7_dropsAgain_0 (k := 24) rfl
theorem dX7_dropsAgain_38 : decode cX7_dropsAgain 38 = .ok (.iconst 1, 1) := dec_of da_X7_dropsAgain_0 (k := 25) rfl
theorem dX7_dropsAgain_39 : decode cX7_dropsAgain 39 = .ok (.iadd, 1) := dec_of da_X7_dropsAgain_0 (k := 26) rfl
theorem dX7_dropsAgain_40 : decode cX7_dropsAgain 40 = .ok (.putfield 63, 3) := dec_of da_X7_dropsAgain_0 (k := 27) rfl
theorem dX7_dropsAgain_43 : decode cX7_dropsAgain 43 = .ok (.iconst 1, 1) := dec_of da_X7_dropsAgain_0 (k := 28) rfl
theorem dX7_dropsAgain_44 : decode cX7_dropsAgain 44 = .ok (.ireturn, 1) := dec_of da_X7_dropsAgain_0 (k := 29) rfl
theorem dX7_dropsAgain_45 : decode cX7_dropsAgain 45 = .ok (.aload_n 0, 1) := dec_of da_X7_dropsAgain_0 (k := 30) rfl
theorem dX7_dropsAgain_46 : decode cX7_dropsAgain 46 = .ok (.getfield 29, 3) := dec_of da_X7_dropsAgain_0 (k := 31) rfl
theorem dX7_dropsAgain_49 : decode cX7_dropsAgain 49 = .ok (.iload_n 2, 1) := dec_of da_X7_dropsAgain_0 (k := 32) rfl
theorem dX7_dropsAgain_50 : decode cX7_dropsAgain 50 = .ok (.iload_n 3, 1) := dec_of da_X7_dropsAgain_0 (k := 33) rfl
theorem dX7_dropsAgain_51 : decode cX7_dropsAgain 51 = .ok (.iastore, 1) := dec_of da_X7_dropsAgain_0 (k := 34) rfl
theorem dX7_dropsAgain_52 : decode cX7_dropsAgain 52 = .ok (.iconst 0, 1) := dec_of da_X7_dropsAgain_0 (k := 35) rfl
theorem dX7_dropsAgain_53 : decode cX7_dropsAgain 53 = .ok (.ireturn, 1) := dec_of da_X7_dropsAgain_0 (k := 36) rfl
def dl_X8_init_0 : List (Nat × (Instr × Nat)) := [(0, (.aload_n 0, 1)), (1, (.invokespecial 3, 3)), (4, (.aload_n 0, 1)), (5, (.bipush 20, 2)), (7, (.sipush 300, 3)), (10, (.multianewarray 11 2, 4)), (14, (.putfield 13, 3)), (17, (.aload_n 0, 1)), (18, (.bipush 20, 2)), (20, (.newarray .int, 2)), (22, (.putfield 16, 3)), (25, (.aload_n 0, 1)), (26, (.bipush 20, 2)), (28, (.newarray .int, 2)), (30, (.putfield 20, 3)), (33, (.return_, 1))]
set_option maxRecDepth 100000 in
theorem da_X8_init_0 : dl_X8_init_0.all (fun q => decide (decode cX8_init q.1 = .ok q.2)) = true := by decide +kernel
theorem dX8_init_0 : decode cX8_init 0 = .ok (.aload_n 0, 1) := dec_of da_X8_init_0 (k := 0) rfl
theorem dX8_init_1 : decode cX8_init 1 = .ok (.invokespecial 3, 3) := dec_of da_X8_init_0 (k := 1) rfl
theorem dX8_init_4 : decode cX8_init 4 = .ok (.aload_n 0, 1) := dec_of da_X8_init_0 (k := 2) rfl
theorem dX8_init_5 : decode cX8_init 5 = .ok (.bipush 20, 2) := dec_of da_X8_init_0 (k := 3) rfl
theorem dX8_init_7 : decode cX8_init 7 = .ok (.sipush 300, 3) := dec_of da_X8_init_0 (k := 4) rfl
theorem dX8_init_10 : decode cX8_init 10 = .ok (.multianewarray 11 2, 4) := dec_of da_X8_init_0 (k := 5) rfl
theorem dX8_init_14 : decode cX8_init 14 = .ok (.putfield 13, 3) := dec_of da_X8_init_0 (k := 6) rfl
theorem dX8_init_17 : decode cX8_init 17 = .ok (.aload_n 0, 1) := dec_of da_X8_init_0 (k := 7) rfl
theorem dX8_init_18 : decode cX8_init 18 = .ok (.bipush 20, 2) := dec_of da_X8_init_0 (k := 8) rfl
theorem dX8_init_20 : decode cX8_init 20 = .ok (.newarray .int, 2) := dec_of da_X8_init_0 (k := 9) rfl
theorem dX8_init_22 : decode cX8_init 22 = .ok (.putfield 16, 3) := dec_of da_X8_init_0 (k := 10) rfl
theorem dX8_init_25 : decode cX8_init 25 = .ok (.aload_n 0, 1) := dec_of da_X8_init_0 (k := 11) rfl
theorem dX8_init_26 : decode cX8_init 26 = .ok (.bipush 20, 2) := dec_of da_X8_init_0 (k := 12) rfl
theorem dX8_init_28 : decode cX8_init 28 = .ok (.newarray .int, 2) := dec_of da_X8_init_0 (k := 13) rfl
theorem dX8_init_30 : decode cX8_init 30 = .ok (.putfield 20, 3) := dec_of da_X8_init_0 (k := 14) rfl
theorem dX8_init_33 : decode cX8_init 33 = .ok (.return_, 1) := dec_of da_X8_init_0 (k := 15) rfl
def dl_X8_addLast_0 : List (Nat × (Instr × Nat)) := [(0, (.aload_n 0, 1)), (1, (.getfield 23, 3)), (4, (.bipush 20, 2)), (6, (.if_icmp .lt 5, 3)), (9, (.iconst 0, 1)), (10, (.ireturn, 1)), (11, (.aload_n 1, 1)), (12, (.iconst 0, 1)), (13, (.aload_n 0, 1)), (14, (.getfield 13, 3)), (17, (.aload_n 0, 1)), (18, (.getfield 23, 3)), (21, (.aaload, 1)), (22, (.iconst 0, 1)), (23, (.iload_n 2, 1)), (24, (.invokestatic 27, 3)), (27, (.aload_n 0, 1)), (28, (.getfield 16, 3)), (31, (.aload_n 0, 1)), (32, (.getfield 23, 3)), (35, (.iload_n 2, 1)), (36, (.iastore, 1)), (37, (.aload_n 0, 1)), (38, (.getfield 20, 3)), (41, (.aload_n 0, 1)), (42, (.getfield 23, 3)), (45, (.iload_n 3, 1)), (46, (.iastore, 1)), (47, (.aload_n 0, 1)), (48, (.dup, 1)), (49, (.getfield 23, 3)), (52, (.iconst 1, 1)), (53, (.iadd, 1)), (54, (.putfield 23, 3)), (57, (.iconst 1, 1)), (58, (.ireturn, 1))]
set_option maxRecDepth 100000 in
theorem da_X8_addLast_0 : dl_X8_addLast_0.all (fun q => decide (decode cX8_addLast q.1 = .ok q.2)) = true := by decide +kernel
theorem dX8_addLast_0 : decode cX8_addLast 0 = .ok (.aload_n 0, 1) := dec_of da_X8_addLast_0 (k := 0) rfl
theorem dX8_addLast_1 : decode cX8_addLast 1 = .ok (.getfield 23, 3) := dec_of da_X8_addLast_0 (k := 1) rfl
theorem dX8_addLast_4 : decode cX8_addLast 4 = .ok (.bipush 20, 2) := dec_of da_X8_addLast_0 (k := 2) rfl
theorem dX8_addLast_6 : decode cX8_addLast 6 = .ok (.if_icmp .lt 5, 3) := dec_of da_X8_addLast_0 (k := 3) rfl
theorem dX8_addLast_9 : decode cX8_addLast 9 = .ok (.iconst 0, 1) := dec_of da_X8_addLast_0 (k := 4) rfl
theorem dX8_addLast_10 : decode cX8_addLast 10 = .ok (.ireturn, 1) := dec_of da_X8_addLast_0 (k := 5) rfl
theorem dX8_addLast_11 : decode cX8_addLast 11 = .ok (.aload_n 1, 1) := dec_of da_X8_addLast_0 (k := 6) rfl
theorem dX8_addLast_12 : decode cX8_addLast 12 = .ok (.iconst 0, 1) := dec_of da_X8_addLast_0 (k := 7) rfl
theorem dX8_addLast_13 : decode cX8_addLast 13 = .ok (.aload_n 0, 1) := dec_of da_X8_addLast_0 (k := 8) rfl
theorem dX8_addLast_14 : decode cX8_addLast 14 = .ok (.getfield 13, 3) := dec_of da_X8_addLast_0 (k := 9) rfl
theorem dX8_addLast_17 : decode cX8_addLast 17 = .ok (.aload_n 0, 1) := dec_of da_X8_addLast_0 (k := 10) rfl
theorem dX8_addLast_18 : decode cX8_addLast 18 = .ok (.getfield 23, 3) := dec_of da_X8_addLast_0 (k := 11) rfl
theorem dX8_addLast_21 : decode cX8_addLast 21 = .ok (.aaload, 1) := dec_of da_X8_addLast_0 (k := 12) rfl
theorem dX8_addLast_22 : decode cX8_addLast 22 = .ok (.iconst 0, 1) := dec_of da_X8_addLast_0 (k := 13) rfl
theorem dX8_addLast_23 : decode cX8_addLast 23 = .ok (.iload_n 2, 1) := dec_of da_X8_addLast_0 (k := 14) rfl
theorem dX8_addLast_24 : decode cX8_addLast 24 = .ok (.invokestatic 27, 3) := dec_of da_X8_addLast_0 (k := 15) rfl
theorem dX8_addLast_27 : decode cX8_addLast 27 = .ok (.aload_n 0, 1) := dec_of da_X8_addLast_0 (k := 16) rfl
theorem dX8_addLast_28 : decode cX8_addLast 28 = .ok (.getfield 16, 3) := dec_of da_X8_addLast_0 (k := 17) rfl
theorem dX8_addLast_31 : decode cX8_addLast 31 = .ok (.aload_n 0, 1) := dec_of da_X8_addLast_0 (k := 18) rfl
theorem dX8_addLast_32 : decode cX8_addLast 32 = .ok (.getfield 23, 3) := dec_of da_X8_addLast_0 (k := 19) rfl
theorem dX8_addLast_35 : decode cX8_addLast 35 = .ok (.iload_n 2, 1) := dec_of da_X8_addLast_0 (k := 20) rfl
theorem dX8_addLast_36 : decode cX8_addLast 36 = .ok (.iastore, 1) := dec_of da_X8_addLast_0 (k := 21) rfl
theorem dX8_addLast_37 : decode cX8_addLast 37 = .ok (.aload_n 0, 1) := dec_of da_X8_addLast_0 (k := 22) rfl
theorem dX8_addLast_38 : decode cX8_addLast 38 = .ok (.getfield 20, 3) := dec_of da_X8_addLast_0 (k := 23) rfl
theorem dX8_addLast_41 : decode cX8_addLast 41 = .ok (.aload_n 0, 1) := dec_of da_X8_addLast_0 (k := 24) rfl
theorem dX8_addLast_42 : decode cX8_addLast 42 = .ok (.getfield 23, 3) := dec_of da_X8_addLast_0 (k := 25) rfl
theorem dX8_addLast_45 : decode cX8_addLast 45 = .ok (.iload_n 3, 1) := dec_of da_X8_addLast_0 (k := 26) rfl
theorem dX8_addLast_46 : decode cX8_addLast 46 = .ok (.iastore, 1) := dec_of da_X8_addLast_0 (k := 27) rfl
theorem dX8_addLast_47 : decode cX8_addLast 47 = .ok (.aload_n 0, 1) := dec_of da_X8_addLast_0 (k := 28) rfl
theorem dX8_addLast_48 : decode cX8_addLast 48 = .ok (.dup, 1) := dec_of da_X8_addLast_0 (k := 29) rfl
theorem dX8_addLast_49 : decode cX8_addLast 49 = .ok (.getfield 23, 3) := dec_of da_X8_addLast_0 (k := 30) rfl
theorem dX8_addLast_52 : decode cX8_addLast 52 = .ok (.iconst 1, 1) := dec_of da_X8_addLast_0 (k := 31) rfl
theorem dX8_addLast_53 : decode cX8_addLast 53 = .ok (.iadd, 1) := dec_of da_X8_addLast_0 (k := 32) rfl
theorem dX8_addLast_54 : decode cX8_addLast 54 = .ok (.putfield 23, 3) := dec_of da_X8_addLast_0 (k := 33) rfl
theorem dX8_addLast_57 : decode cX8_addLast 57 = .ok (.iconst 1, 1) := dec_of da_X8_addLast_0 (k := 34) rfl
theorem dX8_addLast_58 : decode cX8_addLast 58 = .ok (.ireturn, 1) := dec_of da_X8_addLast_0 (k := 35) rfl
def dl_X8_slotsAhead_0 : List (Nat × (Instr × Nat)) := [(0, (.iload_n 2, 1)), (1, (.istore_n 3, 1)), (2, (.iconst 0, 1)), (3, (.istore 4, 2)), (5, (.iload 4, 2)), (7, (.aload_n 0, 1)), (8, (.getfield 23, 3)), (11, (.if_icmp .ge 23, 3)), (14, (.iload_n 3, 1)), (15, (.aload_n 0, 1)), (16, (.getfield 20, 3)), (19, (.iload 4, 2)), (21, (.iaload, 1)), (22, (.iload_n 1, 1)), (23, (.isub, 1)), (24, (.invokestatic 33, 3)), (27, (.istore_n 3, 1)), (28, (.iinc 4 1, 3)), (31, (.goto (-26), 3)), (34, (.iload_n 3, 1)), (35, (.ireturn, 1))]
set_option maxRecDepth 100000 in
theorem da_X8_slotsAhead_0 : dl_X8_slotsAhead_0.all (fun q => decide (decode cX8_slotsAhead q.1 = .ok q.2)) = true := by decide +kernel
theorem dX8_slotsAhead_0 : decode cX8_slotsAhead 0 = .ok (.iload_n 2, 1) := dec_of da_X8_slotsAhead_0 (k := 0) rfl
theorem dX8_slotsAhead_1 : decode cX8_slotsAhead 1 = .ok (.istore_n 3, 1) := dec_of da_X8_slotsAhead_0 (k := 1) rfl
theorem dX8_slotsAhead_2 : decode cX8_slotsAhead 2 = .ok (.iconst 0, 1) := dec_of da_X8_slotsAhead_0 (k := 2) rfl
theorem dX8_slotsAhead_3 : decode cX8_slotsAhead 3 = .ok (.istore 4, 2) := dec_of da_X8_slotsAhead_0 (k := 3) rfl
theorem dX8_slotsAhead_5 : decode cX8_slotsAhead 5 = .ok (.iload 4, 2) := dec_of da_X8_slotsAhead_0 (k := 4) rfl
theorem dX8_slotsAhead_7 : decode cX8_slotsAhead 7 = .ok (.aload_n 0, 1) := dec_of da_X8_slotsAhead_0 (k := 5) rfl
theorem dX8_slotsAhead_8 : decode cX8_slotsAhead 8 = .ok (.getfield 23, 3) := dec_of da_X8_slotsAhead_0 (k := 6) rfl
theorem dX8_slotsAhead_11 : decode cX8_slotsAhead 11 = .ok (.if_icmp .ge 23, 3) := dec_of da_X8_slotsAhead_0 (k := 7) rfl
theorem dX8_slotsAhead_14 : decode cX8_slotsAhead 14 = .ok (.iload_n 3, 1) := dec_of da_X8_slotsAhead_0 (k := 8) rfl
theorem dX8_slotsAhead_15 : decode cX8_slotsAhead 15 = .ok (.aload_n 0, 1) := dec_of da_X8_slotsAhead_0 (k := 9) rfl
theorem dX8_slotsAhead_16 : decode cX8_slotsAhead 16 = .ok (.getfield 20, 3) := dec_of da_X8_slotsAhead_0 (k := 10) rfl
theorem dX8_slotsAhead_19 : decode cX8_slotsAhead 19 = .ok (.iload 4, 2) := dec_of da_X8_slotsAhead_0 (k := 11) rfl
theorem dX8_slotsAhead_21 : decode cX8_slotsAhead 21 = .ok (.iaload, 1) := dec_of da_X8_slotsAhead_0 (k := 12) rfl
theorem dX8_slotsAhead_22 : decode cX8_slotsAhead 22 = .ok (.iload_n 1, 1) := dec_of da_X8_slotsAhead_0 (k := 13) rfl
theorem dX8_slotsAhead_23 : decode cX8_slotsAhead 23 = .ok (.isub, 1) := dec_of da_X8_slotsAhead_0 (k := 14) rfl
theorem dX8_slotsAhead_24 : decode cX8_slotsAhead 24 = .ok (.invokestatic 33, 3) := dec_of da_X8_slotsAhead_0 (k := 15) rfl
theorem dX8_slotsAhead_27 : decode cX8_slotsAhead 27 = .ok (.istore_n 3, 1) := dec_of da_X8_slotsAhead_0 (k := 16) rfl
theorem dX8_slotsAhead_28 : decode cX8_slotsAhead 28 = .ok (.iinc 4 1, 3) := dec_of da_X8_slotsAhead_0 (k := 17) rfl
theorem dX8_slotsAhead_31 : decode cX8_slotsAhead 31 = .ok (.goto (-26), 3) := dec_of da_X8_slotsAhead_0 (k := 18) rfl
theorem dX8_slotsAhead_34 : decode cX8_slotsAhead 34 = .ok (.iload_n 3, 1) := dec_of da_X8_slotsAhead_0 (k := 19) rfl
theorem dX8_slotsAhead_35 : decode cX8_slotsAhead 35 = .ok (.ireturn, 1) := dec_of da_X8_slotsAhead_0 (k := 20) rfl
def dl_X8_begin_0 : List (Nat × (Instr × Nat)) := [(0, (.iconst 0, 1)), (1, (.istore_n 2, 1)), (2, (.iconst 0, 1)), (3, (.istore_n 3, 1)), (4, (.iload_n 3, 1)), (5, (.aload_n 0, 1)), (6, (.getfield 23, 3)), (9, (.if_icmp .ge 53, 3)), (12, (.aload_n 0, 1)), (13, (.getfield 20, 3)), (16, (.iload_n 3, 1)), (17, (.iaload, 1)), (18, (.aload_n 1, 1)), (19, (.getfield 39, 3)), (22, (.if_icmp .ne 25, 3)), (25, (.aload_n 1, 1)), (26, (.aload_n 0, 1)), (27, (.getfield 13, 3)), (30, (.iload_n 3, 1)), (31, (.aaload, 1)), (32, (.aload_n 0, 1)), (33, (.getfield 16, 3)), (36, (.iload_n 3, 1)), (37, (.iaload, 1)), (38, (.bipush 9, 2)), (40, (.invokevirtual 44, 3)), (43, (.pop, 1)), (44, (.goto 12, 3)), (47, (.aload_n 0, 1)), (48, (.iload_n 3, 1)), (49, (.iload_n 2, 1)), (50, (.invokevirtual 48, 3)), (53, (.iinc 2 1, 3)), (56, (.iinc 3 1, 3)), (59, (.goto (-55), 3)), (62, (.aload_n 0, 1)), (63, (.iload_n 2, 1)), (64, (.putfield 23, 3)), (67, (.return_, 1))]
set_option maxRecDepth 100000 in
theorem da_X8_begin_0 : dl_X8_begin_0.all (fun q => decide (decode cX8_begin q.1 = .ok q.2)) = true := by decide +kernel
theorem dX8_begin_0 : decode cX8_begin 0 = .ok (.iconst 0, 1) := dec_of da_X8_begin_0 (k := 0) rfl
theorem dX8_begin_1 : decode cX8_begin 1 = .ok (.istore_n 2, 1) := dec_of da_X8_begin_0 (k := 1) rfl
theorem dX8_begin_2 : decode cX8_begin 2 = .ok (.iconst 0, 1) := dec_of da_X8_begin_0 (k := 2) rfl
theorem dX8_begin_3 : decode cX8_begin 3 = .ok (.istore_n 3, 1) := dec_of da_X8_begin_0 (k := 3) rfl
theorem dX8_begin_4 : decode cX8_begin 4 = .ok (.iload_n 3, 1) := dec_of da_X8_begin_0 (k := 4) rfl
theorem dX8_begin_5 : decode cX8_begin 5 = .ok (.aload_n 0, 1) := dec_of da_X8_begin_0 (k := 5) rfl
theorem dX8_begin_6 : decode cX8_begin 6 = .ok (.getfield 23, 3) := dec_of da_X8_begin_0 (k := 6) rfl
theorem dX8_begin_9 : decode cX8_begin 9 = .ok (.if_icmp .ge 53, 3) := dec_of da_X8_begin_0 (k := 7) rfl
theorem dX8_begin_12 : decode cX8_begin 12 = .ok (.aload_n 0, 1) := dec_of da_X8_begin_0 (k := 8) rfl
theorem dX8_begin_13 : decode cX8_begin 13 = .ok (.getfield 20, 3) := dec_of da_X8_begin_0 (k := 9) rfl
theorem dX8_begin_16 : decode cX8_begin 16 = .ok (.iload_n 3, 1) := dec_of da_X8_begin_0 (k := 10) rfl
theorem dX8_begin_17 : decode cX8_begin 17 = .ok (.iaload, 1) := dec_of da_X8_begin_0 (k := 11) rfl
theorem dX8_begin_18 : decode cX8_begin 18 = .ok (.aload_n 1, 1) := dec_of da_X8_begin_0 (k := 12) rfl
theorem dX8_begin_19 : decode cX8_begin 19 = .ok (.getfield 39, 3) := dec_of da_X8_begin_0 (k := 13) rfl
theorem dX8_begin_22 : decode cX8_begin 22 = .ok (.if_icmp .ne 25, 3) := dec_of da_X8_begin_0 (k := 14) rfl
theorem dX8_begin_25 : decode cX8_begin 25 = .ok (.aload_n 1, 1) := dec_of da_X8_begin_0 (k := 15) rfl
theorem dX8_begin_26 : decode cX8_begin 26 = .ok (.aload_n 0, 1) := dec_of da_X8_begin_0 (k := 16) rfl
theorem dX8_begin_27 : decode cX8_begin 27 = .ok (.getfield 13, 3) := dec_of da_X8_begin_0 (k := 17) rfl
theorem dX8_begin_30 : decode cX8_begin 30 = .ok (.iload_n 3, 1) := dec_of da_X8_begin_0 (k := 18) rfl
theorem dX8_begin_31 : decode cX8_begin 31 = .ok (.aaload, 1) := dec_of da_X8_begin_0 (k := 19) rfl
theorem dX8_begin_32 : decode cX8_begin 32 = .ok (.aload_n 0, 1) := dec_of da_X8_begin_0 (k := 20) rfl
theorem dX8_begin_33 : decode cX8_begin 33 = .ok (.getfield 16, 3) := dec_of da_X8_begin_0 (k := 21) rfl
theorem dX8_begin_36 : decode cX8_begin 36 = .ok (.iload_n 3, 1) := dec_of da_X8_begin_0 (k := 22) rfl
theorem dX8_begin_37 : decode cX8_begin 37 = .ok (.iaload, 1) := dec_of da_X8_begin_0 (k := 23) rfl
theorem dX8_begin_38 : decode cX8_begin 38 = .ok (.bipush 9, 2) := dec_of da_X8_begin_0 (k := 24) rfl
theorem dX8_begin_40 : decode cX8_begin 40 = .ok (.invokevirtual 44, 3) := dec_of da_X8_begin_0 (k := 25) rfl
theorem dX8_begin_43 : decode cX8_begin 43 = .ok (.pop, 1) := dec_of da_X8_begin_0 (k := 26) rfl
theorem dX8_begin_44 : decode cX8_begin 44 = .ok (.goto 12, 3) := dec_of da_X8_begin_0 (k := 27) rfl
theorem dX8_begin_47 : decode cX8_begin 47 = .ok (.aload_n 0, 1) := dec_of da_X8_begin_0 (k := 28) rfl
theorem dX8_begin_48 : decode cX8_begin 48 = .ok (.iload_n 3, 1) := dec_of da_X8_begin_0 (k := 29) rfl
theorem dX8_begin_49 : decode cX8_begin 49 = .ok (.iload_n 2, 1) := dec_of da_X8_begin_0 (k := 30) rfl
theorem dX8_begin_50 : decode cX8_begin 50 = .ok (.invokevirtual 48, 3) := dec_of da_X8_begin_0 (k := 31) rfl
theorem dX8_begin_53 : decode cX8_begin 53 = .ok (.iinc 2 1, 3) := dec_of da_X8_begin_0 (k := 32) rfl
theorem dX8_begin_56 : decode cX8_begin 56 = .ok (.iinc 3 1, 3) := dec_of da_X8_begin_0 (k := 33) rfl
theorem dX8_begin_59 : decode cX8_begin 59 = .ok (.goto (-55), 3) := dec_of da_X8_begin_0 (k := 34) rfl
theorem dX8_begin_62 : decode cX8_begin 62 = .ok (.aload_n 0, 1) := dec_of da_X8_begin_0 (k := 35) rfl
theorem dX8_begin_63 : decode cX8_begin 63 = .ok (.iload_n 2, 1) := dec_of da_X8_begin_0 (k := 36) rfl
theorem dX8_begin_64 : decode cX8_begin 64 = .ok (.putfield 23, 3) := dec_of da_X8_begin_0 (k := 37) rfl
theorem dX8_begin_67 : decode cX8_begin 67 = .ok (.return_, 1) := dec_of da_X8_begin_0 (k := 38) rfl
def dl_X8_moveUp_0 : List (Nat × (Instr × Nat)) := [(0, (.aload_n 0, 1)), (1, (.getfield 13, 3)), (4, (.iload_n 2, 1)), (5, (.aaload, 1)), (6, (.astore_n 3, 1)), (7, (.aload_n 0, 1)), (8, (.getfield 13, 3)), (11, (.iload_n 2, 1)), (12, (.aload_n 0, 1)), (13, (.getfield 13, 3)), (16, (.iload_n 1, 1)), (17, (.aaload, 1)), (18, (.aastore, 1)), (19, (.aload_n 0, 1)), (20, (.getfield 13, 3)), (23, (.iload_n 1, 1)), (24, (.aload_n 3, 1)), (25, (.aastore, 1)), (26, (.aload_n 0, 1)), (27, (.getfield 16, 3)), (30, (.iload_n 2, 1)), (31, (.aload_n 0, 1)), (32, (.getfield 16, 3)), (35, (.iload_n 1, 1)), (36, (.iaload, 1)), (37, (.iastore, 1)), (38, (.aload_n 0, 1)), (39, (.getfield 20, 3)), (42, (.iload_n 2, 1)), (43, (.aload_n 0, 1)), (44, (.getfield 20, 3)), (47, (.iload_n 1, 1)), (48, (.iaload, 1)), (49, (.iastore, 1)), (50, (.return_, 1))]
set_option maxRecDepth 100000 in
theorem da_X8_moveUp_0 : dl_X8_moveUp_0.all (fun q => decide (decode cX8_moveUp q.1 = .ok q.2)) = true := by decide +kernel
theorem dX8_moveUp_0 : decode cX8_moveUp 0 = .ok (.aload_n 0, 1) := dec_of da_X8_moveUp_0 (k := 0) rfl
theorem dX8_moveUp_1 : decode cX8_moveUp 1 = .ok (.getfield 13, 3) := dec_of da_X8_moveUp_0 (k := 1) rfl
theorem dX8_moveUp_4 : decode cX8_moveUp 4 = .ok (.iload_n 2, 1) := dec_of da_X8_moveUp_0 (k := 2) rfl
theorem dX8_moveUp_5 : decode cX8_moveUp 5 = .ok (.aaload, 1) := dec_of da_X8_moveUp_0 (k := 3) rfl
theorem dX8_moveUp_6 : decode cX8_moveUp 6 = .ok (.astore_n 3, 1) := dec_of da_X8_moveUp_0 (k := 4) rfl
theorem dX8_moveUp_7 : decode cX8_moveUp 7 = .ok (.aload_n 0, 1) := dec_of da_X8_moveUp_0 (k := 5) rfl
theorem dX8_moveUp_8 : decode cX8_moveUp 8 = .ok (.getfield 13, 3) := dec_of da_X8_moveUp_0 (k := 6) rfl
theorem dX8_moveUp_11 : decode cX8_moveUp 11 = .ok (.iload_n 2, 1) := dec_of da_X8_moveUp_0 (k := 7) rfl
theorem dX8_moveUp_12 : decode cX8_moveUp 12 = .ok (.aload_n 0, 1) := dec_of da_X8_moveUp_0 (k := 8) rfl
theorem dX8_moveUp_13 : decode cX8_moveUp 13 = .ok (.getfield 13, 3) := dec_of da_X8_moveUp_0 (k := 9) rfl
theorem dX8_moveUp_16 : decode cX8_moveUp 16 = .ok (.iload_n 1, 1) := dec_of da_X8_moveUp_0 (k := 10) rfl
theorem dX8_moveUp_17 : decode cX8_moveUp 17 = .ok (.aaload, 1) := dec_of da_X8_moveUp_0 (k := 11) rfl
theorem dX8_moveUp_18 : decode cX8_moveUp 18 = .ok (.aastore, 1) := dec_of da_X8_moveUp_0 (k := 12) rfl
theorem dX8_moveUp_19 : decode cX8_moveUp 19 = .ok (.aload_n 0, 1) := dec_of da_X8_moveUp_0 (k := 13) rfl
theorem dX8_moveUp_20 : decode cX8_moveUp 20 = .ok (.getfield 13, 3) := dec_of da_X8_moveUp_0 (k := 14) rfl
theorem dX8_moveUp_23 : decode cX8_moveUp 23 = .ok (.iload_n 1, 1) := dec_of da_X8_moveUp_0 (k := 15) rfl
theorem dX8_moveUp_24 : decode cX8_moveUp 24 = .ok (.aload_n 3, 1) := dec_of da_X8_moveUp_0 (k := 16) rfl
theorem dX8_moveUp_25 : decode cX8_moveUp 25 = .ok (.aastore, 1) := dec_of da_X8_moveUp_0 (k := 17) rfl
theorem dX8_moveUp_26 : decode cX8_moveUp 26 = .ok (.aload_n 0, 1) := dec_of da_X8_moveUp_0 (k := 18) rfl
theorem dX8_moveUp_27 : decode cX8_moveUp 27 = .ok (.getfield 16, 3) := dec_of da_X8_moveUp_0 (k := 19) rfl
theorem dX8_moveUp_30 : decode cX8_moveUp 30 = .ok (.iload_n 2, 1) := dec_of da_X8_moveUp_0 (k := 20) rfl
theorem dX8_moveUp_31 : decode cX8_moveUp 31 = .ok (.aload_n 0, 1) := dec_of da_X8_moveUp_0 (k := 21) rfl
theorem dX8_moveUp_32 : decode cX8_moveUp 32 = .ok (.getfield 16, 3) := dec_of da_X8_moveUp_0 (k := 22) rfl
theorem dX8_moveUp_35 : decode cX8_moveUp 35 = .ok (.iload_n 1, 1) := dec_of da_X8_moveUp_0 (k := 23) rfl
theorem dX8_moveUp_36 : decode cX8_moveUp 36 = .ok (.iaload, 1) := dec_of da_X8_moveUp_0 (k := 24) rfl
theorem dX8_moveUp_37 : decode cX8_moveUp 37 = .ok (.iastore, 1) := dec_of da_X8_moveUp_0 (k := 25) rfl
theorem dX8_moveUp_38 : decode cX8_moveUp 38 = .ok (.aload_n 0, 1) := dec_of da_X8_moveUp_0 (k := 26) rfl
theorem dX8_moveUp_39 : decode cX8_moveUp 39 = .ok (.getfield 20, 3) := dec_of da_X8_moveUp_0 (k := 27) rfl
theorem dX8_moveUp_42 : decode cX8_moveUp 42 = .ok (.iload_n 2, 1) := dec_of da_X8_moveUp_0 (k := 28) rfl
theorem dX8_moveUp_43 : decode cX8_moveUp 43 = .ok (.aload_n 0, 1) := dec_of da_X8_moveUp_0 (k := 29) rfl
theorem dX8_moveUp_44 : decode cX8_moveUp 44 = .ok (.getfield 20, 3) := dec_of da_X8_moveUp_0 (k := 30) rfl
theorem dX8_moveUp_47 : decode cX8_moveUp 47 = .ok (.iload_n 1, 1) := dec_of da_X8_moveUp_0 (k := 31) rfl
theorem dX8_moveUp_48 : decode cX8_moveUp 48 = .ok (.iaload, 1) := dec_of da_X8_moveUp_0 (k := 32) rfl
theorem dX8_moveUp_49 : decode cX8_moveUp 49 = .ok (.iastore, 1) := dec_of da_X8_moveUp_0 (k := 33) rfl
theorem dX8_moveUp_50 : decode cX8_moveUp 50 = .ok (.return_, 1) := dec_of da_X8_moveUp_0 (k := 34) rfl
def dl_X9_init_0 : List (Nat × (Instr × Nat)) := [(0, (.aload_n 0, 1)), (1, (.invokespecial 1, 3)), (4, (.aload_n 0, 1)), (5, (.bipush 12, 2)), (7, (.anewarray 9, 3)), (10, (.putfield 11, 3)), (13, (.iconst 0, 1)), (14, (.istore_n 1, 1)), (15, (.iload_n 1, 1)), (16, (.bipush 12, 2)), (18, (.if_icmp .ge 22, 3)), (21, (.aload_n 0, 1)), (22, (.getfield 11, 3)), (25, (.iload_n 1, 1)), (26, (.new 9, 3)), (29, (.dup, 1)), (30, (.invokespecial 15, 3)), (33, (.aastore, 1)), (34, (.iinc 1 1, 3)), (37, (.goto (-22), 3)), (40, (.return_, 1))]
set_option maxRecDepth 100000 in
theorem da_X9_init_0 : dl_X9_init_0.all (fun q => decide (decode cX9_init q.1 = .ok q.2)) = true := by decide +kernel
theorem dX9_init_0 : decode cX9_init 0 = .ok (.aload_n 0, 1) := dec_of da_X9_init_0 (k := 0) rfl
theorem dX9_init_1 : decode cX9_init 1 = .ok (.invokespecial 1, 3) := dec_of da_X9_init_0 (k := 1) rfl
theorem dX9_init_4 : decode cX9_init 4 = .ok (.aload_n 0, 1) := dec_of da_X9_init_0 (k := 2) rfl
theorem dX9_init_5 : decode cX9_init 5 = .ok (.bipush 12, 2) := dec_of da_X9_init_0 (k := 3) rfl
theorem dX9_init_7 : decode cX9_init 7 = .ok (.anewarray 9, 3) := dec_of da_X9_init_0 (k := 4) rfl
theorem dX9_init_10 : decode cX9_init 10 = .ok (.putfield 11, 3) := dec_of da_X9_init_0 (k := 5) rfl
theorem dX9_init_13 : decode cX9_init 13 = .ok (.iconst 0, 1) := dec_of da_X9_init_0 (k := 6) rfl
theorem dX9_init_14 : decode cX9_init 14 = .ok (.istore_n 1, 1) := dec_of da_X9_init_0 (k := 7) rfl
theorem dX9_init_15 : decode cX9_init 15 = .ok (.iload_n 1, 1) := dec_of da_X9_init_0 (k := 8) rfl
theorem dX9_init_16 : decode cX9_init 16 = .ok (.bipush 12, 2) := dec_of da_X9_init_0 (k := 9) rfl
theorem dX9_init_18 : decode cX9_init 18 = .ok (.if_icmp .ge 22, 3) := dec_of da_X9_init_0 (k := 10) rfl
theorem dX9_init_21 : decode cX9_init 21 = .ok (.aload_n 0, 1) := dec_of da_X9_init_0 (k := 11) rfl
theorem dX9_init_22 : decode cX9_init 22 = .ok (.getfield 11, 3) := dec_of da_X9_init_0 (k := 12) rfl
theorem dX9_init_25 : decode cX9_init 25 = .ok (.iload_n 1, 1) := dec_of da_X9_init_0 (k := 13) rfl
theorem dX9_init_26 : decode cX9_init 26 = .ok (.new 9, 3) := dec_of da_X9_init_0 (k := 14) rfl
theorem dX9_init_29 : decode cX9_init 29 = .ok (.dup, 1) := dec_of da_X9_init_0 (k := 15) rfl
theorem dX9_init_30 : decode cX9_init 30 = .ok (.invokespecial 15, 3) := dec_of da_X9_init_0 (k := 16) rfl
theorem dX9_init_33 : decode cX9_init 33 = .ok (.aastore, 1) := dec_of da_X9_init_0 (k := 17) rfl
theorem dX9_init_34 : decode cX9_init 34 = .ok (.iinc 1 1, 3) := dec_of da_X9_init_0 (k := 18) rfl
theorem dX9_init_37 : decode cX9_init 37 = .ok (.goto (-22), 3) := dec_of da_X9_init_0 (k := 19) rfl
theorem dX9_init_40 : decode cX9_init 40 = .ok (.return_, 1) := dec_of da_X9_init_0 (k := 20) rfl
def dl_X9_first_0 : List (Nat × (Instr × Nat)) := [(0, (.aload_n 0, 1)), (1, (.getfield 11, 3)), (4, (.aload_n 0, 1)), (5, (.getfield 16, 3)), (8, (.aaload, 1)), (9, (.areturn, 1))]
set_option maxRecDepth 100000 in
theorem da_X9_first_0 : dl_X9_first_0.all (fun q => decide (decode cX9_first q.1 = .ok q.2)) = true := by decide +kernel
theorem dX9_first_0 : decode cX9_first 0 = .ok (.aload_n 0, 1) := dec_of da_X9_first_0 (k := 0) rfl
theorem dX9_first_1 : decode cX9_first 1 = .ok (.getfield 11, 3) := dec_of da_X9_first_0 (k := 1) rfl
theorem dX9_first_4 : decode cX9_first 4 = .ok (.aload_n 0, 1) := dec_of da_X9_first_0 (k := 2) rfl
theorem dX9_first_5 : decode cX9_first 5 = .ok (.getfield 16, 3) := dec_of da_X9_first_0 (k := 3) rfl
theorem dX9_first_8 : decode cX9_first 8 = .ok (.aaload, 1) := dec_of da_X9_first_0 (k := 4) rfl
theorem dX9_first_9 : decode cX9_first 9 = .ok (.areturn, 1) := dec_of da_X9_first_0 (k := 5) rfl
def dl_X9_addLast_0 : List (Nat × (Instr × Nat)) := [(0, (.aload_n 0, 1)), (1, (.getfield 20, 3)), (4, (.bipush 12, 2)), (6, (.if_icmp .lt 5, 3)), (9, (.aconst_null, 1)), (10, (.areturn, 1)), (11, (.aload_n 0, 1)), (12, (.getfield 11, 3)), (15, (.aload_n 0, 1)), (16, (.getfield 16, 3)), (19, (.aload_n 0, 1)), (20, (.getfield 20, 3)), (23, (.iadd, 1)), (24, (.bipush 12, 2)), (26, (.irem, 1)), (27, (.aaload, 1)), (28, (.astore_n 1, 1)), (29, (.aload_n 0, 1)), (30, (.dup, 1)), (31, (.getfield 20, 3)), (34, (.iconst 1, 1)), (35, (.iadd, 1)), (36, (.putfield 20, 3)), (39, (.aload_n 1, 1)), (40, (.aload_n 0, 1)), (41, (.getfield 23, 3)), (44, (.putfield 26, 3)), (47, (.aload_n 0, 1)), (48, (.aload_n 0, 1)), (49, (.getfield 23, 3)), (52, (.iconst 1, 1)), (53, (.iadd, 1)), (54, (.sipush 4096, 3)), (57, (.irem, 1)), (58, (.putfield 23, 3)), (61, (.aload_n 1, 1)), (62, (.areturn, 1))]
set_option maxRecDepth 100000 in
theorem da_X9_addLast_0 : dl_X9_addLast_0.all (fun q => decide (decode cX9_addLast q.1 = .ok q.2)) = true := by decide +kernel
theorem dX9_addLast_0 : decode cX9_addLast 0 = .ok (.aload_n 0, 1) := dec_of da_X9_addLast_0 (k := 0) rfl
theorem dX9_addLast_1 : decode cX9_addLast 1 = .ok (.getfield 20, 3) := dec_of da_X9_addLast_0 (k := 1) rfl
theorem dX9_addLast_4 : decode cX9_addLast 4 = .ok (.bipush 12, 2) := dec_of da_X9_addLast_0 (k := 2) rfl
theorem dX9_addLast_6 : decode cX9_addLast 6 = .ok (.if_icmp .lt 5, 3) := dec_of da_X9_addLast_0 (k := 3) rfl
theorem dX9_addLast_9 : decode cX9_addLast 9 = .ok (.aconst_null, 1) := dec_of da_X9_addLast_0 (k := 4) rfl
theorem dX9_addLast_10 : decode cX9_addLast 10 = .ok (.areturn, 1) := dec_of da_X9_addLast_0 (k := 5) rfl
theorem dX9_addLast_11 : decode cX9_addLast 11 = .ok (.aload_n 0, 1) := dec_of da_X9_addLast_0 (k := 6) rfl
theorem dX9_addLast_12 : decode cX9_addLast 12 = .ok (.getfield 11, 3) := dec_of da_X9_addLast_0 (k := 7) rfl
theorem dX9_addLast_15 : decode cX9_addLast 15 = .ok (.aload_n 0, 1) := dec_of da_X9_addLast_0 (k := 8) rfl
theorem dX9_addLast_16 : decode cX9_addLast 16 = .ok (.getfield 16, 3) := dec_of da_X9_addLast_0 (k := 9) rfl
theorem dX9_addLast_19 : decode cX9_addLast 19 = .ok (.aload_n 0, 1) := dec_of da_X9_addLast_0 (k := 10) rfl
theorem dX9_addLast_20 : decode cX9_addLast 20 = .ok (.getfield 20, 3) := dec_of da_X9_addLast_0 (k := 11) rfl
theorem dX9_addLast_23 : decode cX9_addLast 23 = .ok (.iadd, 1) := dec_of da_X9_addLast_0 (k := 12) rfl
theorem dX9_addLast_24 : decode cX9_addLast 24 = .ok (.bipush 12, 2) := dec_of da_X9_addLast_0 (k := 13) rfl
theorem dX9_addLast_26 : decode cX9_addLast 26 = .ok (.irem, 1) := dec_of da_X9_addLast_0 (k := 14) rfl
theorem dX9_addLast_27 : decode cX9_addLast 27 = .ok (.aaload, 1) := dec_of da_X9_addLast_0 (k := 15) rfl
theorem dX9_addLast_28 : decode cX9_addLast 28 = .ok (.astore_n 1, 1) := dec_of da_X9_addLast_0 (k := 16) rfl
theorem dX9_addLast_29 : decode cX9_addLast 29 = .ok (.aload_n 0, 1) := dec_of da_X9_addLast_0 (k := 17) rfl
theorem dX9_addLast_30 : decode cX9_addLast 30 = .ok (.dup, 1) := dec_of da_X9_addLast_0 (k := 18) rfl
theorem dX9_addLast_31 : decode cX9_addLast 31 = .ok (.getfield 20, 3) := dec_of da_X9_addLast_0 (k := 19) rfl
theorem dX9_addLast_34 : decode cX9_addLast 34 = .ok (.iconst 1, 1) := dec_of da_X9_addLast_0 (k := 20) rfl
theorem dX9_addLast_35 : decode cX9_addLast 35 = .ok (.iadd, 1) := dec_of da_X9_addLast_0 (k := 21) rfl
theorem dX9_addLast_36 : decode cX9_addLast 36 = .ok (.putfield 20, 3) := dec_of da_X9_addLast_0 (k := 22) rfl
theorem dX9_addLast_39 : decode cX9_addLast 39 = .ok (.aload_n 1, 1) := dec_of da_X9_addLast_0 (k := 23) rfl
theorem dX9_addLast_40 : decode cX9_addLast 40 = .ok (.aload_n 0, 1) := dec_of da_X9_addLast_0 (k := 24) rfl
theorem dX9_addLast_41 : decode cX9_addLast 41 = .ok (.getfield 23, 3) := dec_of da_X9_addLast_0 (k := 25) rfl
theorem dX9_addLast_44 : decode cX9_addLast 44 = .ok (.putfield 26, 3) := dec_of da_X9_addLast_0 (k := 26) rfl
theorem dX9_addLast_47 : decode cX9_addLast 47 = .ok (.aload_n 0, 1) := dec_of da_X9_addLast_0 (k := 27) rfl
theorem dX9_addLast_48 : decode cX9_addLast 48 = .ok (.aload_n 0, 1) := dec_of da_X9_addLast_0 (k := 28) rfl
theorem dX9_addLast_49 : decode cX9_addLast 49 = .ok (.getfield 23, 3) := dec_of da_X9_addLast_0 (k := 29) rfl
theorem dX9_addLast_52 : decode cX9_addLast 52 = .ok (.iconst 1, 1) := dec_of da_X9_addLast_0 (k := 30) rfl
theorem dX9_addLast_53 : decode cX9_addLast 53 = .ok (.iadd, 1) := dec_of da_X9_addLast_0 (k := 31) rfl
theorem dX9_addLast_54 : decode cX9_addLast 54 = .ok (.sipush 4096, 3) := dec_of da_X9_addLast_0 (k := 32) rfl
theorem dX9_addLast_57 : decode cX9_addLast 57 = .ok (.irem, 1) := dec_of da_X9_addLast_0 (k := 33) rfl
theorem dX9_addLast_58 : decode cX9_addLast 58 = .ok (.putfield 23, 3) := dec_of da_X9_addLast_0 (k := 34) rfl
theorem dX9_addLast_61 : decode cX9_addLast 61 = .ok (.aload_n 1, 1) := dec_of da_X9_addLast_0 (k := 35) rfl
theorem dX9_addLast_62 : decode cX9_addLast 62 = .ok (.areturn, 1) := dec_of da_X9_addLast_0 (k := 36) rfl
def dl_X9_removeFirst_0 : List (Nat × (Instr × Nat)) := [(0, (.aload_n 0, 1)), (1, (.getfield 20, 3)), (4, (.ifCond .le 26, 3)), (7, (.aload_n 0, 1)), (8, (.aload_n 0, 1)), (9, (.getfield 16, 3)), (12, (.iconst 1, 1)), (13, (.iadd, 1)), (14, (.bipush 12, 2)), (16, (.irem, 1)), (17, (.putfield 16, 3)), (20, (.aload_n 0, 1)), (21, (.dup, 1)), (22, (.getfield 20, 3)), (25, (.iconst 1, 1)), (26, (.isub, 1)), (27, (.putfield 20, 3)), (30, (.return_, 1))]
set_option maxRecDepth 100000 in
theorem da_X9_removeFirst_0 : dl_X9_removeFirst_0.all (fun q => decide (decode cX9_removeFirst q.1 = .ok q.2)) = true := by decide +kernel
theorem dX9_removeFirst_0 : decode cX9_removeFirst 0 = .ok (.aload_n 0, 1) := dec_of da_X9_removeFirst_0 (k := 0) rfl
theorem dX9_removeFirst_1 : decode cX9_removeFirst 1 = .ok (.getfield 20, 3) := dec_of da_X9_removeFirst_0 (k := 1) rfl
theorem dX9_removeFirst_4 : decode cX9_removeFirst 4 = .ok (.ifCond .le 26, 3) := dec_of da_X9_removeFirst_0 (k := 2) rfl
theorem dX9_removeFirst_7 : decode cX9_removeFirst 7 = .ok (.aload_n 0, 1) := dec_of da_X9_removeFirst_0 (k := 3) rfl
theorem dX9_removeFirst_8 : decode cX9_removeFirst 8 = .ok (.aload_n 0, 1) := dec_of da_X9_removeFirst_0 (k := 4) rfl
theorem dX9_removeFirst_9 : decode cX9_removeFirst 9 = .ok (.getfield 16, 3) := dec_of da_X9_removeFirst_0 (k := 5) rfl
theorem dX9_removeFirst_12 : decode cX9_removeFirst 12 = .ok (.iconst 1, 1) := dec_of da_X9_removeFirst_0 (k := 6) rfl
theorem dX9_removeFirst_13 : decode cX9_removeFirst 13 = .ok (.iadd, 1) := dec_of da_X9_removeFirst_0 (k := 7) rfl
theorem dX9_removeFirst_14 : decode cX9_removeFirst 14 = .ok (.bipush 12, 2) := dec_of da_X9_removeFirst_0 (k := 8) rfl
theorem dX9_removeFirst_16 : decode cX9_removeFirst 16 = .ok (.irem, 1) := dec_of da_X9_removeFirst_0 (k := 9) rfl
theorem dX9_removeFirst_17 : decode cX9_removeFirst 17 = .ok (.putfield 16, 3) := dec_of da_X9_removeFirst_0 (k := 10) rfl
theorem dX9_removeFirst_20 : decode cX9_removeFirst 20 = .ok (.aload_n 0, 1) := dec_of da_X9_removeFirst_0 (k := 11) rfl
theorem dX9_removeFirst_21 : decode cX9_removeFirst 21 = .ok (.dup, 1) := dec_of da_X9_removeFirst_0 (k := 12) rfl
theorem dX9_removeFirst_22 : decode cX9_removeFirst 22 = .ok (.getfield 20, 3) := dec_of da_X9_removeFirst_0 (k := 13) rfl
theorem dX9_removeFirst_25 : decode cX9_removeFirst 25 = .ok (.iconst 1, 1) := dec_of da_X9_removeFirst_0 (k := 14) rfl
theorem dX9_removeFirst_26 : decode cX9_removeFirst 26 = .ok (.isub, 1) := dec_of da_X9_removeFirst_0 (k := 15) rfl
theorem dX9_removeFirst_27 : decode cX9_removeFirst 27 = .ok (.putfield 20, 3) := dec_of da_X9_removeFirst_0 (k := 16) rfl
theorem dX9_removeFirst_30 : decode cX9_removeFirst 30 = .ok (.return_, 1) := dec_of da_X9_removeFirst_0 (k := 17) rfl
def dl_X10_init_0 : List (Nat × (Instr × Nat)) := [(0, (.aload_n 0, 1)), (1, (.invokespecial 3, 3)), (4, (.aload_n 0, 1)), (5, (.bipush 20, 2)), (7, (.newarray .int, 2)), (9, (.putfield 11, 3)), (12, (.aload_n 0, 1)), (13, (.bipush 60, 2)), (15, (.newarray .int, 2)), (17, (.putfield 15, 3)), (20, (.aload_n 0, 1)), (21, (.bipush 100, 2)), (23, (.newarray .int, 2)), (25, (.putfield 18, 3)), (28, (.aload_n 0, 1)), (29, (.sipush 256, 3)), (32, (.newarray .int, 2)), (34, (.putfield 21, 3)), (37, (.aload_n 0, 1)), (38, (.bipush 80, 2)), (40, (.newarray .int, 2)), (42, (.putfield 24, 3)), (45, (.aload_n 0, 1)), (46, (.iconst 5, 1)), (47, (.newarray .int, 2)), (49, (.putfield 27, 3)), (52, (.return_, 1))]
set_option maxRecDepth 100000 in
theorem da_X10_init_0 : dl_X10_init_0.all (fun q => decide (decode cX10_init q.1 = .ok q.2)) = true := by decide +kernel
theorem dX10_init_0 : decode cX10_init 0 = .ok (.aload_n 0, 1) := dec_of da_X10_init_0 (k := 0) rfl
theorem dX10_init_1 : decode cX10_init 1 = .ok (.invokespecial 3, 3) := dec_of da_X10_init_0 (k := 1) rfl
theorem dX10_init_4 : decode cX10_init 4 = .ok (.aload_n 0, 1) := dec_of da_X10_init_0 (k := 2) rfl
theorem dX10_init_5 : decode cX10_init 5 = .ok (.bipush 20, 2) := dec_of da_X10_init_0 (k := 3) rfl
theorem dX10_init_7 : decode cX10_init 7 = .ok (.newarray .int, 2) := dec_of da_X10_init_0 (k := 4) rfl
theorem dX10_init_9 : decode cX10_init 9 = .ok (.putfield 11, 3) := dec_of da_X10_init_0 (k := 5) rfl
theorem dX10_init_12 : decode cX10_init 12 = .ok (.aload_n 0, 1) := dec_of da_X10_init_0 (k := 6) rfl
theorem dX10_init_13 : decode cX10_init 13 = .ok (.bipush 60, 2) := dec_of da_X10_init_0 (k := 7) rfl
theorem dX10_init_15 : decode cX10_init 15 = .ok (.newarray .int, 2) := dec_of da_X10_init_0 (k := 8) rfl
theorem dX10_init_17 : decode cX10_init 17 = .ok (.putfield 15, 3) := dec_of da_X10_init_0 (k := 9) rfl
theorem dX10_init_20 : decode cX10_init 20 = .ok (.aload_n 0, 1) := dec_of da_X10_init_0 (k := 10) rfl
theorem dX10_init_21 : decode cX10_init 21 = .ok (.bipush 100, 2) := dec_of da_X10_init_0 (k := 11) rfl
theorem dX10_init_23 : decode cX10_init 23 = .ok (.newarray .int, 2) := dec_of da_X10_init_0 (k := 12) rfl
theorem dX10_init_25 : decode cX10_init 25 = .ok (.putfield 18, 3) := dec_of da_X10_init_0 (k := 13) rfl
theorem dX10_init_28 : decode cX10_init 28 = .ok (.aload_n 0, 1) := dec_of da_X10_init_0 (k := 14) rfl
theorem dX10_init_29 : decode cX10_init 29 = .ok (.sipush 256, 3) := dec_of da_X10_init_0 (k := 15) rfl
theorem dX10_init_32 : decode cX10_init 32 = .ok (.newarray .int, 2) := dec_of da_X10_init_0 (k := 16) rfl
theorem dX10_init_34 : decode cX10_init 34 = .ok (.putfield 21, 3) := dec_of da_X10_init_0 (k := 17) rfl
theorem dX10_init_37 : decode cX10_init 37 = .ok (.aload_n 0, 1) := dec_of da_X10_init_0 (k := 18) rfl
theorem dX10_init_38 : decode cX10_init 38 = .ok (.bipush 80, 2) := dec_of da_X10_init_0 (k := 19) rfl
theorem dX10_init_40 : decode cX10_init 40 = .ok (.newarray .int, 2) := dec_of da_X10_init_0 (k := 20) rfl
theorem dX10_init_42 : decode cX10_init 42 = .ok (.putfield 24, 3) := dec_of da_X10_init_0 (k := 21) rfl
theorem dX10_init_45 : decode cX10_init 45 = .ok (.aload_n 0, 1) := dec_of da_X10_init_0 (k := 22) rfl
theorem dX10_init_46 : decode cX10_init 46 = .ok (.iconst 5, 1) := dec_of da_X10_init_0 (k := 23) rfl
theorem dX10_init_47 : decode cX10_init 47 = .ok (.newarray .int, 2) := dec_of da_X10_init_0 (k := 24) rfl
theorem dX10_init_49 : decode cX10_init 49 = .ok (.putfield 27, 3) := dec_of da_X10_init_0 (k := 25) rfl
theorem dX10_init_52 : decode cX10_init 52 = .ok (.return_, 1) := dec_of da_X10_init_0 (k := 26) rfl
def dl_X10_derive_0 : List (Nat × (Instr × Nat)) := [(0, (.ldc 30, 2)), (2, (.invokevirtual 32, 3)), (5, (.istore 6, 2)), (7, (.iconst 0, 1)), (8, (.istore 7, 2)), (10, (.iload 7, 2)), (12, (.iload 6, 2)), (14, (.if_icmp .ge 23, 3)), (17, (.aload_n 0, 1)), (18, (.getfield 18, 3)), (21, (.iload 7, 2)), (23, (.ldc 30, 2)), (25, (.iload 7, 2)), (27, (.invokevirtual 38, 3)), (30, (.iastore, 1)), (31, (.iinc 7 1, 3)), (34, (.goto (-24), 3)), (37, (.aload_n 0, 1)), (38, (.getfield 18, 3)), (41, (.iload 6, 2)), (43, (.iconst 0, 1)), (44, (.iastore, 1)), (45, (.aload_n 0, 1)), (46, (.getfield 18, 3)), (49, (.iload 6, 2)), (51, (.iconst 1, 1)), (52, (.iadd, 1)), (53, (.iconst 0, 1)), (54, (.invokestatic 42, 3)), (57, (.aload_n 0, 1)), (58, (.getfield 18, 3)), (61, (.iload 6, 2)), (63, (.bipush 7, 2)), (65, (.iadd, 1)), (66, (.iload_n 2, 1)), (67, (.invokestatic 42, 3)), (70, (.aload_n 3, 1)), (71, (.iconst 0, 1)), (72, (.aload_n 0, 1)), (73, (.getfield 18, 3)), (76, (.iload 6, 2)), (78, (.bipush 13, 2)), (80, (.iadd, 1)), (81, (.bipush 32, 2)), (83, (.invokestatic 48, 3)), (86, (.aload 4, 2)), (88, (.iload 5, 2)), (90, (.aload_n 0, 1)), (91, (.getfield 18, 3)), (94, (.iload 6, 2)), (96, (.bipush 13, 2)), (98, (.iadd, 1)), (99, (.bipush 32, 2)), (101, (.iadd, 1)), (102, (.bipush 32, 2)), (104, (.invokestatic 48, 3)), (107, (.iconst 0, 1)), (108, (.istore 7, 2)), (110, (.iload 7, 2)), (112, (.iconst 3, 1))]
set_option maxRecDepth 100000 in
theorem da_X10_derive_0 : dl_X10_derive_0.all (fun q => decide (decode cX10_derive q.1 = .ok q.2)) = true := by decide +kernel
theorem dX10_derive_0 : decode cX10_derive 0 = .ok (.ldc 30, 2) := dec_of da_X10_derive_0 (k := 0) rfl
theorem dX10_derive_2 : decode cX10_derive 2 = .ok (.invokevirtual 32, 3) := dec_of da_X10_derive_0 (k := 1) rfl
theorem dX10_derive_5 : decode cX10_derive 5 = .ok (.istore 6, 2) := dec_of da_X10_derive_0 (k := 2) rfl
theorem dX10_derive_7 : decode cX10_derive 7 = .ok (.iconst 0, 1) := dec_of da_X10_derive_0 (k := 3) rfl
theorem dX10_derive_8 : decode cX10_derive 8 = .ok (.istore 7, 2) := dec_of da_X10_derive_0 (k := 4) rfl
theorem dX10_derive_10 : decode cX10_derive 10 = .ok (.iload 7, 2) := dec_of da_X10_derive_0 (k := 5) rfl
theorem dX10_derive_12 : decode cX10_derive 12 = .ok (.iload 6, 2) := dec_of da_X10_derive_0 (k := 6) rfl
theorem dX10_derive_14 : decode cX10_derive 14 = .ok (.if_icmp .ge 23, 3) := dec_of da_X10_derive_0 (k := 7) rfl
theorem dX10_derive_17 : decode cX10_derive 17 = .ok (.aload_n 0, 1) := dec_of da_X10_derive_0 (k := 8) rfl
theorem dX10_derive_18 : decode cX10_derive 18 = .ok (.getfield 18, 3) := dec_of da_X10_derive_0 (k := 9) rfl
theorem dX10_derive_21 : decode cX10_derive 21 = .ok (.iload 7, 2) := dec_of da_X10_derive_0 (k := 10) rfl
theorem dX10_derive_23 : decode cX10_derive 23 = .ok (.ldc 30, 2) := dec_of da_X10_derive_0 (k := 11) rfl
theorem dX10_derive_25 : decode cX10_derive 25 = .ok (.iload 7, 2) := dec_of da_X10_derive_0 (k := 12) rfl
theorem dX10_derive_27 : decode cX10_derive 27 = .ok (.invokevirtual 38, 3) := dec_of da_X10_derive_0 (k := 13) rfl
theorem dX10_derive_30 : decode cX10_derive 30 = .ok (.iastore, 1) := dec_of da_X10_derive_0 (k := 14) rfl
theorem dX10_derive_31 : decode cX10_derive 31 = .ok (.iinc 7 1, 3) := dec_of da_X10_derive_0 (k := 15) rfl
theorem dX10_derive_34 : decode cX10_derive 34 = .ok (.goto (-24), 3) := dec_of da_X10_derive_0 (k := 16) rfl
theorem dX10_derive_37 : decode cX10_derive 37 = .ok (.aload_n 0, 1) := dec_of da_X10_derive_0 (k := 17) rfl
theorem dX10_derive_38 : decode cX10_derive 38 = .ok (.getfield 18, 3) := dec_of da_X10_derive_0 (k := 18) rfl
theorem dX10_derive_41 : decode cX10_derive 41 = .ok (.iload 6, 2) := dec_of da_X10_derive_0 (k := 19) rfl
theorem dX10_derive_43 : decode cX10_derive 43 = .ok (.iconst 0, 1) := dec_of da_X10_derive_0 (k := 20) rfl
theorem dX10_derive_44 : decode cX10_derive 44 = .ok (.iastore, 1) := dec_of da_X10_derive_0 (k := 21) rfl
theorem dX10_derive_45 : decode cX10_derive 45 = .ok (.aload_n 0, 1) := dec_of da_X10_derive_0 (k := 22) rfl
theorem dX10_derive_46 : decode cX10_derive 46 = .ok (.getfield 18, 3) := dec_of da_X10_derive_0 (k := 23) rfl
theorem dX10_derive_49 : decode cX10_derive 49 = .ok (.iload 6, 2) := dec_of da_X10_derive_0 (k := 24) rfl
theorem dX10_derive_51 : decode cX10_derive 51 = .ok (.iconst 1, 1) := dec_of da_X10_derive_0 (k := 25) rfl
theorem dX10_derive_52 : decode cX10_derive 52 = .ok (.iadd, 1) := dec_of da_X10_derive_0 (k := 26) rfl
theorem dX10_derive_53 : decode cX10_derive 53 = .ok (.iconst 0, 1) := dec_of da_X10_derive_0 (k := 27) rfl
theorem dX10_derive_54 : decode cX10_derive 54 = .ok (.invokestatic 42, 3) := dec_of da_X10_derive_0 (k := 28) rfl
theorem dX10_derive_57 : decode cX10_derive 57 = .ok (.aload_n 0, 1) := dec_of da_X10_derive_0 (k := 29) rfl
theorem dX10_derive_58 : decode cX10_derive 58 = .ok (.getfield 18, 3) := dec_of da_X10_derive_0 (k := 30) rfl
theorem dX10_derive_61 : decode cX10_derive 61 = .ok (.iload 6, 2) := dec_of da_X10_derive_0 (k := 31) rfl
theorem dX10_derive_63 : decode cX10_derive 63 = .ok (.bipush 7, 2) := dec_of da_X10_derive_0 (k := 32) rfl
theorem dX10_derive_65 : decode cX10_derive 65 = .ok (.iadd, 1) := dec_of da_X10_derive_0 (k := 33) rfl
theorem dX10_derive_66 : decode cX10_derive 66 = .ok (.iload_n 2, 1) := dec_of da_X10_derive_0 (k := 34) rfl
theorem dX10_derive_67 : decode cX10_derive 67 = .ok (.invokestatic 42, 3) := dec_of da_X10_derive_0 (k := 35) rfl
theorem dX10_derive_70 : decode cX10_derive 70 = .ok (.aload_n 3, 1) := dec_of da_X10_derive_0 (k := 36) rfl
theorem dX10_derive_71 : decode cX10_derive 71 = .ok (.iconst 0, 1) := dec_of da_X10_derive_0 (k := 37) rfl
theorem dX10_derive_72 : decode cX10_derive 72 = .ok (.aload_n 0, 1) := dec_of da_X10_derive_0 (k := 38) rfl
theorem dX10_derive_73 : decode cX10_derive 73 = .ok (.getfield 18, 3) := dec_of da_X10_derive_0 (k := 39) rfl
theorem dX10_derive_76 : decode cX10_derive 76 = .ok (.iload 6, 2) := dec_of da_X10_derive_0 (k := 40) rfl
theorem dX10_derive_78 : decode cX10_derive 78 = .ok (.bipush 13, 2) := dec_of da_X10_derive_0 (k := 41) rfl
theorem dX10_derive_80 : decode cX10_derive 80 = .ok (.iadd, 1) := dec_of da_X10_derive_0 (k := 42) rfl
theorem dX10_derive_81 : decode cX10_derive 81 = .ok (.bipush 32, 2) := dec_of da_X10_derive_0 (k := 43) rfl
theorem dX10_derive_83 : decode cX10_derive 83 = .ok (.invokestatic 48, 3) := dec_of da_X10_derive_0 (k := 44) rfl
theorem dX10_derive_86 : decode cX10_derive 86 = .ok (.aload 4, 2) := dec_of da_X10_derive_0 (k := 45) rfl
theorem dX10_derive_88 : decode cX10_derive 88 = .ok (.iload 5, 2) := dec_of da_X10_derive_0 (k := 46) rfl
theorem dX10_derive_90 : decode cX10_derive 90 = .ok (.aload_n 0, 1) := dec_of da_X10_derive_0 (k := 47) rfl
theorem dX10_derive_91 : decode cX10_derive 91 = .ok (.getfield 18, 3) := dec_of da_X10_derive_0 (k := 48) rfl
theorem dX10_derive_94 : decode cX10_derive 94 = .ok (.iload 6, 2) := dec_of da_X10_derive_0 (k := 49) rfl
theorem dX10_derive_96 : decode cX10_derive 96 = .ok (.bipush 13, 2) := dec_of da_X10_derive_0 (k := 50) rfl
theorem dX10_derive_98 : decode cX10_derive 98 = .ok (.iadd, 1) := dec_of da_X10_derive_0 (k := 51) rfl
theorem dX10_derive_99 : decode cX10_derive 99 = .ok (.bipush 32, 2) := dec_of da_X10_derive_0 (k := 52) rfl
theorem dX10_derive_101 : decode cX10_derive 101 = .ok (.iadd, 1) := dec_of da_X10_derive_0 (k := 53) rfl
theorem dX10_derive_102 : decode cX10_derive 102 = .ok (.bipush 32, 2) := dec_of da_X10_derive_0 (k := 54) rfl
theorem dX10_derive_104 : decode cX10_derive 104 = .ok (.invokestatic 48, 3) := dec_of da_X10_derive_0 (k := 55) rfl
theorem dX10_derive_107 : decode cX10_derive 107 = .ok (.iconst 0, 1) := dec_of da_X10_derive_0 (k := 56) rfl
theorem dX10_derive_108 : decode cX10_derive 108 = .ok (.istore 7, 2) := dec_of da_X10_derive_0 (k := 57) rfl
theorem dX10_derive_110 : decode cX10_derive 110 = .ok (.iload 7, 2) := dec_of da_X10_derive_0 (k := 58) rfl
theorem dX10_derive_112 : decode cX10_derive 112 = .ok (.iconst 3, 1) := dec_of da_X10_derive_0 (k := 59) rfl
def dl_X10_derive_1 : List (Nat × (Instr × Nat)) := [(113, (.if_icmp .ge 51, 3)), (116, (.aload_n 0, 1)), (117, (.getfield 18, 3)), (120, (.bipush 99, 2)), (122, (.iload 7, 2)), (124, (.iastore, 1)), (125, (.aload_n 0, 1)), (126, (.aload_n 1, 1)), (127, (.aload_n 1, 1)), (128, (.arraylength, 1)), (129, (.aload_n 0, 1)), (130, (.getfield 18, 3)), (133, (.iconst 0, 1)), (134, (.bipush 100, 2)), (136, (.invokevirtual 54, 3)), (139, (.aload_n 0, 1)), (140, (.getfield 11, 3)), (143, (.iconst 0, 1)), (144, (.aload_n 0, 1)), (145, (.getfield 15, 3)), (148, (.iload 7, 2)), (150, (.bipush 20, 2)), (152, (.imul, 1)), (153, (.bipush 20, 2)), (155, (.invokestatic 48, 3)), (158, (.iinc 7 1, 3)), (161, (.goto (-51), 3)), (164, (.return_, 1))]
set_option maxRecDepth 100000 in
theorem da_X10_derive_1 : dl_X10_derive_1.all (fun q => decide (decode cX10_derive q.1 = .ok q.2)) = true := by decide +kernel
theorem dX10_derive_113 : decode cX10_derive 113 = .ok (.if_icmp .ge 51, 3) := dec_of da_X10_derive_1 (k := 0) rfl
theorem dX10_derive_116 : decode cX10_derive 116 = .ok (.aload_n 0, 1) := dec_of da_X10_derive_1 (k := 1) rfl
theorem dX10_derive_117 : decode cX10_derive 117 = .ok (.getfield 18, 3) := dec_of da_X10_derive_1 (k := 2) rfl
theorem dX10_derive_120 : decode cX10_derive 120 = .ok (.bipush 99, 2) := dec_of da_X10_derive_1 (k := 3) rfl
theorem dX10_derive_122 : decode cX10_derive 122 = .ok (.iload 7, 2) := dec_of da_X10_derive_1 (k := 4) rfl
theorem dX10_derive_124 : decode cX10_derive 124 = .ok (.iastore, 1) := dec_of da_X10_derive_1 (k := 5) rfl
theorem dX10_derive_125 : decode cX10_derive 125 = .ok (.aload_n 0, 1) := dec_of da_X10_derive_1 (k := 6) rfl
theorem dX10_derive_126 : decode cX10_derive 126 = .ok (.aload_n 1, 1) := dec_of da_X10_derive_1 (k := 7) rfl
theorem dX10_derive_127 : decode cX10_derive 127 = .ok (.aload_n 1, 1) := dec_of da_X10_derive_1 (k := 8) rfl
theorem dX10_derive_128 : decode cX10_derive 128 = .ok (.arraylength, 1) := dec_of da_X10_derive_1 (k := 9) rfl
theorem dX10_derive_129 : decode cX10_derive 129 = .ok (.aload_n 0, 1) := dec_of da_X10_derive_1 (k := 10) rfl
theorem dX10_derive_130 : decode cX10_derive 130 = .ok (.getfield 18, 3) := dec_of da_X10_derive_1 (k := 11) rfl
theorem dX10_derive_133 : decode cX10_derive 133 = .ok (.iconst 0, 1) := dec_of da_X10_derive_1 (k := 12) rfl
theorem dX10_derive_134 : decode cX10_derive 134 = .ok (.bipush 100, 2) := dec_of da_X10_derive_1 (k := 13) rfl
theorem dX10_derive_136 : decode cX10_derive 136 = .ok (.invokevirtual 54, 3) := dec_of da_X10_derive_1 (k := 14) rfl
theorem dX10_derive_139 : decode cX10_derive 139 = .ok (.aload_n 0, 1) := dec_of da_X10_derive_1 (k := 15) rfl
theorem dX10_derive_140 : decode cX10_derive 140 = .ok (.getfield 11, 3) := dec_of da_X10_derive_1 (k := 16) rfl
theorem dX10_derive_143 : decode cX10_derive 143 = .ok (.iconst 0, 1) := dec_of da_X10_derive_1 (k := 17) rfl
theorem dX10_derive_144 : decode cX10_derive 144 = .ok (.aload_n 0, 1) := dec_of da_X10_derive_1 (k := 18) rfl
theorem dX10_derive_145 : decode cX10_derive 145 = .ok (.getfield 15, 3) := dec_of da_X10_derive_1 (k := 19) rfl
theorem dX10_derive_148 : decode cX10_derive 148 = .ok (.iload 7, 2) := dec_of da_X10_derive_1 (k := 20) rfl
theorem dX10_derive_150 : decode cX10_derive 150 = .ok (.bipush 20, 2) := dec_of da_X10_derive_1 (k := 21) rfl
theorem dX10_derive_152 : decode cX10_derive 152 = .ok (.imul, 1) := dec_of da_X10_derive_1 (k := 22) rfl
theorem dX10_derive_153 : decode cX10_derive 153 = .ok (.bipush 20, 2) := dec_of da_X10_derive_1 (k := 23) rfl
theorem dX10_derive_155 : decode cX10_derive 155 = .ok (.invokestatic 48, 3) := dec_of da_X10_derive_1 (k := 24) rfl
theorem dX10_derive_158 : decode cX10_derive 158 = .ok (.iinc 7 1, 3) := dec_of da_X10_derive_1 (k := 25) rfl
theorem dX10_derive_161 : decode cX10_derive 161 = .ok (.goto (-51), 3) := dec_of da_X10_derive_1 (k := 26) rfl
theorem dX10_derive_164 : decode cX10_derive 164 = .ok (.return_, 1) := dec_of da_X10_derive_1 (k := 27) rfl
def dl_X10_hashKeyed_0 : List (Nat × (Instr × Nat)) := [(0, (.aload_n 0, 1)), (1, (.aload_n 1, 1)), (2, (.iload_n 2, 1)), (3, (.bipush 54, 2)), (5, (.invokevirtual 58, 3)), (8, (.aload_n 3, 1)), (9, (.iload 4, 2)), (11, (.aload_n 0, 1)), (12, (.getfield 21, 3)), (15, (.bipush 64, 2)), (17, (.iload 5, 2)), (19, (.invokestatic 48, 3)), (22, (.aload_n 0, 1)), (23, (.bipush 64, 2)), (25, (.iload 5, 2)), (27, (.iadd, 1)), (28, (.invokevirtual 61, 3)), (31, (.aload_n 0, 1)), (32, (.aload_n 1, 1)), (33, (.iload_n 2, 1)), (34, (.bipush 92, 2)), (36, (.invokevirtual 58, 3)), (39, (.aload_n 0, 1)), (40, (.getfield 11, 3)), (43, (.iconst 0, 1)), (44, (.aload_n 0, 1)), (45, (.getfield 21, 3)), (48, (.bipush 64, 2)), (50, (.bipush 20, 2)), (52, (.invokestatic 48, 3)), (55, (.aload_n 0, 1)), (56, (.bipush 84, 2)), (58, (.invokevirtual 61, 3)), (61, (.return_, 1))]
set_option maxRecDepth 100000 in
theorem da_X10_hashKeyed_0 : dl_X10_hashKeyed_0.all (fun q => decide (decode cX10_hashKeyed q.1 = .ok q.2)) = true := by decide +kernel
theorem dX10_hashKeyed_0 : decode cX10_hashKeyed 0 = .ok (.aload_n 0, 1) := dec_of da_X10_hashKeyed_0 (k := 0) rfl
theorem dX10_hashKeyed_1 : decode cX10_hashKeyed 1 = .ok (.aload_n 1, 1) := dec_of da_X10_hashKeyed_0 (k := 1) rfl
theorem dX10_hashKeyed_2 : decode cX10_hashKeyed 2 = .ok (.iload_n 2, 1) := dec_of da_X10_hashKeyed_0 (k := 2) rfl
theorem dX10_hashKeyed_3 : decode cX10_hashKeyed 3 = .ok (.bipush 54, 2) := dec_of da_X10_hashKeyed_0 (k := 3) rfl
theorem dX10_hashKeyed_5 : decode cX10_hashKeyed 5 = .ok (.invokevirtual 58, 3) := dec_of da_X10_hashKeyed_0 (k := 4) rfl
theorem dX10_hashKeyed_8 : decode cX10_hashKeyed 8 = .ok (.aload_n 3, 1) := dec_of da_X10_hashKeyed_0 (k := 5) rfl
theorem dX10_hashKeyed_9 : decode cX10_hashKeyed 9 = .ok (.iload 4, 2) := dec_of da_X10_hashKeyed_0 (k := 6) rfl
theorem dX10_hashKeyed_11 : decode cX10_hashKeyed 11 = .ok (.aload_n 0, 1) := dec_of da_X10_hashKeyed_0 (k := 7) rfl
theorem dX10_hashKeyed_12 : decode cX10_hashKeyed 12 = .ok (.getfield 21, 3) := dec_of da_X10_hashKeyed_0 (k := 8) rfl
theorem dX10_hashKeyed_15 : decode cX10_hashKeyed 15 = .ok (.bipush 64, 2) := dec_of da_X10_hashKeyed_0 (k := 9) rfl
theorem dX10_hashKeyed_17 : decode cX10_hashKeyed 17 = .ok (.iload 5, 2) := dec_of da_X10_hashKeyed_0 (k := 10) rfl
theorem dX10_hashKeyed_19 : decode cX10_hashKeyed 19 = .ok (.invokestatic 48, 3) := dec_of da_X10_hashKeyed_0 (k := 11) rfl
theorem dX10_hashKeyed_22 : decode cX10_hashKeyed 22 = .ok (.aload_n 0, 1) := dec_of da_X10_hashKeyed_0 (k := 12) rfl
theorem dX10_hashKeyed_23 : decode cX10_hashKeyed 23 = .ok (.bipush 64, 2) := dec_of da_X10_hashKeyed_0 (k := 13) rfl
theorem dX10_hashKeyed_25 : decode cX10_hashKeyed 25 = .ok (.iload 5, 2) := dec_of da_X10_hashKeyed_0 (k := 14) rfl
theorem dX10_hashKeyed_27 : decode cX10_hashKeyed 27 = .ok (.iadd, 1) := dec_of da_X10_hashKeyed_0 (k := 15) rfl
theorem dX10_hashKeyed_28 : decode cX10_hashKeyed 28 = .ok (.invokevirtual 61, 3) := dec_of da_X10_hashKeyed_0 (k := 16) rfl
theorem dX10_hashKeyed_31 : decode cX10_hashKeyed 31 = .ok (.aload_n 0, 1) := dec_of da_X10_hashKeyed_0 (k := 17) rfl
theorem dX10_hashKeyed_32 : decode cX10_hashKeyed 32 = .ok (.aload_n 1, 1) := dec_of da_X10_hashKeyed_0 (k := 18) rfl
theorem dX10_hashKeyed_33 : decode cX10_hashKeyed 33 = .ok (.iload_n 2, 1) := dec_of da_X10_hashKeyed_0 (k := 19) rfl
theorem dX10_hashKeyed_34 : decode cX10_hashKeyed 34 = .ok (.bipush 92, 2) := dec_of da_X10_hashKeyed_0 (k := 20) rfl
theorem dX10_hashKeyed_36 : decode cX10_hashKeyed 36 = .ok (.invokevirtual 58, 3) := dec_of da_X10_hashKeyed_0 (k := 21) rfl
theorem dX10_hashKeyed_39 : decode cX10_hashKeyed 39 = .ok (.aload_n 0, 1) := dec_of da_X10_hashKeyed_0 (k := 22) rfl
theorem dX10_hashKeyed_40 : decode cX10_hashKeyed 40 = .ok (.getfield 11, 3) := dec_of da_X10_hashKeyed_0 (k := 23) rfl
theorem dX10_hashKeyed_43 : decode cX10_hashKeyed 43 = .ok (.iconst 0, 1) := dec_of da_X10_hashKeyed_0 (k := 24) rfl
theorem dX10_hashKeyed_44 : decode cX10_hashKeyed 44 = .ok (.aload_n 0, 1) := dec_of da_X10_hashKeyed_0 (k := 25) rfl
theorem dX10_hashKeyed_45 : decode cX10_hashKeyed 45 = .ok (.getfield 21, 3) := dec_of da_X10_hashKeyed_0 (k := 26) rfl
theorem dX10_hashKeyed_48 : decode cX10_hashKeyed 48 = .ok (.bipush 64, 2) := dec_of da_X10_hashKeyed_0 (k := 27) rfl
theorem dX10_hashKeyed_50 : decode cX10_hashKeyed 50 = .ok (.bipush 20, 2) := dec_of da_X10_hashKeyed_0 (k := 28) rfl
theorem dX10_hashKeyed_52 : decode cX10_hashKeyed 52 = .ok (.invokestatic 48, 3) := dec_of da_X10_hashKeyed_0 (k := 29) rfl
theorem dX10_hashKeyed_55 : decode cX10_hashKeyed 55 = .ok (.aload_n 0, 1) := dec_of da_X10_hashKeyed_0 (k := 30) rfl
theorem dX10_hashKeyed_56 : decode cX10_hashKeyed 56 = .ok (.bipush 84, 2) := dec_of da_X10_hashKeyed_0 (k := 31) rfl
theorem dX10_hashKeyed_58 : decode cX10_hashKeyed 58 = .ok (.invokevirtual 61, 3) := dec_of da_X10_hashKeyed_0 (k := 32) rfl
theorem dX10_hashKeyed_61 : decode cX10_hashKeyed 61 = .ok (.return_, 1) := dec_of da_X10_hashKeyed_0 (k := 33) rfl
def dl_X10_padKey_0 : List (Nat × (Instr × Nat)) := [(0, (.iconst 0, 1)), (1, (.istore 4, 2)), (3, (.iload 4, 2)), (5, (.bipush 64, 2)), (7, (.if_icmp .ge 32, 3)), (10, (.aload_n 0, 1)), (11, (.getfield 21, 3)), (14, (.iload 4, 2)), (16, (.iload 4, 2)), (18, (.iload_n 2, 1)), (19, (.if_icmp .ge 12, 3)), (22, (.aload_n 1, 1)), (23, (.iload 4, 2)), (25, (.iaload, 1)), (26, (.iload_n 3, 1)), (27, (.ixor, 1)), (28, (.goto 4, 3)), (31, (.iload_n 3, 1)), (32, (.iastore, 1)), (33, (.iinc 4 1, 3)), (36, (.goto (-33), 3)), (39, (.return_, 1))]
set_option maxRecDepth 100000 in
theorem da_X10_padKey_0 : dl_X10_padKey_0.all (fun q => decide (decode cX10_padKey q.1 = .ok q.2)) = true := by decide +kernel
theorem dX10_padKey_0 : decode cX10_padKey 0 = .ok (.iconst 0, 1) := dec_of da_X10_padKey_0 (k := 0) rfl
theorem dX10_padKey_1 : decode cX10_padKey 1 = .ok (.istore 4, 2) := dec_of da_X10_padKey_0 (k := 1) rfl
theorem dX10_padKey_3 : decode cX10_padKey 3 = .ok (.iload 4, 2) := dec_of da_X10_padKey_0 (k := 2) rfl
theorem dX10_padKey_5 : decode cX10_padKey 5 = .ok (.bipush 64, 2) := dec_of da_X10_padKey_0 (k := 3) rfl
theorem dX10_padKey_7 : decode cX10_padKey 7 = .ok (.if_icmp .ge 32, 3) := dec_of da_X10_padKey_0 (k := 4) rfl
theorem dX10_padKey_10 : decode cX10_padKey 10 = .ok (.aload_n 0, 1) := dec_of da_X10_padKey_0 (k := 5) rfl
theorem dX10_padKey_11 : decode cX10_padKey 11 = .ok (.getfield 21, 3) := dec_of da_X10_padKey_0 (k := 6) rfl
theorem dX10_padKey_14 : decode cX10_padKey 14 = .ok (.iload 4, 2) := dec_of da_X10_padKey_0 (k := 7) rfl
theorem dX10_padKey_16 : decode cX10_padKey 16 = .ok (.iload 4, 2) := dec_of da_X10_padKey_0 (k := 8) rfl
theorem dX10_padKey_18 : decode cX10_padKey 18 = .ok (.iload_n 2, 1) := dec_of da_X10_padKey_0 (k := 9) rfl
theorem dX10_padKey_19 : decode cX10_padKey 19 = .ok (.if_icmp .ge 12, 3) := dec_of da_X10_padKey_0 (k := 10) rfl
theorem dX10_padKey_22 : decode cX10_padKey 22 = .ok (.aload_n 1, 1) := dec_of da_X10_padKey_0 (k := 11) rfl
theorem dX10_padKey_23 : decode cX10_padKey 23 = .ok (.iload 4, 2) := dec_of da_X10_padKey_0 (k := 12) rfl
theorem dX10_padKey_25 : decode cX10_padKey 25 = .ok (.iaload, 1) := dec_of da_X10_padKey_0 (k := 13) rfl
theorem dX10_padKey_26 : decode cX10_padKey 26 = .ok (.iload_n 3, 1) := dec_of da_X10_padKey_0 (k := 14) rfl
theorem dX10_padKey_27 : decode cX10_padKey 27 = .ok (.ixor, 1) := dec_of da_X10_padKey_0 (k := 15) rfl
theorem dX10_padKey_28 : decode cX10_padKey 28 = .ok (.goto 4, 3) := dec_of da_X10_padKey_0 (k := 16) rfl
theorem dX10_padKey_31 : decode cX10_padKey 31 = .ok (.iload_n 3, 1) := dec_of da_X10_padKey_0 (k := 17) rfl
theorem dX10_padKey_32 : decode cX10_padKey 32 = .ok (.iastore, 1) := dec_of da_X10_padKey_0 (k := 18) rfl
theorem dX10_padKey_33 : decode cX10_padKey 33 = .ok (.iinc 4 1, 3) := dec_of da_X10_padKey_0 (k := 19) rfl
theorem dX10_padKey_36 : decode cX10_padKey 36 = .ok (.goto (-33), 3) := dec_of da_X10_padKey_0 (k := 20) rfl
theorem dX10_padKey_39 : decode cX10_padKey 39 = .ok (.return_, 1) := dec_of da_X10_padKey_0 (k := 21) rfl
def dl_X10_hashText_0 : List (Nat × (Instr × Nat)) := [(0, (.iload_n 1, 1)), (1, (.bipush 8, 2)), (3, (.iadd, 1)), (4, (.bipush 64, 2)), (6, (.idiv, 1)), (7, (.iconst 1, 1)), (8, (.iadd, 1)), (9, (.istore_n 2, 1)), (10, (.iload_n 2, 1)), (11, (.bipush 64, 2)), (13, (.imul, 1)), (14, (.istore_n 3, 1)), (15, (.aload_n 0, 1)), (16, (.getfield 21, 3)), (19, (.iload_n 1, 1)), (20, (.iload_n 3, 1)), (21, (.iconst 0, 1)), (22, (.invokestatic 65, 3)), (25, (.aload_n 0, 1)), (26, (.getfield 21, 3)), (29, (.iload_n 1, 1)), (30, (.sipush 128, 3)), (33, (.iastore, 1)), (34, (.aload_n 0, 1)), (35, (.getfield 21, 3)), (38, (.iload_n 3, 1)), (39, (.bipush 8, 2)), (41, (.isub, 1)), (42, (.bipush 8, 2)), (44, (.ldc2_w 71, 3)), (47, (.iload_n 1, 1)), (48, (.i2l, 1)), (49, (.lmul, 1)), (50, (.invokestatic 73, 3)), (53, (.aload_n 0, 1)), (54, (.getfield 27, 3)), (57, (.iconst 0, 1)), (58, (.ldc 77, 2)), (60, (.iastore, 1)), (61, (.aload_n 0, 1)), (62, (.getfield 27, 3)), (65, (.iconst 1, 1)), (66, (.ldc 78, 2)), (68, (.iastore, 1)), (69, (.aload_n 0, 1)), (70, (.getfield 27, 3)), (73, (.iconst 2, 1)), (74, (.ldc 79, 2)), (76, (.iastore, 1)), (77, (.aload_n 0, 1)), (78, (.getfield 27, 3)), (81, (.iconst 3, 1)), (82, (.ldc 80, 2)), (84, (.iastore, 1)), (85, (.aload_n 0, 1)), (86, (.getfield 27, 3)), (89, (.iconst 4, 1)), (90, (.ldc 81, 2)), (92, (.iastore, 1)), (93, (.iconst 0, 1))]
set_option maxRecDepth 100000 in
theorem da_X10_hashText_0 : dl_X10_hashText_0.all (fun q => decide (decode cX10_hashText q.1 = .ok q.2)) = true := by decide +kernel
theorem dX10_hashText_0 : decode cX10_hashText 0 = .ok (.iload_n 1, 1) := dec_of da_X10_hashText_0 (k := 0) rfl
theorem dX10_hashText_1 : decode cX10_hashText 1 = .ok (.bipush 8, 2) := dec_of da_X10_hashText_0 (k := 1) rfl
theorem dX10_hashText_3 : decode cX10_hashText 3 = .ok (.iadd, 1) := dec_of da_X10_hashText_0 (k := 2) rfl
theorem dX10_hashText_4 : decode cX10_hashText 4 = .ok (.bipush 64, 2) := dec_of da_X10_hashText_0 (k := 3) rfl
theorem dX10_hashText_6 : decode cX10_hashText 6 = .ok (.idiv, 1) := dec_of da_X10_hashText_0 (k := 4) rfl
theorem dX10_hashText_7 : decode cX10_hashText 7 = .ok (.iconst 1, 1) := dec_of da_X10_hashText_0 (k := 5) rfl
theorem dX10_hashText_8 : decode cX10_hashText 8 = .ok (.iadd, 1) := dec_of da_X10_hashText_0 (k := 6) rfl
theorem dX10_hashText_9 : decode cX10_hashText 9 = .ok (.istore_n 2, 1) := dec_of da_X10_hashText_0 (k := 7) rfl
theorem dX10_hashText_10 : decode cX10_hashText 10 = .ok (.iload_n 2, 1) := dec_of da_X10_hashText_0 (k := 8) rfl
theorem dX10_hashText_11 : decode cX10_hashText 11 = .ok (.bipush 64, 2) := dec_of da_X10_hashText_0 (k := 9) rfl
theorem dX10_hashText_13 : decode cX10_hashText 13 = .ok (.imul, 1) := dec_of da_X10_hashText_0 (k := 10) rfl
theorem dX10_hashText_14 : decode cX10_hashText 14 = .ok (.istore_n 3, 1) := dec_of da_X10_hashText_0 (k := 11) rfl
theorem dX10_hashText_15 : decode cX10_hashText 15 = .ok (.aload_n 0, 1) := dec_of da_X10_hashText_0 (k := 12) rfl
theorem dX10_hashText_16 : decode cX10_hashText 16 = .ok (.getfield 21, 3) := dec_of da_X10_hashText_0 (k := 13) rfl
theorem dX10_hashText_19 : decode cX10_hashText 19 = .ok (.iload_n 1, 1) := dec_of da_X10_hashText_0 (k := 14) rfl
theorem dX10_hashText_20 : decode cX10_hashText 20 = .ok (.iload_n 3, 1) := dec_of da_X10_hashText_0 (k := 15) rfl
theorem dX10_hashText_21 : decode cX10_hashText 21 = .ok (.iconst 0, 1) := dec_of da_X10_hashText_0 (k := 16) rfl
theorem dX10_hashText_22 : decode cX10_hashText 22 = .ok (.invokestatic 65, 3) := dec_of da_X10_hashText_0 (k := 17) rfl
theorem dX10_hashText_25 : decode cX10_hashText 25 = .ok (.aload_n 0, 1) := dec_of da_X10_hashText_0 (k := 18) rfl
theorem dX10_hashText_26 : decode cX10_hashText 26 = .ok (.getfield 21, 3) := dec_of da_X10_hashText_0 (k := 19) rfl
theorem dX10_hashText_29 : decode cX10_hashText 29 = .ok (.iload_n 1, 1) := dec_of da_X10_hashText_0 (k := 20) rfl
theorem dX10_hashText_30 : decode cX10_hashText 30 = .ok (.sipush 128, 3) := dec_of da_X10_hashText_0 (k := 21) rfl
theorem dX10_hashText_33 : decode cX10_hashText 33 = .ok (.iastore, 1) := dec_of da_X10_hashText_0 (k := 22) rfl
theorem dX10_hashText_34 : decode cX10_hashText 34 = .ok (.aload_n 0, 1) := dec_of da_X10_hashText_0 (k := 23) rfl
theorem dX10_hashText_35 : decode cX10_hashText 35 = .ok (.getfield 21, 3) := dec_of da_X10_hashText_0 (k := 24) rfl
theorem dX10_hashText_38 : decode cX10_hashText 38 = .ok (.iload_n 3, 1) := dec_of da_X10_hashText_0 (k := 25) rfl
theorem dX10_hashText_39 : decode cX10_hashText 39 = .ok (.bipush 8, 2) := dec_of da_X10_hashText_0 (k := 26) rfl
theorem dX10_hashText_41 : decode cX10_hashText 41 = .ok (.isub, 1) := dec_of da_X10_hashText_0 (k := 27) rfl
theorem dX10_hashText_42 : decode cX10_hashText 42 = .ok (.bipush 8, 2) := dec_of da_X10_hashText_0 (k := 28) rfl
theorem dX10_hashText_44 : decode cX10_hashText 44 = .ok (.ldc2_w 71, 3) := dec_of da_X10_hashText_0 (k := 29) rfl
theorem dX10_hashText_47 : decode cX10_hashText 47 = .ok (.iload_n 1, 1) := dec_of da_X10_hashText_0 (k := 30) rfl
theorem dX10_hashText_48 : decode cX10_hashText 48 = .ok (.i2l, 1) := dec_of da_X10_hashText_0 (k := 31) rfl
theorem dX10_hashText_49 : decode cX10_hashText 49 = .ok (.lmul, 1) := dec_of da_X10_hashText_0 (k := 32) rfl
theorem dX10_hashText_50 : decode cX10_hashText 50 = .ok (.invokestatic 73, 3) := dec_of da_X10_hashText_0 (k := 33) rfl
theorem dX10_hashText_53 : decode cX10_hashText 53 = .ok (.aload_n 0, 1) := dec_of da_X10_hashText_0 (k := 34) rfl
theorem dX10_hashText_54 : decode cX10_hashText 54 = .ok (.getfield 27, 3) := dec_of da_X10_hashText_0 (k := 35) rfl
theorem dX10_hashText_57 : decode cX10_hashText 57 = .ok (.iconst 0, 1) := dec_of da_X10_hashText_0 (k := 36) rfl
theorem dX10_hashText_58 : decode cX10_hashText 58 = .ok (.ldc 77, 2) := dec_of da_X10_hashText_0 (k := 37) rfl
theorem dX10_hashText_60 : decode cX10_hashText 60 = .ok (.iastore, 1) := dec_of da_X10_hashText_0 (k := 38) rfl
theorem dX10_hashText_61 : decode cX10_hashText 61 = .ok (.aload_n 0, 1) := dec_of da_X10_hashText_0 (k := 39) rfl
theorem dX10_hashText_62 : decode cX10_hashText 62 = .ok (.getfield 27, 3) := dec_of da_X10_hashText_0 (k := 40) rfl
theorem dX10_hashText_65 : decode cX10_hashText 65 = .ok (.iconst 1, 1) := dec_of da_X10_hashText_0 (k := 41) rfl
theorem dX10_hashText_66 : decode cX10_hashText 66 = .ok (.ldc 78, 2) := dec_of da_X10_hashText_0 (k := 42) rfl
theorem dX10_hashText_68 : decode cX10_hashText 68 = .ok (.iastore, 1) := dec_of da_X10_hashText_0 (k := 43) rfl
theorem dX10_hashText_69 : decode cX10_hashText 69 = .ok (.aload_n 0, 1) := dec_of da_X10_hashText_0 (k := 44) rfl
theorem dX10_hashText_70 : decode cX10_hashText 70 = .ok (.getfield 27, 3) := dec_of da_X10_hashText_0 (k := 45) rfl
theorem dX10_hashText_73 : decode cX10_hashText 73 = .ok (.iconst 2, 1) := dec_of da_X10_hashText_0 (k := 46) rfl
theorem dX10_hashText_74 : decode cX10_hashText 74 = .ok (.ldc 79, 2) := dec_of da_X10_hashText_0 (k := 47) rfl
theorem dX10_hashText_76 : decode cX10_hashText 76 = .ok (.iastore, 1) := dec_of da_X10_hashText_0 (k := 48) rfl
theorem dX10_hashText_77 : decode cX10_hashText 77 = .ok (.aload_n 0, 1) := dec_of da_X10_hashText_0 (k := 49) rfl
theorem dX10_hashText_78 : decode cX10_hashText 78 = .ok (.getfield 27, 3) := dec_of da_X10_hashText_0 (k := 50) rfl
theorem dX10_hashText_81 : decode cX10_hashText 81 = .ok (.iconst 3, 1) := dec_of da_X10_hashText_0 (k := 51) rfl
theorem dX10_hashText_82 : decode cX10_hashText 82 = .ok (.ldc 80, 2) := dec_of da_X10_hashText_0 (k := 52) rfl
theorem dX10_hashText_84 : decode cX10_hashText 84 = .ok (.iastore, 1) := dec_of da_X10_hashText_0 (k := 53) rfl
theorem dX10_hashText_85 : decode cX10_hashText 85 = .ok (.aload_n 0, 1) := dec_of da_X10_hashText_0 (k := 54) rfl
theorem dX10_hashText_86 : decode cX10_hashText 86 = .ok (.getfield 27, 3) := dec_of da_X10_hashText_0 (k := 55) rfl
theorem dX10_hashText_89 : decode cX10_hashText 89 = .ok (.iconst 4, 1) := dec_of da_X10_hashText_0 (k := 56) rfl
theorem dX10_hashText_90 : decode cX10_hashText 90 = .ok (.ldc 81, 2) := dec_of da_X10_hashText_0 (k := 57) rfl
theorem dX10_hashText_92 : decode cX10_hashText 92 = .ok (.iastore, 1) := dec_of da_X10_hashText_0 (k := 58) rfl
theorem dX10_hashText_93 : decode cX10_hashText 93 = .ok (.iconst 0, 1) := dec_of da_X10_hashText_0 (k := 59) rfl
def dl_X10_hashText_1 : List (Nat × (Instr × Nat)) := [(94, (.istore 4, 2)), (96, (.iload 4, 2)), (98, (.iload_n 2, 1)), (99, (.if_icmp .ge 22, 3)), (102, (.aload_n 0, 1)), (103, (.iload 4, 2)), (105, (.bipush 64, 2)), (107, (.imul, 1)), (108, (.invokevirtual 82, 3)), (111, (.aload_n 0, 1)), (112, (.invokevirtual 85, 3)), (115, (.iinc 4 1, 3)), (118, (.goto (-22), 3)), (121, (.iconst 0, 1)), (122, (.istore 4, 2)), (124, (.iload 4, 2)), (126, (.iconst 5, 1)), (127, (.if_icmp .ge 29, 3)), (130, (.aload_n 0, 1)), (131, (.getfield 11, 3)), (134, (.iconst 4, 1)), (135, (.iload 4, 2)), (137, (.imul, 1)), (138, (.iconst 4, 1)), (139, (.aload_n 0, 1)), (140, (.getfield 27, 3)), (143, (.iload 4, 2)), (145, (.iaload, 1)), (146, (.i2l, 1)), (147, (.invokestatic 73, 3)), (150, (.iinc 4 1, 3)), (153, (.goto (-29), 3)), (156, (.return_, 1))]
set_option maxRecDepth 100000 in
theorem da_X10_hashText_1 : dl_X10_hashText_1.all (fun q => decide (decode cX10_hashText q.1 = .ok q.2)) = true := by decide +kernel
theorem dX10_hashText_94 : decode cX10_hashText 94 = .ok (.istore 4, 2) := dec_of da_X10_hashText_1 (k := 0) rfl
theorem dX10_hashText_96 : decode cX10_hashText 96 = .ok (.iload 4, 2) := dec_of da_X10_hashText_1 (k := 1) rfl
theorem dX10_hashText_98 : decode cX10_hashText 98 = .ok (.iload_n 2, 1) := dec_of da_X10_hashText_1 (k := 2) rfl
theorem dX10_hashText_99 : decode cX10_hashText 99 = .ok (.if_icmp .ge 22, 3) := dec_of da_X10_hashText_1 (k := 3) rfl
theorem dX10_hashText_102 : decode cX10_hashText 102 = .ok (.aload_n 0, 1) := dec_of da_X10_hashText_1 (k := 4) rfl
theorem dX10_hashText_103 : decode cX10_hashText 103 = .ok (.iload 4, 2) := dec_of da_X10_hashText_1 (k := 5) rfl
theorem dX10_hashText_105 : decode cX10_hashText 105 = .ok (.bipush 64, 2) := dec_of da_X10_hashText_1 (k := 6) rfl
theorem dX10_hashText_107 : decode cX10_hashText 107 = .ok (.imul, 1) := dec_of da_X10_hashText_1 (k := 7) rfl
theorem dX10_hashText_108 : decode cX10_hashText 108 = .ok (.invokevirtual 82, 3) := dec_of da_X10_hashText_1 (k := 8) rfl
theorem dX10_hashText_111 : decode cX10_hashText 111 = .ok (.aload_n 0, 1) := dec_of da_X10_hashText_1 (k := 9) rfl
theorem dX10_hashText_112 : decode cX10_hashText 112 = .ok (.invokevirtual 85, 3) := dec_of da_X10_hashText_1 (k := 10) rfl
theorem dX10_hashText_115 : decode cX10_hashText 115 = .ok (.iinc 4 1, 3) := dec_of da_X10_hashText_1 (k := 11) rfl
theorem dX10_hashText_118 : decode cX10_hashText 118 = .ok (.goto (-22), 3) := dec_of da_X10_hashText_1 (k := 12) rfl
theorem dX10_hashText_121 : decode cX10_hashText 121 = .ok (.iconst 0, 1) := dec_of da_X10_hashText_1 (k := 13) rfl
theorem dX10_hashText_122 : decode cX10_hashText 122 = .ok (.istore 4, 2) := dec_of da_X10_hashText_1 (k := 14) rfl
theorem dX10_hashText_124 : decode cX10_hashText 124 = .ok (.iload 4, 2) := dec_of da_X10_hashText_1 (k := 15) rfl
theorem dX10_hashText_126 : decode cX10_hashText 126 = .ok (.iconst 5, 1) := dec_of da_X10_hashText_1 (k := 16) rfl
theorem dX10_hashText_127 : decode cX10_hashText 127 = .ok (.if_icmp .ge 29, 3) := dec_of da_X10_hashText_1 (k := 17) rfl
theorem dX10_hashText_130 : decode cX10_hashText 130 = .ok (.aload_n 0, 1) := dec_of da_X10_hashText_1 (k := 18) rfl
theorem dX10_hashText_131 : decode cX10_hashText 131 = .ok (.getfield 11, 3) := dec_of da_X10_hashText_1 (k := 19) rfl
theorem dX10_hashText_134 : decode cX10_hashText 134 = .ok (.iconst 4, 1) := dec_of da_X10_hashText_1 (k := 20) rfl
theorem dX10_hashText_135 : decode cX10_hashText 135 = .ok (.iload 4, 2) := dec_of da_X10_hashText_1 (k := 21) rfl
theorem dX10_hashText_137 : decode cX10_hashText 137 = .ok (.imul, 1) := dec_of da_X10_hashText_1 (k := 22) rfl
theorem dX10_hashText_138 : decode cX10_hashText 138 = .ok (.iconst 4, 1) := dec_of da_X10_hashText_1 (k := 23) rfl
theorem dX10_hashText_139 : decode cX10_hashText 139 = .ok (.aload_n 0, 1) := dec_of da_X10_hashText_1 (k := 24) rfl
theorem dX10_hashText_140 : decode cX10_hashText 140 = .ok (.getfield 27, 3) := dec_of da_X10_hashText_1 (k := 25) rfl
theorem dX10_hashText_143 : decode cX10_hashText 143 = .ok (.iload 4, 2) := dec_of da_X10_hashText_1 (k := 26) rfl
theorem dX10_hashText_145 : decode cX10_hashText 145 = .ok (.iaload, 1) := dec_of da_X10_hashText_1 (k := 27) rfl
theorem dX10_hashText_146 : decode cX10_hashText 146 = .ok (.i2l, 1) := dec_of da_X10_hashText_1 (k := 28) rfl
theorem dX10_hashText_147 : decode cX10_hashText 147 = .ok (.invokestatic 73, 3) := dec_of da_X10_hashText_1 (k := 29) rfl
theorem dX10_hashText_150 : decode cX10_hashText 150 = .ok (.iinc 4 1, 3) := dec_of da_X10_hashText_1 (k := 30) rfl
theorem dX10_hashText_153 : decode cX10_hashText 153 = .ok (.goto (-29), 3) := dec_of da_X10_hashText_1 (k := 31) rfl
theorem dX10_hashText_156 : decode cX10_hashText 156 = .ok (.return_, 1) := dec_of da_X10_hashText_1 (k := 32) rfl
def dl_X10_fillWords_0 : List (Nat × (Instr × Nat)) := [(0, (.iconst 0, 1)), (1, (.istore_n 2, 1)), (2, (.iload_n 2, 1)), (3, (.bipush 16, 2)), (5, (.if_icmp .ge 63, 3)), (8, (.iload_n 1, 1)), (9, (.iconst 4, 1)), (10, (.iload_n 2, 1)), (11, (.imul, 1)), (12, (.iadd, 1)), (13, (.istore_n 3, 1)), (14, (.aload_n 0, 1)), (15, (.getfield 24, 3)), (18, (.iload_n 2, 1)), (19, (.aload_n 0, 1)), (20, (.getfield 21, 3)), (23, (.iload_n 3, 1)), (24, (.iaload, 1)), (25, (.bipush 24, 2)), (27, (.ishl, 1)), (28, (.aload_n 0, 1)), (29, (.getfield 21, 3)), (32, (.iload_n 3, 1)), (33, (.iconst 1, 1)), (34, (.iadd, 1)), (35, (.iaload, 1)), (36, (.bipush 16, 2)), (38, (.ishl, 1)), (39, (.ior, 1)), (40, (.aload_n 0, 1)), (41, (.getfield 21, 3)), (44, (.iload_n 3, 1)), (45, (.iconst 2, 1)), (46, (.iadd, 1)), (47, (.iaload, 1)), (48, (.bipush 8, 2)), (50, (.ishl, 1)), (51, (.ior, 1)), (52, (.aload_n 0, 1)), (53, (.getfield 21, 3)), (56, (.iload_n 3, 1)), (57, (.iconst 3, 1)), (58, (.iadd, 1)), (59, (.iaload, 1)), (60, (.ior, 1)), (61, (.iastore, 1)), (62, (.iinc 2 1, 3)), (65, (.goto (-63), 3)), (68, (.bipush 16, 2)), (70, (.istore_n 2, 1)), (71, (.iload_n 2, 1)), (72, (.bipush 80, 2)), (74, (.if_icmp .ge 62, 3)), (77, (.aload_n 0, 1)), (78, (.getfield 24, 3)), (81, (.iload_n 2, 1)), (82, (.iconst 3, 1)), (83, (.isub, 1)), (84, (.iaload, 1)), (85, (.aload_n 0, 1))]
set_option maxRecDepth 100000 in
theorem da_X10_fillWords_0 : dl_X10_fillWords_0.all (fun q => decide (decode cX10_fillWords q.1 = .ok q.2)) = true := by decide +kernel
theorem dX10_fillWords_0 : decode cX10_fillWords 0 = .ok (.iconst 0, 1) := dec_of da_X10_fillWords_0 (k := 0) rfl
theorem dX10_fillWords_1 : decode cX10_fillWords 1 = .ok (.istore_n 2, 1) := dec_of da_X10_fillWords_0 (k := 1) rfl
theorem dX10_fillWords_2 : decode cX10_fillWords 2 = .ok (.iload_n 2, 1) := dec_of da_X10_fillWords_0 (k := 2) rfl
theorem dX10_fillWords_3 : decode cX10_fillWords 3 = .ok (.bipush 16, 2) := dec_of da_X10_fillWords_0 (k := 3) rfl
theorem dX10_fillWords_5 : decode cX10_fillWords 5 = .ok (.if_icmp .ge 63, 3) := dec_of da_X10_fillWords_0 (k := 4) rfl
theorem dX10_fillWords_8 : decode cX10_fillWords 8 = .ok (.iload_n 1, 1) := dec_of da_X10_fillWords_0 (k := 5) rfl
theorem dX10_fillWords_9 : decode cX10_fillWords 9 = .ok (.iconst 4, 1) := dec_of da_X10_fillWords_0 (k := 6) rfl
theorem dX10_fillWords_10 : decode cX10_fillWords 10 = .ok (.iload_n 2, 1) := dec_of da_X10_fillWords_0 (k := 7) rfl
theorem dX10_fillWords_11 : decode cX10_fillWords 11 = .ok (.imul, 1) := dec_of da_X10_fillWords_0 (k := 8) rfl
theorem dX10_fillWords_12 : decode cX10_fillWords 12 = .ok (.iadd, 1) := dec_of da_X10_fillWords_0 (k := 9) rfl
theorem dX10_fillWords_13 : decode cX10_fillWords 13 = .ok (.istore_n 3, 1) := dec_of da_X10_fillWords_0 (k := 10) rfl
theorem dX10_fillWords_14 : decode cX10_fillWords 14 = .ok (.aload_n 0, 1) := dec_of da_X10_fillWords_0 (k := 11) rfl
theorem dX10_fillWords_15 : decode cX10_fillWords 15 = .ok (.getfield 24, 3) := dec_of da_X10_fillWords_0 (k := 12) rfl
theorem dX10_fillWords_18 : decode cX10_fillWords 18 = .ok (.iload_n 2, 1) := dec_of da_X10_fillWords_0 (k := 13) rfl
theorem dX10_fillWords_19 : decode cX10_fillWords 19 = .ok (.aload_n 0, 1) := dec_of da_X10_fillWords_0 (k := 14) rfl
theorem dX10_fillWords_20 : decode cX10_fillWords 20 = .ok (.getfield 21, 3) := dec_of da_X10_fillWords_0 (k := 15) rfl
theorem dX10_fillWords_23 : decode cX10_fillWords 23 = .ok (.iload_n 3, 1) := dec_of da_X10_fillWords_0 (k := 16) rfl
theorem dX10_fillWords_24 : decode cX10_fillWords 24 = .ok (.iaload, 1) := dec_of da_X10_fillWords_0 (k := 17) rfl
theorem dX10_fillWords_25 : decode cX10_fillWords 25 = .ok (.bipush 24, 2) := dec_of da_X10_fillWords_0 (k := 18) rfl
theorem dX10_fillWords_27 : decode cX10_fillWords 27 = .ok (.ishl, 1) := dec_of da_X10_fillWords_0 (k := 19) rfl
theorem dX10_fillWords_28 : decode cX10_fillWords 28 = .ok (.aload_n 0, 1) := dec_of da_X10_fillWords_0 (k := 20) rfl
theorem dX10_fillWords_29 : decode cX10_fillWords 29 = .ok (.getfield 21, 3) := dec_of da_X10_fillWords_0 (k := 21) rfl
theorem dX10_fillWords_32 : decode cX10_fillWords 32 = .ok (.iload_n 3, 1) := dec_of da_X10_fillWords_0 (k := 22) rfl
theorem dX10_fillWords_33 : decode cX10_fillWords 33 = .ok (.iconst 1, 1) := dec_of da_X10_fillWords_0 (k := 23) rfl
theorem dX10_fillWords_34 : decode cX10_fillWords 34 = .ok (.iadd, 1) := dec_of da_X10_fillWords_0 (k := 24) rfl
theorem dX10_fillWords_35 : decode cX10_fillWords 35 = .ok (.iaload, 1) := dec_of da_X10_fillWords_0 (k := 25) rfl
theorem dX10_fillWords_36 : decode cX10_fillWords 36 = .ok (.bipush 16, 2) := dec_of da_X10_fillWords_0 (k := 26) rfl
theorem dX10_fillWords_38 : decode cX10_fillWords 38 = .ok (.ishl, 1) := dec_of da_X10_fillWords_0 (k := 27) rfl
theorem dX10_fillWords_39 : decode cX10_fillWords 39 = .ok (.ior, 1) := dec_of da_X10_fillWords_0 (k := 28) rfl
theorem dX10_fillWords_40 : decode cX10_fillWords 40 = .ok (.aload_n 0, 1) := dec_of da_X10_fillWords_0 (k := 29) rfl
theorem dX10_fillWords_41 : decode cX10_fillWords 41 = .ok (.getfield 21, 3) := dec_of da_X10_fillWords_0 (k := 30) rfl
theorem dX10_fillWords_44 : decode cX10_fillWords 44 = .ok (.iload_n 3, 1) := dec_of da_X10_fillWords_0 (k := 31) rfl
theorem dX10_fillWords_45 : decode cX10_fillWords 45 = .ok (.iconst 2, 1) := dec_of da_X10_fillWords_0 (k := 32) rfl
theorem dX10_fillWords_46 : decode cX10_fillWords 46 = .ok (.iadd, 1) := dec_of da_X10_fillWords_0 (k := 33) rfl
theorem dX10_fillWords_47 : decode cX10_fillWords 47 = .ok (.iaload, 1) := dec_of da_X10_fillWords_0 (k := 34) rfl
theorem dX10_fillWords_48 : decode cX10_fillWords 48 = .ok (.bipush 8, 2) := dec_of da_X10_fillWords_0 (k := 35) rfl
theorem dX10_fillWords_50 : decode cX10_fillWords 50 = .ok (.ishl, 1) := dec_of da_X10_fillWords_0 (k := 36) rfl
theorem dX10_fillWords_51 : decode cX10_fillWords 51 = .ok (.ior, 1) := dec_of da_X10_fillWords_0 (k := 37) rfl
theorem dX10_fillWords_52 : decode cX10_fillWords 52 = .ok (.aload_n 0, 1) := dec_of da_X10_fillWords_0 (k := 38) rfl
theorem dX10_fillWords_53 : decode cX10_fillWords 53 = .ok (.getfield 21, 3) := dec_of da_X10_fillWords_0 (k := 39) rfl
theorem dX10_fillWords_56 : decode cX10_fillWords 56 = .ok (.iload_n 3, 1) := dec_of da_X10_fillWords_0 (k := 40) rfl
theorem dX10_fillWords_57 : decode cX10_fillWords 57 = .ok (.iconst 3, 1) := dec_of da_X10_fillWords_0 (k := 41) rfl
theorem dX10_fillWords_58 : decode cX10_fillWords 58 = .ok (.iadd, 1) := dec_of da_X10_fillWords_0 (k := 42) rfl
theorem dX10_fillWords_59 : decode cX10_fillWords 59 = .ok (.iaload, 1) := dec_of da_X10_fillWords_0 (k := 43) rfl
theorem dX10_fillWords_60 : decode cX10_fillWords 60 = .ok (.ior, 1) := dec_of da_X10_fillWords_0 (k := 44) rfl
theorem dX10_fillWords_61 : decode cX10_fillWords 61 = .ok (.iastore, 1) := dec_of da_X10_fillWords_0 (k := 45) rfl
theorem dX10_fillWords_62 : decode cX10_fillWords 62 = .ok (.iinc 2 1, 3) := dec_of da_X10_fillWords_0 (k := 46) rfl
theorem dX10_fillWords_65 : decode cX10_fillWords 65 = .ok (.goto (-63), 3) := dec_of da_X10_fillWords_0 (k := 47) rfl
theorem dX10_fillWords_68 : decode cX10_fillWords 68 = .ok (.bipush 16, 2) := dec_of da_X10_fillWords_0 (k := 48) rfl
theorem dX10_fillWords_70 : decode cX10_fillWords 70 = .ok (.istore_n 2, 1) := dec_of da_X10_fillWords_0 (k := 49) rfl
theorem dX10_fillWords_71 : decode cX10_fillWords 71 = .ok (.iload_n 2, 1) := dec_of da_X10_fillWords_0 (k := 50) rfl
theorem dX10_fillWords_72 : decode cX10_fillWords 72 = .ok (.bipush 80, 2) := dec_of da_X10_fillWords_0 (k := 51) rfl
theorem dX10_fillWords_74 : decode cX10_fillWords 74 = .ok (.if_icmp .ge 62, 3) := dec_of da_X10_fillWords_0 (k := 52) rfl
theorem dX10_fillWords_77 : decode cX10_fillWords 77 = .ok (.aload_n 0, 1) := dec_of da_X10_fillWords_0 (k := 53) rfl
theorem dX10_fillWords_78 : decode cX10_fillWords 78 = .ok (.getfield 24, 3) := dec_of da_X10_fillWords_0 (k := 54) rfl
theorem dX10_fillWords_81 : decode cX10_fillWords 81 = .ok (.iload_n 2, 1) := dec_of da_X10_fillWords_0 (k := 55) rfl
theorem dX10_fillWords_82 : decode cX10_fillWords 82 = .ok (.iconst 3, 1) := dec_of da_X10_fillWords_0 (k := 56) rfl
theorem dX10_fillWords_83 : decode cX10_fillWords 83 = .ok (.isub, 1) := dec_of da_X10_fillWords_0 (k := 57) rfl
theorem dX10_fillWords_84 : decode cX10_fillWords 84 = .ok (.iaload, 1) := dec_of da_X10_fillWords_0 (k := 58) rfl
theorem dX10_fillWords_85 : decode cX10_fillWords 85 = .ok (.aload_n 0, 1) := dec_of da_X10_fillWords_0 (k := 59) rfl
def dl_X10_fillWords_1 : List (Nat × (Instr × Nat)) := [(86, (.getfield 24, 3)), (89, (.iload_n 2, 1)), (90, (.bipush 8, 2)), (92, (.isub, 1)), (93, (.iaload, 1)), (94, (.ixor, 1)), (95, (.aload_n 0, 1)), (96, (.getfield 24, 3)), (99, (.iload_n 2, 1)), (100, (.bipush 14, 2)), (102, (.isub, 1)), (103, (.iaload, 1)), (104, (.ixor, 1)), (105, (.aload_n 0, 1)), (106, (.getfield 24, 3)), (109, (.iload_n 2, 1)), (110, (.bipush 16, 2)), (112, (.isub, 1)), (113, (.iaload, 1)), (114, (.ixor, 1)), (115, (.istore_n 3, 1)), (116, (.aload_n 0, 1)), (117, (.getfield 24, 3)), (120, (.iload_n 2, 1)), (121, (.iload_n 3, 1)), (122, (.iconst 1, 1)), (123, (.ishl, 1)), (124, (.iload_n 3, 1)), (125, (.bipush 31, 2)), (127, (.iushr, 1)), (128, (.ior, 1)), (129, (.iastore, 1)), (130, (.iinc 2 1, 3)), (133, (.goto (-62), 3)), (136, (.return_, 1))]
set_option maxRecDepth 100000 in
theorem da_X10_fillWords_1 : dl_X10_fillWords_1.all (fun q => decide (decode cX10_fillWords q.1 = .ok q.2)) = true := by decide +kernel
theorem dX10_fillWords_86 : decode cX10_fillWords 86 = .ok (.getfield 24, 3) := dec_of da_X10_fillWords_1 (k := 0) rfl
theorem dX10_fillWords_89 : decode cX10_fillWords 89 = .ok (.iload_n 2, 1) := dec_of da_X10_fillWords_1 (k := 1) rfl
theorem dX10_fillWords_90 : decode cX10_fillWords 90 = .ok (.bipush 8, 2) := dec_of da_X10_fillWords_1 (k := 2) rfl
theorem dX10_fillWords_92 : decode cX10_fillWords 92 = .ok (.isub, 1) := dec_of da_X10_fillWords_1 (k := 3) rfl
theorem dX10_fillWords_93 : decode cX10_fillWords 93 = .ok (.iaload, 1) := dec_of da_X10_fillWords_1 (k := 4) rfl
theorem dX10_fillWords_94 : decode cX10_fillWords 94 = .ok (.ixor, 1) := dec_of da_X10_fillWords_1 (k := 5) rfl
theorem dX10_fillWords_95 : decode cX10_fillWords 95 = .ok (.aload_n 0, 1) := dec_of da_X10_fillWords_1 (k := 6) rfl
theorem dX10_fillWords_96 : decode cX10_fillWords 96 = .ok (.getfield 24, 3) := dec_of da_X10_fillWords_1 (k := 7) rfl
theorem dX10_fillWords_99 : decode cX10_fillWords 99 = .ok (.iload_n 2, 1) := dec_of da_X10_fillWords_1 (k := 8) rfl
theorem dX10_fillWords_100 : decode cX10_fillWords 100 = .ok (.bipush 14, 2) := dec_of da_X10_fillWords_1 (k := 9) rfl
theorem dX10_fillWords_102 : decode cX10_fillWords 102 = .ok (.isub, 1) := dec_of da_X10_fillWords_1 (k := 10) rfl
theorem dX10_fillWords_103 : decode cX10_fillWords 103 = .ok (.iaload, 1) := dec_of da_X10_fillWords_1 (k := 11) rfl
theorem dX10_fillWords_104 : decode cX10_fillWords 104 = .ok (.ixor, 1) := dec_of da_X10_fillWords_1 (k := 12) rfl
theorem dX10_fillWords_105 : decode cX10_fillWords 105 = .ok (.aload_n 0, 1) := dec_of da_X10_fillWords_1 (k := 13) rfl
theorem dX10_fillWords_106 : decode cX10_fillWords 106 = .ok (.getfield 24, 3) := dec_of da_X10_fillWords_1 (k := 14) rfl
theorem dX10_fillWords_109 : decode cX10_fillWords 109 = .ok (.iload_n 2, 1) := dec_of da_X10_fillWords_1 (k := 15) rfl
theorem dX10_fillWords_110 : decode cX10_fillWords 110 = .ok (.bipush 16, 2) := dec_of da_X10_fillWords_1 (k := 16) rfl
theorem dX10_fillWords_112 : decode cX10_fillWords 112 = .ok (.isub, 1) := dec_of da_X10_fillWords_1 (k := 17) rfl
theorem dX10_fillWords_113 : decode cX10_fillWords 113 = .ok (.iaload, 1) := dec_of da_X10_fillWords_1 (k := 18) rfl
theorem dX10_fillWords_114 : decode cX10_fillWords 114 = .ok (.ixor, 1) := dec_of da_X10_fillWords_1 (k := 19) rfl
theorem dX10_fillWords_115 : decode cX10_fillWords 115 = .ok (.istore_n 3, 1) := dec_of da_X10_fillWords_1 (k := 20) rfl
theorem dX10_fillWords_116 : decode cX10_fillWords 116 = .ok (.aload_n 0, 1) := dec_of da_X10_fillWords_1 (k := 21) rfl
theorem dX10_fillWords_117 : decode cX10_fillWords 117 = .ok (.getfield 24, 3) := dec_of da_X10_fillWords_1 (k := 22) rfl
theorem dX10_fillWords_120 : decode cX10_fillWords 120 = .ok (.iload_n 2, 1) := dec_of da_X10_fillWords_1 (k := 23) rfl
theorem dX10_fillWords_121 : decode cX10_fillWords 121 = .ok (.iload_n 3, 1) := dec_of da_X10_fillWords_1 (k := 24) rfl
theorem dX10_fillWords_122 : decode cX10_fillWords 122 = .ok (.iconst 1, 1) := dec_of da_X10_fillWords_1 (k := 25) rfl
theorem dX10_fillWords_123 : decode cX10_fillWords 123 = .ok (.ishl, 1) := dec_of da_X10_fillWords_1 (k := 26) rfl
theorem dX10_fillWords_124 : decode cX10_fillWords 124 = .ok (.iload_n 3, 1) := dec_of da_X10_fillWords_1 (k := 27) rfl
theorem dX10_fillWords_125 : decode cX10_fillWords 125 = .ok (.bipush 31, 2) := dec_of da_X10_fillWords_1 (k := 28) rfl
theorem dX10_fillWords_127 : decode cX10_fillWords 127 = .ok (.iushr, 1) := dec_of da_X10_fillWords_1 (k := 29) rfl
theorem dX10_fillWords_128 : decode cX10_fillWords 128 = .ok (.ior, 1) := dec_of da_X10_fillWords_1 (k := 30) rfl
theorem dX10_fillWords_129 : decode cX10_fillWords 129 = .ok (.iastore, 1) := dec_of da_X10_fillWords_1 (k := 31) rfl
theorem dX10_fillWords_130 : decode cX10_fillWords 130 = .ok (.iinc 2 1, 3) := dec_of da_X10_fillWords_1 (k := 32) rfl
theorem dX10_fillWords_133 : decode cX10_fillWords 133 = .ok (.goto (-62), 3) := dec_of da_X10_fillWords_1 (k := 33) rfl
theorem dX10_fillWords_136 : decode cX10_fillWords 136 = .ok (.return_, 1) := dec_of da_X10_fillWords_1 (k := 34) rfl
def dl_X10_addWords_0 : List (Nat × (Instr × Nat)) := [(0, (.aload_n 0, 1)), (1, (.getfield 27, 3)), (4, (.iconst 0, 1)), (5, (.iaload, 1)), (6, (.istore_n 1, 1)), (7, (.aload_n 0, 1)), (8, (.getfield 27, 3)), (11, (.iconst 1, 1)), (12, (.iaload, 1)), (13, (.istore_n 2, 1)), (14, (.aload_n 0, 1)), (15, (.getfield 27, 3)), (18, (.iconst 2, 1)), (19, (.iaload, 1)), (20, (.istore_n 3, 1)), (21, (.aload_n 0, 1)), (22, (.getfield 27, 3)), (25, (.iconst 3, 1)), (26, (.iaload, 1)), (27, (.istore 4, 2)), (29, (.aload_n 0, 1)), (30, (.getfield 27, 3)), (33, (.iconst 4, 1)), (34, (.iaload, 1)), (35, (.istore 5, 2)), (37, (.iconst 0, 1)), (38, (.istore 6, 2)), (40, (.iload 6, 2)), (42, (.bipush 80, 2)), (44, (.if_icmp .ge 139, 3)), (47, (.iload 6, 2)), (49, (.bipush 20, 2)), (51, (.if_icmp .ge 21, 3)), (54, (.iload_n 2, 1)), (55, (.iload_n 3, 1)), (56, (.iand, 1)), (57, (.iload_n 2, 1)), (58, (.iconst (-1), 1)), (59, (.ixor, 1)), (60, (.iload 4, 2)), (62, (.iand, 1)), (63, (.ior, 1)), (64, (.ldc 88, 2)), (66, (.iadd, 1)), (67, (.istore 7, 2)), (69, (.goto 63, 3)), (72, (.iload 6, 2)), (74, (.bipush 40, 2)), (76, (.if_icmp .ge 17, 3)), (79, (.iload_n 2, 1)), (80, (.iload_n 3, 1)), (81, (.ixor, 1)), (82, (.iload 4, 2)), (84, (.ixor, 1)), (85, (.ldc 89, 2)), (87, (.iadd, 1)), (88, (.istore 7, 2)), (90, (.goto 42, 3)), (93, (.iload 6, 2)), (95, (.bipush 60, 2))]
set_option maxRecDepth 100000 in
theorem da_X10_addWords_0 : dl_X10_addWords_0.all (fun q => decide (decode cX10_addWords q.1 = .ok q.2)) = true := by decide +kernel
theorem dX10_addWords_0 : decode cX10_addWords 0 = .ok (.aload_n 0, 1) := dec_of da_X10_addWords_0 (k := 0) rfl
theorem dX10_addWords_1 : decode cX10_addWords 1 = .ok (.getfield 27, 3) := dec_of da_X10_addWords_0 (k := 1) rfl
theorem dX10_addWords_4 : decode cX10_addWords 4 = .ok (.iconst 0, 1) := dec_of da_X10_addWords_0 (k := 2) rfl
theorem dX10_addWords_5 : decode cX10_addWords 5 = .ok (.iaload, 1) := dec_of da_X10_addWords_0 (k := 3) rfl
theorem dX10_addWords_6 : decode cX10_addWords 6 = .ok (.istore_n 1, 1) := dec_of da_X10_addWords_0 (k := 4) rfl
theorem dX10_addWords_7 : decode cX10_addWords 7 = .ok (.aload_n 0, 1) := dec_of da_X10_addWords_0 (k := 5) rfl
theorem dX10_addWords_8 : decode cX10_addWords 8 = .ok (.getfield 27, 3) := dec_of da_X10_addWords_0 (k := 6) rfl
theorem dX10_addWords_11 : decode cX10_addWords 11 = .ok (.iconst 1, 1) := dec_of da_X10_addWords_0 (k := 7) rfl
theorem dX10_addWords_12 : decode cX10_addWords 12 = .ok (.iaload, 1) := dec_of da_X10_addWords_0 (k := 8) rfl
theorem dX10_addWords_13 : decode cX10_addWords 13 = .ok (.istore_n 2, 1) := dec_of da_X10_addWords_0 (k := 9) rfl
theorem dX10_addWords_14 : decode cX10_addWords 14 = .ok (.aload_n 0, 1) := dec_of da_X10_addWords_0 (k := 10) rfl
theorem dX10_addWords_15 : decode cX10_addWords 15 = .ok (.getfield 27, 3) := dec_of da_X10_addWords_0 (k := 11) rfl
theorem dX10_addWords_18 : decode cX10_addWords 18 = .ok (.iconst 2, 1) := dec_of da_X10_addWords_0 (k := 12) rfl
theorem dX10_addWords_19 : decode cX10_addWords 19 = .ok (.iaload, 1) := dec_of da_X10_addWords_0 (k := 13) rfl
theorem dX10_addWords_20 : decode cX10_addWords 20 = .ok (.istore_n 3, 1) := dec_of da_X10_addWords_0 (k := 14) rfl
theorem dX10_addWords_21 : decode cX10_addWords 21 = .ok (.aload_n 0, 1) := dec_of da_X10_addWords_0 (k := 15) rfl
theorem dX10_addWords_22 : decode cX10_addWords 22 = .ok (.getfield 27, 3) := dec_of da_X10_addWords_0 (k := 16) rfl
theorem dX10_addWords_25 : decode cX10_addWords 25 = .ok (.iconst 3, 1) := dec_of da_X10_addWords_0 (k := 17) rfl
theorem dX10_addWords_26 : decode cX10_addWords 26 = .ok (.iaload, 1) := dec_of da_X10_addWords_0 (k := 18) rfl
theorem dX10_addWords_27 : decode cX10_addWords 27 = .ok (.istore 4, 2) := dec_of da_X10_addWords_0 (k := 19) rfl
theorem dX10_addWords_29 : decode cX10_addWords 29 = .ok (.aload_n 0, 1) := dec_of da_X10_addWords_0 (k := 20) rfl
theorem dX10_addWords_30 : decode cX10_addWords 30 = .ok (.getfield 27, 3) := dec_of da_X10_addWords_0 (k := 21) rfl
theorem dX10_addWords_33 : decode cX10_addWords 33 = .ok (.iconst 4, 1) := dec_of da_X10_addWords_0 (k := 22) rfl
theorem dX10_addWords_34 : decode cX10_addWords 34 = .ok (.iaload, 1) := dec_of da_X10_addWords_0 (k := 23) rfl
theorem dX10_addWords_35 : decode cX10_addWords 35 = .ok (.istore 5, 2) := dec_of da_X10_addWords_0 (k := 24) rfl
theorem dX10_addWords_37 : decode cX10_addWords 37 = .ok (.iconst 0, 1) := dec_of da_X10_addWords_0 (k := 25) rfl
theorem dX10_addWords_38 : decode cX10_addWords 38 = .ok (.istore 6, 2) := dec_of da_X10_addWords_0 (k := 26) rfl
theorem dX10_addWords_40 : decode cX10_addWords 40 = .ok (.iload 6, 2) := dec_of da_X10_addWords_0 (k := 27) rfl
theorem dX10_addWords_42 : decode cX10_addWords 42 = .ok (.bipush 80, 2) := dec_of da_X10_addWords_0 (k := 28) rfl
theorem dX10_addWords_44 : decode cX10_addWords 44 = .ok (.if_icmp .ge 139, 3) := dec_of da_X10_addWords_0 (k := 29) rfl
theorem dX10_addWords_47 : decode cX10_addWords 47 = .ok (.iload 6, 2) := dec_of da_X10_addWords_0 (k := 30) rfl
theorem dX10_addWords_49 : decode cX10_addWords 49 = .ok (.bipush 20, 2) := dec_of da_X10_addWords_0 (k := 31) rfl
theorem dX10_addWords_51 : decode cX10_addWords 51 = .ok (.if_icmp .ge 21, 3) := dec_of da_X10_addWords_0 (k := 32) rfl
theorem dX10_addWords_54 : decode cX10_addWords 54 = .ok (.iload_n 2, 1) := dec_of da_X10_addWords_0 (k := 33) rfl
theorem dX10_addWords_55 : decode cX10_addWords 55 = .ok (.iload_n 3, 1) := dec_of da_X10_addWords_0 (k := 34) rfl
theorem dX10_addWords_56 : decode cX10_addWords 56 = .ok (.iand, 1) := dec_of da_X10_addWords_0 (k := 35) rfl
theorem dX10_addWords_57 : decode cX10_addWords 57 = .ok (.iload_n 2, 1) := dec_of da_X10_addWords_0 (k := 36) rfl
theorem dX10_addWords_58 : decode cX10_addWords 58 = .ok (.iconst (-1), 1) := dec_of da_X10_addWords_0 (k := 37) rfl
theorem dX10_addWords_59 : decode cX10_addWords 59 = .ok (.ixor, 1) := dec_of da_X10_addWords_0 (k := 38) rfl
theorem dX10_addWords_60 : decode cX10_addWords 60 = .ok (.iload 4, 2) := dec_of da_X10_addWords_0 (k := 39) rfl
theorem dX10_addWords_62 : decode cX10_addWords 62 = .ok (.iand, 1) := dec_of da_X10_addWords_0 (k := 40) rfl
theorem dX10_addWords_63 : decode cX10_addWords 63 = .ok (.ior, 1) := dec_of da_X10_addWords_0 (k := 41) rfl
theorem dX10_addWords_64 : decode cX10_addWords 64 = .ok (.ldc 88, 2) := dec_of da_X10_addWords_0 (k := 42) rfl
theorem dX10_addWords_66 : decode cX10_addWords 66 = .ok (.iadd, 1) := dec_of da_X10_addWords_0 (k := 43) rfl
theorem dX10_addWords_67 : decode cX10_addWords 67 = .ok (.istore 7, 2) := dec_of da_X10_addWords_0 (k := 44) rfl
theorem dX10_addWords_69 : decode cX10_addWords 69 = .ok (.goto 63, 3) := dec_of da_X10_addWords_0 (k := 45) rfl
theorem dX10_addWords_72 : decode cX10_addWords 72 = .ok (.iload 6, 2) := dec_of da_X10_addWords_0 (k := 46) rfl
theorem dX10_addWords_74 : decode cX10_addWords 74 = .ok (.bipush 40, 2) := dec_of da_X10_addWords_0 (k := 47) rfl
theorem dX10_addWords_76 : decode cX10_addWords 76 = .ok (.if_icmp .ge 17, 3) := dec_of da_X10_addWords_0 (k := 48) rfl
theorem dX10_addWords_79 : decode cX10_addWords 79 = .ok (.iload_n 2, 1) := dec_of da_X10_addWords_0 (k := 49) rfl
theorem dX10_addWords_80 : decode cX10_addWords 80 = .ok (.iload_n 3, 1) := dec_of da_X10_addWords_0 (k := 50) rfl
theorem dX10_addWords_81 : decode cX10_addWords 81 = .ok (.ixor, 1) := dec_of da_X10_addWords_0 (k := 51) rfl
theorem dX10_addWords_82 : decode cX10_addWords 82 = .ok (.iload 4, 2) := dec_of da_X10_addWords_0 (k := 52) rfl
theorem dX10_addWords_84 : decode cX10_addWords 84 = .ok (.ixor, 1) := dec_of da_X10_addWords_0 (k := 53) rfl
theorem dX10_addWords_85 : decode cX10_addWords 85 = .ok (.ldc 89, 2) := dec_of da_X10_addWords_0 (k := 54) rfl
theorem dX10_addWords_87 : decode cX10_addWords 87 = .ok (.iadd, 1) := dec_of da_X10_addWords_0 (k := 55) rfl
theorem dX10_addWords_88 : decode cX10_addWords 88 = .ok (.istore 7, 2) := dec_of da_X10_addWords_0 (k := 56) rfl
theorem dX10_addWords_90 : decode cX10_addWords 90 = .ok (.goto 42, 3) := dec_of da_X10_addWords_0 (k := 57) rfl
theorem dX10_addWords_93 : decode cX10_addWords 93 = .ok (.iload 6, 2) := dec_of da_X10_addWords_0 (k := 58) rfl
theorem dX10_addWords_95 : decode cX10_addWords 95 = .ok (.bipush 60, 2) := dec_of da_X10_addWords_0 (k := 59) rfl
def dl_X10_addWords_1 : List (Nat × (Instr × Nat)) := [(97, (.if_icmp .ge 24, 3)), (100, (.iload_n 2, 1)), (101, (.iload_n 3, 1)), (102, (.iand, 1)), (103, (.iload_n 2, 1)), (104, (.iload 4, 2)), (106, (.iand, 1)), (107, (.ior, 1)), (108, (.iload_n 3, 1)), (109, (.iload 4, 2)), (111, (.iand, 1)), (112, (.ior, 1)), (113, (.ldc 90, 2)), (115, (.iadd, 1)), (116, (.istore 7, 2)), (118, (.goto 14, 3)), (121, (.iload_n 2, 1)), (122, (.iload_n 3, 1)), (123, (.ixor, 1)), (124, (.iload 4, 2)), (126, (.ixor, 1)), (127, (.ldc 91, 2)), (129, (.iadd, 1)), (130, (.istore 7, 2)), (132, (.iload_n 1, 1)), (133, (.iconst 5, 1)), (134, (.ishl, 1)), (135, (.iload_n 1, 1)), (136, (.bipush 27, 2)), (138, (.iushr, 1)), (139, (.ior, 1)), (140, (.iload 5, 2)), (142, (.iadd, 1)), (143, (.aload_n 0, 1)), (144, (.getfield 24, 3)), (147, (.iload 6, 2)), (149, (.iaload, 1)), (150, (.iadd, 1)), (151, (.iload 7, 2)), (153, (.iadd, 1)), (154, (.istore 8, 2)), (156, (.iload 4, 2)), (158, (.istore 5, 2)), (160, (.iload_n 3, 1)), (161, (.istore 4, 2)), (163, (.iload_n 2, 1)), (164, (.bipush 30, 2)), (166, (.ishl, 1)), (167, (.iload_n 2, 1)), (168, (.iconst 2, 1)), (169, (.iushr, 1)), (170, (.ior, 1)), (171, (.istore_n 3, 1)), (172, (.iload_n 1, 1)), (173, (.istore_n 2, 1)), (174, (.iload 8, 2)), (176, (.istore_n 1, 1)), (177, (.iinc 6 1, 3)), (180, (.goto (-140), 3)), (183, (.aload_n 0, 1))]
set_option maxRecDepth 100000 in
theorem da_X10_addWords_1 : dl_X10_addWords_1.all (fun q => decide (decode cX10_addWords q.1 = .ok q.2)) = true := by decide +kernel
theorem dX10_addWords_97 : decode cX10_addWords 97 = .ok (.if_icmp .ge 24, 3) := dec_of da_X10_addWords_1 (k := 0) rfl
theorem dX10_addWords_100 : decode cX10_addWords 100 = .ok (.iload_n 2, 1) := dec_of da_X10_addWords_1 (k := 1) rfl
theorem dX10_addWords_101 : decode cX10_addWords 101 = .ok (.iload_n 3, 1) := dec_of da_X10_addWords_1 (k := 2) rfl
theorem dX10_addWords_102 : decode cX10_addWords 102 = .ok (.iand, 1) := dec_of da_X10_addWords_1 (k := 3) rfl
theorem dX10_addWords_103 : decode cX10_addWords 103 = .ok (.iload_n 2, 1) := dec_of da_X10_addWords_1 (k := 4) rfl
theorem dX10_addWords_104 : decode cX10_addWords 104 = .ok (.iload 4, 2) := dec_of da_X10_addWords_1 (k := 5) rfl
theorem dX10_addWords_106 : decode cX10_addWords 106 = .ok (.iand, 1) := dec_of da_X10_addWords_1 (k := 6) rfl
theorem dX10_addWords_107 : decode cX10_addWords 107 = .ok (.ior, 1) := dec_of da_X10_addWords_1 (k := 7) rfl
theorem dX10_addWords_108 : decode cX10_addWords 108 = .ok (.iload_n 3, 1) := dec_of da_X10_addWords_1 (k := 8) rfl
theorem dX10_addWords_109 : decode cX10_addWords 109 = .ok (.iload 4, 2) := dec_of da_X10_addWords_1 (k := 9) rfl
theorem dX10_addWords_111 : decode cX10_addWords 111 = .ok (.iand, 1) := dec_of da_X10_addWords_1 (k := 10) rfl
theorem dX10_addWords_112 : decode cX10_addWords 112 = .ok (.ior, 1) := dec_of da_X10_addWords_1 (k := 11) rfl
theorem dX10_addWords_113 : decode cX10_addWords 113 = .ok (.ldc 90, 2) := dec_of da_X10_addWords_1 (k := 12) rfl
theorem dX10_addWords_115 : decode cX10_addWords 115 = .ok (.iadd, 1) := dec_of da_X10_addWords_1 (k := 13) rfl
theorem dX10_addWords_116 : decode cX10_addWords 116 = .ok (.istore 7, 2) := dec_of da_X10_addWords_1 (k := 14) rfl
theorem dX10_addWords_118 : decode cX10_addWords 118 = .ok (.goto 14, 3) := dec_of da_X10_addWords_1 (k := 15) rfl
theorem dX10_addWords_121 : decode cX10_addWords 121 = .ok (.iload_n 2, 1) := dec_of da_X10_addWords_1 (k := 16) rfl
theorem dX10_addWords_122 : decode cX10_addWords 122 = .ok (.iload_n 3, 1) := dec_of da_X10_addWords_1 (k := 17) rfl
theorem dX10_addWords_123 : decode cX10_addWords 123 = .ok (.ixor, 1) := dec_of da_X10_addWords_1 (k := 18) rfl
theorem dX10_addWords_124 : decode cX10_addWords 124 = .ok (.iload 4, 2) := dec_of da_X10_addWords_1 (k := 19) rfl
theorem dX10_addWords_126 : decode cX10_addWords 126 = .ok (.ixor, 1) := dec_of da_X10_addWords_1 (k := 20) rfl
theorem dX10_addWords_127 : decode cX10_addWords 127 = .ok (.ldc 91, 2) := dec_of da_X10_addWords_1 (k := 21) rfl
theorem dX10_addWords_129 : decode cX10_addWords 129 = .ok (.iadd, 1) := dec_of da_X10_addWords_1 (k := 22) rfl
theorem dX10_addWords_130 : decode cX10_addWords 130 = .ok (.istore 7, 2) := dec_of da_X10_addWords_1 (k := 23) rfl
theorem dX10_addWords_132 : decode cX10_addWords 132 = .ok (.iload_n 1, 1) := dec_of da_X10_addWords_1 (k := 24) rfl
theorem dX10_addWords_133 : decode cX10_addWords 133 = .ok (.iconst 5, 1) := dec_of da_X10_addWords_1 (k := 25) rfl
theorem dX10_addWords_134 : decode cX10_addWords 134 = .ok (.ishl, 1) := dec_of da_X10_addWords_1 (k := 26) rfl
theorem dX10_addWords_135 : decode cX10_addWords 135 = .ok (.iload_n 1, 1) := dec_of da_X10_addWords_1 (k := 27) rfl
theorem dX10_addWords_136 : decode cX10_addWords 136 = .ok (.bipush 27, 2) := dec_of da_X10_addWords_1 (k := 28) rfl
theorem dX10_addWords_138 : decode cX10_addWords 138 = .ok (.iushr, 1) := dec_of da_X10_addWords_1 (k := 29) rfl
theorem dX10_addWords_139 : decode cX10_addWords 139 = .ok (.ior, 1) := dec_of da_X10_addWords_1 (k := 30) rfl
theorem dX10_addWords_140 : decode cX10_addWords 140 = .ok (.iload 5, 2) := dec_of da_X10_addWords_1 (k := 31) rfl
theorem dX10_addWords_142 : decode cX10_addWords 142 = .ok (.iadd, 1) := dec_of da_X10_addWords_1 (k := 32) rfl
theorem dX10_addWords_143 : decode cX10_addWords 143 = .ok (.aload_n 0, 1) := dec_of da_X10_addWords_1 (k := 33) rfl
theorem dX10_addWords_144 : decode cX10_addWords 144 = .ok (.getfield 24, 3) := dec_of da_X10_addWords_1 (k := 34) rfl
theorem dX10_addWords_147 : decode cX10_addWords 147 = .ok (.iload 6, 2) := dec_of da_X10_addWords_1 (k := 35) rfl
theorem dX10_addWords_149 : decode cX10_addWords 149 = .ok (.iaload, 1) := dec_of da_X10_addWords_1 (k := 36) rfl
theorem dX10_addWords_150 : decode cX10_addWords 150 = .ok (.iadd, 1) := dec_of da_X10_addWords_1 (k := 37) rfl
theorem dX10_addWords_151 : decode cX10_addWords 151 = .ok (.iload 7, 2) := dec_of da_X10_addWords_1 (k := 38) rfl
theorem dX10_addWords_153 : decode cX10_addWords 153 = .ok (.iadd, 1) := dec_of da_X10_addWords_1 (k := 39) rfl
theorem dX10_addWords_154 : decode cX10_addWords 154 = .ok (.istore 8, 2) := dec_of da_X10_addWords_1 (k := 40) rfl
theorem dX10_addWords_156 : decode cX10_addWords 156 = .ok (.iload 4, 2) := dec_of da_X10_addWords_1 (k := 41) rfl
theorem dX10_addWords_158 : decode cX10_addWords 158 = .ok (.istore 5, 2) := dec_of da_X10_addWords_1 (k := 42) rfl
theorem dX10_addWords_160 : decode cX10_addWords 160 = .ok (.iload_n 3, 1) := dec_of da_X10_addWords_1 (k := 43) rfl
theorem dX10_addWords_161 : decode cX10_addWords 161 = .ok (.istore 4, 2) := dec_of da_X10_addWords_1 (k := 44) rfl
theorem dX10_addWords_163 : decode cX10_addWords 163 = .ok (.iload_n 2, 1) := dec_of da_X10_addWords_1 (k := 45) rfl
theorem dX10_addWords_164 : decode cX10_addWords 164 = .ok (.bipush 30, 2) := dec_of da_X10_addWords_1 (k := 46) rfl
theorem dX10_addWords_166 : decode cX10_addWords 166 = .ok (.ishl, 1) := dec_of da_X10_addWords_1 (k := 47) rfl
theorem dX10_addWords_167 : decode cX10_addWords 167 = .ok (.iload_n 2, 1) := dec_of da_X10_addWords_1 (k := 48) rfl
theorem dX10_addWords_168 : decode cX10_addWords 168 = .ok (.iconst 2, 1) := dec_of da_X10_addWords_1 (k := 49) rfl
theorem dX10_addWords_169 : decode cX10_addWords 169 = .ok (.iushr, 1) := dec_of da_X10_addWords_1 (k := 50) rfl
theorem dX10_addWords_170 : decode cX10_addWords 170 = .ok (.ior, 1) := dec_of da_X10_addWords_1 (k := 51) rfl
theorem dX10_addWords_171 : decode cX10_addWords 171 = .ok (.istore_n 3, 1) := dec_of da_X10_addWords_1 (k := 52) rfl
theorem dX10_addWords_172 : decode cX10_addWords 172 = .ok (.iload_n 1, 1) := dec_of da_X10_addWords_1 (k := 53) rfl
theorem dX10_addWords_173 : decode cX10_addWords 173 = .ok (.istore_n 2, 1) := dec_of da_X10_addWords_1 (k := 54) rfl
theorem dX10_addWords_174 : decode cX10_addWords 174 = .ok (.iload 8, 2) := dec_of da_X10_addWords_1 (k := 55) rfl
theorem dX10_addWords_176 : decode cX10_addWords 176 = .ok (.istore_n 1, 1) := dec_of da_X10_addWords_1 (k := 56) rfl
theorem dX10_addWords_177 : decode cX10_addWords 177 = .ok (.iinc 6 1, 3) := dec_of da_X10_addWords_1 (k := 57) rfl
theorem dX10_addWords_180 : decode cX10_addWords 180 = .ok (.goto (-140), 3) := dec_of da_X10_addWords_1 (k := 58) rfl
theorem dX10_addWords_183 : decode cX10_addWords 183 = .ok (.aload_n 0, 1) := dec_of da_X10_addWords_1 (k := 59) rfl
def dl_X10_addWords_2 : List (Nat × (Instr × Nat)) := [(184, (.getfield 27, 3)), (187, (.iconst 0, 1)), (188, (.dup2, 1)), (189, (.iaload, 1)), (190, (.iload_n 1, 1)), (191, (.iadd, 1)), (192, (.iastore, 1)), (193, (.aload_n 0, 1)), (194, (.getfield 27, 3)), (197, (.iconst 1, 1)), (198, (.dup2, 1)), (199, (.iaload, 1)), (200, (.iload_n 2, 1)), (201, (.iadd, 1)), (202, (.iastore, 1)), (203, (.aload_n 0, 1)), (204, (.getfield 27, 3)), (207, (.iconst 2, 1)), (208, (.dup2, 1)), (209, (.iaload, 1)), (210, (.iload_n 3, 1)), (211, (.iadd, 1)), (212, (.iastore, 1)), (213, (.aload_n 0, 1)), (214, (.getfield 27, 3)), (217, (.iconst 3, 1)), (218, (.dup2, 1)), (219, (.iaload, 1)), (220, (.iload 4, 2)), (222, (.iadd, 1)), (223, (.iastore, 1)), (224, (.aload_n 0, 1)), (225, (.getfield 27, 3)), (228, (.iconst 4, 1)), (229, (.dup2, 1)), (230, (.iaload, 1)), (231, (.iload 5, 2)), (233, (.iadd, 1)), (234, (.iastore, 1)), (235, (.return_, 1))]
set_option maxRecDepth 100000 in
theorem da_X10_addWords_2 : dl_X10_addWords_2.all (fun q => decide (decode cX10_addWords q.1 = .ok q.2)) = true := by decide +kernel
theorem dX10_addWords_184 : decode cX10_addWords 184 = .ok (.getfield 27, 3) := dec_of da_X10_addWords_2 (k := 0) rfl
theorem dX10_addWords_187 : decode cX10_addWords 187 = .ok (.iconst 0, 1) := dec_of da_X10_addWords_2 (k := 1) rfl
theorem dX10_addWords_188 : decode cX10_addWords 188 = .ok (.dup2, 1) := dec_of da_X10_addWords_2 (k := 2) rfl
theorem dX10_addWords_189 : decode cX10_addWords 189 = .ok (.iaload, 1) := dec_of da_X10_addWords_2 (k := 3) rfl
theorem dX10_addWords_190 : decode cX10_addWords 190 = .ok (.iload_n 1, 1) := dec_of da_X10_addWords_2 (k := 4) rfl
theorem dX10_addWords_191 : decode cX10_addWords 191 = .ok (.iadd, 1) := dec_of da_X10_addWords_2 (k := 5) rfl
theorem dX10_addWords_192 : decode cX10_addWords 192 = .ok (.iastore, 1) := dec_of da_X10_addWords_2 (k := 6) rfl
theorem dX10_addWords_193 : decode cX10_addWords 193 = .ok (.aload_n 0, 1) := dec_of da_X10_addWords_2 (k := 7) rfl
theorem dX10_addWords_194 : decode cX10_addWords 194 = .ok (.getfield 27, 3) := dec_of da_X10_addWords_2 (k := 8) rfl
theorem dX10_addWords_197 : decode cX10_addWords 197 = .ok (.iconst 1, 1) := dec_of da_X10_addWords_2 (k := 9) rfl
theorem dX10_addWords_198 : decode cX10_addWords 198 = .ok (.dup2, 1) := dec_of da_X10_addWords_2 (k := 10) rfl
theorem dX10_addWords_199 : decode cX10_addWords 199 = .ok (.iaload, 1) := dec_of da_X10_addWords_2 (k := 11) rfl
theorem dX10_addWords_200 : decode cX10_addWords 200 = .ok (.iload_n 2, 1) := dec_of da_X10_addWords_2 (k := 12) rfl
theorem dX10_addWords_201 : decode cX10_addWords 201 = .ok (.iadd, 1) := dec_of da_X10_addWords_2 (k := 13) rfl
theorem dX10_addWords_202 : decode cX10_addWords 202 = .ok (.iastore, 1) := dec_of da_X10_addWords_2 (k := 14) rfl
theorem dX10_addWords_203 : decode cX10_addWords 203 = .ok (.aload_n 0, 1) := dec_of da_X10_addWords_2 (k := 15) rfl
theorem dX10_addWords_204 : decode cX10_addWords 204 = .ok (.getfield 27, 3) := dec_of da_X10_addWords_2 (k := 16) rfl
theorem dX10_addWords_207 : decode cX10_addWords 207 = .ok (.iconst 2, 1) := dec_of da_X10_addWords_2 (k := 17) rfl
theorem dX10_addWords_208 : decode cX10_addWords 208 = .ok (.dup2, 1) := dec_of da_X10_addWords_2 (k := 18) rfl
theorem dX10_addWords_209 : decode cX10_addWords 209 = .ok (.iaload, 1) := dec_of da_X10_addWords_2 (k := 19) rfl
theorem dX10_addWords_210 : decode cX10_addWords 210 = .ok (.iload_n 3, 1) := dec_of da_X10_addWords_2 (k := 20) rfl
theorem dX10_addWords_211 : decode cX10_addWords 211 = .ok (.iadd, 1) := dec_of da_X10_addWords_2 (k := 21) rfl
theorem dX10_addWords_212 : decode cX10_addWords 212 = .ok (.iastore, 1) := dec_of da_X10_addWords_2 (k := 22) rfl
theorem dX10_addWords_213 : decode cX10_addWords 213 = .ok (.aload_n 0, 1) := dec_of da_X10_addWords_2 (k := 23) rfl
theorem dX10_addWords_214 : decode cX10_addWords 214 = .ok (.getfield 27, 3) := dec_of da_X10_addWords_2 (k := 24) rfl
theorem dX10_addWords_217 : decode cX10_addWords 217 = .ok (.iconst 3, 1) := dec_of da_X10_addWords_2 (k := 25) rfl
theorem dX10_addWords_218 : decode cX10_addWords 218 = .ok (.dup2, 1) := dec_of da_X10_addWords_2 (k := 26) rfl
theorem dX10_addWords_219 : decode cX10_addWords 219 = .ok (.iaload, 1) := dec_of da_X10_addWords_2 (k := 27) rfl
theorem dX10_addWords_220 : decode cX10_addWords 220 = .ok (.iload 4, 2) := dec_of da_X10_addWords_2 (k := 28) rfl
theorem dX10_addWords_222 : decode cX10_addWords 222 = .ok (.iadd, 1) := dec_of da_X10_addWords_2 (k := 29) rfl
theorem dX10_addWords_223 : decode cX10_addWords 223 = .ok (.iastore, 1) := dec_of da_X10_addWords_2 (k := 30) rfl
theorem dX10_addWords_224 : decode cX10_addWords 224 = .ok (.aload_n 0, 1) := dec_of da_X10_addWords_2 (k := 31) rfl
theorem dX10_addWords_225 : decode cX10_addWords 225 = .ok (.getfield 27, 3) := dec_of da_X10_addWords_2 (k := 32) rfl
theorem dX10_addWords_228 : decode cX10_addWords 228 = .ok (.iconst 4, 1) := dec_of da_X10_addWords_2 (k := 33) rfl
theorem dX10_addWords_229 : decode cX10_addWords 229 = .ok (.dup2, 1) := dec_of da_X10_addWords_2 (k := 34) rfl
theorem dX10_addWords_230 : decode cX10_addWords 230 = .ok (.iaload, 1) := dec_of da_X10_addWords_2 (k := 35) rfl
theorem dX10_addWords_231 : decode cX10_addWords 231 = .ok (.iload 5, 2) := dec_of da_X10_addWords_2 (k := 36) rfl
theorem dX10_addWords_233 : decode cX10_addWords 233 = .ok (.iadd, 1) := dec_of da_X10_addWords_2 (k := 37) rfl
theorem dX10_addWords_234 : decode cX10_addWords 234 = .ok (.iastore, 1) := dec_of da_X10_addWords_2 (k := 38) rfl
theorem dX10_addWords_235 : decode cX10_addWords 235 = .ok (.return_, 1) := dec_of da_X10_addWords_2 (k := 39) rfl
def dl_X11_init_0 : List (Nat × (Instr × Nat)) := [(0, (.aload_n 0, 1)), (1, (.invokespecial 1, 3)), (4, (.aload_n 0, 1)), (5, (.bipush 9, 2)), (7, (.anewarray 9, 3)), (10, (.putfield 11, 3)), (13, (.aload_n 0, 1)), (14, (.bipush 9, 2)), (16, (.anewarray 15, 3)), (19, (.putfield 17, 3)), (22, (.aload_n 0, 1)), (23, (.bipush 9, 2)), (25, (.anewarray 15, 3)), (28, (.putfield 21, 3)), (31, (.aload_n 0, 1)), (32, (.new 24, 3)), (35, (.dup, 1)), (36, (.invokespecial 26, 3)), (39, (.putfield 27, 3)), (42, (.aload_n 0, 1)), (43, (.new 31, 3)), (46, (.dup, 1)), (47, (.invokespecial 33, 3)), (50, (.putfield 34, 3)), (53, (.aload_n 0, 1)), (54, (.new 38, 3)), (57, (.dup, 1)), (58, (.invokespecial 40, 3)), (61, (.putfield 41, 3)), (64, (.aload_n 0, 1)), (65, (.new 45, 3)), (68, (.dup, 1)), (69, (.invokespecial 47, 3)), (72, (.putfield 48, 3)), (75, (.aload_n 0, 1)), (76, (.new 52, 3)), (79, (.dup, 1)), (80, (.invokespecial 54, 3)), (83, (.putfield 55, 3)), (86, (.aload_n 0, 1)), (87, (.sipush 300, 3)), (90, (.newarray .int, 2)), (92, (.putfield 59, 3)), (95, (.aload_n 0, 1)), (96, (.sipush 200, 3)), (99, (.newarray .int, 2)), (101, (.putfield 63, 3)), (104, (.aload_n 0, 1)), (105, (.sipush 255, 3)), (108, (.putfield 66, 3)), (111, (.aload_n 0, 1)), (112, (.iconst 4, 1)), (113, (.putfield 70, 3)), (116, (.aload_n 0, 1)), (117, (.bipush 14, 2)), (119, (.newarray .int, 2)), (121, (.putfield 73, 3)), (124, (.aload_n 0, 1)), (125, (.bipush 6, 2)), (127, (.newarray .int, 2))]
set_option maxRecDepth 100000 in
theorem da_X11_init_0 : dl_X11_init_0.all (fun q => decide (decode cX11_init q.1 = .ok q.2)) = true := by decide +kernel
theorem dX11_init_0 : decode cX11_init 0 = .ok (.aload_n 0, 1) := dec_of da_X11_init_0 (k := 0) rfl
theorem dX11_init_1 : decode cX11_init 1 = .ok (.invokespecial 1, 3) := dec_of da_X11_init_0 (k := 1) rfl
theorem dX11_init_4 : decode cX11_init 4 = .ok (.aload_n 0, 1) := dec_of da_X11_init_0 (k := 2) rfl
theorem dX11_init_5 : decode cX11_init 5 = .ok (.bipush 9, 2) := dec_of da_X11_init_0 (k := 3) rfl
theorem dX11_init_7 : decode cX11_init 7 = .ok (.anewarray 9, 3) := dec_of da_X11_init_0 (k := 4) rfl
theorem dX11_init_10 : decode cX11_init 10 = .ok (.putfield 11, 3) := dec_of da_X11_init_0 (k := 5) rfl
theorem dX11_init_13 : decode cX11_init 13 = .ok (.aload_n 0, 1) := dec_of da_X11_init_0 (k := 6) rfl
theorem dX11_init_14 : decode cX11_init 14 = .ok (.bipush 9, 2) := dec_of da_X11_init_0 (k := 7) rfl
theorem dX11_init_16 : decode cX11_init 16 = .ok (.anewarray 15, 3) := dec_of da_X11_init_0 (k := 8) rfl
theorem dX11_init_19 : decode cX11_init 19 = .ok (.putfield 17, 3) := dec_of da_X11_init_0 (k := 9) rfl
theorem dX11_init_22 : decode cX11_init 22 = .ok (.aload_n 0, 1) := dec_of da_X11_init_0 (k := 10) rfl
theorem dX11_init_23 : decode cX11_init 23 = .ok (.bipush 9, 2) := dec_of da_X11_init_0 (k := 11) rfl
theorem dX11_init_25 : decode cX11_init 25 = .ok (.anewarray 15, 3) := dec_of da_X11_init_0 (k := 12) rfl
theorem dX11_init_28 : decode cX11_init 28 = .ok (.putfield 21, 3) := dec_of da_X11_init_0 (k := 13) rfl
theorem dX11_init_31 : decode cX11_init 31 = .ok (.aload_n 0, 1) := dec_of da_X11_init_0 (k := 14) rfl
theorem dX11_init_32 : decode cX11_init 32 = .ok (.new 24, 3) := dec_of da_X11_init_0 (k := 15) rfl
theorem dX11_init_35 : decode cX11_init 35 = .ok (.dup, 1) := dec_of da_X11_init_0 (k := 16) rfl
theorem dX11_init_36 : decode cX11_init 36 = .ok (.invokespecial 26, 3) := dec_of da_X11_init_0 (k := 17) rfl
theorem dX11_init_39 : decode cX11_init 39 = .ok (.putfield 27, 3) := dec_of da_X11_init_0 (k := 18) rfl
theorem dX11_init_42 : decode cX11_init 42 = .ok (.aload_n 0, 1) := dec_of da_X11_init_0 (k := 19) rfl
theorem dX11_init_43 : decode cX11_init 43 = .ok (.new 31, 3) := dec_of da_X11_init_0 (k := 20) rfl
theorem dX11_init_46 : decode cX11_init 46 = .ok (.dup, 1) := dec_of da_X11_init_0 (k := 21) rfl
theorem dX11_init_47 : decode cX11_init 47 = .ok (.invokespecial 33, 3) := dec_of da_X11_init_0 (k := 22) rfl
theorem dX11_init_50 : decode cX11_init 50 = .ok (.putfield 34, 3) := dec_of da_X11_init_0 (k := 23) rfl
theorem dX11_init_53 : decode cX11_init 53 = .ok (.aload_n 0, 1) := dec_of da_X11_init_0 (k := 24) rfl
theorem dX11_init_54 : decode cX11_init 54 = .ok (.new 38, 3) := dec_of da_X11_init_0 (k := 25) rfl
theorem dX11_init_57 : decode cX11_init 57 = .ok (.dup, 1) := dec_of da_X11_init_0 (k := 26) rfl
theorem dX11_init_58 : decode cX11_init 58 = .ok (.invokespecial 40, 3) := dec_of da_X11_init_0 (k := 27) rfl
theorem dX11_init_61 : decode cX11_init 61 = .ok (.putfield 41, 3) := dec_of da_X11_init_0 (k := 28) rfl
theorem dX11_init_64 : decode cX11_init 64 = .ok (.aload_n 0, 1) := dec_of da_X11_init_0 (k := 29) rfl
theorem dX11_init_65 : decode cX11_init 65 = .ok (.new 45, 3) := dec_of da_X11_init_0 (k := 30) rfl
theorem dX11_init_68 : decode cX11_init 68 = .ok (.dup, 1) := dec_of da_X11_init_0 (k := 31) rfl
theorem dX11_init_69 : decode cX11_init 69 = .ok (.invokespecial 47, 3) := dec_of da_X11_init_0 (k := 32) rfl
theorem dX11_init_72 : decode cX11_init 72 = .ok (.putfield 48, 3) := dec_of da_X11_init_0 (k := 33) rfl
theorem dX11_init_75 : decode cX11_init 75 = .ok (.aload_n 0, 1) := dec_of da_X11_init_0 (k := 34) rfl
theorem dX11_init_76 : decode cX11_init 76 = .ok (.new 52, 3) := dec_of da_X11_init_0 (k := 35) rfl
theorem dX11_init_79 : decode cX11_init 79 = .ok (.dup, 1) := dec_of da_X11_init_0 (k := 36) rfl
theorem dX11_init_80 : decode cX11_init 80 = .ok (.invokespecial 54, 3) := dec_of da_X11_init_0 (k := 37) rfl
theorem dX11_init_83 : decode cX11_init 83 = .ok (.putfield 55, 3) := dec_of da_X11_init_0 (k := 38) rfl
theorem dX11_init_86 : decode cX11_init 86 = .ok (.aload_n 0, 1) := dec_of da_X11_init_0 (k := 39) rfl
theorem dX11_init_87 : decode cX11_init 87 = .ok (.sipush 300, 3) := dec_of da_X11_init_0 (k := 40) rfl
theorem dX11_init_90 : decode cX11_init 90 = .ok (.newarray .int, 2) := dec_of da_X11_init_0 (k := 41) rfl
theorem dX11_init_92 : decode cX11_init 92 = .ok (.putfield 59, 3) := dec_of da_X11_init_0 (k := 42) rfl
theorem dX11_init_95 : decode cX11_init 95 = .ok (.aload_n 0, 1) := dec_of da_X11_init_0 (k := 43) rfl
theorem dX11_init_96 : decode cX11_init 96 = .ok (.sipush 200, 3) := dec_of da_X11_init_0 (k := 44) rfl
theorem dX11_init_99 : decode cX11_init 99 = .ok (.newarray .int, 2) := dec_of da_X11_init_0 (k := 45) rfl
theorem dX11_init_101 : decode cX11_init 101 = .ok (.putfield 63, 3) := dec_of da_X11_init_0 (k := 46) rfl
theorem dX11_init_104 : decode cX11_init 104 = .ok (.aload_n 0, 1) := dec_of da_X11_init_0 (k := 47) rfl
theorem dX11_init_105 : decode cX11_init 105 = .ok (.sipush 255, 3) := dec_of da_X11_init_0 (k := 48) rfl
theorem dX11_init_108 : decode cX11_init 108 = .ok (.putfield 66, 3) := dec_of da_X11_init_0 (k := 49) rfl
theorem dX11_init_111 : decode cX11_init 111 = .ok (.aload_n 0, 1) := dec_of da_X11_init_0 (k := 50) rfl
theorem dX11_init_112 : decode cX11_init 112 = .ok (.iconst 4, 1) := dec_of da_X11_init_0 (k := 51) rfl
theorem dX11_init_113 : decode cX11_init 113 = .ok (.putfield 70, 3) := dec_of da_X11_init_0 (k := 52) rfl
theorem dX11_init_116 : decode cX11_init 116 = .ok (.aload_n 0, 1) := dec_of da_X11_init_0 (k := 53) rfl
theorem dX11_init_117 : decode cX11_init 117 = .ok (.bipush 14, 2) := dec_of da_X11_init_0 (k := 54) rfl
theorem dX11_init_119 : decode cX11_init 119 = .ok (.newarray .int, 2) := dec_of da_X11_init_0 (k := 55) rfl
theorem dX11_init_121 : decode cX11_init 121 = .ok (.putfield 73, 3) := dec_of da_X11_init_0 (k := 56) rfl
theorem dX11_init_124 : decode cX11_init 124 = .ok (.aload_n 0, 1) := dec_of da_X11_init_0 (k := 57) rfl
theorem dX11_init_125 : decode cX11_init 125 = .ok (.bipush 6, 2) := dec_of da_X11_init_0 (k := 58) rfl
theorem dX11_init_127 : decode cX11_init 127 = .ok (.newarray .int, 2) := dec_of da_X11_init_0 (k := 59) rfl
def dl_X11_init_1 : List (Nat × (Instr × Nat)) := [(129, (.putfield 76, 3)), (132, (.iconst 0, 1)), (133, (.istore_n 1, 1)), (134, (.iload_n 1, 1)), (135, (.bipush 9, 2)), (137, (.if_icmp .ge 49, 3)), (140, (.aload_n 0, 1)), (141, (.getfield 11, 3)), (144, (.iload_n 1, 1)), (145, (.new 9, 3)), (148, (.dup, 1)), (149, (.iload_n 1, 1)), (150, (.invokespecial 79, 3)), (153, (.aastore, 1)), (154, (.aload_n 0, 1)), (155, (.getfield 17, 3)), (158, (.iload_n 1, 1)), (159, (.new 15, 3)), (162, (.dup, 1)), (163, (.invokespecial 82, 3)), (166, (.aastore, 1)), (167, (.aload_n 0, 1)), (168, (.getfield 21, 3)), (171, (.iload_n 1, 1)), (172, (.new 15, 3)), (175, (.dup, 1)), (176, (.invokespecial 82, 3)), (179, (.aastore, 1)), (180, (.iinc 1 1, 3)), (183, (.goto (-49), 3)), (186, (.return_, 1))]
set_option maxRecDepth 100000 in
theorem da_X11_init_1 : dl_X11_init_1.all (fun q => decide (decode cX11_init q.1 = .ok q.2)) = true := by decide +kernel
theorem dX11_init_129 : decode cX11_init 129 = .ok (.putfield 76, 3) := dec_of da_X11_init_1 (k := 0) rfl
theorem dX11_init_132 : decode cX11_init 132 = .ok (.iconst 0, 1) := dec_of da_X11_init_1 (k := 1) rfl
theorem dX11_init_133 : decode cX11_init 133 = .ok (.istore_n 1, 1) := dec_of da_X11_init_1 (k := 2) rfl
theorem dX11_init_134 : decode cX11_init 134 = .ok (.iload_n 1, 1) := dec_of da_X11_init_1 (k := 3) rfl
theorem dX11_init_135 : decode cX11_init 135 = .ok (.bipush 9, 2) := dec_of da_X11_init_1 (k := 4) rfl
theorem dX11_init_137 : decode cX11_init 137 = .ok (.if_icmp .ge 49, 3) := dec_of da_X11_init_1 (k := 5) rfl
theorem dX11_init_140 : decode cX11_init 140 = .ok (.aload_n 0, 1) := dec_of da_X11_init_1 (k := 6) rfl
theorem dX11_init_141 : decode cX11_init 141 = .ok (.getfield 11, 3) := dec_of da_X11_init_1 (k := 7) rfl
theorem dX11_init_144 : decode cX11_init 144 = .ok (.iload_n 1, 1) := dec_of da_X11_init_1 (k := 8) rfl
theorem dX11_init_145 : decode cX11_init 145 = .ok (.new 9, 3) := dec_of da_X11_init_1 (k := 9) rfl
theorem dX11_init_148 : decode cX11_init 148 = .ok (.dup, 1) := dec_of da_X11_init_1 (k := 10) rfl
theorem dX11_init_149 : decode cX11_init 149 = .ok (.iload_n 1, 1) := dec_of da_X11_init_1 (k := 11) rfl
theorem dX11_init_150 : decode cX11_init 150 = .ok (.invokespecial 79, 3) := dec_of da_X11_init_1 (k := 12) rfl
theorem dX11_init_153 : decode cX11_init 153 = .ok (.aastore, 1) := dec_of da_X11_init_1 (k := 13) rfl
theorem dX11_init_154 : decode cX11_init 154 = .ok (.aload_n 0, 1) := dec_of da_X11_init_1 (k := 14) rfl
theorem dX11_init_155 : decode cX11_init 155 = .ok (.getfield 17, 3) := dec_of da_X11_init_1 (k := 15) rfl
theorem dX11_init_158 : decode cX11_init 158 = .ok (.iload_n 1, 1) := dec_of da_X11_init_1 (k := 16) rfl
theorem dX11_init_159 : decode cX11_init 159 = .ok (.new 15, 3) := dec_of da_X11_init_1 (k := 17) rfl
theorem dX11_init_162 : decode cX11_init 162 = .ok (.dup, 1) := dec_of da_X11_init_1 (k := 18) rfl
theorem dX11_init_163 : decode cX11_init 163 = .ok (.invokespecial 82, 3) := dec_of da_X11_init_1 (k := 19) rfl
theorem dX11_init_166 : decode cX11_init 166 = .ok (.aastore, 1) := dec_of da_X11_init_1 (k := 20) rfl
theorem dX11_init_167 : decode cX11_init 167 = .ok (.aload_n 0, 1) := dec_of da_X11_init_1 (k := 21) rfl
theorem dX11_init_168 : decode cX11_init 168 = .ok (.getfield 21, 3) := dec_of da_X11_init_1 (k := 22) rfl
theorem dX11_init_171 : decode cX11_init 171 = .ok (.iload_n 1, 1) := dec_of da_X11_init_1 (k := 23) rfl
theorem dX11_init_172 : decode cX11_init 172 = .ok (.new 15, 3) := dec_of da_X11_init_1 (k := 24) rfl
theorem dX11_init_175 : decode cX11_init 175 = .ok (.dup, 1) := dec_of da_X11_init_1 (k := 25) rfl
theorem dX11_init_176 : decode cX11_init 176 = .ok (.invokespecial 82, 3) := dec_of da_X11_init_1 (k := 26) rfl
theorem dX11_init_179 : decode cX11_init 179 = .ok (.aastore, 1) := dec_of da_X11_init_1 (k := 27) rfl
theorem dX11_init_180 : decode cX11_init 180 = .ok (.iinc 1 1, 3) := dec_of da_X11_init_1 (k := 28) rfl
theorem dX11_init_183 : decode cX11_init 183 = .ok (.goto (-49), 3) := dec_of da_X11_init_1 (k := 29) rfl
theorem dX11_init_186 : decode cX11_init 186 = .ok (.return_, 1) := dec_of da_X11_init_1 (k := 30) rfl
def dl_X11_feed_0 : List (Nat × (Instr × Nat)) := [(0, (.aload_n 0, 1)), (1, (.getfield 83, 3)), (4, (.bipush 20, 2)), (6, (.iadd, 1)), (7, (.sipush 300, 3)), (10, (.if_icmp .le 5, 3)), (13, (.iconst (-1), 1)), (14, (.ireturn, 1)), (15, (.aload_n 0, 1)), (16, (.iload_n 1, 1)), (17, (.invokevirtual 86, 3)), (20, (.aload_n 0, 1)), (21, (.iload_n 2, 1)), (22, (.invokevirtual 86, 3)), (25, (.aload_n 0, 1)), (26, (.iload_n 3, 1)), (27, (.invokevirtual 86, 3)), (30, (.aload_n 0, 1)), (31, (.iload 4, 2)), (33, (.invokevirtual 86, 3)), (36, (.aload_n 0, 1)), (37, (.iload 5, 2)), (39, (.invokevirtual 86, 3)), (42, (.aload_n 0, 1)), (43, (.getfield 83, 3)), (46, (.ireturn, 1))]
set_option maxRecDepth 100000 in
theorem da_X11_feed_0 : dl_X11_feed_0.all (fun q => decide (decode cX11_feed q.1 = .ok q.2)) = true := by decide +kernel
theorem dX11_feed_0 : decode cX11_feed 0 = .ok (.aload_n 0, 1) := dec_of da_X11_feed_0 (k := 0) rfl
theorem dX11_feed_1 : decode cX11_feed 1 = .ok (.getfield 83, 3) := dec_of da_X11_feed_0 (k := 1) rfl
theorem dX11_feed_4 : decode cX11_feed 4 = .ok (.bipush 20, 2) := dec_of da_X11_feed_0 (k := 2) rfl
theorem dX11_feed_6 : decode cX11_feed 6 = .ok (.iadd, 1) := dec_of da_X11_feed_0 (k := 3) rfl
theorem dX11_feed_7 : decode cX11_feed 7 = .ok (.sipush 300, 3) := dec_of da_X11_feed_0 (k := 4) rfl
theorem dX11_feed_10 : decode cX11_feed 10 = .ok (.if_icmp .le 5, 3) := dec_of da_X11_feed_0 (k := 5) rfl
theorem dX11_feed_13 : decode cX11_feed 13 = .ok (.iconst (-1), 1) := dec_of da_X11_feed_0 (k := 6) rfl
theorem dX11_feed_14 : decode cX11_feed 14 = .ok (.ireturn, 1) := dec_of da_X11_feed_0 (k := 7) rfl
theorem dX11_feed_15 : decode cX11_feed 15 = .ok (.aload_n 0, 1) := dec_of da_X11_feed_0 (k := 8) rfl
theorem dX11_feed_16 : decode cX11_feed 16 = .ok (.iload_n 1, 1) := dec_of da_X11_feed_0 (k := 9) rfl
theorem dX11_feed_17 : decode cX11_feed 17 = .ok (.invokevirtual 86, 3) := dec_of da_X11_feed_0 (k := 10) rfl
theorem dX11_feed_20 : decode cX11_feed 20 = .ok (.aload_n 0, 1) := dec_of da_X11_feed_0 (k := 11) rfl
theorem dX11_feed_21 : decode cX11_feed 21 = .ok (.iload_n 2, 1) := dec_of da_X11_feed_0 (k := 12) rfl
theorem dX11_feed_22 : decode cX11_feed 22 = .ok (.invokevirtual 86, 3) := dec_of da_X11_feed_0 (k := 13) rfl
theorem dX11_feed_25 : decode cX11_feed 25 = .ok (.aload_n 0, 1) := dec_of da_X11_feed_0 (k := 14) rfl
theorem dX11_feed_26 : decode cX11_feed 26 = .ok (.iload_n 3, 1) := dec_of da_X11_feed_0 (k := 15) rfl
theorem dX11_feed_27 : decode cX11_feed 27 = .ok (.invokevirtual 86, 3) := dec_of da_X11_feed_0 (k := 16) rfl
theorem dX11_feed_30 : decode cX11_feed 30 = .ok (.aload_n 0, 1) := dec_of da_X11_feed_0 (k := 17) rfl
theorem dX11_feed_31 : decode cX11_feed 31 = .ok (.iload 4, 2) := dec_of da_X11_feed_0 (k := 18) rfl
theorem dX11_feed_33 : decode cX11_feed 33 = .ok (.invokevirtual 86, 3) := dec_of da_X11_feed_0 (k := 19) rfl
theorem dX11_feed_36 : decode cX11_feed 36 = .ok (.aload_n 0, 1) := dec_of da_X11_feed_0 (k := 20) rfl
theorem dX11_feed_37 : decode cX11_feed 37 = .ok (.iload 5, 2) := dec_of da_X11_feed_0 (k := 21) rfl
theorem dX11_feed_39 : decode cX11_feed 39 = .ok (.invokevirtual 86, 3) := dec_of da_X11_feed_0 (k := 22) rfl
theorem dX11_feed_42 : decode cX11_feed 42 = .ok (.aload_n 0, 1) := dec_of da_X11_feed_0 (k := 23) rfl
theorem dX11_feed_43 : decode cX11_feed 43 = .ok (.getfield 83, 3) := dec_of da_X11_feed_0 (k := 24) rfl
theorem dX11_feed_46 : decode cX11_feed 46 = .ok (.ireturn, 1) := dec_of da_X11_feed_0 (k := 25) rfl
def dl_X11_feedNumber_0 : List (Nat × (Instr × Nat)) := [(0, (.aload_n 0, 1)), (1, (.getfield 59, 3)), (4, (.aload_n 0, 1)), (5, (.getfield 83, 3)), (8, (.iconst 4, 1)), (9, (.iload_n 1, 1)), (10, (.i2l, 1)), (11, (.invokestatic 89, 3)), (14, (.aload_n 0, 1)), (15, (.dup, 1)), (16, (.getfield 83, 3)), (19, (.iconst 4, 1)), (20, (.iadd, 1)), (21, (.putfield 83, 3)), (24, (.return_, 1))]
set_option maxRecDepth 100000 in
theorem da_X11_feedNumber_0 : dl_X11_feedNumber_0.all (fun q => decide (decode cX11_feedNumber q.1 = .ok q.2)) = true := by decide +kernel
theorem dX11_feedNumber_0 : decode cX11_feedNumber 0 = .ok (.aload_n 0, 1) := dec_of da_X11_feedNumber_0 (k := 0) rfl
theorem dX11_feedNumber_1 : decode cX11_feedNumber 1 = .ok (.getfield 59, 3) := dec_of da_X11_feedNumber_0 (k := 1) rfl
theorem dX11_feedNumber_4 : decode cX11_feedNumber 4 = .ok (.aload_n 0, 1) := dec_of da_X11_feedNumber_0 (k := 2) rfl
theorem dX11_feedNumber_5 : decode cX11_feedNumber 5 = .ok (.getfield 83, 3) := dec_of da_X11_feedNumber_0 (k := 3) rfl
theorem dX11_feedNumber_8 : decode cX11_feedNumber 8 = .ok (.iconst 4, 1) := dec_of da_X11_feedNumber_0 (k := 4) rfl
theorem dX11_feedNumber_9 : decode cX11_feedNumber 9 = .ok (.iload_n 1, 1) := dec_of da_X11_feedNumber_0 (k := 5) rfl
theorem dX11_feedNumber_10 : decode cX11_feedNumber 10 = .ok (.i2l, 1) := dec_of da_X11_feedNumber_0 (k := 6) rfl
theorem dX11_feedNumber_11 : decode cX11_feedNumber 11 = .ok (.invokestatic 89, 3) := dec_of da_X11_feedNumber_0 (k := 7) rfl
theorem dX11_feedNumber_14 : decode cX11_feedNumber 14 = .ok (.aload_n 0, 1) := dec_of da_X11_feedNumber_0 (k := 8) rfl
theorem dX11_feedNumber_15 : decode cX11_feedNumber 15 = .ok (.dup, 1) := dec_of da_X11_feedNumber_0 (k := 9) rfl
theorem dX11_feedNumber_16 : decode cX11_feedNumber 16 = .ok (.getfield 83, 3) := dec_of da_X11_feedNumber_0 (k := 10) rfl
theorem dX11_feedNumber_19 : decode cX11_feedNumber 19 = .ok (.iconst 4, 1) := dec_of da_X11_feedNumber_0 (k := 11) rfl
theorem dX11_feedNumber_20 : decode cX11_feedNumber 20 = .ok (.iadd, 1) := dec_of da_X11_feedNumber_0 (k := 12) rfl
theorem dX11_feedNumber_21 : decode cX11_feedNumber 21 = .ok (.putfield 83, 3) := dec_of da_X11_feedNumber_0 (k := 13) rfl
theorem dX11_feedNumber_24 : decode cX11_feedNumber 24 = .ok (.return_, 1) := dec_of da_X11_feedNumber_0 (k := 14) rfl
def dl_X11_end_0 : List (Nat × (Instr × Nat)) := [(0, (.iload_n 1, 1)), (1, (.ifCond .lt 11, 3)), (4, (.iload_n 1, 1)), (5, (.aload_n 0, 1)), (6, (.getfield 83, 3)), (9, (.if_icmp .le 5, 3)), (12, (.iconst (-1), 1)), (13, (.ireturn, 1)), (14, (.aload_n 0, 1)), (15, (.iload_n 1, 1)), (16, (.putfield 83, 3)), (19, (.iload_n 1, 1)), (20, (.ireturn, 1))]
set_option maxRecDepth 100000 in
theorem da_X11_end_0 : dl_X11_end_0.all (fun q => decide (decode cX11_end q.1 = .ok q.2)) = true := by decide +kernel
theorem dX11_end_0 : decode cX11_end 0 = .ok (.iload_n 1, 1) := dec_of da_X11_end_0 (k := 0) rfl
theorem dX11_end_1 : decode cX11_end 1 = .ok (.ifCond .lt 11, 3) := dec_of da_X11_end_0 (k := 1) rfl
theorem dX11_end_4 : decode cX11_end 4 = .ok (.iload_n 1, 1) := dec_of da_X11_end_0 (k := 2) rfl
theorem dX11_end_5 : decode cX11_end 5 = .ok (.aload_n 0, 1) := dec_of da_X11_end_0 (k := 3) rfl
theorem dX11_end_6 : decode cX11_end 6 = .ok (.getfield 83, 3) := dec_of da_X11_end_0 (k := 4) rfl
theorem dX11_end_9 : decode cX11_end 9 = .ok (.if_icmp .le 5, 3) := dec_of da_X11_end_0 (k := 5) rfl
theorem dX11_end_12 : decode cX11_end 12 = .ok (.iconst (-1), 1) := dec_of da_X11_end_0 (k := 6) rfl
theorem dX11_end_13 : decode cX11_end 13 = .ok (.ireturn, 1) := dec_of da_X11_end_0 (k := 7) rfl
theorem dX11_end_14 : decode cX11_end 14 = .ok (.aload_n 0, 1) := dec_of da_X11_end_0 (k := 8) rfl
theorem dX11_end_15 : decode cX11_end 15 = .ok (.iload_n 1, 1) := dec_of da_X11_end_0 (k := 9) rfl
theorem dX11_end_16 : decode cX11_end 16 = .ok (.putfield 83, 3) := dec_of da_X11_end_0 (k := 10) rfl
theorem dX11_end_19 : decode cX11_end 19 = .ok (.iload_n 1, 1) := dec_of da_X11_end_0 (k := 11) rfl
theorem dX11_end_20 : decode cX11_end 20 = .ok (.ireturn, 1) := dec_of da_X11_end_0 (k := 12) rfl
def dl_X11_alter_0 : List (Nat × (Instr × Nat)) := [(0, (.iload_n 1, 1)), (1, (.ifCond .lt 23, 3)), (4, (.iload_n 1, 1)), (5, (.aload_n 0, 1)), (6, (.getfield 83, 3)), (9, (.if_icmp .ge 15, 3)), (12, (.iload_n 2, 1)), (13, (.iconst 1, 1)), (14, (.if_icmp .lt 10, 3)), (17, (.iload_n 2, 1)), (18, (.sipush 255, 3)), (21, (.if_icmp .le 5, 3)), (24, (.iconst (-1), 1)), (25, (.ireturn, 1)), (26, (.aload_n 0, 1)), (27, (.getfield 59, 3)), (30, (.iload_n 1, 1)), (31, (.dup2, 1)), (32, (.iaload, 1)), (33, (.iload_n 2, 1)), (34, (.ixor, 1)), (35, (.iastore, 1)), (36, (.aload_n 0, 1)), (37, (.getfield 59, 3)), (40, (.iload_n 1, 1)), (41, (.iaload, 1)), (42, (.ireturn, 1))]
set_option maxRecDepth 100000 in
theorem da_X11_alter_0 : dl_X11_alter_0.all (fun q => decide (decode cX11_alter q.1 = .ok q.2)) = true := by decide +kernel
theorem dX11_alter_0 : decode cX11_alter 0 = .ok (.iload_n 1, 1) := dec_of da_X11_alter_0 (k := 0) rfl
theorem dX11_alter_1 : decode cX11_alter 1 = .ok (.ifCond .lt 23, 3) := dec_of da_X11_alter_0 (k := 1) rfl
theorem dX11_alter_4 : decode cX11_alter 4 = .ok (.iload_n 1, 1) := dec_of da_X11_alter_0 (k := 2) rfl
theorem dX11_alter_5 : decode cX11_alter 5 = .ok (.aload_n 0, 1) := dec_of da_X11_alter_0 (k := 3) rfl
theorem dX11_alter_6 : decode cX11_alter 6 = .ok (.getfield 83, 3) := dec_of da_X11_alter_0 (k := 4) rfl
theorem dX11_alter_9 : decode cX11_alter 9 = .ok (.if_icmp .ge 15, 3) := dec_of da_X11_alter_0 (k := 5) rfl
theorem dX11_alter_12 : decode cX11_alter 12 = .ok (.iload_n 2, 1) := dec_of da_X11_alter_0 (k := 6) rfl
theorem dX11_alter_13 : decode cX11_alter 13 = .ok (.iconst 1, 1) := dec_of da_X11_alter_0 (k := 7) rfl
theorem dX11_alter_14 : decode cX11_alter 14 = .ok (.if_icmp .lt 10, 3) := dec_of da_X11_alter_0 (k := 8) rfl
theorem dX11_alter_17 : decode cX11_alter 17 = .ok (.iload_n 2, 1) := dec_of da_X11_alter_0 (k := 9) rfl
theorem dX11_alter_18 : decode cX11_alter 18 = .ok (.sipush 255, 3) := dec_of da_X11_alter_0 (k := 10) rfl
theorem dX11_alter_21 : decode cX11_alter 21 = .ok (.if_icmp .le 5, 3) := dec_of da_X11_alter_0 (k := 11) rfl
theorem dX11_alter_24 : decode cX11_alter 24 = .ok (.iconst (-1), 1) := dec_of da_X11_alter_0 (k := 12) rfl
theorem dX11_alter_25 : decode cX11_alter 25 = .ok (.ireturn, 1) := dec_of da_X11_alter_0 (k := 13) rfl
theorem dX11_alter_26 : decode cX11_alter 26 = .ok (.aload_n 0, 1) := dec_of da_X11_alter_0 (k := 14) rfl
theorem dX11_alter_27 : decode cX11_alter 27 = .ok (.getfield 59, 3) := dec_of da_X11_alter_0 (k := 15) rfl
theorem dX11_alter_30 : decode cX11_alter 30 = .ok (.iload_n 1, 1) := dec_of da_X11_alter_0 (k := 16) rfl
theorem dX11_alter_31 : decode cX11_alter 31 = .ok (.dup2, 1) := dec_of da_X11_alter_0 (k := 17) rfl
theorem dX11_alter_32 : decode cX11_alter 32 = .ok (.iaload, 1) := dec_of da_X11_alter_0 (k := 18) rfl
theorem dX11_alter_33 : decode cX11_alter 33 = .ok (.iload_n 2, 1) := dec_of da_X11_alter_0 (k := 19) rfl
theorem dX11_alter_34 : decode cX11_alter 34 = .ok (.ixor, 1) := dec_of da_X11_alter_0 (k := 20) rfl
theorem dX11_alter_35 : decode cX11_alter 35 = .ok (.iastore, 1) := dec_of da_X11_alter_0 (k := 21) rfl
theorem dX11_alter_36 : decode cX11_alter 36 = .ok (.aload_n 0, 1) := dec_of da_X11_alter_0 (k := 22) rfl
theorem dX11_alter_37 : decode cX11_alter 37 = .ok (.getfield 59, 3) := dec_of da_X11_alter_0 (k := 23) rfl
theorem dX11_alter_40 : decode cX11_alter 40 = .ok (.iload_n 1, 1) := dec_of da_X11_alter_0 (k := 24) rfl
theorem dX11_alter_41 : decode cX11_alter 41 = .ok (.iaload, 1) := dec_of da_X11_alter_0 (k := 25) rfl
theorem dX11_alter_42 : decode cX11_alter 42 = .ok (.ireturn, 1) := dec_of da_X11_alter_0 (k := 26) rfl
def dl_X11_check_0 : List (Nat × (Instr × Nat)) := [(0, (.aload_n 0, 1)), (1, (.getfield 83, 3)), (4, (.iconst 4, 1)), (5, (.iadd, 1)), (6, (.sipush 300, 3)), (9, (.if_icmp .le 5, 3)), (12, (.iconst (-1), 1)), (13, (.ireturn, 1)), (14, (.aload_n 0, 1)), (15, (.getfield 59, 3)), (18, (.aload_n 0, 1)), (19, (.getfield 83, 3)), (22, (.invokestatic 95, 3)), (25, (.aload_n 0, 1)), (26, (.dup, 1)), (27, (.getfield 83, 3)), (30, (.iconst 4, 1)), (31, (.iadd, 1)), (32, (.putfield 83, 3)), (35, (.aload_n 0, 1)), (36, (.getfield 83, 3)), (39, (.ireturn, 1))]
set_option maxRecDepth 100000 in
theorem da_X11_check_0 : dl_X11_check_0.all (fun q => decide (decode cX11_check q.1 = .ok q.2)) = true := by decide +kernel
theorem dX11_check_0 : decode cX11_check 0 = .ok (.aload_n 0, 1) := dec_of da_X11_check_0 (k := 0) rfl
theorem dX11_check_1 : decode cX11_check 1 = .ok (.getfield 83, 3) := dec_of da_X11_check_0 (k := 1) rfl
theorem dX11_check_4 : decode cX11_check 4 = .ok (.iconst 4, 1) := dec_of da_X11_check_0 (k := 2) rfl
theorem dX11_check_5 : decode cX11_check 5 = .ok (.iadd, 1) := dec_of da_X11_check_0 (k := 3) rfl
theorem dX11_check_6 : decode cX11_check 6 = .ok (.sipush 300, 3) := dec_of da_X11_check_0 (k := 4) rfl
theorem dX11_check_9 : decode cX11_check 9 = .ok (.if_icmp .le 5, 3) := dec_of da_X11_check_0 (k := 5) rfl
theorem dX11_check_12 : decode cX11_check 12 = .ok (.iconst (-1), 1) := dec_of da_X11_check_0 (k := 6) rfl
theorem dX11_check_13 : decode cX11_check 13 = .ok (.ireturn, 1) := dec_of da_X11_check_0 (k := 7) rfl
theorem dX11_check_14 : decode cX11_check 14 = .ok (.aload_n 0, 1) := dec_of da_X11_check_0 (k := 8) rfl
theorem dX11_check_15 : decode cX11_check 15 = .ok (.getfield 59, 3) := dec_of da_X11_check_0 (k := 9) rfl
theorem dX11_check_18 : decode cX11_check 18 = .ok (.aload_n 0, 1) := dec_of da_X11_check_0 (k := 10) rfl
theorem dX11_check_19 : decode cX11_check 19 = .ok (.getfield 83, 3) := dec_of da_X11_check_0 (k := 11) rfl
theorem dX11_check_22 : decode cX11_check 22 = .ok (.invokestatic 95, 3) := dec_of da_X11_check_0 (k := 12) rfl
theorem dX11_check_25 : decode cX11_check 25 = .ok (.aload_n 0, 1) := dec_of da_X11_check_0 (k := 13) rfl
theorem dX11_check_26 : decode cX11_check 26 = .ok (.dup, 1) := dec_of da_X11_check_0 (k := 14) rfl
theorem dX11_check_27 : decode cX11_check 27 = .ok (.getfield 83, 3) := dec_of da_X11_check_0 (k := 15) rfl
theorem dX11_check_30 : decode cX11_check 30 = .ok (.iconst 4, 1) := dec_of da_X11_check_0 (k := 16) rfl
theorem dX11_check_31 : decode cX11_check 31 = .ok (.iadd, 1) := dec_of da_X11_check_0 (k := 17) rfl
theorem dX11_check_32 : decode cX11_check 32 = .ok (.putfield 83, 3) := dec_of da_X11_check_0 (k := 18) rfl
theorem dX11_check_35 : decode cX11_check 35 = .ok (.aload_n 0, 1) := dec_of da_X11_check_0 (k := 19) rfl
theorem dX11_check_36 : decode cX11_check 36 = .ok (.getfield 83, 3) := dec_of da_X11_check_0 (k := 20) rfl
theorem dX11_check_39 : decode cX11_check 39 = .ok (.ireturn, 1) := dec_of da_X11_check_0 (k := 21) rfl
def dl_X11_copy_0 : List (Nat × (Instr × Nat)) := [(0, (.aload_n 0, 1)), (1, (.getfield 27, 3)), (4, (.iload_n 1, 1)), (5, (.invokevirtual 99, 3)), (8, (.istore_n 2, 1)), (9, (.iload_n 2, 1)), (10, (.iconst (-1), 1)), (11, (.if_icmp .ne 5, 3)), (14, (.iconst (-1), 1)), (15, (.ireturn, 1)), (16, (.aload_n 0, 1)), (17, (.aload_n 0, 1)), (18, (.getfield 27, 3)), (21, (.getfield 103, 3)), (24, (.iload_n 2, 1)), (25, (.iaload, 1)), (26, (.putfield 83, 3)), (29, (.aload_n 0, 1)), (30, (.getfield 27, 3)), (33, (.getfield 106, 3)), (36, (.iload_n 2, 1)), (37, (.aaload, 1)), (38, (.iconst 0, 1)), (39, (.aload_n 0, 1)), (40, (.getfield 59, 3)), (43, (.iconst 0, 1)), (44, (.aload_n 0, 1)), (45, (.getfield 83, 3)), (48, (.invokestatic 110, 3)), (51, (.aload_n 0, 1)), (52, (.getfield 83, 3)), (55, (.ireturn, 1))]
set_option maxRecDepth 100000 in
theorem da_X11_copy_0 : dl_X11_copy_0.all (fun q => decide (decode cX11_copy q.1 = .ok q.2)) = true := by decide +kernel
theorem dX11_copy_0 : decode cX11_copy 0 = .ok (.aload_n 0, 1) := dec_of da_X11_copy_0 (k := 0) rfl
theorem dX11_copy_1 : decode cX11_copy 1 = .ok (.getfield 27, 3) := dec_of da_X11_copy_0 (k := 1) rfl
theorem dX11_copy_4 : decode cX11_copy 4 = .ok (.iload_n 1, 1) := dec_of da_X11_copy_0 (k := 2) rfl
theorem dX11_copy_5 : decode cX11_copy 5 = .ok (.invokevirtual 99, 3) := dec_of da_X11_copy_0 (k := 3) rfl
theorem dX11_copy_8 : decode cX11_copy 8 = .ok (.istore_n 2, 1) := dec_of da_X11_copy_0 (k := 4) rfl
theorem dX11_copy_9 : decode cX11_copy 9 = .ok (.iload_n 2, 1) := dec_of da_X11_copy_0 (k := 5) rfl
theorem dX11_copy_10 : decode cX11_copy 10 = .ok (.iconst (-1), 1) := dec_of da_X11_copy_0 (k := 6) rfl
theorem dX11_copy_11 : decode cX11_copy 11 = .ok (.if_icmp .ne 5, 3) := dec_of da_X11_copy_0 (k := 7) rfl
theorem dX11_copy_14 : decode cX11_copy 14 = .ok (.iconst (-1), 1) := dec_of da_X11_copy_0 (k := 8) rfl
theorem dX11_copy_15 : decode cX11_copy 15 = .ok (.ireturn, 1) := dec_of da_X11_copy_0 (k := 9) rfl
theorem dX11_copy_16 : decode cX11_copy 16 = .ok (.aload_n 0, 1) := dec_of da_X11_copy_0 (k := 10) rfl
theorem dX11_copy_17 : decode cX11_copy 17 = .ok (.aload_n 0, 1) := dec_of da_X11_copy_0 (k := 11) rfl
theorem dX11_copy_18 : decode cX11_copy 18 = .ok (.getfield 27, 3) := dec_of da_X11_copy_0 (k := 12) rfl
theorem dX11_copy_21 : decode cX11_copy 21 = .ok (.getfield 103, 3) := dec_of da_X11_copy_0 (k := 13) rfl
theorem dX11_copy_24 : decode cX11_copy 24 = .ok (.iload_n 2, 1) := dec_of da_X11_copy_0 (k := 14) rfl
theorem dX11_copy_25 : decode cX11_copy 25 = .ok (.iaload, 1) := dec_of da_X11_copy_0 (k := 15) rfl
theorem dX11_copy_26 : decode cX11_copy 26 = .ok (.putfield 83, 3) := dec_of da_X11_copy_0 (k := 16) rfl
theorem dX11_copy_29 : decode cX11_copy 29 = .ok (.aload_n 0, 1) := dec_of da_X11_copy_0 (k := 17) rfl
theorem dX11_copy_30 : decode cX11_copy 30 = .ok (.getfield 27, 3) := dec_of da_X11_copy_0 (k := 18) rfl
theorem dX11_copy_33 : decode cX11_copy 33 = .ok (.getfield 106, 3) := dec_of da_X11_copy_0 (k := 19) rfl
theorem dX11_copy_36 : decode cX11_copy 36 = .ok (.iload_n 2, 1) := dec_of da_X11_copy_0 (k := 20) rfl
theorem dX11_copy_37 : decode cX11_copy 37 = .ok (.aaload, 1) := dec_of da_X11_copy_0 (k := 21) rfl
theorem dX11_copy_38 : decode cX11_copy 38 = .ok (.iconst 0, 1) := dec_of da_X11_copy_0 (k := 22) rfl
theorem dX11_copy_39 : decode cX11_copy 39 = .ok (.aload_n 0, 1) := dec_of da_X11_copy_0 (k := 23) rfl
theorem dX11_copy_40 : decode cX11_copy 40 = .ok (.getfield 59, 3) := dec_of da_X11_copy_0 (k := 24) rfl
theorem dX11_copy_43 : decode cX11_copy 43 = .ok (.iconst 0, 1) := dec_of da_X11_copy_0 (k := 25) rfl
theorem dX11_copy_44 : decode cX11_copy 44 = .ok (.aload_n 0, 1) := dec_of da_X11_copy_0 (k := 26) rfl
theorem dX11_copy_45 : decode cX11_copy 45 = .ok (.getfield 83, 3) := dec_of da_X11_copy_0 (k := 27) rfl
theorem dX11_copy_48 : decode cX11_copy 48 = .ok (.invokestatic 110, 3) := dec_of da_X11_copy_0 (k := 28) rfl
theorem dX11_copy_51 : decode cX11_copy 51 = .ok (.aload_n 0, 1) := dec_of da_X11_copy_0 (k := 29) rfl
theorem dX11_copy_52 : decode cX11_copy 52 = .ok (.getfield 83, 3) := dec_of da_X11_copy_0 (k := 30) rfl
theorem dX11_copy_55 : decode cX11_copy 55 = .ok (.ireturn, 1) := dec_of da_X11_copy_0 (k := 31) rfl
def dl_X11_tape_0 : List (Nat × (Instr × Nat)) := [(0, (.iload_n 1, 1)), (1, (.ifCond .lt 20, 3)), (4, (.iload_n 1, 1)), (5, (.aload_n 0, 1)), (6, (.getfield 83, 3)), (9, (.if_icmp .ge 12, 3)), (12, (.aload_n 0, 1)), (13, (.getfield 59, 3)), (16, (.iload_n 1, 1)), (17, (.iaload, 1)), (18, (.goto 4, 3)), (21, (.iconst (-1), 1)), (22, (.ireturn, 1))]
set_option maxRecDepth 100000 in
theorem da_X11_tape_0 : dl_X11_tape_0.all (fun q => decide (decode cX11_tape q.1 = .ok q.2)) = true := by decide +kernel
theorem dX11_tape_0 : decode cX11_tape 0 = .ok (.iload_n 1, 1) := dec_of da_X11_tape_0 (k := 0) rfl
theorem dX11_tape_1 : decode cX11_tape 1 = .ok (.ifCond .lt 20, 3) := dec_of da_X11_tape_0 (k := 1) rfl
theorem dX11_tape_4 : decode cX11_tape 4 = .ok (.iload_n 1, 1) := dec_of da_X11_tape_0 (k := 2) rfl
theorem dX11_tape_5 : decode cX11_tape 5 = .ok (.aload_n 0, 1) := dec_of da_X11_tape_0 (k := 3) rfl
theorem dX11_tape_6 : decode cX11_tape 6 = .ok (.getfield 83, 3) := dec_of da_X11_tape_0 (k := 4) rfl
theorem dX11_tape_9 : decode cX11_tape 9 = .ok (.if_icmp .ge 12, 3) := dec_of da_X11_tape_0 (k := 5) rfl
theorem dX11_tape_12 : decode cX11_tape 12 = .ok (.aload_n 0, 1) := dec_of da_X11_tape_0 (k := 6) rfl
theorem dX11_tape_13 : decode cX11_tape 13 = .ok (.getfield 59, 3) := dec_of da_X11_tape_0 (k := 7) rfl
theorem dX11_tape_16 : decode cX11_tape 16 = .ok (.iload_n 1, 1) := dec_of da_X11_tape_0 (k := 8) rfl
theorem dX11_tape_17 : decode cX11_tape 17 = .ok (.iaload, 1) := dec_of da_X11_tape_0 (k := 9) rfl
theorem dX11_tape_18 : decode cX11_tape 18 = .ok (.goto 4, 3) := dec_of da_X11_tape_0 (k := 10) rfl
theorem dX11_tape_21 : decode cX11_tape 21 = .ok (.iconst (-1), 1) := dec_of da_X11_tape_0 (k := 11) rfl
theorem dX11_tape_22 : decode cX11_tape 22 = .ok (.ireturn, 1) := dec_of da_X11_tape_0 (k := 12) rfl
def dl_X11_secret_0 : List (Nat × (Instr × Nat)) := [(0, (.iload_n 1, 1)), (1, (.invokestatic 116, 3)), (4, (.ifCond .ne 5, 3)), (7, (.iconst (-1), 1)), (8, (.ireturn, 1)), (9, (.aload_n 0, 1)), (10, (.getfield 17, 3)), (13, (.iload_n 1, 1)), (14, (.aaload, 1)), (15, (.getfield 120, 3)), (18, (.lload_n 2, 1)), (19, (.lload 4, 2)), (21, (.lload 6, 2)), (23, (.lload 8, 2)), (25, (.invokestatic 123, 3)), (28, (.iconst 0, 1)), (29, (.ireturn, 1))]
set_option maxRecDepth 100000 in
theorem da_X11_secret_0 : dl_X11_secret_0.all (fun q => decide (decode cX11_secret q.1 = .ok q.2)) = true := by decide +kernel
theorem dX11_secret_0 : decode cX11_secret 0 = .ok (.iload_n 1, 1) := dec_of da_X11_secret_0 (k := 0) rfl
theorem dX11_secret_1 : decode cX11_secret 1 = .ok (.invokestatic 116, 3) := dec_of da_X11_secret_0 (k := 1) rfl
theorem dX11_secret_4 : decode cX11_secret 4 = .ok (.ifCond .ne 5, 3) := dec_of da_X11_secret_0 (k := 2) rfl
theorem dX11_secret_7 : decode cX11_secret 7 = .ok (.iconst (-1), 1) := dec_of da_X11_secret_0 (k := 3) rfl
theorem dX11_secret_8 : decode cX11_secret 8 = .ok (.ireturn, 1) := dec_of da_X11_secret_0 (k := 4) rfl
theorem dX11_secret_9 : decode cX11_secret 9 = .ok (.aload_n 0, 1) := dec_of da_X11_secret_0 (k := 5) rfl
theorem dX11_secret_10 : decode cX11_secret 10 = .ok (.getfield 17, 3) := dec_of da_X11_secret_0 (k := 6) rfl
theorem dX11_secret_13 : decode cX11_secret 13 = .ok (.iload_n 1, 1) := dec_of da_X11_secret_0 (k := 7) rfl
theorem dX11_secret_14 : decode cX11_secret 14 = .ok (.aaload, 1) := dec_of da_X11_secret_0 (k := 8) rfl
theorem dX11_secret_15 : decode cX11_secret 15 = .ok (.getfield 120, 3) := dec_of da_X11_secret_0 (k := 9) rfl
theorem dX11_secret_18 : decode cX11_secret 18 = .ok (.lload_n 2, 1) := dec_of da_X11_secret_0 (k := 10) rfl
theorem dX11_secret_19 : decode cX11_secret 19 = .ok (.lload 4, 2) := dec_of da_X11_secret_0 (k := 11) rfl
theorem dX11_secret_21 : decode cX11_secret 21 = .ok (.lload 6, 2) := dec_of da_X11_secret_0 (k := 12) rfl
theorem dX11_secret_23 : decode cX11_secret 23 = .ok (.lload 8, 2) := dec_of da_X11_secret_0 (k := 13) rfl
theorem dX11_secret_25 : decode cX11_secret 25 = .ok (.invokestatic 123, 3) := dec_of da_X11_secret_0 (k := 14) rfl
theorem dX11_secret_28 : decode cX11_secret 28 = .ok (.iconst 0, 1) := dec_of da_X11_secret_0 (k := 15) rfl
theorem dX11_secret_29 : decode cX11_secret 29 = .ok (.ireturn, 1) := dec_of da_X11_secret_0 (k := 16) rfl
