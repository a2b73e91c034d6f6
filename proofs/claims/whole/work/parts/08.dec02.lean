def dl_X12_encipher_0 : List (Nat × (Instr × Nat)) := [(0, (.iconst 0, 1)), (1, (.istore_n 1, 1)), (2, (.iload_n 1, 1)), (3, (.bipush 16, 2)), (5, (.if_icmp .ge 28, 3)), (8, (.aload_n 0, 1)), (9, (.getfield 34, 3)), (12, (.iload_n 1, 1)), (13, (.aload_n 0, 1)), (14, (.getfield 34, 3)), (17, (.iload_n 1, 1)), (18, (.iaload, 1)), (19, (.aload_n 0, 1)), (20, (.getfield 31, 3)), (23, (.iload_n 1, 1)), (24, (.iaload, 1)), (25, (.ixor, 1)), (26, (.iastore, 1)), (27, (.iinc 1 1, 3)), (30, (.goto (-28), 3)), (33, (.iconst 1, 1)), (34, (.istore_n 1, 1)), (35, (.iload_n 1, 1)), (36, (.bipush 10, 2)), (38, (.if_icmp .gt 177, 3)), (41, (.iconst 0, 1)), (42, (.istore_n 2, 1)), (43, (.iload_n 2, 1)), (44, (.bipush 16, 2)), (46, (.if_icmp .ge 35, 3)), (49, (.aload_n 0, 1)), (50, (.getfield 37, 3)), (53, (.iload_n 2, 1)), (54, (.aload_n 0, 1)), (55, (.getfield 28, 3)), (58, (.aload_n 0, 1)), (59, (.getfield 34, 3)), (62, (.iload_n 2, 1)), (63, (.iconst 4, 1)), (64, (.iload_n 2, 1)), (65, (.iconst 4, 1)), (66, (.irem, 1)), (67, (.imul, 1)), (68, (.iadd, 1)), (69, (.bipush 16, 2)), (71, (.irem, 1)), (72, (.iaload, 1)), (73, (.iaload, 1)), (74, (.iastore, 1)), (75, (.iinc 2 1, 3)), (78, (.goto (-35), 3)), (81, (.iconst 0, 1)), (82, (.istore_n 2, 1)), (83, (.iload_n 2, 1)), (84, (.bipush 16, 2)), (86, (.if_icmp .ge 123, 3)), (89, (.iconst 0, 1)), (90, (.istore_n 3, 1)), (91, (.iload_n 3, 1)), (92, (.iconst 4, 1))]
set_option maxRecDepth 100000 in
theorem da_X12_encipher_0 : dl_X12_encipher_0.all (fun q => decide (decode cX12_encipher q.1 = .ok q.2)) = true := by decide +kernel
theorem dX12_encipher_0 : decode cX12_encipher 0 = .ok (.iconst 0, 1) := dec_of da_X12_encipher_0 (k := 0) rfl
theorem dX12_encipher_1 : decode cX12_encipher 1 = .ok (.istore_n 1, 1) := dec_of da_X12_encipher_0 (k := 1) rfl
theorem dX12_encipher_2 : decode cX12_encipher 2 = .ok (.iload_n 1, 1) := dec_of da_X12_encipher_0 (k := 2) rfl
theorem dX12_encipher_3 : decode cX12_encipher 3 = .ok (.bipush 16, 2) := dec_of da_X12_encipher_0 (k := 3) rfl
theorem dX12_encipher_5 : decode cX12_encipher 5 = .ok (.if_icmp .ge 28, 3) := dec_of da_X12_encipher_0 (k := 4) rfl
theorem dX12_encipher_8 : decode cX12_encipher 8 = .ok (.aload_n 0, 1) := dec_of da_X12_encipher_0 (k := 5) rfl
theorem dX12_encipher_9 : decode cX12_encipher 9 = .ok (.getfield 34, 3) := dec_of da_X12_encipher_0 (k := 6) rfl
theorem dX12_encipher_12 : decode cX12_encipher 12 = .ok (.iload_n 1, 1) := dec_of da_X12_encipher_0 (k := 7) rfl
theorem dX12_encipher_13 : decode cX12_encipher 13 = .ok (.aload_n 0, 1) := dec_of da_X12_encipher_0 (k := 8) rfl
theorem dX12_encipher_14 : decode cX12_encipher 14 = .ok (.getfield 34, 3) := dec_of da_X12_encipher_0 (k := 9) rfl
theorem dX12_encipher_17 : decode cX12_encipher 17 = .ok (.iload_n 1, 1) := dec_of da_X12_encipher_0 (k := 10) rfl
theorem dX12_encipher_18 : decode cX12_encipher 18 = .ok (.iaload, 1) := dec_of da_X12_encipher_0 (k := 11) rfl
theorem dX12_encipher_19 : decode cX12_encipher 19 = .ok (.aload_n 0, 1) := dec_of da_X12_encipher_0 (k := 12) rfl
theorem dX12_encipher_20 : decode cX12_encipher 20 = .ok (.getfield 31, 3) := dec_of da_X12_encipher_0 (k := 13) rfl
theorem dX12_encipher_23 : decode cX12_encipher 23 = .ok (.iload_n 1, 1) := dec_of da_X12_encipher_0 (k := 14) rfl
theorem dX12_encipher_24 : decode cX12_encipher 24 = .ok (.iaload, 1) := dec_of da_X12_encipher_0 (k := 15) rfl
theorem dX12_encipher_25 : decode cX12_encipher 25 = .ok (.ixor, 1) := dec_of da_X12_encipher_0 (k := 16) rfl
theorem dX12_encipher_26 : decode cX12_encipher 26 = .ok (.iastore, 1) := dec_of da_X12_encipher_0 (k := 17) rfl
theorem dX12_encipher_27 : decode cX12_encipher 27 = .ok (.iinc 1 1, 3) := dec_of da_X12_encipher_0 (k := 18) rfl
theorem dX12_encipher_30 : decode cX12_encipher 30 = .ok (.goto (-28), 3) := dec_of da_X12_encipher_0 (k := 19) rfl
theorem dX12_encipher_33 : decode cX12_encipher 33 = .ok (.iconst 1, 1) := dec_of da_X12_encipher_0 (k := 20) rfl
theorem dX12_encipher_34 : decode cX12_encipher 34 = .ok (.istore_n 1, 1) := dec_of da_X12_encipher_0 (k := 21) rfl
theorem dX12_encipher_35 : decode cX12_encipher 35 = .ok (.iload_n 1, 1) := dec_of da_X12_encipher_0 (k := 22) rfl
theorem dX12_encipher_36 : decode cX12_encipher 36 = .ok (.bipush 10, 2) := dec_of da_X12_encipher_0 (k := 23) rfl
theorem dX12_encipher_38 : decode cX12_encipher 38 = .ok (.if_icmp .gt 177, 3) := dec_of da_X12_encipher_0 (k := 24) rfl
theorem dX12_encipher_41 : decode cX12_encipher 41 = .ok (.iconst 0, 1) := dec_of da_X12_encipher_0 (k := 25) rfl
theorem dX12_encipher_42 : decode cX12_encipher 42 = .ok (.istore_n 2, 1) := dec_of da_X12_encipher_0 (k := 26) rfl
theorem dX12_encipher_43 : decode cX12_encipher 43 = .ok (.iload_n 2, 1) := dec_of da_X12_encipher_0 (k := 27) rfl
theorem dX12_encipher_44 : decode cX12_encipher 44 = .ok (.bipush 16, 2) := dec_of da_X12_encipher_0 (k := 28) rfl
theorem dX12_encipher_46 : decode cX12_encipher 46 = .ok (.if_icmp .ge 35, 3) := dec_of da_X12_encipher_0 (k := 29) rfl
theorem dX12_encipher_49 : decode cX12_encipher 49 = .ok (.aload_n 0, 1) := dec_of da_X12_encipher_0 (k := 30) rfl
theorem dX12_encipher_50 : decode cX12_encipher 50 = .ok (.getfield 37, 3) := dec_of da_X12_encipher_0 (k := 31) rfl
theorem dX12_encipher_53 : decode cX12_encipher 53 = .ok (.iload_n 2, 1) := dec_of da_X12_encipher_0 (k := 32) rfl
theorem dX12_encipher_54 : decode cX12_encipher 54 = .ok (.aload_n 0, 1) := dec_of da_X12_encipher_0 (k := 33) rfl
theorem dX12_encipher_55 : decode cX12_encipher 55 = .ok (.getfield 28, 3) := dec_of da_X12_encipher_0 (k := 34) rfl
theorem dX12_encipher_58 : decode cX12_encipher 58 = .ok (.aload_n 0, 1) := dec_of da_X12_encipher_0 (k := 35) rfl
theorem dX12_encipher_59 : decode cX12_encipher 59 = .ok (.getfield 34, 3) := dec_of da_X12_encipher_0 (k := 36) rfl
theorem dX12_encipher_62 : decode cX12_encipher 62 = .ok (.iload_n 2, 1) := dec_of da_X12_encipher_0 (k := 37) rfl
theorem dX12_encipher_63 : decode cX12_encipher 63 = .ok (.iconst 4, 1) := dec_of da_X12_encipher_0 (k := 38) rfl
theorem dX12_encipher_64 : decode cX12_encipher 64 = .ok (.iload_n 2, 1) := dec_of da_X12_encipher_0 (k := 39) rfl
theorem dX12_encipher_65 : decode cX12_encipher 65 = .ok (.iconst 4, 1) := dec_of da_X12_encipher_0 (k := 40) rfl
theorem dX12_encipher_66 : decode cX12_encipher 66 = .ok (.irem, 1) := dec_of da_X12_encipher_0 (k := 41) rfl
theorem dX12_encipher_67 : decode cX12_encipher 67 = .ok (.imul, 1) := dec_of da_X12_encipher_0 (k := 42) rfl
theorem dX12_encipher_68 : decode cX12_encipher 68 = .ok (.iadd, 1) := dec_of da_X12_encipher_0 (k := 43) rfl
theorem dX12_encipher_69 : decode cX12_encipher 69 = .ok (.bipush 16, 2) := dec_of da_X12_encipher_0 (k := 44) rfl
theorem dX12_encipher_71 : decode cX12_encipher 71 = .ok (.irem, 1) := dec_of da_X12_encipher_0 (k := 45) rfl
theorem dX12_encipher_72 : decode cX12_encipher 72 = .ok (.iaload, 1) := dec_of da_X12_encipher_0 (k := 46) rfl
theorem dX12_encipher_73 : decode cX12_encipher 73 = .ok (.iaload, 1) := dec_of da_X12_encipher_0 (k := 47) rfl
theorem dX12_encipher_74 : decode cX12_encipher 74 = .ok (.iastore, 1) := dec_of da_X12_encipher_0 (k := 48) rfl
theorem dX12_encipher_75 : decode cX12_encipher 75 = .ok (.iinc 2 1, 3) := dec_of da_X12_encipher_0 (k := 49) rfl
theorem dX12_encipher_78 : decode cX12_encipher 78 = .ok (.goto (-35), 3) := dec_of da_X12_encipher_0 (k := 50) rfl
theorem dX12_encipher_81 : decode cX12_encipher 81 = .ok (.iconst 0, 1) := dec_of da_X12_encipher_0 (k := 51) rfl
theorem dX12_encipher_82 : decode cX12_encipher 82 = .ok (.istore_n 2, 1) := dec_of da_X12_encipher_0 (k := 52) rfl
theorem dX12_encipher_83 : decode cX12_encipher 83 = .ok (.iload_n 2, 1) := dec_of da_X12_encipher_0 (k := 53) rfl
theorem dX12_encipher_84 : decode cX12_encipher 84 = .ok (.bipush 16, 2) := dec_of da_X12_encipher_0 (k := 54) rfl
theorem dX12_encipher_86 : decode cX12_encipher 86 = .ok (.if_icmp .ge 123, 3) := dec_of da_X12_encipher_0 (k := 55) rfl
theorem dX12_encipher_89 : decode cX12_encipher 89 = .ok (.iconst 0, 1) := dec_of da_X12_encipher_0 (k := 56) rfl
theorem dX12_encipher_90 : decode cX12_encipher 90 = .ok (.istore_n 3, 1) := dec_of da_X12_encipher_0 (k := 57) rfl
theorem dX12_encipher_91 : decode cX12_encipher 91 = .ok (.iload_n 3, 1) := dec_of da_X12_encipher_0 (k := 58) rfl
theorem dX12_encipher_92 : decode cX12_encipher 92 = .ok (.iconst 4, 1) := dec_of da_X12_encipher_0 (k := 59) rfl
def dl_X12_encipher_1 : List (Nat × (Instr × Nat)) := [(93, (.if_icmp .ge 110, 3)), (96, (.aload_n 0, 1)), (97, (.getfield 37, 3)), (100, (.iload_n 2, 1)), (101, (.iload_n 3, 1)), (102, (.iadd, 1)), (103, (.iaload, 1)), (104, (.istore 4, 2)), (106, (.aload_n 0, 1)), (107, (.getfield 37, 3)), (110, (.iload_n 2, 1)), (111, (.iload_n 3, 1)), (112, (.iconst 1, 1)), (113, (.iadd, 1)), (114, (.iconst 4, 1)), (115, (.irem, 1)), (116, (.iadd, 1)), (117, (.iaload, 1)), (118, (.istore 5, 2)), (120, (.aload_n 0, 1)), (121, (.getfield 37, 3)), (124, (.iload_n 2, 1)), (125, (.iload_n 3, 1)), (126, (.iconst 2, 1)), (127, (.iadd, 1)), (128, (.iconst 4, 1)), (129, (.irem, 1)), (130, (.iadd, 1)), (131, (.iaload, 1)), (132, (.aload_n 0, 1)), (133, (.getfield 37, 3)), (136, (.iload_n 2, 1)), (137, (.iload_n 3, 1)), (138, (.iconst 3, 1)), (139, (.iadd, 1)), (140, (.iconst 4, 1)), (141, (.irem, 1)), (142, (.iadd, 1)), (143, (.iaload, 1)), (144, (.ixor, 1)), (145, (.istore 6, 2)), (147, (.aload_n 0, 1)), (148, (.getfield 34, 3)), (151, (.iload_n 2, 1)), (152, (.iload_n 3, 1)), (153, (.iadd, 1)), (154, (.iload_n 1, 1)), (155, (.bipush 10, 2)), (157, (.if_icmp .ne 8, 3)), (160, (.iload 4, 2)), (162, (.goto 20, 3)), (165, (.iload 4, 2)), (167, (.invokestatic 322, 3)), (170, (.iload 5, 2)), (172, (.invokestatic 322, 3)), (175, (.ixor, 1)), (176, (.iload 5, 2)), (178, (.ixor, 1)), (179, (.iload 6, 2)), (181, (.ixor, 1))]
set_option maxRecDepth 100000 in
theorem da_X12_encipher_1 : dl_X12_encipher_1.all (fun q => decide (decode cX12_encipher q.1 = .ok q.2)) = true := by decide +kernel
theorem dX12_encipher_93 : decode cX12_encipher 93 = .ok (.if_icmp .ge 110, 3) := dec_of da_X12_encipher_1 (k := 0) rfl
theorem dX12_encipher_96 : decode cX12_encipher 96 = .ok (.aload_n 0, 1) := dec_of da_X12_encipher_1 (k := 1) rfl
theorem dX12_encipher_97 : decode cX12_encipher 97 = .ok (.getfield 37, 3) := dec_of da_X12_encipher_1 (k := 2) rfl
theorem dX12_encipher_100 : decode cX12_encipher 100 = .ok (.iload_n 2, 1) := dec_of da_X12_encipher_1 (k := 3) rfl
theorem dX12_encipher_101 : decode cX12_encipher 101 = .ok (.iload_n 3, 1) := dec_of da_X12_encipher_1 (k := 4) rfl
theorem dX12_encipher_102 : decode cX12_encipher 102 = .ok (.iadd, 1) := dec_of da_X12_encipher_1 (k := 5) rfl
theorem dX12_encipher_103 : decode cX12_encipher 103 = .ok (.iaload, 1) := dec_of da_X12_encipher_1 (k := 6) rfl
theorem dX12_encipher_104 : decode cX12_encipher 104 = .ok (.istore 4, 2) := dec_of da_X12_encipher_1 (k := 7) rfl
theorem dX12_encipher_106 : decode cX12_encipher 106 = .ok (.aload_n 0, 1) := dec_of da_X12_encipher_1 (k := 8) rfl
theorem dX12_encipher_107 : decode cX12_encipher 107 = .ok (.getfield 37, 3) := dec_of da_X12_encipher_1 (k := 9) rfl
theorem dX12_encipher_110 : decode cX12_encipher 110 = .ok (.iload_n 2, 1) := dec_of da_X12_encipher_1 (k := 10) rfl
theorem dX12_encipher_111 : decode cX12_encipher 111 = .ok (.iload_n 3, 1) := dec_of da_X12_encipher_1 (k := 11) rfl
theorem dX12_encipher_112 : decode cX12_encipher 112 = .ok (.iconst 1, 1) := dec_of da_X12_encipher_1 (k := 12) rfl
theorem dX12_encipher_113 : decode cX12_encipher 113 = .ok (.iadd, 1) := dec_of da_X12_encipher_1 (k := 13) rfl
theorem dX12_encipher_114 : decode cX12_encipher 114 = .ok (.iconst 4, 1) := dec_of da_X12_encipher_1 (k := 14) rfl
theorem dX12_encipher_115 : decode cX12_encipher 115 = .ok (.irem, 1) := dec_of da_X12_encipher_1 (k := 15) rfl
theorem dX12_encipher_116 : decode cX12_encipher 116 = .ok (.iadd, 1) := dec_of da_X12_encipher_1 (k := 16) rfl
theorem dX12_encipher_117 : decode cX12_encipher 117 = .ok (.iaload, 1) := dec_of da_X12_encipher_1 (k := 17) rfl
theorem dX12_encipher_118 : decode cX12_encipher 118 = .ok (.istore 5, 2) := dec_of da_X12_encipher_1 (k := 18) rfl
theorem dX12_encipher_120 : decode cX12_encipher 120 = .ok (.aload_n 0, 1) := dec_of da_X12_encipher_1 (k := 19) rfl
theorem dX12_encipher_121 : decode cX12_encipher 121 = .ok (.getfield 37, 3) := dec_of da_X12_encipher_1 (k := 20) rfl
theorem dX12_encipher_124 : decode cX12_encipher 124 = .ok (.iload_n 2, 1) := dec_of da_X12_encipher_1 (k := 21) rfl
theorem dX12_encipher_125 : decode cX12_encipher 125 = .ok (.iload_n 3, 1) := dec_of da_X12_encipher_1 (k := 22) rfl
theorem dX12_encipher_126 : decode cX12_encipher 126 = .ok (.iconst 2, 1) := dec_of da_X12_encipher_1 (k := 23) rfl
theorem dX12_encipher_127 : decode cX12_encipher 127 = .ok (.iadd, 1) := dec_of da_X12_encipher_1 (k := 24) rfl
theorem dX12_encipher_128 : decode cX12_encipher 128 = .ok (.iconst 4, 1) := dec_of da_X12_encipher_1 (k := 25) rfl
theorem dX12_encipher_129 : decode cX12_encipher 129 = .ok (.irem, 1) := dec_of da_X12_encipher_1 (k := 26) rfl
theorem dX12_encipher_130 : decode cX12_encipher 130 = .ok (.iadd, 1) := dec_of da_X12_encipher_1 (k := 27) rfl
theorem dX12_encipher_131 : decode cX12_encipher 131 = .ok (.iaload, 1) := dec_of da_X12_encipher_1 (k := 28) rfl
theorem dX12_encipher_132 : decode cX12_encipher 132 = .ok (.aload_n 0, 1) := dec_of da_X12_encipher_1 (k := 29) rfl
theorem dX12_encipher_133 : decode cX12_encipher 133 = .ok (.getfield 37, 3) := dec_of da_X12_encipher_1 (k := 30) rfl
theorem dX12_encipher_136 : decode cX12_encipher 136 = .ok (.iload_n 2, 1) := dec_of da_X12_encipher_1 (k := 31) rfl
theorem dX12_encipher_137 : decode cX12_encipher 137 = .ok (.iload_n 3, 1) := dec_of da_X12_encipher_1 (k := 32) rfl
theorem dX12_encipher_138 : decode cX12_encipher 138 = .ok (.iconst 3, 1) := dec_of da_X12_encipher_1 (k := 33) rfl
theorem dX12_encipher_139 : decode cX12_encipher 139 = .ok (.iadd, 1) := dec_of da_X12_encipher_1 (k := 34) rfl
theorem dX12_encipher_140 : decode cX12_encipher 140 = .ok (.iconst 4, 1) := dec_of da_X12_encipher_1 (k := 35) rfl
theorem dX12_encipher_141 : decode cX12_encipher 141 = .ok (.irem, 1) := dec_of da_X12_encipher_1 (k := 36) rfl
theorem dX12_encipher_142 : decode cX12_encipher 142 = .ok (.iadd, 1) := dec_of da_X12_encipher_1 (k := 37) rfl
theorem dX12_encipher_143 : decode cX12_encipher 143 = .ok (.iaload, 1) := dec_of da_X12_encipher_1 (k := 38) rfl
theorem dX12_encipher_144 : decode cX12_encipher 144 = .ok (.ixor, 1) := dec_of da_X12_encipher_1 (k := 39) rfl
theorem dX12_encipher_145 : decode cX12_encipher 145 = .ok (.istore 6, 2) := dec_of da_X12_encipher_1 (k := 40) rfl
theorem dX12_encipher_147 : decode cX12_encipher 147 = .ok (.aload_n 0, 1) := dec_of da_X12_encipher_1 (k := 41) rfl
theorem dX12_encipher_148 : decode cX12_encipher 148 = .ok (.getfield 34, 3) := dec_of da_X12_encipher_1 (k := 42) rfl
theorem dX12_encipher_151 : decode cX12_encipher 151 = .ok (.iload_n 2, 1) := dec_of da_X12_encipher_1 (k := 43) rfl
theorem dX12_encipher_152 : decode cX12_encipher 152 = .ok (.iload_n 3, 1) := dec_of da_X12_encipher_1 (k := 44) rfl
theorem dX12_encipher_153 : decode cX12_encipher 153 = .ok (.iadd, 1) := dec_of da_X12_encipher_1 (k := 45) rfl
theorem dX12_encipher_154 : decode cX12_encipher 154 = .ok (.iload_n 1, 1) := dec_of da_X12_encipher_1 (k := 46) rfl
theorem dX12_encipher_155 : decode cX12_encipher 155 = .ok (.bipush 10, 2) := dec_of da_X12_encipher_1 (k := 47) rfl
theorem dX12_encipher_157 : decode cX12_encipher 157 = .ok (.if_icmp .ne 8, 3) := dec_of da_X12_encipher_1 (k := 48) rfl
theorem dX12_encipher_160 : decode cX12_encipher 160 = .ok (.iload 4, 2) := dec_of da_X12_encipher_1 (k := 49) rfl
theorem dX12_encipher_162 : decode cX12_encipher 162 = .ok (.goto 20, 3) := dec_of da_X12_encipher_1 (k := 50) rfl
theorem dX12_encipher_165 : decode cX12_encipher 165 = .ok (.iload 4, 2) := dec_of da_X12_encipher_1 (k := 51) rfl
theorem dX12_encipher_167 : decode cX12_encipher 167 = .ok (.invokestatic 322, 3) := dec_of da_X12_encipher_1 (k := 52) rfl
theorem dX12_encipher_170 : decode cX12_encipher 170 = .ok (.iload 5, 2) := dec_of da_X12_encipher_1 (k := 53) rfl
theorem dX12_encipher_172 : decode cX12_encipher 172 = .ok (.invokestatic 322, 3) := dec_of da_X12_encipher_1 (k := 54) rfl
theorem dX12_encipher_175 : decode cX12_encipher 175 = .ok (.ixor, 1) := dec_of da_X12_encipher_1 (k := 55) rfl
theorem dX12_encipher_176 : decode cX12_encipher 176 = .ok (.iload 5, 2) := dec_of da_X12_encipher_1 (k := 56) rfl
theorem dX12_encipher_178 : decode cX12_encipher 178 = .ok (.ixor, 1) := dec_of da_X12_encipher_1 (k := 57) rfl
theorem dX12_encipher_179 : decode cX12_encipher 179 = .ok (.iload 6, 2) := dec_of da_X12_encipher_1 (k := 58) rfl
theorem dX12_encipher_181 : decode cX12_encipher 181 = .ok (.ixor, 1) := dec_of da_X12_encipher_1 (k := 59) rfl
def dl_X12_encipher_2 : List (Nat × (Instr × Nat)) := [(182, (.aload_n 0, 1)), (183, (.getfield 31, 3)), (186, (.bipush 16, 2)), (188, (.iload_n 1, 1)), (189, (.imul, 1)), (190, (.iload_n 2, 1)), (191, (.iadd, 1)), (192, (.iload_n 3, 1)), (193, (.iadd, 1)), (194, (.iaload, 1)), (195, (.ixor, 1)), (196, (.iastore, 1)), (197, (.iinc 3 1, 3)), (200, (.goto (-109), 3)), (203, (.iinc 2 4, 3)), (206, (.goto (-123), 3)), (209, (.iinc 1 1, 3)), (212, (.goto (-177), 3)), (215, (.return_, 1))]
set_option maxRecDepth 100000 in
theorem da_X12_encipher_2 : dl_X12_encipher_2.all (fun q => decide (decode cX12_encipher q.1 = .ok q.2)) = true := by decide +kernel
theorem dX12_encipher_182 : decode cX12_encipher 182 = .ok (.aload_n 0, 1) := dec_of da_X12_encipher_2 (k := 0) rfl
theorem dX12_encipher_183 : decode cX12_encipher 183 = .ok (.getfield 31, 3) := dec_of da_X12_encipher_2 (k := 1) rfl
theorem dX12_encipher_186 : decode cX12_encipher 186 = .ok (.bipush 16, 2) := dec_of da_X12_encipher_2 (k := 2) rfl
theorem dX12_encipher_188 : decode cX12_encipher 188 = .ok (.iload_n 1, 1) := dec_of da_X12_encipher_2 (k := 3) rfl
theorem dX12_encipher_189 : decode cX12_encipher 189 = .ok (.imul, 1) := dec_of da_X12_encipher_2 (k := 4) rfl
theorem dX12_encipher_190 : decode cX12_encipher 190 = .ok (.iload_n 2, 1) := dec_of da_X12_encipher_2 (k := 5) rfl
theorem dX12_encipher_191 : decode cX12_encipher 191 = .ok (.iadd, 1) := dec_of da_X12_encipher_2 (k := 6) rfl
theorem dX12_encipher_192 : decode cX12_encipher 192 = .ok (.iload_n 3, 1) := dec_of da_X12_encipher_2 (k := 7) rfl
theorem dX12_encipher_193 : decode cX12_encipher 193 = .ok (.iadd, 1) := dec_of da_X12_encipher_2 (k := 8) rfl
theorem dX12_encipher_194 : decode cX12_encipher 194 = .ok (.iaload, 1) := dec_of da_X12_encipher_2 (k := 9) rfl
theorem dX12_encipher_195 : decode cX12_encipher 195 = .ok (.ixor, 1) := dec_of da_X12_encipher_2 (k := 10) rfl
theorem dX12_encipher_196 : decode cX12_encipher 196 = .ok (.iastore, 1) := dec_of da_X12_encipher_2 (k := 11) rfl
theorem dX12_encipher_197 : decode cX12_encipher 197 = .ok (.iinc 3 1, 3) := dec_of da_X12_encipher_2 (k := 12) rfl
theorem dX12_encipher_200 : decode cX12_encipher 200 = .ok (.goto (-109), 3) := dec_of da_X12_encipher_2 (k := 13) rfl
theorem dX12_encipher_203 : decode cX12_encipher 203 = .ok (.iinc 2 4, 3) := dec_of da_X12_encipher_2 (k := 14) rfl
theorem dX12_encipher_206 : decode cX12_encipher 206 = .ok (.goto (-123), 3) := dec_of da_X12_encipher_2 (k := 15) rfl
theorem dX12_encipher_209 : decode cX12_encipher 209 = .ok (.iinc 1 1, 3) := dec_of da_X12_encipher_2 (k := 16) rfl
theorem dX12_encipher_212 : decode cX12_encipher 212 = .ok (.goto (-177), 3) := dec_of da_X12_encipher_2 (k := 17) rfl
theorem dX12_encipher_215 : decode cX12_encipher 215 = .ok (.return_, 1) := dec_of da_X12_encipher_2 (k := 18) rfl
def dl_X12_nonceOf_0 : List (Nat × (Instr × Nat)) := [(0, (.aload_n 0, 1)), (1, (.getfield 40, 3)), (4, (.iconst 0, 1)), (5, (.iconst 0, 1)), (6, (.iastore, 1)), (7, (.iconst 0, 1)), (8, (.istore 5, 2)), (10, (.iload 5, 2)), (12, (.bipush 6, 2)), (14, (.if_icmp .ge 52, 3)), (17, (.aload_n 0, 1)), (18, (.getfield 40, 3)), (21, (.iconst 1, 1)), (22, (.iload 5, 2)), (24, (.iadd, 1)), (25, (.aload_n 1, 1)), (26, (.iload_n 2, 1)), (27, (.bipush 10, 2)), (29, (.iadd, 1)), (30, (.iload 5, 2)), (32, (.iadd, 1)), (33, (.iaload, 1)), (34, (.iastore, 1)), (35, (.aload_n 0, 1)), (36, (.getfield 40, 3)), (39, (.bipush 7, 2)), (41, (.iload 5, 2)), (43, (.iadd, 1)), (44, (.lload_n 3, 1)), (45, (.bipush 40, 2)), (47, (.bipush 8, 2)), (49, (.iload 5, 2)), (51, (.imul, 1)), (52, (.isub, 1)), (53, (.lshr, 1)), (54, (.l2i, 1)), (55, (.sipush 255, 3)), (58, (.iand, 1)), (59, (.iastore, 1)), (60, (.iinc 5 1, 3)), (63, (.goto (-53), 3)), (66, (.return_, 1))]
set_option maxRecDepth 100000 in
theorem da_X12_nonceOf_0 : dl_X12_nonceOf_0.all (fun q => decide (decode cX12_nonceOf q.1 = .ok q.2)) = true := by decide +kernel
theorem dX12_nonceOf_0 : decode cX12_nonceOf 0 = .ok (.aload_n 0, 1) := dec_of da_X12_nonceOf_0 (k := 0) rfl
theorem dX12_nonceOf_1 : decode cX12_nonceOf 1 = .ok (.getfield 40, 3) := dec_of da_X12_nonceOf_0 (k := 1) rfl
theorem dX12_nonceOf_4 : decode cX12_nonceOf 4 = .ok (.iconst 0, 1) := dec_of da_X12_nonceOf_0 (k := 2) rfl
theorem dX12_nonceOf_5 : decode cX12_nonceOf 5 = .ok (.iconst 0, 1) := dec_of da_X12_nonceOf_0 (k := 3) rfl
theorem dX12_nonceOf_6 : decode cX12_nonceOf 6 = .ok (.iastore, 1) := dec_of da_X12_nonceOf_0 (k := 4) rfl
theorem dX12_nonceOf_7 : decode cX12_nonceOf 7 = .ok (.iconst 0, 1) := dec_of da_X12_nonceOf_0 (k := 5) rfl
theorem dX12_nonceOf_8 : decode cX12_nonceOf 8 = .ok (.istore 5, 2) := dec_of da_X12_nonceOf_0 (k := 6) rfl
theorem dX12_nonceOf_10 : decode cX12_nonceOf 10 = .ok (.iload 5, 2) := dec_of da_X12_nonceOf_0 (k := 7) rfl
theorem dX12_nonceOf_12 : decode cX12_nonceOf 12 = .ok (.bipush 6, 2) := dec_of da_X12_nonceOf_0 (k := 8) rfl
theorem dX12_nonceOf_14 : decode cX12_nonceOf 14 = .ok (.if_icmp .ge 52, 3) := dec_of da_X12_nonceOf_0 (k := 9) rfl
theorem dX12_nonceOf_17 : decode cX12_nonceOf 17 = .ok (.aload_n 0, 1) := dec_of da_X12_nonceOf_0 (k := 10) rfl
theorem dX12_nonceOf_18 : decode cX12_nonceOf 18 = .ok (.getfield 40, 3) := dec_of da_X12_nonceOf_0 (k := 11) rfl
theorem dX12_nonceOf_21 : decode cX12_nonceOf 21 = .ok (.iconst 1, 1) := dec_of da_X12_nonceOf_0 (k := 12) rfl
theorem dX12_nonceOf_22 : decode cX12_nonceOf 22 = .ok (.iload 5, 2) := dec_of da_X12_nonceOf_0 (k := 13) rfl
theorem dX12_nonceOf_24 : decode cX12_nonceOf 24 = .ok (.iadd, 1) := dec_of da_X12_nonceOf_0 (k := 14) rfl
theorem dX12_nonceOf_25 : decode cX12_nonceOf 25 = .ok (.aload_n 1, 1) := dec_of da_X12_nonceOf_0 (k := 15) rfl
theorem dX12_nonceOf_26 : decode cX12_nonceOf 26 = .ok (.iload_n 2, 1) := dec_of da_X12_nonceOf_0 (k := 16) rfl
theorem dX12_nonceOf_27 : decode cX12_nonceOf 27 = .ok (.bipush 10, 2) := dec_of da_X12_nonceOf_0 (k := 17) rfl
theorem dX12_nonceOf_29 : decode cX12_nonceOf 29 = .ok (.iadd, 1) := dec_of da_X12_nonceOf_0 (k := 18) rfl
theorem dX12_nonceOf_30 : decode cX12_nonceOf 30 = .ok (.iload 5, 2) := dec_of da_X12_nonceOf_0 (k := 19) rfl
theorem dX12_nonceOf_32 : decode cX12_nonceOf 32 = .ok (.iadd, 1) := dec_of da_X12_nonceOf_0 (k := 20) rfl
theorem dX12_nonceOf_33 : decode cX12_nonceOf 33 = .ok (.iaload, 1) := dec_of da_X12_nonceOf_0 (k := 21) rfl
theorem dX12_nonceOf_34 : decode cX12_nonceOf 34 = .ok (.iastore, 1) := dec_of da_X12_nonceOf_0 (k := 22) rfl
theorem dX12_nonceOf_35 : decode cX12_nonceOf 35 = .ok (.aload_n 0, 1) := dec_of da_X12_nonceOf_0 (k := 23) rfl
theorem dX12_nonceOf_36 : decode cX12_nonceOf 36 = .ok (.getfield 40, 3) := dec_of da_X12_nonceOf_0 (k := 24) rfl
theorem dX12_nonceOf_39 : decode cX12_nonceOf 39 = .ok (.bipush 7, 2) := dec_of da_X12_nonceOf_0 (k := 25) rfl
theorem dX12_nonceOf_41 : decode cX12_nonceOf 41 = .ok (.iload 5, 2) := dec_of da_X12_nonceOf_0 (k := 26) rfl
theorem dX12_nonceOf_43 : decode cX12_nonceOf 43 = .ok (.iadd, 1) := dec_of da_X12_nonceOf_0 (k := 27) rfl
theorem dX12_nonceOf_44 : decode cX12_nonceOf 44 = .ok (.lload_n 3, 1) := dec_of da_X12_nonceOf_0 (k := 28) rfl
theorem dX12_nonceOf_45 : decode cX12_nonceOf 45 = .ok (.bipush 40, 2) := dec_of da_X12_nonceOf_0 (k := 29) rfl
theorem dX12_nonceOf_47 : decode cX12_nonceOf 47 = .ok (.bipush 8, 2) := dec_of da_X12_nonceOf_0 (k := 30) rfl
theorem dX12_nonceOf_49 : decode cX12_nonceOf 49 = .ok (.iload 5, 2) := dec_of da_X12_nonceOf_0 (k := 31) rfl
theorem dX12_nonceOf_51 : decode cX12_nonceOf 51 = .ok (.imul, 1) := dec_of da_X12_nonceOf_0 (k := 32) rfl
theorem dX12_nonceOf_52 : decode cX12_nonceOf 52 = .ok (.isub, 1) := dec_of da_X12_nonceOf_0 (k := 33) rfl
theorem dX12_nonceOf_53 : decode cX12_nonceOf 53 = .ok (.lshr, 1) := dec_of da_X12_nonceOf_0 (k := 34) rfl
theorem dX12_nonceOf_54 : decode cX12_nonceOf 54 = .ok (.l2i, 1) := dec_of da_X12_nonceOf_0 (k := 35) rfl
theorem dX12_nonceOf_55 : decode cX12_nonceOf 55 = .ok (.sipush 255, 3) := dec_of da_X12_nonceOf_0 (k := 36) rfl
theorem dX12_nonceOf_58 : decode cX12_nonceOf 58 = .ok (.iand, 1) := dec_of da_X12_nonceOf_0 (k := 37) rfl
theorem dX12_nonceOf_59 : decode cX12_nonceOf 59 = .ok (.iastore, 1) := dec_of da_X12_nonceOf_0 (k := 38) rfl
theorem dX12_nonceOf_60 : decode cX12_nonceOf 60 = .ok (.iinc 5 1, 3) := dec_of da_X12_nonceOf_0 (k := 39) rfl
theorem dX12_nonceOf_63 : decode cX12_nonceOf 63 = .ok (.goto (-53), 3) := dec_of da_X12_nonceOf_0 (k := 40) rfl
theorem dX12_nonceOf_66 : decode cX12_nonceOf 66 = .ok (.return_, 1) := dec_of da_X12_nonceOf_0 (k := 41) rfl
def dl_X12_chainStep_0 : List (Nat × (Instr × Nat)) := [(0, (.iconst 0, 1)), (1, (.istore_n 1, 1)), (2, (.iload_n 1, 1)), (3, (.bipush 16, 2)), (5, (.if_icmp .ge 21, 3)), (8, (.aload_n 0, 1)), (9, (.getfield 34, 3)), (12, (.iload_n 1, 1)), (13, (.aload_n 0, 1)), (14, (.getfield 43, 3)), (17, (.iload_n 1, 1)), (18, (.iaload, 1)), (19, (.iastore, 1)), (20, (.iinc 1 1, 3)), (23, (.goto (-21), 3)), (26, (.aload_n 0, 1)), (27, (.invokevirtual 332, 3)), (30, (.iconst 0, 1)), (31, (.istore_n 1, 1)), (32, (.iload_n 1, 1)), (33, (.bipush 16, 2)), (35, (.if_icmp .ge 21, 3)), (38, (.aload_n 0, 1)), (39, (.getfield 43, 3)), (42, (.iload_n 1, 1)), (43, (.aload_n 0, 1)), (44, (.getfield 34, 3)), (47, (.iload_n 1, 1)), (48, (.iaload, 1)), (49, (.iastore, 1)), (50, (.iinc 1 1, 3)), (53, (.goto (-21), 3)), (56, (.return_, 1))]
set_option maxRecDepth 100000 in
theorem da_X12_chainStep_0 : dl_X12_chainStep_0.all (fun q => decide (decode cX12_chainStep q.1 = .ok q.2)) = true := by decide +kernel
theorem dX12_chainStep_0 : decode cX12_chainStep 0 = .ok (.iconst 0, 1) := dec_of da_X12_chainStep_0 (k := 0) rfl
theorem dX12_chainStep_1 : decode cX12_chainStep 1 = .ok (.istore_n 1, 1) := dec_of da_X12_chainStep_0 (k := 1) rfl
theorem dX12_chainStep_2 : decode cX12_chainStep 2 = .ok (.iload_n 1, 1) := dec_of da_X12_chainStep_0 (k := 2) rfl
theorem dX12_chainStep_3 : decode cX12_chainStep 3 = .ok (.bipush 16, 2) := dec_of da_X12_chainStep_0 (k := 3) rfl
theorem dX12_chainStep_5 : decode cX12_chainStep 5 = .ok (.if_icmp .ge 21, 3) := dec_of da_X12_chainStep_0 (k := 4) rfl
theorem dX12_chainStep_8 : decode cX12_chainStep 8 = .ok (.aload_n 0, 1) := dec_of da_X12_chainStep_0 (k := 5) rfl
theorem dX12_chainStep_9 : decode cX12_chainStep 9 = .ok (.getfield 34, 3) := dec_of da_X12_chainStep_0 (k := 6) rfl
theorem dX12_chainStep_12 : decode cX12_chainStep 12 = .ok (.iload_n 1, 1) := dec_of da_X12_chainStep_0 (k := 7) rfl
theorem dX12_chainStep_13 : decode cX12_chainStep 13 = .ok (.aload_n 0, 1) := dec_of da_X12_chainStep_0 (k := 8) rfl
theorem dX12_chainStep_14 : decode cX12_chainStep 14 = .ok (.getfield 43, 3) := dec_of da_X12_chainStep_0 (k := 9) rfl
theorem dX12_chainStep_17 : decode cX12_chainStep 17 = .ok (.iload_n 1, 1) := dec_of da_X12_chainStep_0 (k := 10) rfl
theorem dX12_chainStep_18 : decode cX12_chainStep 18 = .ok (.iaload, 1) := dec_of da_X12_chainStep_0 (k := 11) rfl
theorem dX12_chainStep_19 : decode cX12_chainStep 19 = .ok (.iastore, 1) := dec_of da_X12_chainStep_0 (k := 12) rfl
theorem dX12_chainStep_20 : decode cX12_chainStep 20 = .ok (.iinc 1 1, 3) := dec_of da_X12_chainStep_0 (k := 13) rfl
theorem dX12_chainStep_23 : decode cX12_chainStep 23 = .ok (.goto (-21), 3) := dec_of da_X12_chainStep_0 (k := 14) rfl
theorem dX12_chainStep_26 : decode cX12_chainStep 26 = .ok (.aload_n 0, 1) := dec_of da_X12_chainStep_0 (k := 15) rfl
theorem dX12_chainStep_27 : decode cX12_chainStep 27 = .ok (.invokevirtual 332, 3) := dec_of da_X12_chainStep_0 (k := 16) rfl
theorem dX12_chainStep_30 : decode cX12_chainStep 30 = .ok (.iconst 0, 1) := dec_of da_X12_chainStep_0 (k := 17) rfl
theorem dX12_chainStep_31 : decode cX12_chainStep 31 = .ok (.istore_n 1, 1) := dec_of da_X12_chainStep_0 (k := 18) rfl
theorem dX12_chainStep_32 : decode cX12_chainStep 32 = .ok (.iload_n 1, 1) := dec_of da_X12_chainStep_0 (k := 19) rfl
theorem dX12_chainStep_33 : decode cX12_chainStep 33 = .ok (.bipush 16, 2) := dec_of da_X12_chainStep_0 (k := 20) rfl
theorem dX12_chainStep_35 : decode cX12_chainStep 35 = .ok (.if_icmp .ge 21, 3) := dec_of da_X12_chainStep_0 (k := 21) rfl
theorem dX12_chainStep_38 : decode cX12_chainStep 38 = .ok (.aload_n 0, 1) := dec_of da_X12_chainStep_0 (k := 22) rfl
theorem dX12_chainStep_39 : decode cX12_chainStep 39 = .ok (.getfield 43, 3) := dec_of da_X12_chainStep_0 (k := 23) rfl
theorem dX12_chainStep_42 : decode cX12_chainStep 42 = .ok (.iload_n 1, 1) := dec_of da_X12_chainStep_0 (k := 24) rfl
theorem dX12_chainStep_43 : decode cX12_chainStep 43 = .ok (.aload_n 0, 1) := dec_of da_X12_chainStep_0 (k := 25) rfl
theorem dX12_chainStep_44 : decode cX12_chainStep 44 = .ok (.getfield 34, 3) := dec_of da_X12_chainStep_0 (k := 26) rfl
theorem dX12_chainStep_47 : decode cX12_chainStep 47 = .ok (.iload_n 1, 1) := dec_of da_X12_chainStep_0 (k := 27) rfl
theorem dX12_chainStep_48 : decode cX12_chainStep 48 = .ok (.iaload, 1) := dec_of da_X12_chainStep_0 (k := 28) rfl
theorem dX12_chainStep_49 : decode cX12_chainStep 49 = .ok (.iastore, 1) := dec_of da_X12_chainStep_0 (k := 29) rfl
theorem dX12_chainStep_50 : decode cX12_chainStep 50 = .ok (.iinc 1 1, 3) := dec_of da_X12_chainStep_0 (k := 30) rfl
theorem dX12_chainStep_53 : decode cX12_chainStep 53 = .ok (.goto (-21), 3) := dec_of da_X12_chainStep_0 (k := 31) rfl
theorem dX12_chainStep_56 : decode cX12_chainStep 56 = .ok (.return_, 1) := dec_of da_X12_chainStep_0 (k := 32) rfl
def dl_X12_besideAt_0 : List (Nat × (Instr × Nat)) := [(0, (.iload_n 2, 1)), (1, (.iconst 2, 1)), (2, (.if_icmp .ge 22, 3)), (5, (.iload_n 2, 1)), (6, (.ifCond .ne 9, 3)), (9, (.aload_n 0, 1)), (10, (.iload_n 1, 1)), (11, (.iaload, 1)), (12, (.goto 11, 3)), (15, (.aload_n 0, 1)), (16, (.iload_n 1, 1)), (17, (.iconst 1, 1)), (18, (.iadd, 1)), (19, (.iaload, 1)), (20, (.bipush (-9), 2)), (22, (.iand, 1)), (23, (.ireturn, 1)), (24, (.iload_n 2, 1)), (25, (.bipush 20, 2)), (27, (.if_icmp .ge 11, 3)), (30, (.aload_n 0, 1)), (31, (.iload_n 1, 1)), (32, (.iconst 2, 1)), (33, (.iadd, 1)), (34, (.iload_n 2, 1)), (35, (.iadd, 1)), (36, (.iaload, 1)), (37, (.ireturn, 1)), (38, (.iload_n 2, 1)), (39, (.bipush 20, 2)), (41, (.if_icmp .ne 15, 3)), (44, (.aload_n 0, 1)), (45, (.iload_n 1, 1)), (46, (.bipush 22, 2)), (48, (.iadd, 1)), (49, (.iaload, 1)), (50, (.bipush 15, 2)), (52, (.iand, 1)), (53, (.goto 4, 3)), (56, (.iconst 0, 1)), (57, (.ireturn, 1))]
set_option maxRecDepth 100000 in
theorem da_X12_besideAt_0 : dl_X12_besideAt_0.all (fun q => decide (decode cX12_besideAt q.1 = .ok q.2)) = true := by decide +kernel
theorem dX12_besideAt_0 : decode cX12_besideAt 0 = .ok (.iload_n 2, 1) := dec_of da_X12_besideAt_0 (k := 0) rfl
theorem dX12_besideAt_1 : decode cX12_besideAt 1 = .ok (.iconst 2, 1) := dec_of da_X12_besideAt_0 (k := 1) rfl
theorem dX12_besideAt_2 : decode cX12_besideAt 2 = .ok (.if_icmp .ge 22, 3) := dec_of da_X12_besideAt_0 (k := 2) rfl
theorem dX12_besideAt_5 : decode cX12_besideAt 5 = .ok (.iload_n 2, 1) := dec_of da_X12_besideAt_0 (k := 3) rfl
theorem dX12_besideAt_6 : decode cX12_besideAt 6 = .ok (.ifCond .ne 9, 3) := dec_of da_X12_besideAt_0 (k := 4) rfl
theorem dX12_besideAt_9 : decode cX12_besideAt 9 = .ok (.aload_n 0, 1) := dec_of da_X12_besideAt_0 (k := 5) rfl
theorem dX12_besideAt_10 : decode cX12_besideAt 10 = .ok (.iload_n 1, 1) := dec_of da_X12_besideAt_0 (k := 6) rfl
theorem dX12_besideAt_11 : decode cX12_besideAt 11 = .ok (.iaload, 1) := dec_of da_X12_besideAt_0 (k := 7) rfl
theorem dX12_besideAt_12 : decode cX12_besideAt 12 = .ok (.goto 11, 3) := dec_of da_X12_besideAt_0 (k := 8) rfl
theorem dX12_besideAt_15 : decode cX12_besideAt 15 = .ok (.aload_n 0, 1) := dec_of da_X12_besideAt_0 (k := 9) rfl
theorem dX12_besideAt_16 : decode cX12_besideAt 16 = .ok (.iload_n 1, 1) := dec_of da_X12_besideAt_0 (k := 10) rfl
theorem dX12_besideAt_17 : decode cX12_besideAt 17 = .ok (.iconst 1, 1) := dec_of da_X12_besideAt_0 (k := 11) rfl
theorem dX12_besideAt_18 : decode cX12_besideAt 18 = .ok (.iadd, 1) := dec_of da_X12_besideAt_0 (k := 12) rfl
theorem dX12_besideAt_19 : decode cX12_besideAt 19 = .ok (.iaload, 1) := dec_of da_X12_besideAt_0 (k := 13) rfl
theorem dX12_besideAt_20 : decode cX12_besideAt 20 = .ok (.bipush (-9), 2) := dec_of da_X12_besideAt_0 (k := 14) rfl
theorem dX12_besideAt_22 : decode cX12_besideAt 22 = .ok (.iand, 1) := dec_of da_X12_besideAt_0 (k := 15) rfl
theorem dX12_besideAt_23 : decode cX12_besideAt 23 = .ok (.ireturn, 1) := dec_of da_X12_besideAt_0 (k := 16) rfl
theorem dX12_besideAt_24 : decode cX12_besideAt 24 = .ok (.iload_n 2, 1) := dec_of da_X12_besideAt_0 (k := 17) rfl
theorem dX12_besideAt_25 : decode cX12_besideAt 25 = .ok (.bipush 20, 2) := dec_of da_X12_besideAt_0 (k := 18) rfl
theorem dX12_besideAt_27 : decode cX12_besideAt 27 = .ok (.if_icmp .ge 11, 3) := dec_of da_X12_besideAt_0 (k := 19) rfl
theorem dX12_besideAt_30 : decode cX12_besideAt 30 = .ok (.aload_n 0, 1) := dec_of da_X12_besideAt_0 (k := 20) rfl
theorem dX12_besideAt_31 : decode cX12_besideAt 31 = .ok (.iload_n 1, 1) := dec_of da_X12_besideAt_0 (k := 21) rfl
theorem dX12_besideAt_32 : decode cX12_besideAt 32 = .ok (.iconst 2, 1) := dec_of da_X12_besideAt_0 (k := 22) rfl
theorem dX12_besideAt_33 : decode cX12_besideAt 33 = .ok (.iadd, 1) := dec_of da_X12_besideAt_0 (k := 23) rfl
theorem dX12_besideAt_34 : decode cX12_besideAt 34 = .ok (.iload_n 2, 1) := dec_of da_X12_besideAt_0 (k := 24) rfl
theorem dX12_besideAt_35 : decode cX12_besideAt 35 = .ok (.iadd, 1) := dec_of da_X12_besideAt_0 (k := 25) rfl
theorem dX12_besideAt_36 : decode cX12_besideAt 36 = .ok (.iaload, 1) := dec_of da_X12_besideAt_0 (k := 26) rfl
theorem dX12_besideAt_37 : decode cX12_besideAt 37 = .ok (.ireturn, 1) := dec_of da_X12_besideAt_0 (k := 27) rfl
theorem dX12_besideAt_38 : decode cX12_besideAt 38 = .ok (.iload_n 2, 1) := dec_of da_X12_besideAt_0 (k := 28) rfl
theorem dX12_besideAt_39 : decode cX12_besideAt 39 = .ok (.bipush 20, 2) := dec_of da_X12_besideAt_0 (k := 29) rfl
theorem dX12_besideAt_41 : decode cX12_besideAt 41 = .ok (.if_icmp .ne 15, 3) := dec_of da_X12_besideAt_0 (k := 30) rfl
theorem dX12_besideAt_44 : decode cX12_besideAt 44 = .ok (.aload_n 0, 1) := dec_of da_X12_besideAt_0 (k := 31) rfl
theorem dX12_besideAt_45 : decode cX12_besideAt 45 = .ok (.iload_n 1, 1) := dec_of da_X12_besideAt_0 (k := 32) rfl
theorem dX12_besideAt_46 : decode cX12_besideAt 46 = .ok (.bipush 22, 2) := dec_of da_X12_besideAt_0 (k := 33) rfl
theorem dX12_besideAt_48 : decode cX12_besideAt 48 = .ok (.iadd, 1) := dec_of da_X12_besideAt_0 (k := 34) rfl
theorem dX12_besideAt_49 : decode cX12_besideAt 49 = .ok (.iaload, 1) := dec_of da_X12_besideAt_0 (k := 35) rfl
theorem dX12_besideAt_50 : decode cX12_besideAt 50 = .ok (.bipush 15, 2) := dec_of da_X12_besideAt_0 (k := 36) rfl
theorem dX12_besideAt_52 : decode cX12_besideAt 52 = .ok (.iand, 1) := dec_of da_X12_besideAt_0 (k := 37) rfl
theorem dX12_besideAt_53 : decode cX12_besideAt 53 = .ok (.goto 4, 3) := dec_of da_X12_besideAt_0 (k := 38) rfl
theorem dX12_besideAt_56 : decode cX12_besideAt 56 = .ok (.iconst 0, 1) := dec_of da_X12_besideAt_0 (k := 39) rfl
theorem dX12_besideAt_57 : decode cX12_besideAt 57 = .ok (.ireturn, 1) := dec_of da_X12_besideAt_0 (k := 40) rfl
def dl_X12_findTag_0 : List (Nat × (Instr × Nat)) := [(0, (.aload_n 0, 1)), (1, (.getfield 43, 3)), (4, (.iconst 0, 1)), (5, (.bipush 89, 2)), (7, (.iastore, 1)), (8, (.iconst 0, 1)), (9, (.istore 6, 2)), (11, (.iload 6, 2)), (13, (.bipush 13, 2)), (15, (.if_icmp .ge 25, 3)), (18, (.aload_n 0, 1)), (19, (.getfield 43, 3)), (22, (.iconst 1, 1)), (23, (.iload 6, 2)), (25, (.iadd, 1)), (26, (.aload_n 0, 1)), (27, (.getfield 40, 3)), (30, (.iload 6, 2)), (32, (.iaload, 1)), (33, (.iastore, 1)), (34, (.iinc 6 1, 3)), (37, (.goto (-26), 3)), (40, (.aload_n 0, 1)), (41, (.getfield 43, 3)), (44, (.bipush 14, 2)), (46, (.iload 5, 2)), (48, (.bipush 8, 2)), (50, (.ishr, 1)), (51, (.iastore, 1)), (52, (.aload_n 0, 1)), (53, (.getfield 43, 3)), (56, (.bipush 15, 2)), (58, (.iload 5, 2)), (60, (.sipush 255, 3)), (63, (.iand, 1)), (64, (.iastore, 1)), (65, (.aload_n 0, 1)), (66, (.invokevirtual 335, 3)), (69, (.iconst 0, 1)), (70, (.istore 6, 2)), (72, (.iload 6, 2)), (74, (.bipush 32, 2)), (76, (.if_icmp .ge 85, 3)), (79, (.iload 6, 2)), (81, (.iconst 1, 1)), (82, (.if_icmp .ne 8, 3)), (85, (.bipush 22, 2)), (87, (.goto 29, 3)), (90, (.iload 6, 2)), (92, (.iconst 2, 1)), (93, (.if_icmp .lt 22, 3)), (96, (.iload 6, 2)), (98, (.bipush 24, 2)), (100, (.if_icmp .ge 15, 3)), (103, (.aload_n 1, 1)), (104, (.iload_n 2, 1)), (105, (.iload 6, 2)), (107, (.iconst 2, 1)), (108, (.isub, 1)), (109, (.invokestatic 338, 3))]
set_option maxRecDepth 100000 in
theorem da_X12_findTag_0 : dl_X12_findTag_0.all (fun q => decide (decode cX12_findTag q.1 = .ok q.2)) = true := by decide +kernel
theorem dX12_findTag_0 : decode cX12_findTag 0 = .ok (.aload_n 0, 1) := dec_of da_X12_findTag_0 (k := 0) rfl
theorem dX12_findTag_1 : decode cX12_findTag 1 = .ok (.getfield 43, 3) := dec_of da_X12_findTag_0 (k := 1) rfl
theorem dX12_findTag_4 : decode cX12_findTag 4 = .ok (.iconst 0, 1) := dec_of da_X12_findTag_0 (k := 2) rfl
theorem dX12_findTag_5 : decode cX12_findTag 5 = .ok (.bipush 89, 2) := dec_of da_X12_findTag_0 (k := 3) rfl
theorem dX12_findTag_7 : decode cX12_findTag 7 = .ok (.iastore, 1) := dec_of da_X12_findTag_0 (k := 4) rfl
theorem dX12_findTag_8 : decode cX12_findTag 8 = .ok (.iconst 0, 1) := dec_of da_X12_findTag_0 (k := 5) rfl
theorem dX12_findTag_9 : decode cX12_findTag 9 = .ok (.istore 6, 2) := dec_of da_X12_findTag_0 (k := 6) rfl
theorem dX12_findTag_11 : decode cX12_findTag 11 = .ok (.iload 6, 2) := dec_of da_X12_findTag_0 (k := 7) rfl
theorem dX12_findTag_13 : decode cX12_findTag 13 = .ok (.bipush 13, 2) := dec_of da_X12_findTag_0 (k := 8) rfl
theorem dX12_findTag_15 : decode cX12_findTag 15 = .ok (.if_icmp .ge 25, 3) := dec_of da_X12_findTag_0 (k := 9) rfl
theorem dX12_findTag_18 : decode cX12_findTag 18 = .ok (.aload_n 0, 1) := dec_of da_X12_findTag_0 (k := 10) rfl
theorem dX12_findTag_19 : decode cX12_findTag 19 = .ok (.getfield 43, 3) := dec_of da_X12_findTag_0 (k := 11) rfl
theorem dX12_findTag_22 : decode cX12_findTag 22 = .ok (.iconst 1, 1) := dec_of da_X12_findTag_0 (k := 12) rfl
theorem dX12_findTag_23 : decode cX12_findTag 23 = .ok (.iload 6, 2) := dec_of da_X12_findTag_0 (k := 13) rfl
theorem dX12_findTag_25 : decode cX12_findTag 25 = .ok (.iadd, 1) := dec_of da_X12_findTag_0 (k := 14) rfl
theorem dX12_findTag_26 : decode cX12_findTag 26 = .ok (.aload_n 0, 1) := dec_of da_X12_findTag_0 (k := 15) rfl
theorem dX12_findTag_27 : decode cX12_findTag 27 = .ok (.getfield 40, 3) := dec_of da_X12_findTag_0 (k := 16) rfl
theorem dX12_findTag_30 : decode cX12_findTag 30 = .ok (.iload 6, 2) := dec_of da_X12_findTag_0 (k := 17) rfl
theorem dX12_findTag_32 : decode cX12_findTag 32 = .ok (.iaload, 1) := dec_of da_X12_findTag_0 (k := 18) rfl
theorem dX12_findTag_33 : decode cX12_findTag 33 = .ok (.iastore, 1) := dec_of da_X12_findTag_0 (k := 19) rfl
theorem dX12_findTag_34 : decode cX12_findTag 34 = .ok (.iinc 6 1, 3) := dec_of da_X12_findTag_0 (k := 20) rfl
theorem dX12_findTag_37 : decode cX12_findTag 37 = .ok (.goto (-26), 3) := dec_of da_X12_findTag_0 (k := 21) rfl
theorem dX12_findTag_40 : decode cX12_findTag 40 = .ok (.aload_n 0, 1) := dec_of da_X12_findTag_0 (k := 22) rfl
theorem dX12_findTag_41 : decode cX12_findTag 41 = .ok (.getfield 43, 3) := dec_of da_X12_findTag_0 (k := 23) rfl
theorem dX12_findTag_44 : decode cX12_findTag 44 = .ok (.bipush 14, 2) := dec_of da_X12_findTag_0 (k := 24) rfl
theorem dX12_findTag_46 : decode cX12_findTag 46 = .ok (.iload 5, 2) := dec_of da_X12_findTag_0 (k := 25) rfl
theorem dX12_findTag_48 : decode cX12_findTag 48 = .ok (.bipush 8, 2) := dec_of da_X12_findTag_0 (k := 26) rfl
theorem dX12_findTag_50 : decode cX12_findTag 50 = .ok (.ishr, 1) := dec_of da_X12_findTag_0 (k := 27) rfl
theorem dX12_findTag_51 : decode cX12_findTag 51 = .ok (.iastore, 1) := dec_of da_X12_findTag_0 (k := 28) rfl
theorem dX12_findTag_52 : decode cX12_findTag 52 = .ok (.aload_n 0, 1) := dec_of da_X12_findTag_0 (k := 29) rfl
theorem dX12_findTag_53 : decode cX12_findTag 53 = .ok (.getfield 43, 3) := dec_of da_X12_findTag_0 (k := 30) rfl
theorem dX12_findTag_56 : decode cX12_findTag 56 = .ok (.bipush 15, 2) := dec_of da_X12_findTag_0 (k := 31) rfl
theorem dX12_findTag_58 : decode cX12_findTag 58 = .ok (.iload 5, 2) := dec_of da_X12_findTag_0 (k := 32) rfl
theorem dX12_findTag_60 : decode cX12_findTag 60 = .ok (.sipush 255, 3) := dec_of da_X12_findTag_0 (k := 33) rfl
theorem dX12_findTag_63 : decode cX12_findTag 63 = .ok (.iand, 1) := dec_of da_X12_findTag_0 (k := 34) rfl
theorem dX12_findTag_64 : decode cX12_findTag 64 = .ok (.iastore, 1) := dec_of da_X12_findTag_0 (k := 35) rfl
theorem dX12_findTag_65 : decode cX12_findTag 65 = .ok (.aload_n 0, 1) := dec_of da_X12_findTag_0 (k := 36) rfl
theorem dX12_findTag_66 : decode cX12_findTag 66 = .ok (.invokevirtual 335, 3) := dec_of da_X12_findTag_0 (k := 37) rfl
theorem dX12_findTag_69 : decode cX12_findTag 69 = .ok (.iconst 0, 1) := dec_of da_X12_findTag_0 (k := 38) rfl
theorem dX12_findTag_70 : decode cX12_findTag 70 = .ok (.istore 6, 2) := dec_of da_X12_findTag_0 (k := 39) rfl
theorem dX12_findTag_72 : decode cX12_findTag 72 = .ok (.iload 6, 2) := dec_of da_X12_findTag_0 (k := 40) rfl
theorem dX12_findTag_74 : decode cX12_findTag 74 = .ok (.bipush 32, 2) := dec_of da_X12_findTag_0 (k := 41) rfl
theorem dX12_findTag_76 : decode cX12_findTag 76 = .ok (.if_icmp .ge 85, 3) := dec_of da_X12_findTag_0 (k := 42) rfl
theorem dX12_findTag_79 : decode cX12_findTag 79 = .ok (.iload 6, 2) := dec_of da_X12_findTag_0 (k := 43) rfl
theorem dX12_findTag_81 : decode cX12_findTag 81 = .ok (.iconst 1, 1) := dec_of da_X12_findTag_0 (k := 44) rfl
theorem dX12_findTag_82 : decode cX12_findTag 82 = .ok (.if_icmp .ne 8, 3) := dec_of da_X12_findTag_0 (k := 45) rfl
theorem dX12_findTag_85 : decode cX12_findTag 85 = .ok (.bipush 22, 2) := dec_of da_X12_findTag_0 (k := 46) rfl
theorem dX12_findTag_87 : decode cX12_findTag 87 = .ok (.goto 29, 3) := dec_of da_X12_findTag_0 (k := 47) rfl
theorem dX12_findTag_90 : decode cX12_findTag 90 = .ok (.iload 6, 2) := dec_of da_X12_findTag_0 (k := 48) rfl
theorem dX12_findTag_92 : decode cX12_findTag 92 = .ok (.iconst 2, 1) := dec_of da_X12_findTag_0 (k := 49) rfl
theorem dX12_findTag_93 : decode cX12_findTag 93 = .ok (.if_icmp .lt 22, 3) := dec_of da_X12_findTag_0 (k := 50) rfl
theorem dX12_findTag_96 : decode cX12_findTag 96 = .ok (.iload 6, 2) := dec_of da_X12_findTag_0 (k := 51) rfl
theorem dX12_findTag_98 : decode cX12_findTag 98 = .ok (.bipush 24, 2) := dec_of da_X12_findTag_0 (k := 52) rfl
theorem dX12_findTag_100 : decode cX12_findTag 100 = .ok (.if_icmp .ge 15, 3) := dec_of da_X12_findTag_0 (k := 53) rfl
theorem dX12_findTag_103 : decode cX12_findTag 103 = .ok (.aload_n 1, 1) := dec_of da_X12_findTag_0 (k := 54) rfl
theorem dX12_findTag_104 : decode cX12_findTag 104 = .ok (.iload_n 2, 1) := dec_of da_X12_findTag_0 (k := 55) rfl
theorem dX12_findTag_105 : decode cX12_findTag 105 = .ok (.iload 6, 2) := dec_of da_X12_findTag_0 (k := 56) rfl
theorem dX12_findTag_107 : decode cX12_findTag 107 = .ok (.iconst 2, 1) := dec_of da_X12_findTag_0 (k := 57) rfl
theorem dX12_findTag_108 : decode cX12_findTag 108 = .ok (.isub, 1) := dec_of da_X12_findTag_0 (k := 58) rfl
theorem dX12_findTag_109 : decode cX12_findTag 109 = .ok (.invokestatic 338, 3) := dec_of da_X12_findTag_0 (k := 59) rfl
def dl_X12_findTag_1 : List (Nat × (Instr × Nat)) := [(112, (.goto 4, 3)), (115, (.iconst 0, 1)), (116, (.istore 7, 2)), (118, (.aload_n 0, 1)), (119, (.getfield 43, 3)), (122, (.iload 6, 2)), (124, (.bipush 16, 2)), (126, (.irem, 1)), (127, (.aload_n 0, 1)), (128, (.getfield 43, 3)), (131, (.iload 6, 2)), (133, (.bipush 16, 2)), (135, (.irem, 1)), (136, (.iaload, 1)), (137, (.iload 7, 2)), (139, (.ixor, 1)), (140, (.iastore, 1)), (141, (.iload 6, 2)), (143, (.bipush 16, 2)), (145, (.irem, 1)), (146, (.bipush 15, 2)), (148, (.if_icmp .ne 7, 3)), (151, (.aload_n 0, 1)), (152, (.invokevirtual 335, 3)), (155, (.iinc 6 1, 3)), (158, (.goto (-86), 3)), (161, (.iconst 0, 1)), (162, (.istore 6, 2)), (164, (.iload 6, 2)), (166, (.iload 5, 2)), (168, (.bipush 15, 2)), (170, (.iadd, 1)), (171, (.bipush 16, 2)), (173, (.idiv, 1)), (174, (.bipush 16, 2)), (176, (.imul, 1)), (177, (.if_icmp .ge 62, 3)), (180, (.aload_n 0, 1)), (181, (.getfield 43, 3)), (184, (.iload 6, 2)), (186, (.bipush 16, 2)), (188, (.irem, 1)), (189, (.aload_n 0, 1)), (190, (.getfield 43, 3)), (193, (.iload 6, 2)), (195, (.bipush 16, 2)), (197, (.irem, 1)), (198, (.iaload, 1)), (199, (.iload 6, 2)), (201, (.iload 5, 2)), (203, (.if_icmp .ge 13, 3)), (206, (.aload_n 3, 1)), (207, (.iload 4, 2)), (209, (.iload 6, 2)), (211, (.iadd, 1)), (212, (.iaload, 1)), (213, (.goto 4, 3)), (216, (.iconst 0, 1)), (217, (.ixor, 1)), (218, (.iastore, 1))]
set_option maxRecDepth 100000 in
theorem da_X12_findTag_1 : dl_X12_findTag_1.all (fun q => decide (decode cX12_findTag q.1 = .ok q.2)) = true := by decide +kernel
theorem dX12_findTag_112 : decode cX12_findTag 112 = .ok (.goto 4, 3) := dec_of da_X12_findTag_1 (k := 0) rfl
theorem dX12_findTag_115 : decode cX12_findTag 115 = .ok (.iconst 0, 1) := dec_of da_X12_findTag_1 (k := 1) rfl
theorem dX12_findTag_116 : decode cX12_findTag 116 = .ok (.istore 7, 2) := dec_of da_X12_findTag_1 (k := 2) rfl
theorem dX12_findTag_118 : decode cX12_findTag 118 = .ok (.aload_n 0, 1) := dec_of da_X12_findTag_1 (k := 3) rfl
theorem dX12_findTag_119 : decode cX12_findTag 119 = .ok (.getfield 43, 3) := dec_of da_X12_findTag_1 (k := 4) rfl
theorem dX12_findTag_122 : decode cX12_findTag 122 = .ok (.iload 6, 2) := dec_of da_X12_findTag_1 (k := 5) rfl
theorem dX12_findTag_124 : decode cX12_findTag 124 = .ok (.bipush 16, 2) := dec_of da_X12_findTag_1 (k := 6) rfl
theorem dX12_findTag_126 : decode cX12_findTag 126 = .ok (.irem, 1) := dec_of da_X12_findTag_1 (k := 7) rfl
theorem dX12_findTag_127 : decode cX12_findTag 127 = .ok (.aload_n 0, 1) := dec_of da_X12_findTag_1 (k := 8) rfl
theorem dX12_findTag_128 : decode cX12_findTag 128 = .ok (.getfield 43, 3) := dec_of da_X12_findTag_1 (k := 9) rfl
theorem dX12_findTag_131 : decode cX12_findTag 131 = .ok (.iload 6, 2) := dec_of da_X12_findTag_1 (k := 10) rfl
theorem dX12_findTag_133 : decode cX12_findTag 133 = .ok (.bipush 16, 2) := dec_of da_X12_findTag_1 (k := 11) rfl
theorem dX12_findTag_135 : decode cX12_findTag 135 = .ok (.irem, 1) := dec_of da_X12_findTag_1 (k := 12) rfl
theorem dX12_findTag_136 : decode cX12_findTag 136 = .ok (.iaload, 1) := dec_of da_X12_findTag_1 (k := 13) rfl
theorem dX12_findTag_137 : decode cX12_findTag 137 = .ok (.iload 7, 2) := dec_of da_X12_findTag_1 (k := 14) rfl
theorem dX12_findTag_139 : decode cX12_findTag 139 = .ok (.ixor, 1) := dec_of da_X12_findTag_1 (k := 15) rfl
theorem dX12_findTag_140 : decode cX12_findTag 140 = .ok (.iastore, 1) := dec_of da_X12_findTag_1 (k := 16) rfl
theorem dX12_findTag_141 : decode cX12_findTag 141 = .ok (.iload 6, 2) := dec_of da_X12_findTag_1 (k := 17) rfl
theorem dX12_findTag_143 : decode cX12_findTag 143 = .ok (.bipush 16, 2) := dec_of da_X12_findTag_1 (k := 18) rfl
theorem dX12_findTag_145 : decode cX12_findTag 145 = .ok (.irem, 1) := dec_of da_X12_findTag_1 (k := 19) rfl
theorem dX12_findTag_146 : decode cX12_findTag 146 = .ok (.bipush 15, 2) := dec_of da_X12_findTag_1 (k := 20) rfl
theorem dX12_findTag_148 : decode cX12_findTag 148 = .ok (.if_icmp .ne 7, 3) := dec_of da_X12_findTag_1 (k := 21) rfl
theorem dX12_findTag_151 : decode cX12_findTag 151 = .ok (.aload_n 0, 1) := dec_of da_X12_findTag_1 (k := 22) rfl
theorem dX12_findTag_152 : decode cX12_findTag 152 = .ok (.invokevirtual 335, 3) := dec_of da_X12_findTag_1 (k := 23) rfl
theorem dX12_findTag_155 : decode cX12_findTag 155 = .ok (.iinc 6 1, 3) := dec_of da_X12_findTag_1 (k := 24) rfl
theorem dX12_findTag_158 : decode cX12_findTag 158 = .ok (.goto (-86), 3) := dec_of da_X12_findTag_1 (k := 25) rfl
theorem dX12_findTag_161 : decode cX12_findTag 161 = .ok (.iconst 0, 1) := dec_of da_X12_findTag_1 (k := 26) rfl
theorem dX12_findTag_162 : decode cX12_findTag 162 = .ok (.istore 6, 2) := dec_of da_X12_findTag_1 (k := 27) rfl
theorem dX12_findTag_164 : decode cX12_findTag 164 = .ok (.iload 6, 2) := dec_of da_X12_findTag_1 (k := 28) rfl
theorem dX12_findTag_166 : decode cX12_findTag 166 = .ok (.iload 5, 2) := dec_of da_X12_findTag_1 (k := 29) rfl
theorem dX12_findTag_168 : decode cX12_findTag 168 = .ok (.bipush 15, 2) := dec_of da_X12_findTag_1 (k := 30) rfl
theorem dX12_findTag_170 : decode cX12_findTag 170 = .ok (.iadd, 1) := dec_of da_X12_findTag_1 (k := 31) rfl
theorem dX12_findTag_171 : decode cX12_findTag 171 = .ok (.bipush 16, 2) := dec_of da_X12_findTag_1 (k := 32) rfl
theorem dX12_findTag_173 : decode cX12_findTag 173 = .ok (.idiv, 1) := dec_of da_X12_findTag_1 (k := 33) rfl
theorem dX12_findTag_174 : decode cX12_findTag 174 = .ok (.bipush 16, 2) := dec_of da_X12_findTag_1 (k := 34) rfl
theorem dX12_findTag_176 : decode cX12_findTag 176 = .ok (.imul, 1) := dec_of da_X12_findTag_1 (k := 35) rfl
theorem dX12_findTag_177 : decode cX12_findTag 177 = .ok (.if_icmp .ge 62, 3) := dec_of da_X12_findTag_1 (k := 36) rfl
theorem dX12_findTag_180 : decode cX12_findTag 180 = .ok (.aload_n 0, 1) := dec_of da_X12_findTag_1 (k := 37) rfl
theorem dX12_findTag_181 : decode cX12_findTag 181 = .ok (.getfield 43, 3) := dec_of da_X12_findTag_1 (k := 38) rfl
theorem dX12_findTag_184 : decode cX12_findTag 184 = .ok (.iload 6, 2) := dec_of da_X12_findTag_1 (k := 39) rfl
theorem dX12_findTag_186 : decode cX12_findTag 186 = .ok (.bipush 16, 2) := dec_of da_X12_findTag_1 (k := 40) rfl
theorem dX12_findTag_188 : decode cX12_findTag 188 = .ok (.irem, 1) := dec_of da_X12_findTag_1 (k := 41) rfl
theorem dX12_findTag_189 : decode cX12_findTag 189 = .ok (.aload_n 0, 1) := dec_of da_X12_findTag_1 (k := 42) rfl
theorem dX12_findTag_190 : decode cX12_findTag 190 = .ok (.getfield 43, 3) := dec_of da_X12_findTag_1 (k := 43) rfl
theorem dX12_findTag_193 : decode cX12_findTag 193 = .ok (.iload 6, 2) := dec_of da_X12_findTag_1 (k := 44) rfl
theorem dX12_findTag_195 : decode cX12_findTag 195 = .ok (.bipush 16, 2) := dec_of da_X12_findTag_1 (k := 45) rfl
theorem dX12_findTag_197 : decode cX12_findTag 197 = .ok (.irem, 1) := dec_of da_X12_findTag_1 (k := 46) rfl
theorem dX12_findTag_198 : decode cX12_findTag 198 = .ok (.iaload, 1) := dec_of da_X12_findTag_1 (k := 47) rfl
theorem dX12_findTag_199 : decode cX12_findTag 199 = .ok (.iload 6, 2) := dec_of da_X12_findTag_1 (k := 48) rfl
theorem dX12_findTag_201 : decode cX12_findTag 201 = .ok (.iload 5, 2) := dec_of da_X12_findTag_1 (k := 49) rfl
theorem dX12_findTag_203 : decode cX12_findTag 203 = .ok (.if_icmp .ge 13, 3) := dec_of da_X12_findTag_1 (k := 50) rfl
theorem dX12_findTag_206 : decode cX12_findTag 206 = .ok (.aload_n 3, 1) := dec_of da_X12_findTag_1 (k := 51) rfl
theorem dX12_findTag_207 : decode cX12_findTag 207 = .ok (.iload 4, 2) := dec_of da_X12_findTag_1 (k := 52) rfl
theorem dX12_findTag_209 : decode cX12_findTag 209 = .ok (.iload 6, 2) := dec_of da_X12_findTag_1 (k := 53) rfl
theorem dX12_findTag_211 : decode cX12_findTag 211 = .ok (.iadd, 1) := dec_of da_X12_findTag_1 (k := 54) rfl
theorem dX12_findTag_212 : decode cX12_findTag 212 = .ok (.iaload, 1) := dec_of da_X12_findTag_1 (k := 55) rfl
theorem dX12_findTag_213 : decode cX12_findTag 213 = .ok (.goto 4, 3) := dec_of da_X12_findTag_1 (k := 56) rfl
theorem dX12_findTag_216 : decode cX12_findTag 216 = .ok (.iconst 0, 1) := dec_of da_X12_findTag_1 (k := 57) rfl
theorem dX12_findTag_217 : decode cX12_findTag 217 = .ok (.ixor, 1) := dec_of da_X12_findTag_1 (k := 58) rfl
theorem dX12_findTag_218 : decode cX12_findTag 218 = .ok (.iastore, 1) := dec_of da_X12_findTag_1 (k := 59) rfl
def dl_X12_findTag_2 : List (Nat × (Instr × Nat)) := [(219, (.iload 6, 2)), (221, (.bipush 16, 2)), (223, (.irem, 1)), (224, (.bipush 15, 2)), (226, (.if_icmp .ne 7, 3)), (229, (.aload_n 0, 1)), (230, (.invokevirtual 335, 3)), (233, (.iinc 6 1, 3)), (236, (.goto (-72), 3)), (239, (.aload_n 0, 1)), (240, (.iconst 0, 1)), (241, (.invokevirtual 342, 3)), (244, (.iconst 0, 1)), (245, (.istore 6, 2)), (247, (.iload 6, 2)), (249, (.bipush 8, 2)), (251, (.if_icmp .ge 31, 3)), (254, (.aload_n 0, 1)), (255, (.getfield 49, 3)), (258, (.iload 6, 2)), (260, (.aload_n 0, 1)), (261, (.getfield 43, 3)), (264, (.iload 6, 2)), (266, (.iaload, 1)), (267, (.aload_n 0, 1)), (268, (.getfield 46, 3)), (271, (.iload 6, 2)), (273, (.iaload, 1)), (274, (.ixor, 1)), (275, (.iastore, 1)), (276, (.iinc 6 1, 3)), (279, (.goto (-32), 3)), (282, (.return_, 1))]
set_option maxRecDepth 100000 in
theorem da_X12_findTag_2 : dl_X12_findTag_2.all (fun q => decide (decode cX12_findTag q.1 = .ok q.2)) = true := by decide +kernel
theorem dX12_findTag_219 : decode cX12_findTag 219 = .ok (.iload 6, 2) := dec_of da_X12_findTag_2 (k := 0) rfl
theorem dX12_findTag_221 : decode cX12_findTag 221 = .ok (.bipush 16, 2) := dec_of da_X12_findTag_2 (k := 1) rfl
theorem dX12_findTag_223 : decode cX12_findTag 223 = .ok (.irem, 1) := dec_of da_X12_findTag_2 (k := 2) rfl
theorem dX12_findTag_224 : decode cX12_findTag 224 = .ok (.bipush 15, 2) := dec_of da_X12_findTag_2 (k := 3) rfl
theorem dX12_findTag_226 : decode cX12_findTag 226 = .ok (.if_icmp .ne 7, 3) := dec_of da_X12_findTag_2 (k := 4) rfl
theorem dX12_findTag_229 : decode cX12_findTag 229 = .ok (.aload_n 0, 1) := dec_of da_X12_findTag_2 (k := 5) rfl
theorem dX12_findTag_230 : decode cX12_findTag 230 = .ok (.invokevirtual 335, 3) := dec_of da_X12_findTag_2 (k := 6) rfl
theorem dX12_findTag_233 : decode cX12_findTag 233 = .ok (.iinc 6 1, 3) := dec_of da_X12_findTag_2 (k := 7) rfl
theorem dX12_findTag_236 : decode cX12_findTag 236 = .ok (.goto (-72), 3) := dec_of da_X12_findTag_2 (k := 8) rfl
theorem dX12_findTag_239 : decode cX12_findTag 239 = .ok (.aload_n 0, 1) := dec_of da_X12_findTag_2 (k := 9) rfl
theorem dX12_findTag_240 : decode cX12_findTag 240 = .ok (.iconst 0, 1) := dec_of da_X12_findTag_2 (k := 10) rfl
theorem dX12_findTag_241 : decode cX12_findTag 241 = .ok (.invokevirtual 342, 3) := dec_of da_X12_findTag_2 (k := 11) rfl
theorem dX12_findTag_244 : decode cX12_findTag 244 = .ok (.iconst 0, 1) := dec_of da_X12_findTag_2 (k := 12) rfl
theorem dX12_findTag_245 : decode cX12_findTag 245 = .ok (.istore 6, 2) := dec_of da_X12_findTag_2 (k := 13) rfl
theorem dX12_findTag_247 : decode cX12_findTag 247 = .ok (.iload 6, 2) := dec_of da_X12_findTag_2 (k := 14) rfl
theorem dX12_findTag_249 : decode cX12_findTag 249 = .ok (.bipush 8, 2) := dec_of da_X12_findTag_2 (k := 15) rfl
theorem dX12_findTag_251 : decode cX12_findTag 251 = .ok (.if_icmp .ge 31, 3) := dec_of da_X12_findTag_2 (k := 16) rfl
theorem dX12_findTag_254 : decode cX12_findTag 254 = .ok (.aload_n 0, 1) := dec_of da_X12_findTag_2 (k := 17) rfl
theorem dX12_findTag_255 : decode cX12_findTag 255 = .ok (.getfield 49, 3) := dec_of da_X12_findTag_2 (k := 18) rfl
theorem dX12_findTag_258 : decode cX12_findTag 258 = .ok (.iload 6, 2) := dec_of da_X12_findTag_2 (k := 19) rfl
theorem dX12_findTag_260 : decode cX12_findTag 260 = .ok (.aload_n 0, 1) := dec_of da_X12_findTag_2 (k := 20) rfl
theorem dX12_findTag_261 : decode cX12_findTag 261 = .ok (.getfield 43, 3) := dec_of da_X12_findTag_2 (k := 21) rfl
theorem dX12_findTag_264 : decode cX12_findTag 264 = .ok (.iload 6, 2) := dec_of da_X12_findTag_2 (k := 22) rfl
theorem dX12_findTag_266 : decode cX12_findTag 266 = .ok (.iaload, 1) := dec_of da_X12_findTag_2 (k := 23) rfl
theorem dX12_findTag_267 : decode cX12_findTag 267 = .ok (.aload_n 0, 1) := dec_of da_X12_findTag_2 (k := 24) rfl
theorem dX12_findTag_268 : decode cX12_findTag 268 = .ok (.getfield 46, 3) := dec_of da_X12_findTag_2 (k := 25) rfl
theorem dX12_findTag_271 : decode cX12_findTag 271 = .ok (.iload 6, 2) := dec_of da_X12_findTag_2 (k := 26) rfl
theorem dX12_findTag_273 : decode cX12_findTag 273 = .ok (.iaload, 1) := dec_of da_X12_findTag_2 (k := 27) rfl
theorem dX12_findTag_274 : decode cX12_findTag 274 = .ok (.ixor, 1) := dec_of da_X12_findTag_2 (k := 28) rfl
theorem dX12_findTag_275 : decode cX12_findTag 275 = .ok (.iastore, 1) := dec_of da_X12_findTag_2 (k := 29) rfl
theorem dX12_findTag_276 : decode cX12_findTag 276 = .ok (.iinc 6 1, 3) := dec_of da_X12_findTag_2 (k := 30) rfl
theorem dX12_findTag_279 : decode cX12_findTag 279 = .ok (.goto (-32), 3) := dec_of da_X12_findTag_2 (k := 31) rfl
theorem dX12_findTag_282 : decode cX12_findTag 282 = .ok (.return_, 1) := dec_of da_X12_findTag_2 (k := 32) rfl
def dl_X12_counter_0 : List (Nat × (Instr × Nat)) := [(0, (.aload_n 0, 1)), (1, (.getfield 34, 3)), (4, (.iconst 0, 1)), (5, (.iconst 1, 1)), (6, (.iastore, 1)), (7, (.iconst 0, 1)), (8, (.istore_n 2, 1)), (9, (.iload_n 2, 1)), (10, (.bipush 13, 2)), (12, (.if_icmp .ge 23, 3)), (15, (.aload_n 0, 1)), (16, (.getfield 34, 3)), (19, (.iconst 1, 1)), (20, (.iload_n 2, 1)), (21, (.iadd, 1)), (22, (.aload_n 0, 1)), (23, (.getfield 40, 3)), (26, (.iload_n 2, 1)), (27, (.iaload, 1)), (28, (.iastore, 1)), (29, (.iinc 2 1, 3)), (32, (.goto (-23), 3)), (35, (.aload_n 0, 1)), (36, (.getfield 34, 3)), (39, (.bipush 14, 2)), (41, (.iload_n 1, 1)), (42, (.bipush 8, 2)), (44, (.ishr, 1)), (45, (.iastore, 1)), (46, (.aload_n 0, 1)), (47, (.getfield 34, 3)), (50, (.bipush 15, 2)), (52, (.iload_n 1, 1)), (53, (.sipush 255, 3)), (56, (.iand, 1)), (57, (.iastore, 1)), (58, (.aload_n 0, 1)), (59, (.invokevirtual 332, 3)), (62, (.iconst 0, 1)), (63, (.istore_n 2, 1)), (64, (.iload_n 2, 1)), (65, (.bipush 16, 2)), (67, (.if_icmp .ge 21, 3)), (70, (.aload_n 0, 1)), (71, (.getfield 46, 3)), (74, (.iload_n 2, 1)), (75, (.aload_n 0, 1)), (76, (.getfield 34, 3)), (79, (.iload_n 2, 1)), (80, (.iaload, 1)), (81, (.iastore, 1)), (82, (.iinc 2 1, 3)), (85, (.goto (-21), 3)), (88, (.return_, 1))]
set_option maxRecDepth 100000 in
theorem da_X12_counter_0 : dl_X12_counter_0.all (fun q => decide (decode cX12_counter q.1 = .ok q.2)) = true := by decide +kernel
theorem dX12_counter_0 : decode cX12_counter 0 = .ok (.aload_n 0, 1) := dec_of da_X12_counter_0 (k := 0) rfl
theorem dX12_counter_1 : decode cX12_counter 1 = .ok (.getfield 34, 3) := dec_of da_X12_counter_0 (k := 1) rfl
theorem dX12_counter_4 : decode cX12_counter 4 = .ok (.iconst 0, 1) := dec_of da_X12_counter_0 (k := 2) rfl
theorem dX12_counter_5 : decode cX12_counter 5 = .ok (.iconst 1, 1) := dec_of da_X12_counter_0 (k := 3) rfl
theorem dX12_counter_6 : decode cX12_counter 6 = .ok (.iastore, 1) := dec_of da_X12_counter_0 (k := 4) rfl
theorem dX12_counter_7 : decode cX12_counter 7 = .ok (.iconst 0, 1) := dec_of da_X12_counter_0 (k := 5) rfl
theorem dX12_counter_8 : decode cX12_counter 8 = .ok (.istore_n 2, 1) := dec_of da_X12_counter_0 (k := 6) rfl
theorem dX12_counter_9 : decode cX12_counter 9 = .ok (.iload_n 2, 1) := dec_of da_X12_counter_0 (k := 7) rfl
theorem dX12_counter_10 : decode cX12_counter 10 = .ok (.bipush 13, 2) := dec_of da_X12_counter_0 (k := 8) rfl
theorem dX12_counter_12 : decode cX12_counter 12 = .ok (.if_icmp .ge 23, 3) := dec_of da_X12_counter_0 (k := 9) rfl
theorem dX12_counter_15 : decode cX12_counter 15 = .ok (.aload_n 0, 1) := dec_of da_X12_counter_0 (k := 10) rfl
theorem dX12_counter_16 : decode cX12_counter 16 = .ok (.getfield 34, 3) := dec_of da_X12_counter_0 (k := 11) rfl
theorem dX12_counter_19 : decode cX12_counter 19 = .ok (.iconst 1, 1) := dec_of da_X12_counter_0 (k := 12) rfl
theorem dX12_counter_20 : decode cX12_counter 20 = .ok (.iload_n 2, 1) := dec_of da_X12_counter_0 (k := 13) rfl
theorem dX12_counter_21 : decode cX12_counter 21 = .ok (.iadd, 1) := dec_of da_X12_counter_0 (k := 14) rfl
theorem dX12_counter_22 : decode cX12_counter 22 = .ok (.aload_n 0, 1) := dec_of da_X12_counter_0 (k := 15) rfl
theorem dX12_counter_23 : decode cX12_counter 23 = .ok (.getfield 40, 3) := dec_of da_X12_counter_0 (k := 16) rfl
theorem dX12_counter_26 : decode cX12_counter 26 = .ok (.iload_n 2, 1) := dec_of da_X12_counter_0 (k := 17) rfl
theorem dX12_counter_27 : decode cX12_counter 27 = .ok (.iaload, 1) := dec_of da_X12_counter_0 (k := 18) rfl
theorem dX12_counter_28 : decode cX12_counter 28 = .ok (.iastore, 1) := dec_of da_X12_counter_0 (k := 19) rfl
theorem dX12_counter_29 : decode cX12_counter 29 = .ok (.iinc 2 1, 3) := dec_of da_X12_counter_0 (k := 20) rfl
theorem dX12_counter_32 : decode cX12_counter 32 = .ok (.goto (-23), 3) := dec_of da_X12_counter_0 (k := 21) rfl
theorem dX12_counter_35 : decode cX12_counter 35 = .ok (.aload_n 0, 1) := dec_of da_X12_counter_0 (k := 22) rfl
theorem dX12_counter_36 : decode cX12_counter 36 = .ok (.getfield 34, 3) := dec_of da_X12_counter_0 (k := 23) rfl
theorem dX12_counter_39 : decode cX12_counter 39 = .ok (.bipush 14, 2) := dec_of da_X12_counter_0 (k := 24) rfl
theorem dX12_counter_41 : decode cX12_counter 41 = .ok (.iload_n 1, 1) := dec_of da_X12_counter_0 (k := 25) rfl
theorem dX12_counter_42 : decode cX12_counter 42 = .ok (.bipush 8, 2) := dec_of da_X12_counter_0 (k := 26) rfl
theorem dX12_counter_44 : decode cX12_counter 44 = .ok (.ishr, 1) := dec_of da_X12_counter_0 (k := 27) rfl
theorem dX12_counter_45 : decode cX12_counter 45 = .ok (.iastore, 1) := dec_of da_X12_counter_0 (k := 28) rfl
theorem dX12_counter_46 : decode cX12_counter 46 = .ok (.aload_n 0, 1) := dec_of da_X12_counter_0 (k := 29) rfl
theorem dX12_counter_47 : decode cX12_counter 47 = .ok (.getfield 34, 3) := dec_of da_X12_counter_0 (k := 30) rfl
theorem dX12_counter_50 : decode cX12_counter 50 = .ok (.bipush 15, 2) := dec_of da_X12_counter_0 (k := 31) rfl
theorem dX12_counter_52 : decode cX12_counter 52 = .ok (.iload_n 1, 1) := dec_of da_X12_counter_0 (k := 32) rfl
theorem dX12_counter_53 : decode cX12_counter 53 = .ok (.sipush 255, 3) := dec_of da_X12_counter_0 (k := 33) rfl
theorem dX12_counter_56 : decode cX12_counter 56 = .ok (.iand, 1) := dec_of da_X12_counter_0 (k := 34) rfl
theorem dX12_counter_57 : decode cX12_counter 57 = .ok (.iastore, 1) := dec_of da_X12_counter_0 (k := 35) rfl
theorem dX12_counter_58 : decode cX12_counter 58 = .ok (.aload_n 0, 1) := dec_of da_X12_counter_0 (k := 36) rfl
theorem dX12_counter_59 : decode cX12_counter 59 = .ok (.invokevirtual 332, 3) := dec_of da_X12_counter_0 (k := 37) rfl
theorem dX12_counter_62 : decode cX12_counter 62 = .ok (.iconst 0, 1) := dec_of da_X12_counter_0 (k := 38) rfl
theorem dX12_counter_63 : decode cX12_counter 63 = .ok (.istore_n 2, 1) := dec_of da_X12_counter_0 (k := 39) rfl
theorem dX12_counter_64 : decode cX12_counter 64 = .ok (.iload_n 2, 1) := dec_of da_X12_counter_0 (k := 40) rfl
theorem dX12_counter_65 : decode cX12_counter 65 = .ok (.bipush 16, 2) := dec_of da_X12_counter_0 (k := 41) rfl
theorem dX12_counter_67 : decode cX12_counter 67 = .ok (.if_icmp .ge 21, 3) := dec_of da_X12_counter_0 (k := 42) rfl
theorem dX12_counter_70 : decode cX12_counter 70 = .ok (.aload_n 0, 1) := dec_of da_X12_counter_0 (k := 43) rfl
theorem dX12_counter_71 : decode cX12_counter 71 = .ok (.getfield 46, 3) := dec_of da_X12_counter_0 (k := 44) rfl
theorem dX12_counter_74 : decode cX12_counter 74 = .ok (.iload_n 2, 1) := dec_of da_X12_counter_0 (k := 45) rfl
theorem dX12_counter_75 : decode cX12_counter 75 = .ok (.aload_n 0, 1) := dec_of da_X12_counter_0 (k := 46) rfl
theorem dX12_counter_76 : decode cX12_counter 76 = .ok (.getfield 34, 3) := dec_of da_X12_counter_0 (k := 47) rfl
theorem dX12_counter_79 : decode cX12_counter 79 = .ok (.iload_n 2, 1) := dec_of da_X12_counter_0 (k := 48) rfl
theorem dX12_counter_80 : decode cX12_counter 80 = .ok (.iaload, 1) := dec_of da_X12_counter_0 (k := 49) rfl
theorem dX12_counter_81 : decode cX12_counter 81 = .ok (.iastore, 1) := dec_of da_X12_counter_0 (k := 50) rfl
theorem dX12_counter_82 : decode cX12_counter 82 = .ok (.iinc 2 1, 3) := dec_of da_X12_counter_0 (k := 51) rfl
theorem dX12_counter_85 : decode cX12_counter 85 = .ok (.goto (-21), 3) := dec_of da_X12_counter_0 (k := 52) rfl
theorem dX12_counter_88 : decode cX12_counter 88 = .ok (.return_, 1) := dec_of da_X12_counter_0 (k := 53) rfl
def dl_X12_cover_0 : List (Nat × (Instr × Nat)) := [(0, (.iconst 0, 1)), (1, (.istore 6, 2)), (3, (.iload 6, 2)), (5, (.iload 5, 2)), (7, (.if_icmp .ge 52, 3)), (10, (.iload 6, 2)), (12, (.bipush 16, 2)), (14, (.irem, 1)), (15, (.ifCond .ne 14, 3)), (18, (.aload_n 0, 1)), (19, (.iconst 1, 1)), (20, (.iload 6, 2)), (22, (.bipush 16, 2)), (24, (.idiv, 1)), (25, (.iadd, 1)), (26, (.invokevirtual 342, 3)), (29, (.aload_n 3, 1)), (30, (.iload 4, 2)), (32, (.iload 6, 2)), (34, (.iadd, 1)), (35, (.aload_n 1, 1)), (36, (.iload_n 2, 1)), (37, (.iload 6, 2)), (39, (.iadd, 1)), (40, (.iaload, 1)), (41, (.aload_n 0, 1)), (42, (.getfield 46, 3)), (45, (.iload 6, 2)), (47, (.bipush 16, 2)), (49, (.irem, 1)), (50, (.iaload, 1)), (51, (.ixor, 1)), (52, (.iastore, 1)), (53, (.iinc 6 1, 3)), (56, (.goto (-53), 3)), (59, (.return_, 1))]
set_option maxRecDepth 100000 in
theorem da_X12_cover_0 : dl_X12_cover_0.all (fun q => decide (decode cX12_cover q.1 = .ok q.2)) = true := by decide +kernel
theorem dX12_cover_0 : decode cX12_cover 0 = .ok (.iconst 0, 1) := dec_of da_X12_cover_0 (k := 0) rfl
theorem dX12_cover_1 : decode cX12_cover 1 = .ok (.istore 6, 2) := dec_of da_X12_cover_0 (k := 1) rfl
theorem dX12_cover_3 : decode cX12_cover 3 = .ok (.iload 6, 2) := dec_of da_X12_cover_0 (k := 2) rfl
theorem dX12_cover_5 : decode cX12_cover 5 = .ok (.iload 5, 2) := dec_of da_X12_cover_0 (k := 3) rfl
theorem dX12_cover_7 : decode cX12_cover 7 = .ok (.if_icmp .ge 52, 3) := dec_of da_X12_cover_0 (k := 4) rfl
theorem dX12_cover_10 : decode cX12_cover 10 = .ok (.iload 6, 2) := dec_of da_X12_cover_0 (k := 5) rfl
theorem dX12_cover_12 : decode cX12_cover 12 = .ok (.bipush 16, 2) := dec_of da_X12_cover_0 (k := 6) rfl
theorem dX12_cover_14 : decode cX12_cover 14 = .ok (.irem, 1) := dec_of da_X12_cover_0 (k := 7) rfl
theorem dX12_cover_15 : decode cX12_cover 15 = .ok (.ifCond .ne 14, 3) := dec_of da_X12_cover_0 (k := 8) rfl
theorem dX12_cover_18 : decode cX12_cover 18 = .ok (.aload_n 0, 1) := dec_of da_X12_cover_0 (k := 9) rfl
theorem dX12_cover_19 : decode cX12_cover 19 = .ok (.iconst 1, 1) := dec_of da_X12_cover_0 (k := 10) rfl
theorem dX12_cover_20 : decode cX12_cover 20 = .ok (.iload 6, 2) := dec_of da_X12_cover_0 (k := 11) rfl
theorem dX12_cover_22 : decode cX12_cover 22 = .ok (.bipush 16, 2) := dec_of da_X12_cover_0 (k := 12) rfl
theorem dX12_cover_24 : decode cX12_cover 24 = .ok (.idiv, 1) := dec_of da_X12_cover_0 (k := 13) rfl
theorem dX12_cover_25 : decode cX12_cover 25 = .ok (.iadd, 1) := dec_of da_X12_cover_0 (k := 14) rfl
theorem dX12_cover_26 : decode cX12_cover 26 = .ok (.invokevirtual 342, 3) := dec_of da_X12_cover_0 (k := 15) rfl
theorem dX12_cover_29 : decode cX12_cover 29 = .ok (.aload_n 3, 1) := dec_of da_X12_cover_0 (k := 16) rfl
theorem dX12_cover_30 : decode cX12_cover 30 = .ok (.iload 4, 2) := dec_of da_X12_cover_0 (k := 17) rfl
theorem dX12_cover_32 : decode cX12_cover 32 = .ok (.iload 6, 2) := dec_of da_X12_cover_0 (k := 18) rfl
theorem dX12_cover_34 : decode cX12_cover 34 = .ok (.iadd, 1) := dec_of da_X12_cover_0 (k := 19) rfl
theorem dX12_cover_35 : decode cX12_cover 35 = .ok (.aload_n 1, 1) := dec_of da_X12_cover_0 (k := 20) rfl
theorem dX12_cover_36 : decode cX12_cover 36 = .ok (.iload_n 2, 1) := dec_of da_X12_cover_0 (k := 21) rfl
theorem dX12_cover_37 : decode cX12_cover 37 = .ok (.iload 6, 2) := dec_of da_X12_cover_0 (k := 22) rfl
theorem dX12_cover_39 : decode cX12_cover 39 = .ok (.iadd, 1) := dec_of da_X12_cover_0 (k := 23) rfl
theorem dX12_cover_40 : decode cX12_cover 40 = .ok (.iaload, 1) := dec_of da_X12_cover_0 (k := 24) rfl
theorem dX12_cover_41 : decode cX12_cover 41 = .ok (.aload_n 0, 1) := dec_of da_X12_cover_0 (k := 25) rfl
theorem dX12_cover_42 : decode cX12_cover 42 = .ok (.getfield 46, 3) := dec_of da_X12_cover_0 (k := 26) rfl
theorem dX12_cover_45 : decode cX12_cover 45 = .ok (.iload 6, 2) := dec_of da_X12_cover_0 (k := 27) rfl
theorem dX12_cover_47 : decode cX12_cover 47 = .ok (.bipush 16, 2) := dec_of da_X12_cover_0 (k := 28) rfl
theorem dX12_cover_49 : decode cX12_cover 49 = .ok (.irem, 1) := dec_of da_X12_cover_0 (k := 29) rfl
theorem dX12_cover_50 : decode cX12_cover 50 = .ok (.iaload, 1) := dec_of da_X12_cover_0 (k := 30) rfl
theorem dX12_cover_51 : decode cX12_cover 51 = .ok (.ixor, 1) := dec_of da_X12_cover_0 (k := 31) rfl
theorem dX12_cover_52 : decode cX12_cover 52 = .ok (.iastore, 1) := dec_of da_X12_cover_0 (k := 32) rfl
theorem dX12_cover_53 : decode cX12_cover 53 = .ok (.iinc 6 1, 3) := dec_of da_X12_cover_0 (k := 33) rfl
theorem dX12_cover_56 : decode cX12_cover 56 = .ok (.goto (-53), 3) := dec_of da_X12_cover_0 (k := 34) rfl
theorem dX12_cover_59 : decode cX12_cover 59 = .ok (.return_, 1) := dec_of da_X12_cover_0 (k := 35) rfl
def dl_X12_crc_0 : List (Nat × (Instr × Nat)) := [(0, (.iconst (-1), 1)), (1, (.istore_n 3, 1)), (2, (.iconst 0, 1)), (3, (.istore 4, 2)), (5, (.iload 4, 2)), (7, (.iload_n 2, 1)), (8, (.if_icmp .ge 55, 3)), (11, (.iload_n 3, 1)), (12, (.aload_n 0, 1)), (13, (.iload_n 1, 1)), (14, (.iload 4, 2)), (16, (.iadd, 1)), (17, (.iaload, 1)), (18, (.ixor, 1)), (19, (.istore_n 3, 1)), (20, (.iconst 0, 1)), (21, (.istore 5, 2)), (23, (.iload 5, 2)), (25, (.bipush 8, 2)), (27, (.if_icmp .ge 30, 3)), (30, (.iload_n 3, 1)), (31, (.iconst 1, 1)), (32, (.iand, 1)), (33, (.iconst 1, 1)), (34, (.if_icmp .ne 13, 3)), (37, (.iload_n 3, 1)), (38, (.iconst 1, 1)), (39, (.iushr, 1)), (40, (.ldc_w 345, 3)), (43, (.ixor, 1)), (44, (.goto 6, 3)), (47, (.iload_n 3, 1)), (48, (.iconst 1, 1)), (49, (.iushr, 1)), (50, (.istore_n 3, 1)), (51, (.iinc 5 1, 3)), (54, (.goto (-31), 3)), (57, (.iinc 4 1, 3)), (60, (.goto (-55), 3)), (63, (.iload_n 3, 1)), (64, (.iconst (-1), 1)), (65, (.ixor, 1)), (66, (.ireturn, 1))]
set_option maxRecDepth 100000 in
theorem da_X12_crc_0 : dl_X12_crc_0.all (fun q => decide (decode cX12_crc q.1 = .ok q.2)) = true := by decide +kernel
theorem dX12_crc_0 : decode cX12_crc 0 = .ok (.iconst (-1), 1) := dec_of da_X12_crc_0 (k := 0) rfl
theorem dX12_crc_1 : decode cX12_crc 1 = .ok (.istore_n 3, 1) := dec_of da_X12_crc_0 (k := 1) rfl
theorem dX12_crc_2 : decode cX12_crc 2 = .ok (.iconst 0, 1) := dec_of da_X12_crc_0 (k := 2) rfl
theorem dX12_crc_3 : decode cX12_crc 3 = .ok (.istore 4, 2) := dec_of da_X12_crc_0 (k := 3) rfl
theorem dX12_crc_5 : decode cX12_crc 5 = .ok (.iload 4, 2) := dec_of da_X12_crc_0 (k := 4) rfl
theorem dX12_crc_7 : decode cX12_crc 7 = .ok (.iload_n 2, 1) := dec_of da_X12_crc_0 (k := 5) rfl
theorem dX12_crc_8 : decode cX12_crc 8 = .ok (.if_icmp .ge 55, 3) := dec_of da_X12_crc_0 (k := 6) rfl
theorem dX12_crc_11 : decode cX12_crc 11 = .ok (.iload_n 3, 1) := dec_of da_X12_crc_0 (k := 7) rfl
theorem dX12_crc_12 : decode cX12_crc 12 = .ok (.aload_n 0, 1) := dec_of da_X12_crc_0 (k := 8) rfl
theorem dX12_crc_13 : decode cX12_crc 13 = .ok (.iload_n 1, 1) := dec_of da_X12_crc_0 (k := 9) rfl
theorem dX12_crc_14 : decode cX12_crc 14 = .ok (.iload 4, 2) := dec_of da_X12_crc_0 (k := 10) rfl
theorem dX12_crc_16 : decode cX12_crc 16 = .ok (.iadd, 1) := dec_of da_X12_crc_0 (k := 11) rfl
theorem dX12_crc_17 : decode cX12_crc 17 = .ok (.iaload, 1) := dec_of da_X12_crc_0 (k := 12) rfl
theorem dX12_crc_18 : decode cX12_crc 18 = .ok (.ixor, 1) := dec_of da_X12_crc_0 (k := 13) rfl
theorem dX12_crc_19 : decode cX12_crc 19 = .ok (.istore_n 3, 1) := dec_of da_X12_crc_0 (k := 14) rfl
theorem dX12_crc_20 : decode cX12_crc 20 = .ok (.iconst 0, 1) := dec_of da_X12_crc_0 (k := 15) rfl
theorem dX12_crc_21 : decode cX12_crc 21 = .ok (.istore 5, 2) := dec_of da_X12_crc_0 (k := 16) rfl
theorem dX12_crc_23 : decode cX12_crc 23 = .ok (.iload 5, 2) := dec_of da_X12_crc_0 (k := 17) rfl
theorem dX12_crc_25 : decode cX12_crc 25 = .ok (.bipush 8, 2) := dec_of da_X12_crc_0 (k := 18) rfl
theorem dX12_crc_27 : decode cX12_crc 27 = .ok (.if_icmp .ge 30, 3) := dec_of da_X12_crc_0 (k := 19) rfl
theorem dX12_crc_30 : decode cX12_crc 30 = .ok (.iload_n 3, 1) := dec_of da_X12_crc_0 (k := 20) rfl
theorem dX12_crc_31 : decode cX12_crc 31 = .ok (.iconst 1, 1) := dec_of da_X12_crc_0 (k := 21) rfl
theorem dX12_crc_32 : decode cX12_crc 32 = .ok (.iand, 1) := dec_of da_X12_crc_0 (k := 22) rfl
theorem dX12_crc_33 : decode cX12_crc 33 = .ok (.iconst 1, 1) := dec_of da_X12_crc_0 (k := 23) rfl
theorem dX12_crc_34 : decode cX12_crc 34 = .ok (.if_icmp .ne 13, 3) := dec_of da_X12_crc_0 (k := 24) rfl
theorem dX12_crc_37 : decode cX12_crc 37 = .ok (.iload_n 3, 1) := dec_of da_X12_crc_0 (k := 25) rfl
theorem dX12_crc_38 : decode cX12_crc 38 = .ok (.iconst 1, 1) := dec_of da_X12_crc_0 (k := 26) rfl
theorem dX12_crc_39 : decode cX12_crc 39 = .ok (.iushr, 1) := dec_of da_X12_crc_0 (k := 27) rfl
theorem dX12_crc_40 : decode cX12_crc 40 = .ok (.ldc_w 345, 3) := dec_of da_X12_crc_0 (k := 28) rfl
theorem dX12_crc_43 : decode cX12_crc 43 = .ok (.ixor, 1) := dec_of da_X12_crc_0 (k := 29) rfl
theorem dX12_crc_44 : decode cX12_crc 44 = .ok (.goto 6, 3) := dec_of da_X12_crc_0 (k := 30) rfl
theorem dX12_crc_47 : decode cX12_crc 47 = .ok (.iload_n 3, 1) := dec_of da_X12_crc_0 (k := 31) rfl
theorem dX12_crc_48 : decode cX12_crc 48 = .ok (.iconst 1, 1) := dec_of da_X12_crc_0 (k := 32) rfl
theorem dX12_crc_49 : decode cX12_crc 49 = .ok (.iushr, 1) := dec_of da_X12_crc_0 (k := 33) rfl
theorem dX12_crc_50 : decode cX12_crc 50 = .ok (.istore_n 3, 1) := dec_of da_X12_crc_0 (k := 34) rfl
theorem dX12_crc_51 : decode cX12_crc 51 = .ok (.iinc 5 1, 3) := dec_of da_X12_crc_0 (k := 35) rfl
theorem dX12_crc_54 : decode cX12_crc 54 = .ok (.goto (-31), 3) := dec_of da_X12_crc_0 (k := 36) rfl
theorem dX12_crc_57 : decode cX12_crc 57 = .ok (.iinc 4 1, 3) := dec_of da_X12_crc_0 (k := 37) rfl
theorem dX12_crc_60 : decode cX12_crc 60 = .ok (.goto (-55), 3) := dec_of da_X12_crc_0 (k := 38) rfl
theorem dX12_crc_63 : decode cX12_crc 63 = .ok (.iload_n 3, 1) := dec_of da_X12_crc_0 (k := 39) rfl
theorem dX12_crc_64 : decode cX12_crc 64 = .ok (.iconst (-1), 1) := dec_of da_X12_crc_0 (k := 40) rfl
theorem dX12_crc_65 : decode cX12_crc 65 = .ok (.ixor, 1) := dec_of da_X12_crc_0 (k := 41) rfl
theorem dX12_crc_66 : decode cX12_crc 66 = .ok (.ireturn, 1) := dec_of da_X12_crc_0 (k := 42) rfl
def dl_X12_four_0 : List (Nat × (Instr × Nat)) := [(0, (.bipush 24, 2)), (2, (.istore_n 2, 1)), (3, (.iload_n 2, 1)), (4, (.ifCond .lt 35, 3)), (7, (.aload_n 0, 1)), (8, (.getfield 52, 3)), (11, (.aload_n 0, 1)), (12, (.getfield 346, 3)), (15, (.iload_n 1, 1)), (16, (.iload_n 2, 1)), (17, (.ishr, 1)), (18, (.sipush 255, 3)), (21, (.iand, 1)), (22, (.iastore, 1)), (23, (.aload_n 0, 1)), (24, (.dup, 1)), (25, (.getfield 346, 3)), (28, (.iconst 1, 1)), (29, (.iadd, 1)), (30, (.putfield 346, 3)), (33, (.iinc 2 (-8), 3)), (36, (.goto (-33), 3)), (39, (.return_, 1))]
set_option maxRecDepth 100000 in
theorem da_X12_four_0 : dl_X12_four_0.all (fun q => decide (decode cX12_four q.1 = .ok q.2)) = true := by decide +kernel
theorem dX12_four_0 : decode cX12_four 0 = .ok (.bipush 24, 2) := dec_of da_X12_four_0 (k := 0) rfl
theorem dX12_four_2 : decode cX12_four 2 = .ok (.istore_n 2, 1) := dec_of da_X12_four_0 (k := 1) rfl
theorem dX12_four_3 : decode cX12_four 3 = .ok (.iload_n 2, 1) := dec_of da_X12_four_0 (k := 2) rfl
theorem dX12_four_4 : decode cX12_four 4 = .ok (.ifCond .lt 35, 3) := dec_of da_X12_four_0 (k := 3) rfl
theorem dX12_four_7 : decode cX12_four 7 = .ok (.aload_n 0, 1) := dec_of da_X12_four_0 (k := 4) rfl
theorem dX12_four_8 : decode cX12_four 8 = .ok (.getfield 52, 3) := dec_of da_X12_four_0 (k := 5) rfl
theorem dX12_four_11 : decode cX12_four 11 = .ok (.aload_n 0, 1) := dec_of da_X12_four_0 (k := 6) rfl
theorem dX12_four_12 : decode cX12_four 12 = .ok (.getfield 346, 3) := dec_of da_X12_four_0 (k := 7) rfl
theorem dX12_four_15 : decode cX12_four 15 = .ok (.iload_n 1, 1) := dec_of da_X12_four_0 (k := 8) rfl
theorem dX12_four_16 : decode cX12_four 16 = .ok (.iload_n 2, 1) := dec_of da_X12_four_0 (k := 9) rfl
theorem dX12_four_17 : decode cX12_four 17 = .ok (.ishr, 1) := dec_of da_X12_four_0 (k := 10) rfl
theorem dX12_four_18 : decode cX12_four 18 = .ok (.sipush 255, 3) := dec_of da_X12_four_0 (k := 11) rfl
theorem dX12_four_21 : decode cX12_four 21 = .ok (.iand, 1) := dec_of da_X12_four_0 (k := 12) rfl
theorem dX12_four_22 : decode cX12_four 22 = .ok (.iastore, 1) := dec_of da_X12_four_0 (k := 13) rfl
theorem dX12_four_23 : decode cX12_four 23 = .ok (.aload_n 0, 1) := dec_of da_X12_four_0 (k := 14) rfl
theorem dX12_four_24 : decode cX12_four 24 = .ok (.dup, 1) := dec_of da_X12_four_0 (k := 15) rfl
theorem dX12_four_25 : decode cX12_four 25 = .ok (.getfield 346, 3) := dec_of da_X12_four_0 (k := 16) rfl
theorem dX12_four_28 : decode cX12_four 28 = .ok (.iconst 1, 1) := dec_of da_X12_four_0 (k := 17) rfl
theorem dX12_four_29 : decode cX12_four 29 = .ok (.iadd, 1) := dec_of da_X12_four_0 (k := 18) rfl
theorem dX12_four_30 : decode cX12_four 30 = .ok (.putfield 346, 3) := dec_of da_X12_four_0 (k := 19) rfl
theorem dX12_four_33 : decode cX12_four 33 = .ok (.iinc 2 (-8), 3) := dec_of da_X12_four_0 (k := 20) rfl
theorem dX12_four_36 : decode cX12_four 36 = .ok (.goto (-33), 3) := dec_of da_X12_four_0 (k := 21) rfl
theorem dX12_four_39 : decode cX12_four 39 = .ok (.return_, 1) := dec_of da_X12_four_0 (k := 22) rfl
def dl_X12_feed_0 : List (Nat × (Instr × Nat)) := [(0, (.aload_n 0, 1)), (1, (.iconst 0, 1)), (2, (.putfield 287, 3)), (5, (.aload_n 0, 1)), (6, (.getfield 346, 3)), (9, (.bipush 20, 2)), (11, (.iadd, 1)), (12, (.sipush 300, 3)), (15, (.if_icmp .le 5, 3)), (18, (.iconst (-1), 1)), (19, (.ireturn, 1)), (20, (.aload_n 0, 1)), (21, (.iload_n 1, 1)), (22, (.invokevirtual 349, 3)), (25, (.aload_n 0, 1)), (26, (.iload_n 2, 1)), (27, (.invokevirtual 349, 3)), (30, (.aload_n 0, 1)), (31, (.iload_n 3, 1)), (32, (.invokevirtual 349, 3)), (35, (.aload_n 0, 1)), (36, (.iload 4, 2)), (38, (.invokevirtual 349, 3)), (41, (.aload_n 0, 1)), (42, (.iload 5, 2)), (44, (.invokevirtual 349, 3)), (47, (.aload_n 0, 1)), (48, (.getfield 346, 3)), (51, (.ireturn, 1))]
set_option maxRecDepth 100000 in
theorem da_X12_feed_0 : dl_X12_feed_0.all (fun q => decide (decode cX12_feed q.1 = .ok q.2)) = true := by decide +kernel
theorem dX12_feed_0 : decode cX12_feed 0 = .ok (.aload_n 0, 1) := dec_of da_X12_feed_0 (k := 0) rfl
theorem dX12_feed_1 : decode cX12_feed 1 = .ok (.iconst 0, 1) := dec_of da_X12_feed_0 (k := 1) rfl
theorem dX12_feed_2 : decode cX12_feed 2 = .ok (.putfield 287, 3) := dec_of da_X12_feed_0 (k := 2) rfl
theorem dX12_feed_5 : decode cX12_feed 5 = .ok (.aload_n 0, 1) := dec_of da_X12_feed_0 (k := 3) rfl
theorem dX12_feed_6 : decode cX12_feed 6 = .ok (.getfield 346, 3) := dec_of da_X12_feed_0 (k := 4) rfl
theorem dX12_feed_9 : decode cX12_feed 9 = .ok (.bipush 20, 2) := dec_of da_X12_feed_0 (k := 5) rfl
theorem dX12_feed_11 : decode cX12_feed 11 = .ok (.iadd, 1) := dec_of da_X12_feed_0 (k := 6) rfl
theorem dX12_feed_12 : decode cX12_feed 12 = .ok (.sipush 300, 3) := dec_of da_X12_feed_0 (k := 7) rfl
theorem dX12_feed_15 : decode cX12_feed 15 = .ok (.if_icmp .le 5, 3) := dec_of da_X12_feed_0 (k := 8) rfl
theorem dX12_feed_18 : decode cX12_feed 18 = .ok (.iconst (-1), 1) := dec_of da_X12_feed_0 (k := 9) rfl
theorem dX12_feed_19 : decode cX12_feed 19 = .ok (.ireturn, 1) := dec_of da_X12_feed_0 (k := 10) rfl
theorem dX12_feed_20 : decode cX12_feed 20 = .ok (.aload_n 0, 1) := dec_of da_X12_feed_0 (k := 11) rfl
theorem dX12_feed_21 : decode cX12_feed 21 = .ok (.iload_n 1, 1) := dec_of da_X12_feed_0 (k := 12) rfl
theorem dX12_feed_22 : decode cX12_feed 22 = .ok (.invokevirtual 349, 3) := dec_of da_X12_feed_0 (k := 13) rfl
theorem dX12_feed_25 : decode cX12_feed 25 = .ok (.aload_n 0, 1) := dec_of da_X12_feed_0 (k := 14) rfl
theorem dX12_feed_26 : decode cX12_feed 26 = .ok (.iload_n 2, 1) := dec_of da_X12_feed_0 (k := 15) rfl
theorem dX12_feed_27 : decode cX12_feed 27 = .ok (.invokevirtual 349, 3) := dec_of da_X12_feed_0 (k := 16) rfl
theorem dX12_feed_30 : decode cX12_feed 30 = .ok (.aload_n 0, 1) := dec_of da_X12_feed_0 (k := 17) rfl
theorem dX12_feed_31 : decode cX12_feed 31 = .ok (.iload_n 3, 1) := dec_of da_X12_feed_0 (k := 18) rfl
theorem dX12_feed_32 : decode cX12_feed 32 = .ok (.invokevirtual 349, 3) := dec_of da_X12_feed_0 (k := 19) rfl
theorem dX12_feed_35 : decode cX12_feed 35 = .ok (.aload_n 0, 1) := dec_of da_X12_feed_0 (k := 20) rfl
theorem dX12_feed_36 : decode cX12_feed 36 = .ok (.iload 4, 2) := dec_of da_X12_feed_0 (k := 21) rfl
theorem dX12_feed_38 : decode cX12_feed 38 = .ok (.invokevirtual 349, 3) := dec_of da_X12_feed_0 (k := 22) rfl
theorem dX12_feed_41 : decode cX12_feed 41 = .ok (.aload_n 0, 1) := dec_of da_X12_feed_0 (k := 23) rfl
theorem dX12_feed_42 : decode cX12_feed 42 = .ok (.iload 5, 2) := dec_of da_X12_feed_0 (k := 24) rfl
theorem dX12_feed_44 : decode cX12_feed 44 = .ok (.invokevirtual 349, 3) := dec_of da_X12_feed_0 (k := 25) rfl
theorem dX12_feed_47 : decode cX12_feed 47 = .ok (.aload_n 0, 1) := dec_of da_X12_feed_0 (k := 26) rfl
theorem dX12_feed_48 : decode cX12_feed 48 = .ok (.getfield 346, 3) := dec_of da_X12_feed_0 (k := 27) rfl
theorem dX12_feed_51 : decode cX12_feed 51 = .ok (.ireturn, 1) := dec_of da_X12_feed_0 (k := 28) rfl
def dl_X12_end_0 : List (Nat × (Instr × Nat)) := [(0, (.aload_n 0, 1)), (1, (.iconst 0, 1)), (2, (.putfield 287, 3)), (5, (.iload_n 1, 1)), (6, (.ifCond .lt 11, 3)), (9, (.iload_n 1, 1)), (10, (.aload_n 0, 1)), (11, (.getfield 346, 3)), (14, (.if_icmp .le 5, 3)), (17, (.iconst (-1), 1)), (18, (.ireturn, 1)), (19, (.aload_n 0, 1)), (20, (.iload_n 1, 1)), (21, (.putfield 346, 3)), (24, (.iload_n 1, 1)), (25, (.ireturn, 1))]
set_option maxRecDepth 100000 in
theorem da_X12_end_0 : dl_X12_end_0.all (fun q => decide (decode cX12_end q.1 = .ok q.2)) = true := by decide +kernel
theorem dX12_end_0 : decode cX12_end 0 = .ok (.aload_n 0, 1) := dec_of da_X12_end_0 (k := 0) rfl
theorem dX12_end_1 : decode cX12_end 1 = .ok (.iconst 0, 1) := dec_of da_X12_end_0 (k := 1) rfl
theorem dX12_end_2 : decode cX12_end 2 = .ok (.putfield 287, 3) := dec_of da_X12_end_0 (k := 2) rfl
theorem dX12_end_5 : decode cX12_end 5 = .ok (.iload_n 1, 1) := dec_of da_X12_end_0 (k := 3) rfl
theorem dX12_end_6 : decode cX12_end 6 = .ok (.ifCond .lt 11, 3) := dec_of da_X12_end_0 (k := 4) rfl
theorem dX12_end_9 : decode cX12_end 9 = .ok (.iload_n 1, 1) := dec_of da_X12_end_0 (k := 5) rfl
theorem dX12_end_10 : decode cX12_end 10 = .ok (.aload_n 0, 1) := dec_of da_X12_end_0 (k := 6) rfl
theorem dX12_end_11 : decode cX12_end 11 = .ok (.getfield 346, 3) := dec_of da_X12_end_0 (k := 7) rfl
theorem dX12_end_14 : decode cX12_end 14 = .ok (.if_icmp .le 5, 3) := dec_of da_X12_end_0 (k := 8) rfl
theorem dX12_end_17 : decode cX12_end 17 = .ok (.iconst (-1), 1) := dec_of da_X12_end_0 (k := 9) rfl
theorem dX12_end_18 : decode cX12_end 18 = .ok (.ireturn, 1) := dec_of da_X12_end_0 (k := 10) rfl
theorem dX12_end_19 : decode cX12_end 19 = .ok (.aload_n 0, 1) := dec_of da_X12_end_0 (k := 11) rfl
theorem dX12_end_20 : decode cX12_end 20 = .ok (.iload_n 1, 1) := dec_of da_X12_end_0 (k := 12) rfl
theorem dX12_end_21 : decode cX12_end 21 = .ok (.putfield 346, 3) := dec_of da_X12_end_0 (k := 13) rfl
theorem dX12_end_24 : decode cX12_end 24 = .ok (.iload_n 1, 1) := dec_of da_X12_end_0 (k := 14) rfl
theorem dX12_end_25 : decode cX12_end 25 = .ok (.ireturn, 1) := dec_of da_X12_end_0 (k := 15) rfl
def dl_X12_alter_0 : List (Nat × (Instr × Nat)) := [(0, (.aload_n 0, 1)), (1, (.iconst 0, 1)), (2, (.putfield 287, 3)), (5, (.iload_n 1, 1)), (6, (.ifCond .lt 23, 3)), (9, (.iload_n 1, 1)), (10, (.aload_n 0, 1)), (11, (.getfield 346, 3)), (14, (.if_icmp .ge 15, 3)), (17, (.iload_n 2, 1)), (18, (.i2l, 1)), (19, (.lconst 1, 1)), (20, (.ldc2_w 352, 3)), (23, (.invokestatic 354, 3)), (26, (.ifCond .ne 5, 3)), (29, (.iconst (-1), 1)), (30, (.ireturn, 1)), (31, (.aload_n 0, 1)), (32, (.getfield 52, 3)), (35, (.iload_n 1, 1)), (36, (.aload_n 0, 1)), (37, (.getfield 52, 3)), (40, (.iload_n 1, 1)), (41, (.iaload, 1)), (42, (.iload_n 2, 1)), (43, (.ixor, 1)), (44, (.iastore, 1)), (45, (.aload_n 0, 1)), (46, (.getfield 52, 3)), (49, (.iload_n 1, 1)), (50, (.iaload, 1)), (51, (.ireturn, 1))]
set_option maxRecDepth 100000 in
theorem da_X12_alter_0 : dl_X12_alter_0.all (fun q => decide (decode cX12_alter q.1 = .ok q.2)) = true := by decide +kernel
theorem dX12_alter_0 : decode cX12_alter 0 = .ok (.aload_n 0, 1) := dec_of da_X12_alter_0 (k := 0) rfl
theorem dX12_alter_1 : decode cX12_alter 1 = .ok (.iconst 0, 1) := dec_of da_X12_alter_0 (k := 1) rfl
theorem dX12_alter_2 : decode cX12_alter 2 = .ok (.putfield 287, 3) := dec_of da_X12_alter_0 (k := 2) rfl
theorem dX12_alter_5 : decode cX12_alter 5 = .ok (.iload_n 1, 1) := dec_of da_X12_alter_0 (k := 3) rfl
theorem dX12_alter_6 : decode cX12_alter 6 = .ok (.ifCond .lt 23, 3) := dec_of da_X12_alter_0 (k := 4) rfl
theorem dX12_alter_9 : decode cX12_alter 9 = .ok (.iload_n 1, 1) := dec_of da_X12_alter_0 (k := 5) rfl
theorem dX12_alter_10 : decode cX12_alter 10 = .ok (.aload_n 0, 1) := dec_of da_X12_alter_0 (k := 6) rfl
theorem dX12_alter_11 : decode cX12_alter 11 = .ok (.getfield 346, 3) := dec_of da_X12_alter_0 (k := 7) rfl
theorem dX12_alter_14 : decode cX12_alter 14 = .ok (.if_icmp .ge 15, 3) := dec_of da_X12_alter_0 (k := 8) rfl
theorem dX12_alter_17 : decode cX12_alter 17 = .ok (.iload_n 2, 1) := dec_of da_X12_alter_0 (k := 9) rfl
theorem dX12_alter_18 : decode cX12_alter 18 = .ok (.i2l, 1) := dec_of da_X12_alter_0 (k := 10) rfl
theorem dX12_alter_19 : decode cX12_alter 19 = .ok (.lconst 1, 1) := dec_of da_X12_alter_0 (k := 11) rfl
theorem dX12_alter_20 : decode cX12_alter 20 = .ok (.ldc2_w 352, 3) := dec_of da_X12_alter_0 (k := 12) rfl
theorem dX12_alter_23 : decode cX12_alter 23 = .ok (.invokestatic 354, 3) := dec_of da_X12_alter_0 (k := 13) rfl
theorem dX12_alter_26 : decode cX12_alter 26 = .ok (.ifCond .ne 5, 3) := dec_of da_X12_alter_0 (k := 14) rfl
theorem dX12_alter_29 : decode cX12_alter 29 = .ok (.iconst (-1), 1) := dec_of da_X12_alter_0 (k := 15) rfl
theorem dX12_alter_30 : decode cX12_alter 30 = .ok (.ireturn, 1) := dec_of da_X12_alter_0 (k := 16) rfl
theorem dX12_alter_31 : decode cX12_alter 31 = .ok (.aload_n 0, 1) := dec_of da_X12_alter_0 (k := 17) rfl
theorem dX12_alter_32 : decode cX12_alter 32 = .ok (.getfield 52, 3) := dec_of da_X12_alter_0 (k := 18) rfl
theorem dX12_alter_35 : decode cX12_alter 35 = .ok (.iload_n 1, 1) := dec_of da_X12_alter_0 (k := 19) rfl
theorem dX12_alter_36 : decode cX12_alter 36 = .ok (.aload_n 0, 1) := dec_of da_X12_alter_0 (k := 20) rfl
theorem dX12_alter_37 : decode cX12_alter 37 = .ok (.getfield 52, 3) := dec_of da_X12_alter_0 (k := 21) rfl
theorem dX12_alter_40 : decode cX12_alter 40 = .ok (.iload_n 1, 1) := dec_of da_X12_alter_0 (k := 22) rfl
theorem dX12_alter_41 : decode cX12_alter 41 = .ok (.iaload, 1) := dec_of da_X12_alter_0 (k := 23) rfl
theorem dX12_alter_42 : decode cX12_alter 42 = .ok (.iload_n 2, 1) := dec_of da_X12_alter_0 (k := 24) rfl
theorem dX12_alter_43 : decode cX12_alter 43 = .ok (.ixor, 1) := dec_of da_X12_alter_0 (k := 25) rfl
theorem dX12_alter_44 : decode cX12_alter 44 = .ok (.iastore, 1) := dec_of da_X12_alter_0 (k := 26) rfl
theorem dX12_alter_45 : decode cX12_alter 45 = .ok (.aload_n 0, 1) := dec_of da_X12_alter_0 (k := 27) rfl
theorem dX12_alter_46 : decode cX12_alter 46 = .ok (.getfield 52, 3) := dec_of da_X12_alter_0 (k := 28) rfl
theorem dX12_alter_49 : decode cX12_alter 49 = .ok (.iload_n 1, 1) := dec_of da_X12_alter_0 (k := 29) rfl
theorem dX12_alter_50 : decode cX12_alter 50 = .ok (.iaload, 1) := dec_of da_X12_alter_0 (k := 30) rfl
theorem dX12_alter_51 : decode cX12_alter 51 = .ok (.ireturn, 1) := dec_of da_X12_alter_0 (k := 31) rfl
def dl_X12_check_0 : List (Nat × (Instr × Nat)) := [(0, (.aload_n 0, 1)), (1, (.iconst 0, 1)), (2, (.putfield 287, 3)), (5, (.aload_n 0, 1)), (6, (.getfield 346, 3)), (9, (.iconst 4, 1)), (10, (.iadd, 1)), (11, (.sipush 300, 3)), (14, (.if_icmp .le 5, 3)), (17, (.iconst (-1), 1)), (18, (.ireturn, 1)), (19, (.aload_n 0, 1)), (20, (.getfield 52, 3)), (23, (.iconst 0, 1)), (24, (.aload_n 0, 1)), (25, (.getfield 346, 3)), (28, (.invokestatic 358, 3)), (31, (.istore_n 1, 1)), (32, (.iconst 0, 1)), (33, (.istore_n 2, 1)), (34, (.iload_n 2, 1)), (35, (.iconst 4, 1)), (36, (.if_icmp .ge 38, 3)), (39, (.aload_n 0, 1)), (40, (.getfield 52, 3)), (43, (.aload_n 0, 1)), (44, (.getfield 346, 3)), (47, (.iload_n 1, 1)), (48, (.bipush 8, 2)), (50, (.iload_n 2, 1)), (51, (.imul, 1)), (52, (.ishr, 1)), (53, (.sipush 255, 3)), (56, (.iand, 1)), (57, (.iastore, 1)), (58, (.aload_n 0, 1)), (59, (.dup, 1)), (60, (.getfield 346, 3)), (63, (.iconst 1, 1)), (64, (.iadd, 1)), (65, (.putfield 346, 3)), (68, (.iinc 2 1, 3)), (71, (.goto (-37), 3)), (74, (.aload_n 0, 1)), (75, (.getfield 346, 3)), (78, (.ireturn, 1))]
set_option maxRecDepth 100000 in
theorem da_X12_check_0 : dl_X12_check_0.all (fun q => decide (decode cX12_check q.1 = .ok q.2)) = true := by decide +kernel
theorem dX12_check_0 : decode cX12_check 0 = .ok (.aload_n 0, 1) := dec_of da_X12_check_0 (k := 0) rfl
theorem dX12_check_1 : decode cX12_check 1 = .ok (.iconst 0, 1) := dec_of da_X12_check_0 (k := 1) rfl
theorem dX12_check_2 : decode cX12_check 2 = .ok (.putfield 287, 3) := dec_of da_X12_check_0 (k := 2) rfl
theorem dX12_check_5 : decode cX12_check 5 = .ok (.aload_n 0, 1) := dec_of da_X12_check_0 (k := 3) rfl
theorem dX12_check_6 : decode cX12_check 6 = .ok (.getfield 346, 3) := dec_of da_X12_check_0 (k := 4) rfl
theorem dX12_check_9 : decode cX12_check 9 = .ok (.iconst 4, 1) := dec_of da_X12_check_0 (k := 5) rfl
theorem dX12_check_10 : decode cX12_check 10 = .ok (.iadd, 1) := dec_of da_X12_check_0 (k := 6) rfl
theorem dX12_check_11 : decode cX12_check 11 = .ok (.sipush 300, 3) := dec_of da_X12_check_0 (k := 7) rfl
theorem dX12_check_14 : decode cX12_check 14 = .ok (.if_icmp .le 5, 3) := dec_of da_X12_check_0 (k := 8) rfl
theorem dX12_check_17 : decode cX12_check 17 = .ok (.iconst (-1), 1) := dec_of da_X12_check_0 (k := 9) rfl
theorem dX12_check_18 : decode cX12_check 18 = .ok (.ireturn, 1) := dec_of da_X12_check_0 (k := 10) rfl
theorem dX12_check_19 : decode cX12_check 19 = .ok (.aload_n 0, 1) := dec_of da_X12_check_0 (k := 11) rfl
theorem dX12_check_20 : decode cX12_check 20 = .ok (.getfield 52, 3) := dec_of da_X12_check_0 (k := 12) rfl
theorem dX12_check_23 : decode cX12_check 23 = .ok (.iconst 0, 1) := dec_of da_X12_check_0 (k := 13) rfl
theorem dX12_check_24 : decode cX12_check 24 = .ok (.aload_n 0, 1) := dec_of da_X12_check_0 (k := 14) rfl
theorem dX12_check_25 : decode cX12_check 25 = .ok (.getfield 346, 3) := dec_of da_X12_check_0 (k := 15) rfl
theorem dX12_check_28 : decode cX12_check 28 = .ok (.invokestatic 358, 3) := dec_of da_X12_check_0 (k := 16) rfl
theorem dX12_check_31 : decode cX12_check 31 = .ok (.istore_n 1, 1) := dec_of da_X12_check_0 (k := 17) rfl
theorem dX12_check_32 : decode cX12_check 32 = .ok (.iconst 0, 1) := dec_of da_X12_check_0 (k := 18) rfl
theorem dX12_check_33 : decode cX12_check 33 = .ok (.istore_n 2, 1) := dec_of da_X12_check_0 (k := 19) rfl
theorem dX12_check_34 : decode cX12_check 34 = .ok (.iload_n 2, 1) := dec_of da_X12_check_0 (k := 20) rfl
theorem dX12_check_35 : decode cX12_check 35 = .ok (.iconst 4, 1) := dec_of da_X12_check_0 (k := 21) rfl
theorem dX12_check_36 : decode cX12_check 36 = .ok (.if_icmp .ge 38, 3) := dec_of da_X12_check_0 (k := 22) rfl
theorem dX12_check_39 : decode cX12_check 39 = .ok (.aload_n 0, 1) := dec_of da_X12_check_0 (k := 23) rfl
theorem dX12_check_40 : decode cX12_check 40 = .ok (.getfield 52, 3) := dec_of da_X12_check_0 (k := 24) rfl
theorem dX12_check_43 : decode cX12_check 43 = .ok (.aload_n 0, 1) := dec_of da_X12_check_0 (k := 25) rfl
theorem dX12_check_44 : decode cX12_check 44 = .ok (.getfield 346, 3) := dec_of da_X12_check_0 (k := 26) rfl
theorem dX12_check_47 : decode cX12_check 47 = .ok (.iload_n 1, 1) := dec_of da_X12_check_0 (k := 27) rfl
theorem dX12_check_48 : decode cX12_check 48 = .ok (.bipush 8, 2) := dec_of da_X12_check_0 (k := 28) rfl
theorem dX12_check_50 : decode cX12_check 50 = .ok (.iload_n 2, 1) := dec_of da_X12_check_0 (k := 29) rfl
theorem dX12_check_51 : decode cX12_check 51 = .ok (.imul, 1) := dec_of da_X12_check_0 (k := 30) rfl
theorem dX12_check_52 : decode cX12_check 52 = .ok (.ishr, 1) := dec_of da_X12_check_0 (k := 31) rfl
theorem dX12_check_53 : decode cX12_check 53 = .ok (.sipush 255, 3) := dec_of da_X12_check_0 (k := 32) rfl
theorem dX12_check_56 : decode cX12_check 56 = .ok (.iand, 1) := dec_of da_X12_check_0 (k := 33) rfl
theorem dX12_check_57 : decode cX12_check 57 = .ok (.iastore, 1) := dec_of da_X12_check_0 (k := 34) rfl
theorem dX12_check_58 : decode cX12_check 58 = .ok (.aload_n 0, 1) := dec_of da_X12_check_0 (k := 35) rfl
theorem dX12_check_59 : decode cX12_check 59 = .ok (.dup, 1) := dec_of da_X12_check_0 (k := 36) rfl
theorem dX12_check_60 : decode cX12_check 60 = .ok (.getfield 346, 3) := dec_of da_X12_check_0 (k := 37) rfl
theorem dX12_check_63 : decode cX12_check 63 = .ok (.iconst 1, 1) := dec_of da_X12_check_0 (k := 38) rfl
theorem dX12_check_64 : decode cX12_check 64 = .ok (.iadd, 1) := dec_of da_X12_check_0 (k := 39) rfl
theorem dX12_check_65 : decode cX12_check 65 = .ok (.putfield 346, 3) := dec_of da_X12_check_0 (k := 40) rfl
theorem dX12_check_68 : decode cX12_check 68 = .ok (.iinc 2 1, 3) := dec_of da_X12_check_0 (k := 41) rfl
theorem dX12_check_71 : decode cX12_check 71 = .ok (.goto (-37), 3) := dec_of da_X12_check_0 (k := 42) rfl
theorem dX12_check_74 : decode cX12_check 74 = .ok (.aload_n 0, 1) := dec_of da_X12_check_0 (k := 43) rfl
theorem dX12_check_75 : decode cX12_check 75 = .ok (.getfield 346, 3) := dec_of da_X12_check_0 (k := 44) rfl
theorem dX12_check_78 : decode cX12_check 78 = .ok (.ireturn, 1) := dec_of da_X12_check_0 (k := 45) rfl
def dl_X12_tape_0 : List (Nat × (Instr × Nat)) := [(0, (.aload_n 0, 1)), (1, (.iconst 0, 1)), (2, (.putfield 287, 3)), (5, (.iload_n 1, 1)), (6, (.ifCond .lt 20, 3)), (9, (.iload_n 1, 1)), (10, (.aload_n 0, 1)), (11, (.getfield 346, 3)), (14, (.if_icmp .ge 12, 3)), (17, (.aload_n 0, 1)), (18, (.getfield 52, 3)), (21, (.iload_n 1, 1)), (22, (.iaload, 1)), (23, (.goto 4, 3)), (26, (.iconst (-1), 1)), (27, (.ireturn, 1))]
set_option maxRecDepth 100000 in
theorem da_X12_tape_0 : dl_X12_tape_0.all (fun q => decide (decode cX12_tape q.1 = .ok q.2)) = true := by decide +kernel
theorem dX12_tape_0 : decode cX12_tape 0 = .ok (.aload_n 0, 1) := dec_of da_X12_tape_0 (k := 0) rfl
theorem dX12_tape_1 : decode cX12_tape 1 = .ok (.iconst 0, 1) := dec_of da_X12_tape_0 (k := 1) rfl
theorem dX12_tape_2 : decode cX12_tape 2 = .ok (.putfield 287, 3) := dec_of da_X12_tape_0 (k := 2) rfl
theorem dX12_tape_5 : decode cX12_tape 5 = .ok (.iload_n 1, 1) := dec_of da_X12_tape_0 (k := 3) rfl
theorem dX12_tape_6 : decode cX12_tape 6 = .ok (.ifCond .lt 20, 3) := dec_of da_X12_tape_0 (k := 4) rfl
theorem dX12_tape_9 : decode cX12_tape 9 = .ok (.iload_n 1, 1) := dec_of da_X12_tape_0 (k := 5) rfl
theorem dX12_tape_10 : decode cX12_tape 10 = .ok (.aload_n 0, 1) := dec_of da_X12_tape_0 (k := 6) rfl
theorem dX12_tape_11 : decode cX12_tape 11 = .ok (.getfield 346, 3) := dec_of da_X12_tape_0 (k := 7) rfl
theorem dX12_tape_14 : decode cX12_tape 14 = .ok (.if_icmp .ge 12, 3) := dec_of da_X12_tape_0 (k := 8) rfl
theorem dX12_tape_17 : decode cX12_tape 17 = .ok (.aload_n 0, 1) := dec_of da_X12_tape_0 (k := 9) rfl
theorem dX12_tape_18 : decode cX12_tape 18 = .ok (.getfield 52, 3) := dec_of da_X12_tape_0 (k := 10) rfl
theorem dX12_tape_21 : decode cX12_tape 21 = .ok (.iload_n 1, 1) := dec_of da_X12_tape_0 (k := 11) rfl
theorem dX12_tape_22 : decode cX12_tape 22 = .ok (.iaload, 1) := dec_of da_X12_tape_0 (k := 12) rfl
theorem dX12_tape_23 : decode cX12_tape 23 = .ok (.goto 4, 3) := dec_of da_X12_tape_0 (k := 13) rfl
theorem dX12_tape_26 : decode cX12_tape 26 = .ok (.iconst (-1), 1) := dec_of da_X12_tape_0 (k := 14) rfl
theorem dX12_tape_27 : decode cX12_tape 27 = .ok (.ireturn, 1) := dec_of da_X12_tape_0 (k := 15) rfl
def dl_X12_isStation_0 : List (Nat × (Instr × Nat)) := [(0, (.iload_n 0, 1)), (1, (.i2l, 1)), (2, (.lconst 1, 1)), (3, (.ldc2_w 310, 3)), (6, (.invokestatic 354, 3)), (9, (.ireturn, 1))]
set_option maxRecDepth 100000 in
theorem da_X12_isStation_0 : dl_X12_isStation_0.all (fun q => decide (decode cX12_isStation q.1 = .ok q.2)) = true := by decide +kernel
theorem dX12_isStation_0 : decode cX12_isStation 0 = .ok (.iload_n 0, 1) := dec_of da_X12_isStation_0 (k := 0) rfl
theorem dX12_isStation_1 : decode cX12_isStation 1 = .ok (.i2l, 1) := dec_of da_X12_isStation_0 (k := 1) rfl
theorem dX12_isStation_2 : decode cX12_isStation 2 = .ok (.lconst 1, 1) := dec_of da_X12_isStation_0 (k := 2) rfl
theorem dX12_isStation_3 : decode cX12_isStation 3 = .ok (.ldc2_w 310, 3) := dec_of da_X12_isStation_0 (k := 3) rfl
theorem dX12_isStation_6 : decode cX12_isStation 6 = .ok (.invokestatic 354, 3) := dec_of da_X12_isStation_0 (k := 4) rfl
theorem dX12_isStation_9 : decode cX12_isStation 9 = .ok (.ireturn, 1) := dec_of da_X12_isStation_0 (k := 5) rfl
def dl_X12_isNode_0 : List (Nat × (Instr × Nat)) := [(0, (.iload_n 0, 1)), (1, (.i2l, 1)), (2, (.lconst 0, 1)), (3, (.ldc2_w 310, 3)), (6, (.invokestatic 354, 3)), (9, (.ireturn, 1))]
set_option maxRecDepth 100000 in
theorem da_X12_isNode_0 : dl_X12_isNode_0.all (fun q => decide (decode cX12_isNode q.1 = .ok q.2)) = true := by decide +kernel
theorem dX12_isNode_0 : decode cX12_isNode 0 = .ok (.iload_n 0, 1) := dec_of da_X12_isNode_0 (k := 0) rfl
theorem dX12_isNode_1 : decode cX12_isNode 1 = .ok (.i2l, 1) := dec_of da_X12_isNode_0 (k := 1) rfl
theorem dX12_isNode_2 : decode cX12_isNode 2 = .ok (.lconst 0, 1) := dec_of da_X12_isNode_0 (k := 2) rfl
theorem dX12_isNode_3 : decode cX12_isNode 3 = .ok (.ldc2_w 310, 3) := dec_of da_X12_isNode_0 (k := 3) rfl
theorem dX12_isNode_6 : decode cX12_isNode 6 = .ok (.invokestatic 354, 3) := dec_of da_X12_isNode_0 (k := 4) rfl
theorem dX12_isNode_9 : decode cX12_isNode 9 = .ok (.ireturn, 1) := dec_of da_X12_isNode_0 (k := 5) rfl
def dl_X12_putLongs_0 : List (Nat × (Instr × Nat)) := [(0, (.iconst 0, 1)), (1, (.istore 10, 2)), (3, (.iload 10, 2)), (5, (.bipush 32, 2)), (7, (.if_icmp .ge 73, 3)), (10, (.iload 10, 2)), (12, (.bipush 8, 2)), (14, (.if_icmp .ge 7, 3)), (17, (.lload_n 2, 1)), (18, (.goto 29, 3)), (21, (.iload 10, 2)), (23, (.bipush 16, 2)), (25, (.if_icmp .ge 8, 3)), (28, (.lload 4, 2)), (30, (.goto 17, 3)), (33, (.iload 10, 2)), (35, (.bipush 24, 2)), (37, (.if_icmp .ge 8, 3)), (40, (.lload 6, 2)), (42, (.goto 5, 3)), (45, (.lload 8, 2)), (47, (.lstore 11, 2)), (49, (.aload_n 0, 1)), (50, (.iload_n 1, 1)), (51, (.iload 10, 2)), (53, (.iadd, 1)), (54, (.lload 11, 2)), (56, (.bipush 56, 2)), (58, (.bipush 8, 2)), (60, (.iload 10, 2)), (62, (.bipush 8, 2)), (64, (.irem, 1)), (65, (.imul, 1)), (66, (.isub, 1)), (67, (.lshr, 1)), (68, (.l2i, 1)), (69, (.sipush 255, 3)), (72, (.iand, 1)), (73, (.iastore, 1)), (74, (.iinc 10 1, 3)), (77, (.goto (-74), 3)), (80, (.return_, 1))]
set_option maxRecDepth 100000 in
theorem da_X12_putLongs_0 : dl_X12_putLongs_0.all (fun q => decide (decode cX12_putLongs q.1 = .ok q.2)) = true := by decide +kernel
theorem dX12_putLongs_0 : decode cX12_putLongs 0 = .ok (.iconst 0, 1) := dec_of da_X12_putLongs_0 (k := 0) rfl
theorem dX12_putLongs_1 : decode cX12_putLongs 1 = .ok (.istore 10, 2) := dec_of da_X12_putLongs_0 (k := 1) rfl
theorem dX12_putLongs_3 : decode cX12_putLongs 3 = .ok (.iload 10, 2) := dec_of da_X12_putLongs_0 (k := 2) rfl
theorem dX12_putLongs_5 : decode cX12_putLongs 5 = .ok (.bipush 32, 2) := dec_of da_X12_putLongs_0 (k := 3) rfl
theorem dX12_putLongs_7 : decode cX12_putLongs 7 = .ok (.if_icmp .ge 73, 3) := dec_of da_X12_putLongs_0 (k := 4) rfl
theorem dX12_putLongs_10 : decode cX12_putLongs 10 = .ok (.iload 10, 2) := dec_of da_X12_putLongs_0 (k := 5) rfl
theorem dX12_putLongs_12 : decode cX12_putLongs 12 = .ok (.bipush 8, 2) := dec_of da_X12_putLongs_0 (k := 6) rfl
theorem dX12_putLongs_14 : decode cX12_putLongs 14 = .ok (.if_icmp .ge 7, 3) := dec_of da_X12_putLongs_0 (k := 7) rfl
theorem dX12_putLongs_17 : decode cX12_putLongs 17 = .ok (.lload_n 2, 1) := dec_of da_X12_putLongs_0 (k := 8) rfl
theorem dX12_putLongs_18 : decode cX12_putLongs 18 = .ok (.goto 29, 3) := dec_of da_X12_putLongs_0 (k := 9) rfl
theorem dX12_putLongs_21 : decode cX12_putLongs 21 = .ok (.iload 10, 2) := dec_of da_X12_putLongs_0 (k := 10) rfl
theorem dX12_putLongs_23 : decode cX12_putLongs 23 = .ok (.bipush 16, 2) := dec_of da_X12_putLongs_0 (k := 11) rfl
theorem dX12_putLongs_25 : decode cX12_putLongs 25 = .ok (.if_icmp .ge 8, 3) := dec_of da_X12_putLongs_0 (k := 12) rfl
theorem dX12_putLongs_28 : decode cX12_putLongs 28 = .ok (.lload 4, 2) := dec_of da_X12_putLongs_0 (k := 13) rfl
theorem dX12_putLongs_30 : decode cX12_putLongs 30 = .ok (.goto 17, 3) := dec_of da_X12_putLongs_0 (k := 14) rfl
theorem dX12_putLongs_33 : decode cX12_putLongs 33 = .ok (.iload 10, 2) := dec_of da_X12_putLongs_0 (k := 15) rfl
theorem dX12_putLongs_35 : decode cX12_putLongs 35 = .ok (.bipush 24, 2) := dec_of da_X12_putLongs_0 (k := 16) rfl
theorem dX12_putLongs_37 : decode cX12_putLongs 37 = .ok (.if_icmp .ge 8, 3) := dec_of da_X12_putLongs_0 (k := 17) rfl
theorem dX12_putLongs_40 : decode cX12_putLongs 40 = .ok (.lload 6, 2) := dec_of da_X12_putLongs_0 (k := 18) rfl
theorem dX12_putLongs_42 : decode cX12_putLongs 42 = .ok (.goto 5, 3) := dec_of da_X12_putLongs_0 (k := 19) rfl
theorem dX12_putLongs_45 : decode cX12_putLongs 45 = .ok (.lload 8, 2) := dec_of da_X12_putLongs_0 (k := 20) rfl
theorem dX12_putLongs_47 : decode cX12_putLongs 47 = .ok (.lstore 11, 2) := dec_of da_X12_putLongs_0 (k := 21) rfl
theorem dX12_putLongs_49 : decode cX12_putLongs 49 = .ok (.aload_n 0, 1) := dec_of da_X12_putLongs_0 (k := 22) rfl
theorem dX12_putLongs_50 : decode cX12_putLongs 50 = .ok (.iload_n 1, 1) := dec_of da_X12_putLongs_0 (k := 23) rfl
theorem dX12_putLongs_51 : decode cX12_putLongs 51 = .ok (.iload 10, 2) := dec_of da_X12_putLongs_0 (k := 24) rfl
theorem dX12_putLongs_53 : decode cX12_putLongs 53 = .ok (.iadd, 1) := dec_of da_X12_putLongs_0 (k := 25) rfl
theorem dX12_putLongs_54 : decode cX12_putLongs 54 = .ok (.lload 11, 2) := dec_of da_X12_putLongs_0 (k := 26) rfl
theorem dX12_putLongs_56 : decode cX12_putLongs 56 = .ok (.bipush 56, 2) := dec_of da_X12_putLongs_0 (k := 27) rfl
theorem dX12_putLongs_58 : decode cX12_putLongs 58 = .ok (.bipush 8, 2) := dec_of da_X12_putLongs_0 (k := 28) rfl
theorem dX12_putLongs_60 : decode cX12_putLongs 60 = .ok (.iload 10, 2) := dec_of da_X12_putLongs_0 (k := 29) rfl
theorem dX12_putLongs_62 : decode cX12_putLongs 62 = .ok (.bipush 8, 2) := dec_of da_X12_putLongs_0 (k := 30) rfl
theorem dX12_putLongs_64 : decode cX12_putLongs 64 = .ok (.irem, 1) := dec_of da_X12_putLongs_0 (k := 31) rfl
theorem dX12_putLongs_65 : decode cX12_putLongs 65 = .ok (.imul, 1) := dec_of da_X12_putLongs_0 (k := 32) rfl
theorem dX12_putLongs_66 : decode cX12_putLongs 66 = .ok (.isub, 1) := dec_of da_X12_putLongs_0 (k := 33) rfl
theorem dX12_putLongs_67 : decode cX12_putLongs 67 = .ok (.lshr, 1) := dec_of da_X12_putLongs_0 (k := 34) rfl
theorem dX12_putLongs_68 : decode cX12_putLongs 68 = .ok (.l2i, 1) := dec_of da_X12_putLongs_0 (k := 35) rfl
theorem dX12_putLongs_69 : decode cX12_putLongs 69 = .ok (.sipush 255, 3) := dec_of da_X12_putLongs_0 (k := 36) rfl
theorem dX12_putLongs_72 : decode cX12_putLongs 72 = .ok (.iand, 1) := dec_of da_X12_putLongs_0 (k := 37) rfl
theorem dX12_putLongs_73 : decode cX12_putLongs 73 = .ok (.iastore, 1) := dec_of da_X12_putLongs_0 (k := 38) rfl
theorem dX12_putLongs_74 : decode cX12_putLongs 74 = .ok (.iinc 10 1, 3) := dec_of da_X12_putLongs_0 (k := 39) rfl
theorem dX12_putLongs_77 : decode cX12_putLongs 77 = .ok (.goto (-74), 3) := dec_of da_X12_putLongs_0 (k := 40) rfl
theorem dX12_putLongs_80 : decode cX12_putLongs 80 = .ok (.return_, 1) := dec_of da_X12_putLongs_0 (k := 41) rfl
def dl_X12_secret_0 : List (Nat × (Instr × Nat)) := [(0, (.aload_n 0, 1)), (1, (.iconst 0, 1)), (2, (.putfield 287, 3)), (5, (.iload_n 1, 1)), (6, (.invokestatic 361, 3)), (9, (.ifCond .ne 5, 3)), (12, (.iconst (-1), 1)), (13, (.ireturn, 1)), (14, (.aload_n 0, 1)), (15, (.getfield 55, 3)), (18, (.bipush 32, 2)), (20, (.iload_n 1, 1)), (21, (.imul, 1)), (22, (.lload_n 2, 1)), (23, (.lload 4, 2)), (25, (.lload 6, 2)), (27, (.lload 8, 2)), (29, (.invokestatic 365, 3)), (32, (.iconst 0, 1)), (33, (.ireturn, 1))]
set_option maxRecDepth 100000 in
theorem da_X12_secret_0 : dl_X12_secret_0.all (fun q => decide (decode cX12_secret q.1 = .ok q.2)) = true := by decide +kernel
theorem dX12_secret_0 : decode cX12_secret 0 = .ok (.aload_n 0, 1) := dec_of da_X12_secret_0 (k := 0) rfl
theorem dX12_secret_1 : decode cX12_secret 1 = .ok (.iconst 0, 1) := dec_of da_X12_secret_0 (k := 1) rfl
theorem dX12_secret_2 : decode cX12_secret 2 = .ok (.putfield 287, 3) := dec_of da_X12_secret_0 (k := 2) rfl
theorem dX12_secret_5 : decode cX12_secret 5 = .ok (.iload_n 1, 1) := dec_of da_X12_secret_0 (k := 3) rfl
theorem dX12_secret_6 : decode cX12_secret 6 = .ok (.invokestatic 361, 3) := dec_of da_X12_secret_0 (k := 4) rfl
theorem dX12_secret_9 : decode cX12_secret 9 = .ok (.ifCond .ne 5, 3) := dec_of da_X12_secret_0 (k := 5) rfl
theorem dX12_secret_12 : decode cX12_secret 12 = .ok (.iconst (-1), 1) := dec_of da_X12_secret_0 (k := 6) rfl
theorem dX12_secret_13 : decode cX12_secret 13 = .ok (.ireturn, 1) := dec_of da_X12_secret_0 (k := 7) rfl
theorem dX12_secret_14 : decode cX12_secret 14 = .ok (.aload_n 0, 1) := dec_of da_X12_secret_0 (k := 8) rfl
theorem dX12_secret_15 : decode cX12_secret 15 = .ok (.getfield 55, 3) := dec_of da_X12_secret_0 (k := 9) rfl
theorem dX12_secret_18 : decode cX12_secret 18 = .ok (.bipush 32, 2) := dec_of da_X12_secret_0 (k := 10) rfl
theorem dX12_secret_20 : decode cX12_secret 20 = .ok (.iload_n 1, 1) := dec_of da_X12_secret_0 (k := 11) rfl
theorem dX12_secret_21 : decode cX12_secret 21 = .ok (.imul, 1) := dec_of da_X12_secret_0 (k := 12) rfl
theorem dX12_secret_22 : decode cX12_secret 22 = .ok (.lload_n 2, 1) := dec_of da_X12_secret_0 (k := 13) rfl
theorem dX12_secret_23 : decode cX12_secret 23 = .ok (.lload 4, 2) := dec_of da_X12_secret_0 (k := 14) rfl
theorem dX12_secret_25 : decode cX12_secret 25 = .ok (.lload 6, 2) := dec_of da_X12_secret_0 (k := 15) rfl
theorem dX12_secret_27 : decode cX12_secret 27 = .ok (.lload 8, 2) := dec_of da_X12_secret_0 (k := 16) rfl
theorem dX12_secret_29 : decode cX12_secret 29 = .ok (.invokestatic 365, 3) := dec_of da_X12_secret_0 (k := 17) rfl
theorem dX12_secret_32 : decode cX12_secret 32 = .ok (.iconst 0, 1) := dec_of da_X12_secret_0 (k := 18) rfl
theorem dX12_secret_33 : decode cX12_secret 33 = .ok (.ireturn, 1) := dec_of da_X12_secret_0 (k := 19) rfl
def dl_X12_known_0 : List (Nat × (Instr × Nat)) := [(0, (.aload_n 0, 1)), (1, (.iconst 0, 1)), (2, (.putfield 287, 3)), (5, (.iload_n 1, 1)), (6, (.invokestatic 361, 3)), (9, (.ifCond .ne 5, 3)), (12, (.iconst (-1), 1)), (13, (.ireturn, 1)), (14, (.aload_n 0, 1)), (15, (.getfield 55, 3)), (18, (.sipush 288, 3)), (21, (.bipush 32, 2)), (23, (.iload_n 1, 1)), (24, (.imul, 1)), (25, (.iadd, 1)), (26, (.lload_n 2, 1)), (27, (.lload 4, 2)), (29, (.lload 6, 2)), (31, (.lload 8, 2)), (33, (.invokestatic 365, 3)), (36, (.iconst 0, 1)), (37, (.ireturn, 1))]
set_option maxRecDepth 100000 in
theorem da_X12_known_0 : dl_X12_known_0.all (fun q => decide (decode cX12_known q.1 = .ok q.2)) = true := by decide +kernel
theorem dX12_known_0 : decode cX12_known 0 = .ok (.aload_n 0, 1) := dec_of da_X12_known_0 (k := 0) rfl
theorem dX12_known_1 : decode cX12_known 1 = .ok (.iconst 0, 1) := dec_of da_X12_known_0 (k := 1) rfl
theorem dX12_known_2 : decode cX12_known 2 = .ok (.putfield 287, 3) := dec_of da_X12_known_0 (k := 2) rfl
theorem dX12_known_5 : decode cX12_known 5 = .ok (.iload_n 1, 1) := dec_of da_X12_known_0 (k := 3) rfl
theorem dX12_known_6 : decode cX12_known 6 = .ok (.invokestatic 361, 3) := dec_of da_X12_known_0 (k := 4) rfl
theorem dX12_known_9 : decode cX12_known 9 = .ok (.ifCond .ne 5, 3) := dec_of da_X12_known_0 (k := 5) rfl
theorem dX12_known_12 : decode cX12_known 12 = .ok (.iconst (-1), 1) := dec_of da_X12_known_0 (k := 6) rfl
theorem dX12_known_13 : decode cX12_known 13 = .ok (.ireturn, 1) := dec_of da_X12_known_0 (k := 7) rfl
theorem dX12_known_14 : decode cX12_known 14 = .ok (.aload_n 0, 1) := dec_of da_X12_known_0 (k := 8) rfl
theorem dX12_known_15 : decode cX12_known 15 = .ok (.getfield 55, 3) := dec_of da_X12_known_0 (k := 9) rfl
theorem dX12_known_18 : decode cX12_known 18 = .ok (.sipush 288, 3) := dec_of da_X12_known_0 (k := 10) rfl
theorem dX12_known_21 : decode cX12_known 21 = .ok (.bipush 32, 2) := dec_of da_X12_known_0 (k := 11) rfl
theorem dX12_known_23 : decode cX12_known 23 = .ok (.iload_n 1, 1) := dec_of da_X12_known_0 (k := 12) rfl
theorem dX12_known_24 : decode cX12_known 24 = .ok (.imul, 1) := dec_of da_X12_known_0 (k := 13) rfl
theorem dX12_known_25 : decode cX12_known 25 = .ok (.iadd, 1) := dec_of da_X12_known_0 (k := 14) rfl
theorem dX12_known_26 : decode cX12_known 26 = .ok (.lload_n 2, 1) := dec_of da_X12_known_0 (k := 15) rfl
theorem dX12_known_27 : decode cX12_known 27 = .ok (.lload 4, 2) := dec_of da_X12_known_0 (k := 16) rfl
theorem dX12_known_29 : decode cX12_known 29 = .ok (.lload 6, 2) := dec_of da_X12_known_0 (k := 17) rfl
theorem dX12_known_31 : decode cX12_known 31 = .ok (.lload 8, 2) := dec_of da_X12_known_0 (k := 18) rfl
theorem dX12_known_33 : decode cX12_known 33 = .ok (.invokestatic 365, 3) := dec_of da_X12_known_0 (k := 19) rfl
theorem dX12_known_36 : decode cX12_known 36 = .ok (.iconst 0, 1) := dec_of da_X12_known_0 (k := 20) rfl
theorem dX12_known_37 : decode cX12_known 37 = .ok (.ireturn, 1) := dec_of da_X12_known_0 (k := 21) rfl
def dl_X12_nonce_0 : List (Nat × (Instr × Nat)) := [(0, (.aload_n 0, 1)), (1, (.iconst 0, 1)), (2, (.putfield 287, 3)), (5, (.iload_n 1, 1)), (6, (.invokestatic 369, 3)), (9, (.ifCond .ne 5, 3)), (12, (.iconst (-1), 1)), (13, (.ireturn, 1)), (14, (.aload_n 0, 1)), (15, (.getfield 58, 3)), (18, (.bipush 32, 2)), (20, (.iload_n 1, 1)), (21, (.imul, 1)), (22, (.lload_n 2, 1)), (23, (.lload 4, 2)), (25, (.lload 6, 2)), (27, (.lload 8, 2)), (29, (.invokestatic 365, 3)), (32, (.iconst 0, 1)), (33, (.ireturn, 1))]
set_option maxRecDepth 100000 in
theorem da_X12_nonce_0 : dl_X12_nonce_0.all (fun q => decide (decode cX12_nonce q.1 = .ok q.2)) = true := by decide +kernel
theorem dX12_nonce_0 : decode cX12_nonce 0 = .ok (.aload_n 0, 1) := dec_of da_X12_nonce_0 (k := 0) rfl
theorem dX12_nonce_1 : decode cX12_nonce 1 = .ok (.iconst 0, 1) := dec_of da_X12_nonce_0 (k := 1) rfl
theorem dX12_nonce_2 : decode cX12_nonce 2 = .ok (.putfield 287, 3) := dec_of da_X12_nonce_0 (k := 2) rfl
theorem dX12_nonce_5 : decode cX12_nonce 5 = .ok (.iload_n 1, 1) := dec_of da_X12_nonce_0 (k := 3) rfl
theorem dX12_nonce_6 : decode cX12_nonce 6 = .ok (.invokestatic 369, 3) := dec_of da_X12_nonce_0 (k := 4) rfl
theorem dX12_nonce_9 : decode cX12_nonce 9 = .ok (.ifCond .ne 5, 3) := dec_of da_X12_nonce_0 (k := 5) rfl
theorem dX12_nonce_12 : decode cX12_nonce 12 = .ok (.iconst (-1), 1) := dec_of da_X12_nonce_0 (k := 6) rfl
theorem dX12_nonce_13 : decode cX12_nonce 13 = .ok (.ireturn, 1) := dec_of da_X12_nonce_0 (k := 7) rfl
theorem dX12_nonce_14 : decode cX12_nonce 14 = .ok (.aload_n 0, 1) := dec_of da_X12_nonce_0 (k := 8) rfl
theorem dX12_nonce_15 : decode cX12_nonce 15 = .ok (.getfield 58, 3) := dec_of da_X12_nonce_0 (k := 9) rfl
theorem dX12_nonce_18 : decode cX12_nonce 18 = .ok (.bipush 32, 2) := dec_of da_X12_nonce_0 (k := 10) rfl
theorem dX12_nonce_20 : decode cX12_nonce 20 = .ok (.iload_n 1, 1) := dec_of da_X12_nonce_0 (k := 11) rfl
theorem dX12_nonce_21 : decode cX12_nonce 21 = .ok (.imul, 1) := dec_of da_X12_nonce_0 (k := 12) rfl
theorem dX12_nonce_22 : decode cX12_nonce 22 = .ok (.lload_n 2, 1) := dec_of da_X12_nonce_0 (k := 13) rfl
theorem dX12_nonce_23 : decode cX12_nonce 23 = .ok (.lload 4, 2) := dec_of da_X12_nonce_0 (k := 14) rfl
theorem dX12_nonce_25 : decode cX12_nonce 25 = .ok (.lload 6, 2) := dec_of da_X12_nonce_0 (k := 15) rfl
theorem dX12_nonce_27 : decode cX12_nonce 27 = .ok (.lload 8, 2) := dec_of da_X12_nonce_0 (k := 16) rfl
theorem dX12_nonce_29 : decode cX12_nonce 29 = .ok (.invokestatic 365, 3) := dec_of da_X12_nonce_0 (k := 17) rfl
theorem dX12_nonce_32 : decode cX12_nonce 32 = .ok (.iconst 0, 1) := dec_of da_X12_nonce_0 (k := 18) rfl
theorem dX12_nonce_33 : decode cX12_nonce 33 = .ok (.ireturn, 1) := dec_of da_X12_nonce_0 (k := 19) rfl
def dl_X12_unkey_0 : List (Nat × (Instr × Nat)) := [(0, (.aload_n 0, 1)), (1, (.getfield 74, 3)), (4, (.iload_n 1, 1)), (5, (.iconst 0, 1)), (6, (.bastore, 1)), (7, (.aload_n 0, 1)), (8, (.getfield 80, 3)), (11, (.iload_n 1, 1)), (12, (.iconst 0, 1)), (13, (.bastore, 1)), (14, (.aload_n 0, 1)), (15, (.getfield 93, 3)), (18, (.iload_n 1, 1)), (19, (.iconst 0, 1)), (20, (.bastore, 1)), (21, (.aload_n 0, 1)), (22, (.getfield 86, 3)), (25, (.iload_n 1, 1)), (26, (.lconst 0, 1)), (27, (.lastore, 1)), (28, (.aload_n 0, 1)), (29, (.getfield 90, 3)), (32, (.iload_n 1, 1)), (33, (.lconst 1, 1)), (34, (.lastore, 1)), (35, (.return_, 1))]
set_option maxRecDepth 100000 in
theorem da_X12_unkey_0 : dl_X12_unkey_0.all (fun q => decide (decode cX12_unkey q.1 = .ok q.2)) = true := by decide +kernel
theorem dX12_unkey_0 : decode cX12_unkey 0 = .ok (.aload_n 0, 1) := dec_of da_X12_unkey_0 (k := 0) rfl
theorem dX12_unkey_1 : decode cX12_unkey 1 = .ok (.getfield 74, 3) := dec_of da_X12_unkey_0 (k := 1) rfl
theorem dX12_unkey_4 : decode cX12_unkey 4 = .ok (.iload_n 1, 1) := dec_of da_X12_unkey_0 (k := 2) rfl
theorem dX12_unkey_5 : decode cX12_unkey 5 = .ok (.iconst 0, 1) := dec_of da_X12_unkey_0 (k := 3) rfl
theorem dX12_unkey_6 : decode cX12_unkey 6 = .ok (.bastore, 1) := dec_of da_X12_unkey_0 (k := 4) rfl
theorem dX12_unkey_7 : decode cX12_unkey 7 = .ok (.aload_n 0, 1) := dec_of da_X12_unkey_0 (k := 5) rfl
theorem dX12_unkey_8 : decode cX12_unkey 8 = .ok (.getfield 80, 3) := dec_of da_X12_unkey_0 (k := 6) rfl
theorem dX12_unkey_11 : decode cX12_unkey 11 = .ok (.iload_n 1, 1) := dec_of da_X12_unkey_0 (k := 7) rfl
theorem dX12_unkey_12 : decode cX12_unkey 12 = .ok (.iconst 0, 1) := dec_of da_X12_unkey_0 (k := 8) rfl
theorem dX12_unkey_13 : decode cX12_unkey 13 = .ok (.bastore, 1) := dec_of da_X12_unkey_0 (k := 9) rfl
theorem dX12_unkey_14 : decode cX12_unkey 14 = .ok (.aload_n 0, 1) := dec_of da_X12_unkey_0 (k := 10) rfl
theorem dX12_unkey_15 : decode cX12_unkey 15 = .ok (.getfield 93, 3) := dec_of da_X12_unkey_0 (k := 11) rfl
theorem dX12_unkey_18 : decode cX12_unkey 18 = .ok (.iload_n 1, 1) := dec_of da_X12_unkey_0 (k := 12) rfl
theorem dX12_unkey_19 : decode cX12_unkey 19 = .ok (.iconst 0, 1) := dec_of da_X12_unkey_0 (k := 13) rfl
theorem dX12_unkey_20 : decode cX12_unkey 20 = .ok (.bastore, 1) := dec_of da_X12_unkey_0 (k := 14) rfl
theorem dX12_unkey_21 : decode cX12_unkey 21 = .ok (.aload_n 0, 1) := dec_of da_X12_unkey_0 (k := 15) rfl
theorem dX12_unkey_22 : decode cX12_unkey 22 = .ok (.getfield 86, 3) := dec_of da_X12_unkey_0 (k := 16) rfl
theorem dX12_unkey_25 : decode cX12_unkey 25 = .ok (.iload_n 1, 1) := dec_of da_X12_unkey_0 (k := 17) rfl
theorem dX12_unkey_26 : decode cX12_unkey 26 = .ok (.lconst 0, 1) := dec_of da_X12_unkey_0 (k := 18) rfl
theorem dX12_unkey_27 : decode cX12_unkey 27 = .ok (.lastore, 1) := dec_of da_X12_unkey_0 (k := 19) rfl
theorem dX12_unkey_28 : decode cX12_unkey 28 = .ok (.aload_n 0, 1) := dec_of da_X12_unkey_0 (k := 20) rfl
theorem dX12_unkey_29 : decode cX12_unkey 29 = .ok (.getfield 90, 3) := dec_of da_X12_unkey_0 (k := 21) rfl
theorem dX12_unkey_32 : decode cX12_unkey 32 = .ok (.iload_n 1, 1) := dec_of da_X12_unkey_0 (k := 22) rfl
theorem dX12_unkey_33 : decode cX12_unkey 33 = .ok (.lconst 1, 1) := dec_of da_X12_unkey_0 (k := 23) rfl
theorem dX12_unkey_34 : decode cX12_unkey 34 = .ok (.lastore, 1) := dec_of da_X12_unkey_0 (k := 24) rfl
theorem dX12_unkey_35 : decode cX12_unkey 35 = .ok (.return_, 1) := dec_of da_X12_unkey_0 (k := 25) rfl
def dl_X12_hashLetters_0 : List (Nat × (Instr × Nat)) := [(0, (.iload_n 3, 1)), (1, (.iconst 1, 1)), (2, (.isub, 1)), (3, (.istore 4, 2)), (5, (.iload 4, 2)), (7, (.ifCond .lt 21, 3)), (10, (.aload_n 0, 1)), (11, (.lload_n 1, 1)), (12, (.bipush 8, 2)), (14, (.iload 4, 2)), (16, (.imul, 1)), (17, (.lshr, 1)), (18, (.l2i, 1)), (19, (.invokevirtual 312, 3)), (22, (.iinc 4 (-1), 3)), (25, (.goto (-20), 3)), (28, (.return_, 1))]
set_option maxRecDepth 100000 in
theorem da_X12_hashLetters_0 : dl_X12_hashLetters_0.all (fun q => decide (decode cX12_hashLetters q.1 = .ok q.2)) = true := by decide +kernel
theorem dX12_hashLetters_0 : decode cX12_hashLetters 0 = .ok (.iload_n 3, 1) := dec_of da_X12_hashLetters_0 (k := 0) rfl
theorem dX12_hashLetters_1 : decode cX12_hashLetters 1 = .ok (.iconst 1, 1) := dec_of da_X12_hashLetters_0 (k := 1) rfl
theorem dX12_hashLetters_2 : decode cX12_hashLetters 2 = .ok (.isub, 1) := dec_of da_X12_hashLetters_0 (k := 2) rfl
theorem dX12_hashLetters_3 : decode cX12_hashLetters 3 = .ok (.istore 4, 2) := dec_of da_X12_hashLetters_0 (k := 3) rfl
theorem dX12_hashLetters_5 : decode cX12_hashLetters 5 = .ok (.iload 4, 2) := dec_of da_X12_hashLetters_0 (k := 4) rfl
theorem dX12_hashLetters_7 : decode cX12_hashLetters 7 = .ok (.ifCond .lt 21, 3) := dec_of da_X12_hashLetters_0 (k := 5) rfl
theorem dX12_hashLetters_10 : decode cX12_hashLetters 10 = .ok (.aload_n 0, 1) := dec_of da_X12_hashLetters_0 (k := 6) rfl
theorem dX12_hashLetters_11 : decode cX12_hashLetters 11 = .ok (.lload_n 1, 1) := dec_of da_X12_hashLetters_0 (k := 7) rfl
theorem dX12_hashLetters_12 : decode cX12_hashLetters 12 = .ok (.bipush 8, 2) := dec_of da_X12_hashLetters_0 (k := 8) rfl
theorem dX12_hashLetters_14 : decode cX12_hashLetters 14 = .ok (.iload 4, 2) := dec_of da_X12_hashLetters_0 (k := 9) rfl
theorem dX12_hashLetters_16 : decode cX12_hashLetters 16 = .ok (.imul, 1) := dec_of da_X12_hashLetters_0 (k := 10) rfl
theorem dX12_hashLetters_17 : decode cX12_hashLetters 17 = .ok (.lshr, 1) := dec_of da_X12_hashLetters_0 (k := 11) rfl
theorem dX12_hashLetters_18 : decode cX12_hashLetters 18 = .ok (.l2i, 1) := dec_of da_X12_hashLetters_0 (k := 12) rfl
theorem dX12_hashLetters_19 : decode cX12_hashLetters 19 = .ok (.invokevirtual 312, 3) := dec_of da_X12_hashLetters_0 (k := 13) rfl
theorem dX12_hashLetters_22 : decode cX12_hashLetters 22 = .ok (.iinc 4 (-1), 3) := dec_of da_X12_hashLetters_0 (k := 14) rfl
theorem dX12_hashLetters_25 : decode cX12_hashLetters 25 = .ok (.goto (-20), 3) := dec_of da_X12_hashLetters_0 (k := 15) rfl
theorem dX12_hashLetters_28 : decode cX12_hashLetters 28 = .ok (.return_, 1) := dec_of da_X12_hashLetters_0 (k := 16) rfl
def dl_X12_hashAddress_0 : List (Nat × (Instr × Nat)) := [(0, (.aload_n 0, 1)), (1, (.ldc2_w 372, 3)), (4, (.iload_n 1, 1)), (5, (.i2l, 1)), (6, (.ladd, 1)), (7, (.bipush 6, 2)), (9, (.invokevirtual 374, 3)), (12, (.return_, 1))]
set_option maxRecDepth 100000 in
theorem da_X12_hashAddress_0 : dl_X12_hashAddress_0.all (fun q => decide (decode cX12_hashAddress q.1 = .ok q.2)) = true := by decide +kernel
theorem dX12_hashAddress_0 : decode cX12_hashAddress 0 = .ok (.aload_n 0, 1) := dec_of da_X12_hashAddress_0 (k := 0) rfl
theorem dX12_hashAddress_1 : decode cX12_hashAddress 1 = .ok (.ldc2_w 372, 3) := dec_of da_X12_hashAddress_0 (k := 1) rfl
theorem dX12_hashAddress_4 : decode cX12_hashAddress 4 = .ok (.iload_n 1, 1) := dec_of da_X12_hashAddress_0 (k := 2) rfl
theorem dX12_hashAddress_5 : decode cX12_hashAddress 5 = .ok (.i2l, 1) := dec_of da_X12_hashAddress_0 (k := 3) rfl
theorem dX12_hashAddress_6 : decode cX12_hashAddress 6 = .ok (.ladd, 1) := dec_of da_X12_hashAddress_0 (k := 4) rfl
theorem dX12_hashAddress_7 : decode cX12_hashAddress 7 = .ok (.bipush 6, 2) := dec_of da_X12_hashAddress_0 (k := 5) rfl
theorem dX12_hashAddress_9 : decode cX12_hashAddress 9 = .ok (.invokevirtual 374, 3) := dec_of da_X12_hashAddress_0 (k := 6) rfl
theorem dX12_hashAddress_12 : decode cX12_hashAddress 12 = .ok (.return_, 1) := dec_of da_X12_hashAddress_0 (k := 7) rfl
def dl_X12_findTried_0 : List (Nat × (Instr × Nat)) := [(0, (.iconst 0, 1)), (1, (.istore 6, 2)), (3, (.iload 6, 2)), (5, (.iconst 3, 1)), (6, (.if_icmp .ge 181, 3)), (9, (.aload_n 0, 1)), (10, (.aload_n 0, 1)), (11, (.getfield 55, 3)), (14, (.bipush 32, 2)), (16, (.iload_n 1, 1)), (17, (.imul, 1)), (18, (.bipush 32, 2)), (20, (.invokevirtual 378, 3)), (23, (.aload_n 0, 1)), (24, (.ldc2_w 382, 3)), (27, (.bipush 8, 2)), (29, (.invokevirtual 374, 3)), (32, (.aload_n 0, 1)), (33, (.ldc2_w 384, 3)), (36, (.bipush 8, 2)), (38, (.invokevirtual 374, 3)), (41, (.aload_n 0, 1)), (42, (.ldc2_w 386, 3)), (45, (.bipush 6, 2)), (47, (.invokevirtual 374, 3)), (50, (.aload_n 0, 1)), (51, (.iconst 0, 1)), (52, (.invokevirtual 312, 3)), (55, (.aload_n 0, 1)), (56, (.iconst 0, 1)), (57, (.invokevirtual 388, 3)), (60, (.aload_n 0, 1)), (61, (.iload_n 1, 1)), (62, (.bipush 9, 2)), (64, (.irem, 1)), (65, (.invokevirtual 388, 3)), (68, (.iconst 0, 1)), (69, (.istore 7, 2)), (71, (.iload 7, 2)), (73, (.bipush 32, 2)), (75, (.if_icmp .ge 19, 3)), (78, (.aload_n 0, 1)), (79, (.aload_n 2, 1)), (80, (.iload_n 3, 1)), (81, (.iload 7, 2)), (83, (.iadd, 1)), (84, (.iaload, 1)), (85, (.invokevirtual 312, 3)), (88, (.iinc 7 1, 3)), (91, (.goto (-20), 3)), (94, (.iconst 0, 1)), (95, (.istore 7, 2)), (97, (.iload 7, 2)), (99, (.bipush 32, 2)), (101, (.if_icmp .ge 21, 3)), (104, (.aload_n 0, 1)), (105, (.aload 4, 2)), (107, (.iload 5, 2)), (109, (.iload 7, 2)), (111, (.iadd, 1))]
set_option maxRecDepth 100000 in
theorem da_X12_findTried_0 : dl_X12_findTried_0.all (fun q => decide (decode cX12_findTried q.1 = .ok q.2)) = true := by decide +kernel
theorem dX12_findTried_0 : decode cX12_findTried 0 = .ok (.iconst 0, 1) := dec_of da_X12_findTried_0 (k := 0) rfl
theorem dX12_findTried_1 : decode cX12_findTried 1 = .ok (.istore 6, 2) := dec_of da_X12_findTried_0 (k := 1) rfl
theorem dX12_findTried_3 : decode cX12_findTried 3 = .ok (.iload 6, 2) := dec_of da_X12_findTried_0 (k := 2) rfl
theorem dX12_findTried_5 : decode cX12_findTried 5 = .ok (.iconst 3, 1) := dec_of da_X12_findTried_0 (k := 3) rfl
theorem dX12_findTried_6 : decode cX12_findTried 6 = .ok (.if_icmp .ge 181, 3) := dec_of da_X12_findTried_0 (k := 4) rfl
theorem dX12_findTried_9 : decode cX12_findTried 9 = .ok (.aload_n 0, 1) := dec_of da_X12_findTried_0 (k := 5) rfl
theorem dX12_findTried_10 : decode cX12_findTried 10 = .ok (.aload_n 0, 1) := dec_of da_X12_findTried_0 (k := 6) rfl
theorem dX12_findTried_11 : decode cX12_findTried 11 = .ok (.getfield 55, 3) := dec_of da_X12_findTried_0 (k := 7) rfl
theorem dX12_findTried_14 : decode cX12_findTried 14 = .ok (.bipush 32, 2) := dec_of da_X12_findTried_0 (k := 8) rfl
theorem dX12_findTried_16 : decode cX12_findTried 16 = .ok (.iload_n 1, 1) := dec_of da_X12_findTried_0 (k := 9) rfl
theorem dX12_findTried_17 : decode cX12_findTried 17 = .ok (.imul, 1) := dec_of da_X12_findTried_0 (k := 10) rfl
theorem dX12_findTried_18 : decode cX12_findTried 18 = .ok (.bipush 32, 2) := dec_of da_X12_findTried_0 (k := 11) rfl
theorem dX12_findTried_20 : decode cX12_findTried 20 = .ok (.invokevirtual 378, 3) := dec_of da_X12_findTried_0 (k := 12) rfl
theorem dX12_findTried_23 : decode cX12_findTried 23 = .ok (.aload_n 0, 1) := dec_of da_X12_findTried_0 (k := 13) rfl
theorem dX12_findTried_24 : decode cX12_findTried 24 = .ok (.ldc2_w 382, 3) := dec_of da_X12_findTried_0 (k := 14) rfl
theorem dX12_findTried_27 : decode cX12_findTried 27 = .ok (.bipush 8, 2) := dec_of da_X12_findTried_0 (k := 15) rfl
theorem dX12_findTried_29 : decode cX12_findTried 29 = .ok (.invokevirtual 374, 3) := dec_of da_X12_findTried_0 (k := 16) rfl
theorem dX12_findTried_32 : decode cX12_findTried 32 = .ok (.aload_n 0, 1) := dec_of da_X12_findTried_0 (k := 17) rfl
theorem dX12_findTried_33 : decode cX12_findTried 33 = .ok (.ldc2_w 384, 3) := dec_of da_X12_findTried_0 (k := 18) rfl
theorem dX12_findTried_36 : decode cX12_findTried 36 = .ok (.bipush 8, 2) := dec_of da_X12_findTried_0 (k := 19) rfl
theorem dX12_findTried_38 : decode cX12_findTried 38 = .ok (.invokevirtual 374, 3) := dec_of da_X12_findTried_0 (k := 20) rfl
theorem dX12_findTried_41 : decode cX12_findTried 41 = .ok (.aload_n 0, 1) := dec_of da_X12_findTried_0 (k := 21) rfl
theorem dX12_findTried_42 : decode cX12_findTried 42 = .ok (.ldc2_w 386, 3) := dec_of da_X12_findTried_0 (k := 22) rfl
theorem dX12_findTried_45 : decode cX12_findTried 45 = .ok (.bipush 6, 2) := dec_of da_X12_findTried_0 (k := 23) rfl
theorem dX12_findTried_47 : decode cX12_findTried 47 = .ok (.invokevirtual 374, 3) := dec_of da_X12_findTried_0 (k := 24) rfl
theorem dX12_findTried_50 : decode cX12_findTried 50 = .ok (.aload_n 0, 1) := dec_of da_X12_findTried_0 (k := 25) rfl
theorem dX12_findTried_51 : decode cX12_findTried 51 = .ok (.iconst 0, 1) := dec_of da_X12_findTried_0 (k := 26) rfl
theorem dX12_findTried_52 : decode cX12_findTried 52 = .ok (.invokevirtual 312, 3) := dec_of da_X12_findTried_0 (k := 27) rfl
theorem dX12_findTried_55 : decode cX12_findTried 55 = .ok (.aload_n 0, 1) := dec_of da_X12_findTried_0 (k := 28) rfl
theorem dX12_findTried_56 : decode cX12_findTried 56 = .ok (.iconst 0, 1) := dec_of da_X12_findTried_0 (k := 29) rfl
theorem dX12_findTried_57 : decode cX12_findTried 57 = .ok (.invokevirtual 388, 3) := dec_of da_X12_findTried_0 (k := 30) rfl
theorem dX12_findTried_60 : decode cX12_findTried 60 = .ok (.aload_n 0, 1) := dec_of da_X12_findTried_0 (k := 31) rfl
theorem dX12_findTried_61 : decode cX12_findTried 61 = .ok (.iload_n 1, 1) := dec_of da_X12_findTried_0 (k := 32) rfl
theorem dX12_findTried_62 : decode cX12_findTried 62 = .ok (.bipush 9, 2) := dec_of da_X12_findTried_0 (k := 33) rfl
theorem dX12_findTried_64 : decode cX12_findTried 64 = .ok (.irem, 1) := dec_of da_X12_findTried_0 (k := 34) rfl
theorem dX12_findTried_65 : decode cX12_findTried 65 = .ok (.invokevirtual 388, 3) := dec_of da_X12_findTried_0 (k := 35) rfl
theorem dX12_findTried_68 : decode cX12_findTried 68 = .ok (.iconst 0, 1) := dec_of da_X12_findTried_0 (k := 36) rfl
theorem dX12_findTried_69 : decode cX12_findTried 69 = .ok (.istore 7, 2) := dec_of da_X12_findTried_0 (k := 37) rfl
theorem dX12_findTried_71 : decode cX12_findTried 71 = .ok (.iload 7, 2) := dec_of da_X12_findTried_0 (k := 38) rfl
theorem dX12_findTried_73 : decode cX12_findTried 73 = .ok (.bipush 32, 2) := dec_of da_X12_findTried_0 (k := 39) rfl
theorem dX12_findTried_75 : decode cX12_findTried 75 = .ok (.if_icmp .ge 19, 3) := dec_of da_X12_findTried_0 (k := 40) rfl
theorem dX12_findTried_78 : decode cX12_findTried 78 = .ok (.aload_n 0, 1) := dec_of da_X12_findTried_0 (k := 41) rfl
theorem dX12_findTried_79 : decode cX12_findTried 79 = .ok (.aload_n 2, 1) := dec_of da_X12_findTried_0 (k := 42) rfl
theorem dX12_findTried_80 : decode cX12_findTried 80 = .ok (.iload_n 3, 1) := dec_of da_X12_findTried_0 (k := 43) rfl
theorem dX12_findTried_81 : decode cX12_findTried 81 = .ok (.iload 7, 2) := dec_of da_X12_findTried_0 (k := 44) rfl
theorem dX12_findTried_83 : decode cX12_findTried 83 = .ok (.iadd, 1) := dec_of da_X12_findTried_0 (k := 45) rfl
theorem dX12_findTried_84 : decode cX12_findTried 84 = .ok (.iaload, 1) := dec_of da_X12_findTried_0 (k := 46) rfl
theorem dX12_findTried_85 : decode cX12_findTried 85 = .ok (.invokevirtual 312, 3) := dec_of da_X12_findTried_0 (k := 47) rfl
theorem dX12_findTried_88 : decode cX12_findTried 88 = .ok (.iinc 7 1, 3) := dec_of da_X12_findTried_0 (k := 48) rfl
theorem dX12_findTried_91 : decode cX12_findTried 91 = .ok (.goto (-20), 3) := dec_of da_X12_findTried_0 (k := 49) rfl
theorem dX12_findTried_94 : decode cX12_findTried 94 = .ok (.iconst 0, 1) := dec_of da_X12_findTried_0 (k := 50) rfl
theorem dX12_findTried_95 : decode cX12_findTried 95 = .ok (.istore 7, 2) := dec_of da_X12_findTried_0 (k := 51) rfl
theorem dX12_findTried_97 : decode cX12_findTried 97 = .ok (.iload 7, 2) := dec_of da_X12_findTried_0 (k := 52) rfl
theorem dX12_findTried_99 : decode cX12_findTried 99 = .ok (.bipush 32, 2) := dec_of da_X12_findTried_0 (k := 53) rfl
theorem dX12_findTried_101 : decode cX12_findTried 101 = .ok (.if_icmp .ge 21, 3) := dec_of da_X12_findTried_0 (k := 54) rfl
theorem dX12_findTried_104 : decode cX12_findTried 104 = .ok (.aload_n 0, 1) := dec_of da_X12_findTried_0 (k := 55) rfl
theorem dX12_findTried_105 : decode cX12_findTried 105 = .ok (.aload 4, 2) := dec_of da_X12_findTried_0 (k := 56) rfl
theorem dX12_findTried_107 : decode cX12_findTried 107 = .ok (.iload 5, 2) := dec_of da_X12_findTried_0 (k := 57) rfl
theorem dX12_findTried_109 : decode cX12_findTried 109 = .ok (.iload 7, 2) := dec_of da_X12_findTried_0 (k := 58) rfl
theorem dX12_findTried_111 : decode cX12_findTried 111 = .ok (.iadd, 1) := dec_of da_X12_findTried_0 (k := 59) rfl
def dl_X12_findTried_1 : List (Nat × (Instr × Nat)) := [(112, (.iaload, 1)), (113, (.invokevirtual 312, 3)), (116, (.iinc 7 1, 3)), (119, (.goto (-22), 3)), (122, (.aload_n 0, 1)), (123, (.iload 6, 2)), (125, (.invokevirtual 312, 3)), (128, (.aload_n 0, 1)), (129, (.invokevirtual 391, 3)), (132, (.iconst 0, 1)), (133, (.istore 7, 2)), (135, (.iload 7, 2)), (137, (.bipush 20, 2)), (139, (.if_icmp .ge 42, 3)), (142, (.bipush 20, 2)), (144, (.iload 6, 2)), (146, (.imul, 1)), (147, (.iload 7, 2)), (149, (.iadd, 1)), (150, (.bipush 48, 2)), (152, (.if_icmp .ge 29, 3)), (155, (.aload_n 0, 1)), (156, (.getfield 108, 3)), (159, (.bipush 20, 2)), (161, (.iload 6, 2)), (163, (.imul, 1)), (164, (.iload 7, 2)), (166, (.iadd, 1)), (167, (.aload_n 0, 1)), (168, (.getfield 19, 3)), (171, (.iload 7, 2)), (173, (.iaload, 1)), (174, (.iastore, 1)), (175, (.iinc 7 1, 3)), (178, (.goto (-43), 3)), (181, (.iinc 6 1, 3)), (184, (.goto (-181), 3)), (187, (.return_, 1))]
set_option maxRecDepth 100000 in
theorem da_X12_findTried_1 : dl_X12_findTried_1.all (fun q => decide (decode cX12_findTried q.1 = .ok q.2)) = true := by decide +kernel
theorem dX12_findTried_112 : decode cX12_findTried 112 = .ok (.iaload, 1) := dec_of da_X12_findTried_1 (k := 0) rfl
theorem dX12_findTried_113 : decode cX12_findTried 113 = .ok (.invokevirtual 312, 3) := dec_of da_X12_findTried_1 (k := 1) rfl
theorem dX12_findTried_116 : decode cX12_findTried 116 = .ok (.iinc 7 1, 3) := dec_of da_X12_findTried_1 (k := 2) rfl
theorem dX12_findTried_119 : decode cX12_findTried 119 = .ok (.goto (-22), 3) := dec_of da_X12_findTried_1 (k := 3) rfl
theorem dX12_findTried_122 : decode cX12_findTried 122 = .ok (.aload_n 0, 1) := dec_of da_X12_findTried_1 (k := 4) rfl
theorem dX12_findTried_123 : decode cX12_findTried 123 = .ok (.iload 6, 2) := dec_of da_X12_findTried_1 (k := 5) rfl
theorem dX12_findTried_125 : decode cX12_findTried 125 = .ok (.invokevirtual 312, 3) := dec_of da_X12_findTried_1 (k := 6) rfl
theorem dX12_findTried_128 : decode cX12_findTried 128 = .ok (.aload_n 0, 1) := dec_of da_X12_findTried_1 (k := 7) rfl
theorem dX12_findTried_129 : decode cX12_findTried 129 = .ok (.invokevirtual 391, 3) := dec_of da_X12_findTried_1 (k := 8) rfl
theorem dX12_findTried_132 : decode cX12_findTried 132 = .ok (.iconst 0, 1) := dec_of da_X12_findTried_1 (k := 9) rfl
theorem dX12_findTried_133 : decode cX12_findTried 133 = .ok (.istore 7, 2) := dec_of da_X12_findTried_1 (k := 10) rfl
theorem dX12_findTried_135 : decode cX12_findTried 135 = .ok (.iload 7, 2) := dec_of da_X12_findTried_1 (k := 11) rfl
theorem dX12_findTried_137 : decode cX12_findTried 137 = .ok (.bipush 20, 2) := dec_of da_X12_findTried_1 (k := 12) rfl
theorem dX12_findTried_139 : decode cX12_findTried 139 = .ok (.if_icmp .ge 42, 3) := dec_of da_X12_findTried_1 (k := 13) rfl
theorem dX12_findTried_142 : decode cX12_findTried 142 = .ok (.bipush 20, 2) := dec_of da_X12_findTried_1 (k := 14) rfl
theorem dX12_findTried_144 : decode cX12_findTried 144 = .ok (.iload 6, 2) := dec_of da_X12_findTried_1 (k := 15) rfl
theorem dX12_findTried_146 : decode cX12_findTried 146 = .ok (.imul, 1) := dec_of da_X12_findTried_1 (k := 16) rfl
theorem dX12_findTried_147 : decode cX12_findTried 147 = .ok (.iload 7, 2) := dec_of da_X12_findTried_1 (k := 17) rfl
theorem dX12_findTried_149 : decode cX12_findTried 149 = .ok (.iadd, 1) := dec_of da_X12_findTried_1 (k := 18) rfl
theorem dX12_findTried_150 : decode cX12_findTried 150 = .ok (.bipush 48, 2) := dec_of da_X12_findTried_1 (k := 19) rfl
theorem dX12_findTried_152 : decode cX12_findTried 152 = .ok (.if_icmp .ge 29, 3) := dec_of da_X12_findTried_1 (k := 20) rfl
theorem dX12_findTried_155 : decode cX12_findTried 155 = .ok (.aload_n 0, 1) := dec_of da_X12_findTried_1 (k := 21) rfl
theorem dX12_findTried_156 : decode cX12_findTried 156 = .ok (.getfield 108, 3) := dec_of da_X12_findTried_1 (k := 22) rfl
theorem dX12_findTried_159 : decode cX12_findTried 159 = .ok (.bipush 20, 2) := dec_of da_X12_findTried_1 (k := 23) rfl
theorem dX12_findTried_161 : decode cX12_findTried 161 = .ok (.iload 6, 2) := dec_of da_X12_findTried_1 (k := 24) rfl
theorem dX12_findTried_163 : decode cX12_findTried 163 = .ok (.imul, 1) := dec_of da_X12_findTried_1 (k := 25) rfl
theorem dX12_findTried_164 : decode cX12_findTried 164 = .ok (.iload 7, 2) := dec_of da_X12_findTried_1 (k := 26) rfl
theorem dX12_findTried_166 : decode cX12_findTried 166 = .ok (.iadd, 1) := dec_of da_X12_findTried_1 (k := 27) rfl
theorem dX12_findTried_167 : decode cX12_findTried 167 = .ok (.aload_n 0, 1) := dec_of da_X12_findTried_1 (k := 28) rfl
theorem dX12_findTried_168 : decode cX12_findTried 168 = .ok (.getfield 19, 3) := dec_of da_X12_findTried_1 (k := 29) rfl
theorem dX12_findTried_171 : decode cX12_findTried 171 = .ok (.iload 7, 2) := dec_of da_X12_findTried_1 (k := 30) rfl
theorem dX12_findTried_173 : decode cX12_findTried 173 = .ok (.iaload, 1) := dec_of da_X12_findTried_1 (k := 31) rfl
theorem dX12_findTried_174 : decode cX12_findTried 174 = .ok (.iastore, 1) := dec_of da_X12_findTried_1 (k := 32) rfl
theorem dX12_findTried_175 : decode cX12_findTried 175 = .ok (.iinc 7 1, 3) := dec_of da_X12_findTried_1 (k := 33) rfl
theorem dX12_findTried_178 : decode cX12_findTried 178 = .ok (.goto (-43), 3) := dec_of da_X12_findTried_1 (k := 34) rfl
theorem dX12_findTried_181 : decode cX12_findTried 181 = .ok (.iinc 6 1, 3) := dec_of da_X12_findTried_1 (k := 35) rfl
theorem dX12_findTried_184 : decode cX12_findTried 184 = .ok (.goto (-181), 3) := dec_of da_X12_findTried_1 (k := 36) rfl
theorem dX12_findTried_187 : decode cX12_findTried 187 = .ok (.return_, 1) := dec_of da_X12_findTried_1 (k := 37) rfl
def dl_X12_keepTried_0 : List (Nat × (Instr × Nat)) := [(0, (.iconst 0, 1)), (1, (.istore_n 2, 1)), (2, (.iload_n 2, 1)), (3, (.bipush 48, 2)), (5, (.if_icmp .ge 26, 3)), (8, (.aload_n 0, 1)), (9, (.getfield 77, 3)), (12, (.bipush 48, 2)), (14, (.iload_n 1, 1)), (15, (.imul, 1)), (16, (.iload_n 2, 1)), (17, (.iadd, 1)), (18, (.aload_n 0, 1)), (19, (.getfield 108, 3)), (22, (.iload_n 2, 1)), (23, (.iaload, 1)), (24, (.iastore, 1)), (25, (.iinc 2 1, 3)), (28, (.goto (-26), 3)), (31, (.aload_n 0, 1)), (32, (.getfield 80, 3)), (35, (.iload_n 1, 1)), (36, (.iconst 1, 1)), (37, (.bastore, 1)), (38, (.return_, 1))]
set_option maxRecDepth 100000 in
theorem da_X12_keepTried_0 : dl_X12_keepTried_0.all (fun q => decide (decode cX12_keepTried q.1 = .ok q.2)) = true := by decide +kernel
theorem dX12_keepTried_0 : decode cX12_keepTried 0 = .ok (.iconst 0, 1) := dec_of da_X12_keepTried_0 (k := 0) rfl
theorem dX12_keepTried_1 : decode cX12_keepTried 1 = .ok (.istore_n 2, 1) := dec_of da_X12_keepTried_0 (k := 1) rfl
theorem dX12_keepTried_2 : decode cX12_keepTried 2 = .ok (.iload_n 2, 1) := dec_of da_X12_keepTried_0 (k := 2) rfl
theorem dX12_keepTried_3 : decode cX12_keepTried 3 = .ok (.bipush 48, 2) := dec_of da_X12_keepTried_0 (k := 3) rfl
theorem dX12_keepTried_5 : decode cX12_keepTried 5 = .ok (.if_icmp .ge 26, 3) := dec_of da_X12_keepTried_0 (k := 4) rfl
theorem dX12_keepTried_8 : decode cX12_keepTried 8 = .ok (.aload_n 0, 1) := dec_of da_X12_keepTried_0 (k := 5) rfl
theorem dX12_keepTried_9 : decode cX12_keepTried 9 = .ok (.getfield 77, 3) := dec_of da_X12_keepTried_0 (k := 6) rfl
theorem dX12_keepTried_12 : decode cX12_keepTried 12 = .ok (.bipush 48, 2) := dec_of da_X12_keepTried_0 (k := 7) rfl
theorem dX12_keepTried_14 : decode cX12_keepTried 14 = .ok (.iload_n 1, 1) := dec_of da_X12_keepTried_0 (k := 8) rfl
theorem dX12_keepTried_15 : decode cX12_keepTried 15 = .ok (.imul, 1) := dec_of da_X12_keepTried_0 (k := 9) rfl
theorem dX12_keepTried_16 : decode cX12_keepTried 16 = .ok (.iload_n 2, 1) := dec_of da_X12_keepTried_0 (k := 10) rfl
theorem dX12_keepTried_17 : decode cX12_keepTried 17 = .ok (.iadd, 1) := dec_of da_X12_keepTried_0 (k := 11) rfl
theorem dX12_keepTried_18 : decode cX12_keepTried 18 = .ok (.aload_n 0, 1) := dec_of da_X12_keepTried_0 (k := 12) rfl
theorem dX12_keepTried_19 : decode cX12_keepTried 19 = .ok (.getfield 108, 3) := dec_of da_X12_keepTried_0 (k := 13) rfl
theorem dX12_keepTried_22 : decode cX12_keepTried 22 = .ok (.iload_n 2, 1) := dec_of da_X12_keepTried_0 (k := 14) rfl
theorem dX12_keepTried_23 : decode cX12_keepTried 23 = .ok (.iaload, 1) := dec_of da_X12_keepTried_0 (k := 15) rfl
theorem dX12_keepTried_24 : decode cX12_keepTried 24 = .ok (.iastore, 1) := dec_of da_X12_keepTried_0 (k := 16) rfl
theorem dX12_keepTried_25 : decode cX12_keepTried 25 = .ok (.iinc 2 1, 3) := dec_of da_X12_keepTried_0 (k := 17) rfl
theorem dX12_keepTried_28 : decode cX12_keepTried 28 = .ok (.goto (-26), 3) := dec_of da_X12_keepTried_0 (k := 18) rfl
theorem dX12_keepTried_31 : decode cX12_keepTried 31 = .ok (.aload_n 0, 1) := dec_of da_X12_keepTried_0 (k := 19) rfl
theorem dX12_keepTried_32 : decode cX12_keepTried 32 = .ok (.getfield 80, 3) := dec_of da_X12_keepTried_0 (k := 20) rfl
theorem dX12_keepTried_35 : decode cX12_keepTried 35 = .ok (.iload_n 1, 1) := dec_of da_X12_keepTried_0 (k := 21) rfl
theorem dX12_keepTried_36 : decode cX12_keepTried 36 = .ok (.iconst 1, 1) := dec_of da_X12_keepTried_0 (k := 22) rfl
theorem dX12_keepTried_37 : decode cX12_keepTried 37 = .ok (.bastore, 1) := dec_of da_X12_keepTried_0 (k := 23) rfl
theorem dX12_keepTried_38 : decode cX12_keepTried 38 = .ok (.return_, 1) := dec_of da_X12_keepTried_0 (k := 24) rfl
def dl_X12_macOf_0 : List (Nat × (Instr × Nat)) := [(0, (.aload_n 0, 1)), (1, (.aload_n 1, 1)), (2, (.iload_n 2, 1)), (3, (.bipush 16, 2)), (5, (.invokevirtual 378, 3)), (8, (.iconst 0, 1)), (9, (.istore 6, 2)), (11, (.iload 6, 2)), (13, (.iload 5, 2)), (15, (.if_icmp .ge 20, 3)), (18, (.aload_n 0, 1)), (19, (.aload_n 3, 1)), (20, (.iload 4, 2)), (22, (.iload 6, 2)), (24, (.iadd, 1)), (25, (.iaload, 1)), (26, (.invokevirtual 312, 3)), (29, (.iinc 6 1, 3)), (32, (.goto (-21), 3)), (35, (.aload_n 0, 1)), (36, (.invokevirtual 391, 3)), (39, (.return_, 1))]
set_option maxRecDepth 100000 in
theorem da_X12_macOf_0 : dl_X12_macOf_0.all (fun q => decide (decode cX12_macOf q.1 = .ok q.2)) = true := by decide +kernel
theorem dX12_macOf_0 : decode cX12_macOf 0 = .ok (.aload_n 0, 1) := dec_of da_X12_macOf_0 (k := 0) rfl
theorem dX12_macOf_1 : decode cX12_macOf 1 = .ok (.aload_n 1, 1) := dec_of da_X12_macOf_0 (k := 1) rfl
theorem dX12_macOf_2 : decode cX12_macOf 2 = .ok (.iload_n 2, 1) := dec_of da_X12_macOf_0 (k := 2) rfl
theorem dX12_macOf_3 : decode cX12_macOf 3 = .ok (.bipush 16, 2) := dec_of da_X12_macOf_0 (k := 3) rfl
theorem dX12_macOf_5 : decode cX12_macOf 5 = .ok (.invokevirtual 378, 3) := dec_of da_X12_macOf_0 (k := 4) rfl
theorem dX12_macOf_8 : decode cX12_macOf 8 = .ok (.iconst 0, 1) := dec_of da_X12_macOf_0 (k := 5) rfl
theorem dX12_macOf_9 : decode cX12_macOf 9 = .ok (.istore 6, 2) := dec_of da_X12_macOf_0 (k := 6) rfl
theorem dX12_macOf_11 : decode cX12_macOf 11 = .ok (.iload 6, 2) := dec_of da_X12_macOf_0 (k := 7) rfl
theorem dX12_macOf_13 : decode cX12_macOf 13 = .ok (.iload 5, 2) := dec_of da_X12_macOf_0 (k := 8) rfl
theorem dX12_macOf_15 : decode cX12_macOf 15 = .ok (.if_icmp .ge 20, 3) := dec_of da_X12_macOf_0 (k := 9) rfl
theorem dX12_macOf_18 : decode cX12_macOf 18 = .ok (.aload_n 0, 1) := dec_of da_X12_macOf_0 (k := 10) rfl
theorem dX12_macOf_19 : decode cX12_macOf 19 = .ok (.aload_n 3, 1) := dec_of da_X12_macOf_0 (k := 11) rfl
theorem dX12_macOf_20 : decode cX12_macOf 20 = .ok (.iload 4, 2) := dec_of da_X12_macOf_0 (k := 12) rfl
theorem dX12_macOf_22 : decode cX12_macOf 22 = .ok (.iload 6, 2) := dec_of da_X12_macOf_0 (k := 13) rfl
theorem dX12_macOf_24 : decode cX12_macOf 24 = .ok (.iadd, 1) := dec_of da_X12_macOf_0 (k := 14) rfl
theorem dX12_macOf_25 : decode cX12_macOf 25 = .ok (.iaload, 1) := dec_of da_X12_macOf_0 (k := 15) rfl
theorem dX12_macOf_26 : decode cX12_macOf 26 = .ok (.invokevirtual 312, 3) := dec_of da_X12_macOf_0 (k := 16) rfl
theorem dX12_macOf_29 : decode cX12_macOf 29 = .ok (.iinc 6 1, 3) := dec_of da_X12_macOf_0 (k := 17) rfl
theorem dX12_macOf_32 : decode cX12_macOf 32 = .ok (.goto (-21), 3) := dec_of da_X12_macOf_0 (k := 18) rfl
theorem dX12_macOf_35 : decode cX12_macOf 35 = .ok (.aload_n 0, 1) := dec_of da_X12_macOf_0 (k := 19) rfl
theorem dX12_macOf_36 : decode cX12_macOf 36 = .ok (.invokevirtual 391, 3) := dec_of da_X12_macOf_0 (k := 20) rfl
theorem dX12_macOf_39 : decode cX12_macOf 39 = .ok (.return_, 1) := dec_of da_X12_macOf_0 (k := 21) rfl
def dl_X12_isMac_0 : List (Nat × (Instr × Nat)) := [(0, (.aload_n 0, 1)), (1, (.aload_n 1, 1)), (2, (.iload_n 2, 1)), (3, (.aload_n 3, 1)), (4, (.iload 4, 2)), (6, (.iload 5, 2)), (8, (.invokevirtual 394, 3)), (11, (.iconst 1, 1)), (12, (.istore 6, 2)), (14, (.iconst 0, 1)), (15, (.istore 7, 2)), (17, (.iload 7, 2)), (19, (.bipush 16, 2)), (21, (.if_icmp .ge 41, 3)), (24, (.iload 6, 2)), (26, (.ifCond .eq 27, 3)), (29, (.aload_n 3, 1)), (30, (.iload 4, 2)), (32, (.iload 5, 2)), (34, (.iadd, 1)), (35, (.iload 7, 2)), (37, (.iadd, 1)), (38, (.iaload, 1)), (39, (.aload_n 0, 1)), (40, (.getfield 19, 3)), (43, (.iload 7, 2)), (45, (.iaload, 1)), (46, (.if_icmp .ne 7, 3)), (49, (.iconst 1, 1)), (50, (.goto 4, 3)), (53, (.iconst 0, 1)), (54, (.istore 6, 2)), (56, (.iinc 7 1, 3)), (59, (.goto (-42), 3)), (62, (.iload 6, 2)), (64, (.ireturn, 1))]
set_option maxRecDepth 100000 in
theorem da_X12_isMac_0 : dl_X12_isMac_0.all (fun q => decide (decode cX12_isMac q.1 = .ok q.2)) = true := by decide +kernel
theorem dX12_isMac_0 : decode cX12_isMac 0 = .ok (.aload_n 0, 1) := dec_of da_X12_isMac_0 (k := 0) rfl
theorem dX12_isMac_1 : decode cX12_isMac 1 = .ok (.aload_n 1, 1) := dec_of da_X12_isMac_0 (k := 1) rfl
theorem dX12_isMac_2 : decode cX12_isMac 2 = .ok (.iload_n 2, 1) := dec_of da_X12_isMac_0 (k := 2) rfl
theorem dX12_isMac_3 : decode cX12_isMac 3 = .ok (.aload_n 3, 1) := dec_of da_X12_isMac_0 (k := 3) rfl
theorem dX12_isMac_4 : decode cX12_isMac 4 = .ok (.iload 4, 2) := dec_of da_X12_isMac_0 (k := 4) rfl
theorem dX12_isMac_6 : decode cX12_isMac 6 = .ok (.iload 5, 2) := dec_of da_X12_isMac_0 (k := 5) rfl
theorem dX12_isMac_8 : decode cX12_isMac 8 = .ok (.invokevirtual 394, 3) := dec_of da_X12_isMac_0 (k := 6) rfl
theorem dX12_isMac_11 : decode cX12_isMac 11 = .ok (.iconst 1, 1) := dec_of da_X12_isMac_0 (k := 7) rfl
theorem dX12_isMac_12 : decode cX12_isMac 12 = .ok (.istore 6, 2) := dec_of da_X12_isMac_0 (k := 8) rfl
theorem dX12_isMac_14 : decode cX12_isMac 14 = .ok (.iconst 0, 1) := dec_of da_X12_isMac_0 (k := 9) rfl
theorem dX12_isMac_15 : decode cX12_isMac 15 = .ok (.istore 7, 2) := dec_of da_X12_isMac_0 (k := 10) rfl
theorem dX12_isMac_17 : decode cX12_isMac 17 = .ok (.iload 7, 2) := dec_of da_X12_isMac_0 (k := 11) rfl
theorem dX12_isMac_19 : decode cX12_isMac 19 = .ok (.bipush 16, 2) := dec_of da_X12_isMac_0 (k := 12) rfl
theorem dX12_isMac_21 : decode cX12_isMac 21 = .ok (.if_icmp .ge 41, 3) := dec_of da_X12_isMac_0 (k := 13) rfl
theorem dX12_isMac_24 : decode cX12_isMac 24 = .ok (.iload 6, 2) := dec_of da_X12_isMac_0 (k := 14) rfl
theorem dX12_isMac_26 : decode cX12_isMac 26 = .ok (.ifCond .eq 27, 3) := dec_of da_X12_isMac_0 (k := 15) rfl
theorem dX12_isMac_29 : decode cX12_isMac 29 = .ok (.aload_n 3, 1) := dec_of da_X12_isMac_0 (k := 16) rfl
theorem dX12_isMac_30 : decode cX12_isMac 30 = .ok (.iload 4, 2) := dec_of da_X12_isMac_0 (k := 17) rfl
theorem dX12_isMac_32 : decode cX12_isMac 32 = .ok (.iload 5, 2) := dec_of da_X12_isMac_0 (k := 18) rfl
theorem dX12_isMac_34 : decode cX12_isMac 34 = .ok (.iadd, 1) := dec_of da_X12_isMac_0 (k := 19) rfl
theorem dX12_isMac_35 : decode cX12_isMac 35 = .ok (.iload 7, 2) := dec_of da_X12_isMac_0 (k := 20) rfl
theorem dX12_isMac_37 : decode cX12_isMac 37 = .ok (.iadd, 1) := dec_of da_X12_isMac_0 (k := 21) rfl
theorem dX12_isMac_38 : decode cX12_isMac 38 = .ok (.iaload, 1) := dec_of da_X12_isMac_0 (k := 22) rfl
theorem dX12_isMac_39 : decode cX12_isMac 39 = .ok (.aload_n 0, 1) := dec_of da_X12_isMac_0 (k := 23) rfl
theorem dX12_isMac_40 : decode cX12_isMac 40 = .ok (.getfield 19, 3) := dec_of da_X12_isMac_0 (k := 24) rfl
theorem dX12_isMac_43 : decode cX12_isMac 43 = .ok (.iload 7, 2) := dec_of da_X12_isMac_0 (k := 25) rfl
theorem dX12_isMac_45 : decode cX12_isMac 45 = .ok (.iaload, 1) := dec_of da_X12_isMac_0 (k := 26) rfl
theorem dX12_isMac_46 : decode cX12_isMac 46 = .ok (.if_icmp .ne 7, 3) := dec_of da_X12_isMac_0 (k := 27) rfl
theorem dX12_isMac_49 : decode cX12_isMac 49 = .ok (.iconst 1, 1) := dec_of da_X12_isMac_0 (k := 28) rfl
theorem dX12_isMac_50 : decode cX12_isMac 50 = .ok (.goto 4, 3) := dec_of da_X12_isMac_0 (k := 29) rfl
theorem dX12_isMac_53 : decode cX12_isMac 53 = .ok (.iconst 0, 1) := dec_of da_X12_isMac_0 (k := 30) rfl
theorem dX12_isMac_54 : decode cX12_isMac 54 = .ok (.istore 6, 2) := dec_of da_X12_isMac_0 (k := 31) rfl
theorem dX12_isMac_56 : decode cX12_isMac 56 = .ok (.iinc 7 1, 3) := dec_of da_X12_isMac_0 (k := 32) rfl
theorem dX12_isMac_59 : decode cX12_isMac 59 = .ok (.goto (-42), 3) := dec_of da_X12_isMac_0 (k := 33) rfl
theorem dX12_isMac_62 : decode cX12_isMac 62 = .ok (.iload 6, 2) := dec_of da_X12_isMac_0 (k := 34) rfl
theorem dX12_isMac_64 : decode cX12_isMac 64 = .ok (.ireturn, 1) := dec_of da_X12_isMac_0 (k := 35) rfl
def dl_X12_keyBy_0 : List (Nat × (Instr × Nat)) := [(0, (.iconst 0, 1)), (1, (.istore_n 2, 1)), (2, (.iload_n 2, 1)), (3, (.bipush 16, 2)), (5, (.if_icmp .ge 34, 3)), (8, (.aload_n 0, 1)), (9, (.getfield 71, 3)), (12, (.bipush 16, 2)), (14, (.iload_n 1, 1)), (15, (.imul, 1)), (16, (.iload_n 2, 1)), (17, (.iadd, 1)), (18, (.aload_n 0, 1)), (19, (.getfield 77, 3)), (22, (.bipush 48, 2)), (24, (.iload_n 1, 1)), (25, (.imul, 1)), (26, (.bipush 32, 2)), (28, (.iadd, 1)), (29, (.iload_n 2, 1)), (30, (.iadd, 1)), (31, (.iaload, 1)), (32, (.iastore, 1)), (33, (.iinc 2 1, 3)), (36, (.goto (-34), 3)), (39, (.aload_n 0, 1)), (40, (.getfield 74, 3)), (43, (.iload_n 1, 1)), (44, (.iconst 1, 1)), (45, (.bastore, 1)), (46, (.aload_n 0, 1)), (47, (.getfield 86, 3)), (50, (.iload_n 1, 1)), (51, (.lconst 0, 1)), (52, (.lastore, 1)), (53, (.aload_n 0, 1)), (54, (.getfield 90, 3)), (57, (.iload_n 1, 1)), (58, (.lconst 1, 1)), (59, (.lastore, 1)), (60, (.aload_n 0, 1)), (61, (.getfield 93, 3)), (64, (.iload_n 1, 1)), (65, (.iconst 0, 1)), (66, (.bastore, 1)), (67, (.return_, 1))]
set_option maxRecDepth 100000 in
theorem da_X12_keyBy_0 : dl_X12_keyBy_0.all (fun q => decide (decode cX12_keyBy q.1 = .ok q.2)) = true := by decide +kernel
theorem dX12_keyBy_0 : decode cX12_keyBy 0 = .ok (.iconst 0, 1) := dec_of da_X12_keyBy_0 (k := 0) rfl
theorem dX12_keyBy_1 : decode cX12_keyBy 1 = .ok (.istore_n 2, 1) := dec_of da_X12_keyBy_0 (k := 1) rfl
theorem dX12_keyBy_2 : decode cX12_keyBy 2 = .ok (.iload_n 2, 1) := dec_of da_X12_keyBy_0 (k := 2) rfl
theorem dX12_keyBy_3 : decode cX12_keyBy 3 = .ok (.bipush 16, 2) := dec_of da_X12_keyBy_0 (k := 3) rfl
theorem dX12_keyBy_5 : decode cX12_keyBy 5 = .ok (.if_icmp .ge 34, 3) := dec_of da_X12_keyBy_0 (k := 4) rfl
theorem dX12_keyBy_8 : decode cX12_keyBy 8 = .ok (.aload_n 0, 1) := dec_of da_X12_keyBy_0 (k := 5) rfl
theorem dX12_keyBy_9 : decode cX12_keyBy 9 = .ok (.getfield 71, 3) := dec_of da_X12_keyBy_0 (k := 6) rfl
theorem dX12_keyBy_12 : decode cX12_keyBy 12 = .ok (.bipush 16, 2) := dec_of da_X12_keyBy_0 (k := 7) rfl
theorem dX12_keyBy_14 : decode cX12_keyBy 14 = .ok (.iload_n 1, 1) := dec_of da_X12_keyBy_0 (k := 8) rfl
theorem dX12_keyBy_15 : decode cX12_keyBy 15 = .ok (.imul, 1) := dec_of da_X12_keyBy_0 (k := 9) rfl
theorem dX12_keyBy_16 : decode cX12_keyBy 16 = .ok (.iload_n 2, 1) := dec_of da_X12_keyBy_0 (k := 10) rfl
theorem dX12_keyBy_17 : decode cX12_keyBy 17 = .ok (.iadd, 1) := dec_of da_X12_keyBy_0 (k := 11) rfl
theorem dX12_keyBy_18 : decode cX12_keyBy 18 = .ok (.aload_n 0, 1) := dec_of da_X12_keyBy_0 (k := 12) rfl
theorem dX12_keyBy_19 : decode cX12_keyBy 19 = .ok (.getfield 77, 3) := dec_of da_X12_keyBy_0 (k := 13) rfl
theorem dX12_keyBy_22 : decode cX12_keyBy 22 = .ok (.bipush 48, 2) := dec_of da_X12_keyBy_0 (k := 14) rfl
theorem dX12_keyBy_24 : decode cX12_keyBy 24 = .ok (.iload_n 1, 1) := dec_of da_X12_keyBy_0 (k := 15) rfl
theorem dX12_keyBy_25 : decode cX12_keyBy 25 = .ok (.imul, 1) := dec_of da_X12_keyBy_0 (k := 16) rfl
theorem dX12_keyBy_26 : decode cX12_keyBy 26 = .ok (.bipush 32, 2) := dec_of da_X12_keyBy_0 (k := 17) rfl
theorem dX12_keyBy_28 : decode cX12_keyBy 28 = .ok (.iadd, 1) := dec_of da_X12_keyBy_0 (k := 18) rfl
theorem dX12_keyBy_29 : decode cX12_keyBy 29 = .ok (.iload_n 2, 1) := dec_of da_X12_keyBy_0 (k := 19) rfl
theorem dX12_keyBy_30 : decode cX12_keyBy 30 = .ok (.iadd, 1) := dec_of da_X12_keyBy_0 (k := 20) rfl
theorem dX12_keyBy_31 : decode cX12_keyBy 31 = .ok (.iaload, 1) := dec_of da_X12_keyBy_0 (k := 21) rfl
theorem dX12_keyBy_32 : decode cX12_keyBy 32 = .ok (.iastore, 1) := dec_of da_X12_keyBy_0 (k := 22) rfl
theorem dX12_keyBy_33 : decode cX12_keyBy 33 = .ok (.iinc 2 1, 3) := dec_of da_X12_keyBy_0 (k := 23) rfl
theorem dX12_keyBy_36 : decode cX12_keyBy 36 = .ok (.goto (-34), 3) := dec_of da_X12_keyBy_0 (k := 24) rfl
theorem dX12_keyBy_39 : decode cX12_keyBy 39 = .ok (.aload_n 0, 1) := dec_of da_X12_keyBy_0 (k := 25) rfl
theorem dX12_keyBy_40 : decode cX12_keyBy 40 = .ok (.getfield 74, 3) := dec_of da_X12_keyBy_0 (k := 26) rfl
theorem dX12_keyBy_43 : decode cX12_keyBy 43 = .ok (.iload_n 1, 1) := dec_of da_X12_keyBy_0 (k := 27) rfl
theorem dX12_keyBy_44 : decode cX12_keyBy 44 = .ok (.iconst 1, 1) := dec_of da_X12_keyBy_0 (k := 28) rfl
theorem dX12_keyBy_45 : decode cX12_keyBy 45 = .ok (.bastore, 1) := dec_of da_X12_keyBy_0 (k := 29) rfl
theorem dX12_keyBy_46 : decode cX12_keyBy 46 = .ok (.aload_n 0, 1) := dec_of da_X12_keyBy_0 (k := 30) rfl
theorem dX12_keyBy_47 : decode cX12_keyBy 47 = .ok (.getfield 86, 3) := dec_of da_X12_keyBy_0 (k := 31) rfl
theorem dX12_keyBy_50 : decode cX12_keyBy 50 = .ok (.iload_n 1, 1) := dec_of da_X12_keyBy_0 (k := 32) rfl
theorem dX12_keyBy_51 : decode cX12_keyBy 51 = .ok (.lconst 0, 1) := dec_of da_X12_keyBy_0 (k := 33) rfl
theorem dX12_keyBy_52 : decode cX12_keyBy 52 = .ok (.lastore, 1) := dec_of da_X12_keyBy_0 (k := 34) rfl
theorem dX12_keyBy_53 : decode cX12_keyBy 53 = .ok (.aload_n 0, 1) := dec_of da_X12_keyBy_0 (k := 35) rfl
theorem dX12_keyBy_54 : decode cX12_keyBy 54 = .ok (.getfield 90, 3) := dec_of da_X12_keyBy_0 (k := 36) rfl
theorem dX12_keyBy_57 : decode cX12_keyBy 57 = .ok (.iload_n 1, 1) := dec_of da_X12_keyBy_0 (k := 37) rfl
theorem dX12_keyBy_58 : decode cX12_keyBy 58 = .ok (.lconst 1, 1) := dec_of da_X12_keyBy_0 (k := 38) rfl
theorem dX12_keyBy_59 : decode cX12_keyBy 59 = .ok (.lastore, 1) := dec_of da_X12_keyBy_0 (k := 39) rfl
theorem dX12_keyBy_60 : decode cX12_keyBy 60 = .ok (.aload_n 0, 1) := dec_of da_X12_keyBy_0 (k := 40) rfl
theorem dX12_keyBy_61 : decode cX12_keyBy 61 = .ok (.getfield 93, 3) := dec_of da_X12_keyBy_0 (k := 41) rfl
theorem dX12_keyBy_64 : decode cX12_keyBy 64 = .ok (.iload_n 1, 1) := dec_of da_X12_keyBy_0 (k := 42) rfl
theorem dX12_keyBy_65 : decode cX12_keyBy 65 = .ok (.iconst 0, 1) := dec_of da_X12_keyBy_0 (k := 43) rfl
theorem dX12_keyBy_66 : decode cX12_keyBy 66 = .ok (.bastore, 1) := dec_of da_X12_keyBy_0 (k := 44) rfl
theorem dX12_keyBy_67 : decode cX12_keyBy 67 = .ok (.return_, 1) := dec_of da_X12_keyBy_0 (k := 45) rfl
def dl_X12_drawn_0 : List (Nat × (Instr × Nat)) := [(0, (.aload_n 0, 1)), (1, (.getfield 398, 3)), (4, (.aload_n 0, 1)), (5, (.getfield 401, 3)), (8, (.if_icmp .ne 5, 3)), (11, (.iconst 0, 1)), (12, (.ireturn, 1)), (13, (.aload_n 0, 1)), (14, (.dup, 1)), (15, (.getfield 398, 3)), (18, (.iconst 1, 1)), (19, (.iadd, 1)), (20, (.putfield 398, 3)), (23, (.aload_n 0, 1)), (24, (.getfield 169, 3)), (27, (.aload_n 0, 1)), (28, (.getfield 398, 3)), (31, (.iconst 1, 1)), (32, (.isub, 1)), (33, (.iaload, 1)), (34, (.ireturn, 1))]
set_option maxRecDepth 100000 in
theorem da_X12_drawn_0 : dl_X12_drawn_0.all (fun q => decide (decode cX12_drawn q.1 = .ok q.2)) = true := by decide +kernel
theorem dX12_drawn_0 : decode cX12_drawn 0 = .ok (.aload_n 0, 1) := dec_of da_X12_drawn_0 (k := 0) rfl
theorem dX12_drawn_1 : decode cX12_drawn 1 = .ok (.getfield 398, 3) := dec_of da_X12_drawn_0 (k := 1) rfl
theorem dX12_drawn_4 : decode cX12_drawn 4 = .ok (.aload_n 0, 1) := dec_of da_X12_drawn_0 (k := 2) rfl
theorem dX12_drawn_5 : decode cX12_drawn 5 = .ok (.getfield 401, 3) := dec_of da_X12_drawn_0 (k := 3) rfl
theorem dX12_drawn_8 : decode cX12_drawn 8 = .ok (.if_icmp .ne 5, 3) := dec_of da_X12_drawn_0 (k := 4) rfl
theorem dX12_drawn_11 : decode cX12_drawn 11 = .ok (.iconst 0, 1) := dec_of da_X12_drawn_0 (k := 5) rfl
theorem dX12_drawn_12 : decode cX12_drawn 12 = .ok (.ireturn, 1) := dec_of da_X12_drawn_0 (k := 6) rfl
theorem dX12_drawn_13 : decode cX12_drawn 13 = .ok (.aload_n 0, 1) := dec_of da_X12_drawn_0 (k := 7) rfl
theorem dX12_drawn_14 : decode cX12_drawn 14 = .ok (.dup, 1) := dec_of da_X12_drawn_0 (k := 8) rfl
theorem dX12_drawn_15 : decode cX12_drawn 15 = .ok (.getfield 398, 3) := dec_of da_X12_drawn_0 (k := 9) rfl
theorem dX12_drawn_18 : decode cX12_drawn 18 = .ok (.iconst 1, 1) := dec_of da_X12_drawn_0 (k := 10) rfl
theorem dX12_drawn_19 : decode cX12_drawn 19 = .ok (.iadd, 1) := dec_of da_X12_drawn_0 (k := 11) rfl
theorem dX12_drawn_20 : decode cX12_drawn 20 = .ok (.putfield 398, 3) := dec_of da_X12_drawn_0 (k := 12) rfl
theorem dX12_drawn_23 : decode cX12_drawn 23 = .ok (.aload_n 0, 1) := dec_of da_X12_drawn_0 (k := 13) rfl
theorem dX12_drawn_24 : decode cX12_drawn 24 = .ok (.getfield 169, 3) := dec_of da_X12_drawn_0 (k := 14) rfl
theorem dX12_drawn_27 : decode cX12_drawn 27 = .ok (.aload_n 0, 1) := dec_of da_X12_drawn_0 (k := 15) rfl
theorem dX12_drawn_28 : decode cX12_drawn 28 = .ok (.getfield 398, 3) := dec_of da_X12_drawn_0 (k := 16) rfl
theorem dX12_drawn_31 : decode cX12_drawn 31 = .ok (.iconst 1, 1) := dec_of da_X12_drawn_0 (k := 17) rfl
theorem dX12_drawn_32 : decode cX12_drawn 32 = .ok (.isub, 1) := dec_of da_X12_drawn_0 (k := 18) rfl
theorem dX12_drawn_33 : decode cX12_drawn 33 = .ok (.iaload, 1) := dec_of da_X12_drawn_0 (k := 19) rfl
theorem dX12_drawn_34 : decode cX12_drawn 34 = .ok (.ireturn, 1) := dec_of da_X12_drawn_0 (k := 20) rfl
def dl_X12_add_0 : List (Nat × (Instr × Nat)) := [(0, (.aload_n 0, 1)), (1, (.getfield 175, 3)), (4, (.aload_n 0, 1)), (5, (.getfield 404, 3)), (8, (.iload_n 1, 1)), (9, (.sipush 255, 3)), (12, (.iand, 1)), (13, (.iastore, 1)), (14, (.aload_n 0, 1)), (15, (.dup, 1)), (16, (.getfield 404, 3)), (19, (.iconst 1, 1)), (20, (.iadd, 1)), (21, (.putfield 404, 3)), (24, (.return_, 1))]
set_option maxRecDepth 100000 in
theorem da_X12_add_0 : dl_X12_add_0.all (fun q => decide (decode cX12_add q.1 = .ok q.2)) = true := by decide +kernel
theorem dX12_add_0 : decode cX12_add 0 = .ok (.aload_n 0, 1) := dec_of da_X12_add_0 (k := 0) rfl
theorem dX12_add_1 : decode cX12_add 1 = .ok (.getfield 175, 3) := dec_of da_X12_add_0 (k := 1) rfl
theorem dX12_add_4 : decode cX12_add 4 = .ok (.aload_n 0, 1) := dec_of da_X12_add_0 (k := 2) rfl
theorem dX12_add_5 : decode cX12_add 5 = .ok (.getfield 404, 3) := dec_of da_X12_add_0 (k := 3) rfl
theorem dX12_add_8 : decode cX12_add 8 = .ok (.iload_n 1, 1) := dec_of da_X12_add_0 (k := 4) rfl
theorem dX12_add_9 : decode cX12_add 9 = .ok (.sipush 255, 3) := dec_of da_X12_add_0 (k := 5) rfl
theorem dX12_add_12 : decode cX12_add 12 = .ok (.iand, 1) := dec_of da_X12_add_0 (k := 6) rfl
theorem dX12_add_13 : decode cX12_add 13 = .ok (.iastore, 1) := dec_of da_X12_add_0 (k := 7) rfl
theorem dX12_add_14 : decode cX12_add 14 = .ok (.aload_n 0, 1) := dec_of da_X12_add_0 (k := 8) rfl
theorem dX12_add_15 : decode cX12_add 15 = .ok (.dup, 1) := dec_of da_X12_add_0 (k := 9) rfl
theorem dX12_add_16 : decode cX12_add 16 = .ok (.getfield 404, 3) := dec_of da_X12_add_0 (k := 10) rfl
theorem dX12_add_19 : decode cX12_add 19 = .ok (.iconst 1, 1) := dec_of da_X12_add_0 (k := 11) rfl
theorem dX12_add_20 : decode cX12_add 20 = .ok (.iadd, 1) := dec_of da_X12_add_0 (k := 12) rfl
theorem dX12_add_21 : decode cX12_add 21 = .ok (.putfield 404, 3) := dec_of da_X12_add_0 (k := 13) rfl
theorem dX12_add_24 : decode cX12_add 24 = .ok (.return_, 1) := dec_of da_X12_add_0 (k := 14) rfl
def dl_X12_isEnded_0 : List (Nat × (Instr × Nat)) := [(0, (.iload_n 1, 1)), (1, (.ifCond .lt 10, 3)), (4, (.aload_n 0, 1)), (5, (.getfield 172, 3)), (8, (.iload_n 1, 1)), (9, (.iload_n 2, 1)), (10, (.iastore, 1)), (11, (.return_, 1))]
set_option maxRecDepth 100000 in
theorem da_X12_isEnded_0 : dl_X12_isEnded_0.all (fun q => decide (decode cX12_isEnded q.1 = .ok q.2)) = true := by decide +kernel
theorem dX12_isEnded_0 : decode cX12_isEnded 0 = .ok (.iload_n 1, 1) := dec_of da_X12_isEnded_0 (k := 0) rfl
theorem dX12_isEnded_1 : decode cX12_isEnded 1 = .ok (.ifCond .lt 10, 3) := dec_of da_X12_isEnded_0 (k := 1) rfl
theorem dX12_isEnded_4 : decode cX12_isEnded 4 = .ok (.aload_n 0, 1) := dec_of da_X12_isEnded_0 (k := 2) rfl
theorem dX12_isEnded_5 : decode cX12_isEnded 5 = .ok (.getfield 172, 3) := dec_of da_X12_isEnded_0 (k := 3) rfl
theorem dX12_isEnded_8 : decode cX12_isEnded 8 = .ok (.iload_n 1, 1) := dec_of da_X12_isEnded_0 (k := 4) rfl
theorem dX12_isEnded_9 : decode cX12_isEnded 9 = .ok (.iload_n 2, 1) := dec_of da_X12_isEnded_0 (k := 5) rfl
theorem dX12_isEnded_10 : decode cX12_isEnded 10 = .ok (.iastore, 1) := dec_of da_X12_isEnded_0 (k := 6) rfl
theorem dX12_isEnded_11 : decode cX12_isEnded 11 = .ok (.return_, 1) := dec_of da_X12_isEnded_0 (k := 7) rfl
def dl_X12_enqueue_0 : List (Nat × (Instr × Nat)) := [(0, (.aload_n 0, 1)), (1, (.getfield 111, 3)), (4, (.iload_n 1, 1)), (5, (.iaload, 1)), (6, (.bipush 12, 2)), (8, (.if_icmp .ne 11, 3)), (11, (.aload_n 0, 1)), (12, (.iload 5, 2)), (14, (.iconst 3, 1)), (15, (.invokevirtual 407, 3)), (18, (.return_, 1)), (19, (.bipush 12, 2)), (21, (.iload_n 1, 1)), (22, (.imul, 1)), (23, (.aload_n 0, 1)), (24, (.getfield 111, 3)), (27, (.iload_n 1, 1)), (28, (.iaload, 1)), (29, (.iadd, 1)), (30, (.istore 6, 2)), (32, (.aload_n 0, 1)), (33, (.getfield 114, 3)), (36, (.iload 6, 2)), (38, (.iload_n 2, 1)), (39, (.iastore, 1)), (40, (.aload_n 0, 1)), (41, (.getfield 117, 3)), (44, (.iload 6, 2)), (46, (.iload_n 3, 1)), (47, (.iastore, 1)), (48, (.aload_n 0, 1)), (49, (.getfield 120, 3)), (52, (.iload 6, 2)), (54, (.iload 4, 2)), (56, (.iastore, 1)), (57, (.aload_n 0, 1)), (58, (.getfield 123, 3)), (61, (.iload 6, 2)), (63, (.aload_n 0, 1)), (64, (.getfield 150, 3)), (67, (.iload_n 1, 1)), (68, (.iaload, 1)), (69, (.iastore, 1)), (70, (.aload_n 0, 1)), (71, (.getfield 126, 3)), (74, (.iload 6, 2)), (76, (.iload_n 2, 1)), (77, (.bipush 8, 2)), (79, (.if_icmp .ne 10, 3)), (82, (.aload_n 0, 1)), (83, (.getfield 162, 3)), (86, (.goto 6, 3)), (89, (.sipush 255, 3)), (92, (.iastore, 1)), (93, (.aload_n 0, 1)), (94, (.getfield 129, 3)), (97, (.iload 6, 2)), (99, (.aload_n 0, 1)), (100, (.getfield 404, 3)), (103, (.iastore, 1))]
set_option maxRecDepth 100000 in
theorem da_X12_enqueue_0 : dl_X12_enqueue_0.all (fun q => decide (decode cX12_enqueue q.1 = .ok q.2)) = true := by decide +kernel
theorem dX12_enqueue_0 : decode cX12_enqueue 0 = .ok (.aload_n 0, 1) := dec_of da_X12_enqueue_0 (k := 0) rfl
theorem dX12_enqueue_1 : decode cX12_enqueue 1 = .ok (.getfield 111, 3) := dec_of da_X12_enqueue_0 (k := 1) rfl
theorem dX12_enqueue_4 : decode cX12_enqueue 4 = .ok (.iload_n 1, 1) := dec_of da_X12_enqueue_0 (k := 2) rfl
theorem dX12_enqueue_5 : decode cX12_enqueue 5 = .ok (.iaload, 1) := dec_of da_X12_enqueue_0 (k := 3) rfl
theorem dX12_enqueue_6 : decode cX12_enqueue 6 = .ok (.bipush 12, 2) := dec_of da_X12_enqueue_0 (k := 4) rfl
theorem dX12_enqueue_8 : decode cX12_enqueue 8 = .ok (.if_icmp .ne 11, 3) := dec_of da_X12_enqueue_0 (k := 5) rfl
theorem dX12_enqueue_11 : decode cX12_enqueue 11 = .ok (.aload_n 0, 1) := dec_of da_X12_enqueue_0 (k := 6) rfl
theorem dX12_enqueue_12 : decode cX12_enqueue 12 = .ok (.iload 5, 2) := dec_of da_X12_enqueue_0 (k := 7) rfl
theorem dX12_enqueue_14 : decode cX12_enqueue 14 = .ok (.iconst 3, 1) := dec_of da_X12_enqueue_0 (k := 8) rfl
theorem dX12_enqueue_15 : decode cX12_enqueue 15 = .ok (.invokevirtual 407, 3) := dec_of da_X12_enqueue_0 (k := 9) rfl
theorem dX12_enqueue_18 : decode cX12_enqueue 18 = .ok (.return_, 1) := dec_of da_X12_enqueue_0 (k := 10) rfl
theorem dX12_enqueue_19 : decode cX12_enqueue 19 = .ok (.bipush 12, 2) := dec_of da_X12_enqueue_0 (k := 11) rfl
theorem dX12_enqueue_21 : decode cX12_enqueue 21 = .ok (.iload_n 1, 1) := dec_of da_X12_enqueue_0 (k := 12) rfl
theorem dX12_enqueue_22 : decode cX12_enqueue 22 = .ok (.imul, 1) := dec_of da_X12_enqueue_0 (k := 13) rfl
theorem dX12_enqueue_23 : decode cX12_enqueue 23 = .ok (.aload_n 0, 1) := dec_of da_X12_enqueue_0 (k := 14) rfl
theorem dX12_enqueue_24 : decode cX12_enqueue 24 = .ok (.getfield 111, 3) := dec_of da_X12_enqueue_0 (k := 15) rfl
theorem dX12_enqueue_27 : decode cX12_enqueue 27 = .ok (.iload_n 1, 1) := dec_of da_X12_enqueue_0 (k := 16) rfl
theorem dX12_enqueue_28 : decode cX12_enqueue 28 = .ok (.iaload, 1) := dec_of da_X12_enqueue_0 (k := 17) rfl
theorem dX12_enqueue_29 : decode cX12_enqueue 29 = .ok (.iadd, 1) := dec_of da_X12_enqueue_0 (k := 18) rfl
theorem dX12_enqueue_30 : decode cX12_enqueue 30 = .ok (.istore 6, 2) := dec_of da_X12_enqueue_0 (k := 19) rfl
theorem dX12_enqueue_32 : decode cX12_enqueue 32 = .ok (.aload_n 0, 1) := dec_of da_X12_enqueue_0 (k := 20) rfl
theorem dX12_enqueue_33 : decode cX12_enqueue 33 = .ok (.getfield 114, 3) := dec_of da_X12_enqueue_0 (k := 21) rfl
theorem dX12_enqueue_36 : decode cX12_enqueue 36 = .ok (.iload 6, 2) := dec_of da_X12_enqueue_0 (k := 22) rfl
theorem dX12_enqueue_38 : decode cX12_enqueue 38 = .ok (.iload_n 2, 1) := dec_of da_X12_enqueue_0 (k := 23) rfl
theorem dX12_enqueue_39 : decode cX12_enqueue 39 = .ok (.iastore, 1) := dec_of da_X12_enqueue_0 (k := 24) rfl
theorem dX12_enqueue_40 : decode cX12_enqueue 40 = .ok (.aload_n 0, 1) := dec_of da_X12_enqueue_0 (k := 25) rfl
theorem dX12_enqueue_41 : decode cX12_enqueue 41 = .ok (.getfield 117, 3) := dec_of da_X12_enqueue_0 (k := 26) rfl
theorem dX12_enqueue_44 : decode cX12_enqueue 44 = .ok (.iload 6, 2) := dec_of da_X12_enqueue_0 (k := 27) rfl
theorem dX12_enqueue_46 : decode cX12_enqueue 46 = .ok (.iload_n 3, 1) := dec_of da_X12_enqueue_0 (k := 28) rfl
theorem dX12_enqueue_47 : decode cX12_enqueue 47 = .ok (.iastore, 1) := dec_of da_X12_enqueue_0 (k := 29) rfl
theorem dX12_enqueue_48 : decode cX12_enqueue 48 = .ok (.aload_n 0, 1) := dec_of da_X12_enqueue_0 (k := 30) rfl
theorem dX12_enqueue_49 : decode cX12_enqueue 49 = .ok (.getfield 120, 3) := dec_of da_X12_enqueue_0 (k := 31) rfl
theorem dX12_enqueue_52 : decode cX12_enqueue 52 = .ok (.iload 6, 2) := dec_of da_X12_enqueue_0 (k := 32) rfl
theorem dX12_enqueue_54 : decode cX12_enqueue 54 = .ok (.iload 4, 2) := dec_of da_X12_enqueue_0 (k := 33) rfl
theorem dX12_enqueue_56 : decode cX12_enqueue 56 = .ok (.iastore, 1) := dec_of da_X12_enqueue_0 (k := 34) rfl
theorem dX12_enqueue_57 : decode cX12_enqueue 57 = .ok (.aload_n 0, 1) := dec_of da_X12_enqueue_0 (k := 35) rfl
theorem dX12_enqueue_58 : decode cX12_enqueue 58 = .ok (.getfield 123, 3) := dec_of da_X12_enqueue_0 (k := 36) rfl
theorem dX12_enqueue_61 : decode cX12_enqueue 61 = .ok (.iload 6, 2) := dec_of da_X12_enqueue_0 (k := 37) rfl
theorem dX12_enqueue_63 : decode cX12_enqueue 63 = .ok (.aload_n 0, 1) := dec_of da_X12_enqueue_0 (k := 38) rfl
theorem dX12_enqueue_64 : decode cX12_enqueue 64 = .ok (.getfield 150, 3) := dec_of da_X12_enqueue_0 (k := 39) rfl
theorem dX12_enqueue_67 : decode cX12_enqueue 67 = .ok (.iload_n 1, 1) := dec_of da_X12_enqueue_0 (k := 40) rfl
theorem dX12_enqueue_68 : decode cX12_enqueue 68 = .ok (.iaload, 1) := dec_of da_X12_enqueue_0 (k := 41) rfl
theorem dX12_enqueue_69 : decode cX12_enqueue 69 = .ok (.iastore, 1) := dec_of da_X12_enqueue_0 (k := 42) rfl
theorem dX12_enqueue_70 : decode cX12_enqueue 70 = .ok (.aload_n 0, 1) := dec_of da_X12_enqueue_0 (k := 43) rfl
theorem dX12_enqueue_71 : decode cX12_enqueue 71 = .ok (.getfield 126, 3) := dec_of da_X12_enqueue_0 (k := 44) rfl
theorem dX12_enqueue_74 : decode cX12_enqueue 74 = .ok (.iload 6, 2) := dec_of da_X12_enqueue_0 (k := 45) rfl
theorem dX12_enqueue_76 : decode cX12_enqueue 76 = .ok (.iload_n 2, 1) := dec_of da_X12_enqueue_0 (k := 46) rfl
theorem dX12_enqueue_77 : decode cX12_enqueue 77 = .ok (.bipush 8, 2) := dec_of da_X12_enqueue_0 (k := 47) rfl
theorem dX12_enqueue_79 : decode cX12_enqueue 79 = .ok (.if_icmp .ne 10, 3) := dec_of da_X12_enqueue_0 (k := 48) rfl
theorem dX12_enqueue_82 : decode cX12_enqueue 82 = .ok (.aload_n 0, 1) := dec_of da_X12_enqueue_0 (k := 49) rfl
theorem dX12_enqueue_83 : decode cX12_enqueue 83 = .ok (.getfield 162, 3) := dec_of da_X12_enqueue_0 (k := 50) rfl
theorem dX12_enqueue_86 : decode cX12_enqueue 86 = .ok (.goto 6, 3) := dec_of da_X12_enqueue_0 (k := 51) rfl
theorem dX12_enqueue_89 : decode cX12_enqueue 89 = .ok (.sipush 255, 3) := dec_of da_X12_enqueue_0 (k := 52) rfl
theorem dX12_enqueue_92 : decode cX12_enqueue 92 = .ok (.iastore, 1) := dec_of da_X12_enqueue_0 (k := 53) rfl
theorem dX12_enqueue_93 : decode cX12_enqueue 93 = .ok (.aload_n 0, 1) := dec_of da_X12_enqueue_0 (k := 54) rfl
theorem dX12_enqueue_94 : decode cX12_enqueue 94 = .ok (.getfield 129, 3) := dec_of da_X12_enqueue_0 (k := 55) rfl
theorem dX12_enqueue_97 : decode cX12_enqueue 97 = .ok (.iload 6, 2) := dec_of da_X12_enqueue_0 (k := 56) rfl
theorem dX12_enqueue_99 : decode cX12_enqueue 99 = .ok (.aload_n 0, 1) := dec_of da_X12_enqueue_0 (k := 57) rfl
theorem dX12_enqueue_100 : decode cX12_enqueue 100 = .ok (.getfield 404, 3) := dec_of da_X12_enqueue_0 (k := 58) rfl
theorem dX12_enqueue_103 : decode cX12_enqueue 103 = .ok (.iastore, 1) := dec_of da_X12_enqueue_0 (k := 59) rfl
def dl_X12_enqueue_1 : List (Nat × (Instr × Nat)) := [(104, (.aload_n 0, 1)), (105, (.getfield 132, 3)), (108, (.iload 6, 2)), (110, (.iload 5, 2)), (112, (.iastore, 1)), (113, (.iconst 0, 1)), (114, (.istore 7, 2)), (116, (.iload 7, 2)), (118, (.aload_n 0, 1)), (119, (.getfield 404, 3)), (122, (.if_icmp .ge 30, 3)), (125, (.aload_n 0, 1)), (126, (.getfield 135, 3)), (129, (.sipush 208, 3)), (132, (.iload 6, 2)), (134, (.imul, 1)), (135, (.iload 7, 2)), (137, (.iadd, 1)), (138, (.aload_n 0, 1)), (139, (.getfield 175, 3)), (142, (.iload 7, 2)), (144, (.iaload, 1)), (145, (.iastore, 1)), (146, (.iinc 7 1, 3)), (149, (.goto (-33), 3)), (152, (.aload_n 0, 1)), (153, (.getfield 150, 3)), (156, (.iload_n 1, 1)), (157, (.aload_n 0, 1)), (158, (.getfield 150, 3)), (161, (.iload_n 1, 1)), (162, (.iaload, 1)), (163, (.iconst 1, 1)), (164, (.iadd, 1)), (165, (.sipush 4095, 3)), (168, (.iand, 1)), (169, (.iastore, 1)), (170, (.aload_n 0, 1)), (171, (.getfield 111, 3)), (174, (.iload_n 1, 1)), (175, (.dup2, 1)), (176, (.iaload, 1)), (177, (.iconst 1, 1)), (178, (.iadd, 1)), (179, (.iastore, 1)), (180, (.aload_n 0, 1)), (181, (.getfield 111, 3)), (184, (.iload_n 1, 1)), (185, (.iaload, 1)), (186, (.iconst 1, 1)), (187, (.if_icmp .ne 8, 3)), (190, (.aload_n 0, 1)), (191, (.iload_n 1, 1)), (192, (.invokevirtual 411, 3)), (195, (.return_, 1))]
set_option maxRecDepth 100000 in
theorem da_X12_enqueue_1 : dl_X12_enqueue_1.all (fun q => decide (decode cX12_enqueue q.1 = .ok q.2)) = true := by decide +kernel
theorem dX12_enqueue_104 : decode cX12_enqueue 104 = .ok (.aload_n 0, 1) := dec_of da_X12_enqueue_1 (k := 0) rfl
theorem dX12_enqueue_105 : decode cX12_enqueue 105 = .ok (.getfield 132, 3) := dec_of da_X12_enqueue_1 (k := 1) rfl
theorem dX12_enqueue_108 : decode cX12_enqueue 108 = .ok (.iload 6, 2) := dec_of da_X12_enqueue_1 (k := 2) rfl
theorem dX12_enqueue_110 : decode cX12_enqueue 110 = .ok (.iload 5, 2) := dec_of da_X12_enqueue_1 (k := 3) rfl
theorem dX12_enqueue_112 : decode cX12_enqueue 112 = .ok (.iastore, 1) := dec_of da_X12_enqueue_1 (k := 4) rfl
theorem dX12_enqueue_113 : decode cX12_enqueue 113 = .ok (.iconst 0, 1) := dec_of da_X12_enqueue_1 (k := 5) rfl
theorem dX12_enqueue_114 : decode cX12_enqueue 114 = .ok (.istore 7, 2) := dec_of da_X12_enqueue_1 (k := 6) rfl
theorem dX12_enqueue_116 : decode cX12_enqueue 116 = .ok (.iload 7, 2) := dec_of da_X12_enqueue_1 (k := 7) rfl
theorem dX12_enqueue_118 : decode cX12_enqueue 118 = .ok (.aload_n 0, 1) := dec_of da_X12_enqueue_1 (k := 8) rfl
theorem dX12_enqueue_119 : decode cX12_enqueue 119 = .ok (.getfield 404, 3) := dec_of da_X12_enqueue_1 (k := 9) rfl
theorem dX12_enqueue_122 : decode cX12_enqueue 122 = .ok (.if_icmp .ge 30, 3) := dec_of da_X12_enqueue_1 (k := 10) rfl
theorem dX12_enqueue_125 : decode cX12_enqueue 125 = .ok (.aload_n 0, 1) := dec_of da_X12_enqueue_1 (k := 11) rfl
theorem dX12_enqueue_126 : decode cX12_enqueue 126 = .ok (.getfield 135, 3) := dec_of da_X12_enqueue_1 (k := 12) rfl
theorem dX12_enqueue_129 : decode cX12_enqueue 129 = .ok (.sipush 208, 3) := dec_of da_X12_enqueue_1 (k := 13) rfl
theorem dX12_enqueue_132 : decode cX12_enqueue 132 = .ok (.iload 6, 2) := dec_of da_X12_enqueue_1 (k := 14) rfl
theorem dX12_enqueue_134 : decode cX12_enqueue 134 = .ok (.imul, 1) := dec_of da_X12_enqueue_1 (k := 15) rfl
theorem dX12_enqueue_135 : decode cX12_enqueue 135 = .ok (.iload 7, 2) := dec_of da_X12_enqueue_1 (k := 16) rfl
theorem dX12_enqueue_137 : decode cX12_enqueue 137 = .ok (.iadd, 1) := dec_of da_X12_enqueue_1 (k := 17) rfl
theorem dX12_enqueue_138 : decode cX12_enqueue 138 = .ok (.aload_n 0, 1) := dec_of da_X12_enqueue_1 (k := 18) rfl
theorem dX12_enqueue_139 : decode cX12_enqueue 139 = .ok (.getfield 175, 3) := dec_of da_X12_enqueue_1 (k := 19) rfl
theorem dX12_enqueue_142 : decode cX12_enqueue 142 = .ok (.iload 7, 2) := dec_of da_X12_enqueue_1 (k := 20) rfl
theorem dX12_enqueue_144 : decode cX12_enqueue 144 = .ok (.iaload, 1) := dec_of da_X12_enqueue_1 (k := 21) rfl
theorem dX12_enqueue_145 : decode cX12_enqueue 145 = .ok (.iastore, 1) := dec_of da_X12_enqueue_1 (k := 22) rfl
theorem dX12_enqueue_146 : decode cX12_enqueue 146 = .ok (.iinc 7 1, 3) := dec_of da_X12_enqueue_1 (k := 23) rfl
theorem dX12_enqueue_149 : decode cX12_enqueue 149 = .ok (.goto (-33), 3) := dec_of da_X12_enqueue_1 (k := 24) rfl
theorem dX12_enqueue_152 : decode cX12_enqueue 152 = .ok (.aload_n 0, 1) := dec_of da_X12_enqueue_1 (k := 25) rfl
theorem dX12_enqueue_153 : decode cX12_enqueue 153 = .ok (.getfield 150, 3) := dec_of da_X12_enqueue_1 (k := 26) rfl
theorem dX12_enqueue_156 : decode cX12_enqueue 156 = .ok (.iload_n 1, 1) := dec_of da_X12_enqueue_1 (k := 27) rfl
theorem dX12_enqueue_157 : decode cX12_enqueue 157 = .ok (.aload_n 0, 1) := dec_of da_X12_enqueue_1 (k := 28) rfl
theorem dX12_enqueue_158 : decode cX12_enqueue 158 = .ok (.getfield 150, 3) := dec_of da_X12_enqueue_1 (k := 29) rfl
theorem dX12_enqueue_161 : decode cX12_enqueue 161 = .ok (.iload_n 1, 1) := dec_of da_X12_enqueue_1 (k := 30) rfl
theorem dX12_enqueue_162 : decode cX12_enqueue 162 = .ok (.iaload, 1) := dec_of da_X12_enqueue_1 (k := 31) rfl
theorem dX12_enqueue_163 : decode cX12_enqueue 163 = .ok (.iconst 1, 1) := dec_of da_X12_enqueue_1 (k := 32) rfl
theorem dX12_enqueue_164 : decode cX12_enqueue 164 = .ok (.iadd, 1) := dec_of da_X12_enqueue_1 (k := 33) rfl
theorem dX12_enqueue_165 : decode cX12_enqueue 165 = .ok (.sipush 4095, 3) := dec_of da_X12_enqueue_1 (k := 34) rfl
theorem dX12_enqueue_168 : decode cX12_enqueue 168 = .ok (.iand, 1) := dec_of da_X12_enqueue_1 (k := 35) rfl
theorem dX12_enqueue_169 : decode cX12_enqueue 169 = .ok (.iastore, 1) := dec_of da_X12_enqueue_1 (k := 36) rfl
theorem dX12_enqueue_170 : decode cX12_enqueue 170 = .ok (.aload_n 0, 1) := dec_of da_X12_enqueue_1 (k := 37) rfl
theorem dX12_enqueue_171 : decode cX12_enqueue 171 = .ok (.getfield 111, 3) := dec_of da_X12_enqueue_1 (k := 38) rfl
theorem dX12_enqueue_174 : decode cX12_enqueue 174 = .ok (.iload_n 1, 1) := dec_of da_X12_enqueue_1 (k := 39) rfl
theorem dX12_enqueue_175 : decode cX12_enqueue 175 = .ok (.dup2, 1) := dec_of da_X12_enqueue_1 (k := 40) rfl
theorem dX12_enqueue_176 : decode cX12_enqueue 176 = .ok (.iaload, 1) := dec_of da_X12_enqueue_1 (k := 41) rfl
theorem dX12_enqueue_177 : decode cX12_enqueue 177 = .ok (.iconst 1, 1) := dec_of da_X12_enqueue_1 (k := 42) rfl
theorem dX12_enqueue_178 : decode cX12_enqueue 178 = .ok (.iadd, 1) := dec_of da_X12_enqueue_1 (k := 43) rfl
theorem dX12_enqueue_179 : decode cX12_enqueue 179 = .ok (.iastore, 1) := dec_of da_X12_enqueue_1 (k := 44) rfl
theorem dX12_enqueue_180 : decode cX12_enqueue 180 = .ok (.aload_n 0, 1) := dec_of da_X12_enqueue_1 (k := 45) rfl
theorem dX12_enqueue_181 : decode cX12_enqueue 181 = .ok (.getfield 111, 3) := dec_of da_X12_enqueue_1 (k := 46) rfl
theorem dX12_enqueue_184 : decode cX12_enqueue 184 = .ok (.iload_n 1, 1) := dec_of da_X12_enqueue_1 (k := 47) rfl
theorem dX12_enqueue_185 : decode cX12_enqueue 185 = .ok (.iaload, 1) := dec_of da_X12_enqueue_1 (k := 48) rfl
theorem dX12_enqueue_186 : decode cX12_enqueue 186 = .ok (.iconst 1, 1) := dec_of da_X12_enqueue_1 (k := 49) rfl
theorem dX12_enqueue_187 : decode cX12_enqueue 187 = .ok (.if_icmp .ne 8, 3) := dec_of da_X12_enqueue_1 (k := 50) rfl
theorem dX12_enqueue_190 : decode cX12_enqueue 190 = .ok (.aload_n 0, 1) := dec_of da_X12_enqueue_1 (k := 51) rfl
theorem dX12_enqueue_191 : decode cX12_enqueue 191 = .ok (.iload_n 1, 1) := dec_of da_X12_enqueue_1 (k := 52) rfl
theorem dX12_enqueue_192 : decode cX12_enqueue 192 = .ok (.invokevirtual 411, 3) := dec_of da_X12_enqueue_1 (k := 53) rfl
theorem dX12_enqueue_195 : decode cX12_enqueue 195 = .ok (.return_, 1) := dec_of da_X12_enqueue_1 (k := 54) rfl
def dl_X12_begins_0 : List (Nat × (Instr × Nat)) := [(0, (.aload_n 0, 1)), (1, (.getfield 138, 3)), (4, (.iload_n 1, 1)), (5, (.iconst 0, 1)), (6, (.iastore, 1)), (7, (.aload_n 0, 1)), (8, (.getfield 141, 3)), (11, (.iload_n 1, 1)), (12, (.iconst 0, 1)), (13, (.bastore, 1)), (14, (.aload_n 0, 1)), (15, (.getfield 153, 3)), (18, (.iload_n 1, 1)), (19, (.aload_n 0, 1)), (20, (.invokevirtual 414, 3)), (23, (.aload_n 0, 1)), (24, (.getfield 156, 3)), (27, (.iload_n 1, 1)), (28, (.iaload, 1)), (29, (.iand, 1)), (30, (.iastore, 1)), (31, (.return_, 1))]
set_option maxRecDepth 100000 in
theorem da_X12_begins_0 : dl_X12_begins_0.all (fun q => decide (decode cX12_begins q.1 = .ok q.2)) = true := by decide +kernel
theorem dX12_begins_0 : decode cX12_begins 0 = .ok (.aload_n 0, 1) := dec_of da_X12_begins_0 (k := 0) rfl
theorem dX12_begins_1 : decode cX12_begins 1 = .ok (.getfield 138, 3) := dec_of da_X12_begins_0 (k := 1) rfl
theorem dX12_begins_4 : decode cX12_begins 4 = .ok (.iload_n 1, 1) := dec_of da_X12_begins_0 (k := 2) rfl
theorem dX12_begins_5 : decode cX12_begins 5 = .ok (.iconst 0, 1) := dec_of da_X12_begins_0 (k := 3) rfl
theorem dX12_begins_6 : decode cX12_begins 6 = .ok (.iastore, 1) := dec_of da_X12_begins_0 (k := 4) rfl
theorem dX12_begins_7 : decode cX12_begins 7 = .ok (.aload_n 0, 1) := dec_of da_X12_begins_0 (k := 5) rfl
theorem dX12_begins_8 : decode cX12_begins 8 = .ok (.getfield 141, 3) := dec_of da_X12_begins_0 (k := 6) rfl
theorem dX12_begins_11 : decode cX12_begins 11 = .ok (.iload_n 1, 1) := dec_of da_X12_begins_0 (k := 7) rfl
theorem dX12_begins_12 : decode cX12_begins 12 = .ok (.iconst 0, 1) := dec_of da_X12_begins_0 (k := 8) rfl
theorem dX12_begins_13 : decode cX12_begins 13 = .ok (.bastore, 1) := dec_of da_X12_begins_0 (k := 9) rfl
theorem dX12_begins_14 : decode cX12_begins 14 = .ok (.aload_n 0, 1) := dec_of da_X12_begins_0 (k := 10) rfl
theorem dX12_begins_15 : decode cX12_begins 15 = .ok (.getfield 153, 3) := dec_of da_X12_begins_0 (k := 11) rfl
theorem dX12_begins_18 : decode cX12_begins 18 = .ok (.iload_n 1, 1) := dec_of da_X12_begins_0 (k := 12) rfl
theorem dX12_begins_19 : decode cX12_begins 19 = .ok (.aload_n 0, 1) := dec_of da_X12_begins_0 (k := 13) rfl
theorem dX12_begins_20 : decode cX12_begins 20 = .ok (.invokevirtual 414, 3) := dec_of da_X12_begins_0 (k := 14) rfl
theorem dX12_begins_23 : decode cX12_begins 23 = .ok (.aload_n 0, 1) := dec_of da_X12_begins_0 (k := 15) rfl
theorem dX12_begins_24 : decode cX12_begins 24 = .ok (.getfield 156, 3) := dec_of da_X12_begins_0 (k := 16) rfl
theorem dX12_begins_27 : decode cX12_begins 27 = .ok (.iload_n 1, 1) := dec_of da_X12_begins_0 (k := 17) rfl
theorem dX12_begins_28 : decode cX12_begins 28 = .ok (.iaload, 1) := dec_of da_X12_begins_0 (k := 18) rfl
theorem dX12_begins_29 : decode cX12_begins 29 = .ok (.iand, 1) := dec_of da_X12_begins_0 (k := 19) rfl
theorem dX12_begins_30 : decode cX12_begins 30 = .ok (.iastore, 1) := dec_of da_X12_begins_0 (k := 20) rfl
theorem dX12_begins_31 : decode cX12_begins 31 = .ok (.return_, 1) := dec_of da_X12_begins_0 (k := 21) rfl
def dl_X12_leaves_0 : List (Nat × (Instr × Nat)) := [(0, (.aload_n 0, 1)), (1, (.aload_n 0, 1)), (2, (.getfield 132, 3)), (5, (.bipush 12, 2)), (7, (.iload_n 1, 1)), (8, (.imul, 1)), (9, (.iaload, 1)), (10, (.iload_n 2, 1)), (11, (.invokevirtual 407, 3)), (14, (.bipush 12, 2)), (16, (.iload_n 1, 1)), (17, (.imul, 1)), (18, (.istore_n 3, 1)), (19, (.iload_n 3, 1)), (20, (.bipush 12, 2)), (22, (.iload_n 1, 1)), (23, (.imul, 1)), (24, (.aload_n 0, 1)), (25, (.getfield 111, 3)), (28, (.iload_n 1, 1)), (29, (.iaload, 1)), (30, (.iadd, 1)), (31, (.iconst 1, 1)), (32, (.isub, 1)), (33, (.if_icmp .ge 154, 3)), (36, (.aload_n 0, 1)), (37, (.getfield 114, 3)), (40, (.iload_n 3, 1)), (41, (.aload_n 0, 1)), (42, (.getfield 114, 3)), (45, (.iload_n 3, 1)), (46, (.iconst 1, 1)), (47, (.iadd, 1)), (48, (.iaload, 1)), (49, (.iastore, 1)), (50, (.aload_n 0, 1)), (51, (.getfield 117, 3)), (54, (.iload_n 3, 1)), (55, (.aload_n 0, 1)), (56, (.getfield 117, 3)), (59, (.iload_n 3, 1)), (60, (.iconst 1, 1)), (61, (.iadd, 1)), (62, (.iaload, 1)), (63, (.iastore, 1)), (64, (.aload_n 0, 1)), (65, (.getfield 120, 3)), (68, (.iload_n 3, 1)), (69, (.aload_n 0, 1)), (70, (.getfield 120, 3)), (73, (.iload_n 3, 1)), (74, (.iconst 1, 1)), (75, (.iadd, 1)), (76, (.iaload, 1)), (77, (.iastore, 1)), (78, (.aload_n 0, 1)), (79, (.getfield 123, 3)), (82, (.iload_n 3, 1)), (83, (.aload_n 0, 1)), (84, (.getfield 123, 3))]
set_option maxRecDepth 100000 in
theorem da_X12_leaves_0 : dl_X12_leaves_0.all (fun q => decide (decode cX12_leaves q.1 = .ok q.2)) = true := by decide +kernel
theorem dX12_leaves_0 : decode cX12_leaves 0 = .ok (.aload_n 0, 1) := dec_of da_X12_leaves_0 (k := 0) rfl
theorem dX12_leaves_1 : decode cX12_leaves 1 = .ok (.aload_n 0, 1) := dec_of da_X12_leaves_0 (k := 1) rfl
theorem dX12_leaves_2 : decode cX12_leaves 2 = .ok (.getfield 132, 3) := dec_of da_X12_leaves_0 (k := 2) rfl
theorem dX12_leaves_5 : decode cX12_leaves 5 = .ok (.bipush 12, 2) := dec_of da_X12_leaves_0 (k := 3) rfl
theorem dX12_leaves_7 : decode cX12_leaves 7 = .ok (.iload_n 1, 1) := dec_of da_X12_leaves_0 (k := 4) rfl
theorem dX12_leaves_8 : decode cX12_leaves 8 = .ok (.imul, 1) := dec_of da_X12_leaves_0 (k := 5) rfl
theorem dX12_leaves_9 : decode cX12_leaves 9 = .ok (.iaload, 1) := dec_of da_X12_leaves_0 (k := 6) rfl
theorem dX12_leaves_10 : decode cX12_leaves 10 = .ok (.iload_n 2, 1) := dec_of da_X12_leaves_0 (k := 7) rfl
theorem dX12_leaves_11 : decode cX12_leaves 11 = .ok (.invokevirtual 407, 3) := dec_of da_X12_leaves_0 (k := 8) rfl
theorem dX12_leaves_14 : decode cX12_leaves 14 = .ok (.bipush 12, 2) := dec_of da_X12_leaves_0 (k := 9) rfl
theorem dX12_leaves_16 : decode cX12_leaves 16 = .ok (.iload_n 1, 1) := dec_of da_X12_leaves_0 (k := 10) rfl
theorem dX12_leaves_17 : decode cX12_leaves 17 = .ok (.imul, 1) := dec_of da_X12_leaves_0 (k := 11) rfl
theorem dX12_leaves_18 : decode cX12_leaves 18 = .ok (.istore_n 3, 1) := dec_of da_X12_leaves_0 (k := 12) rfl
theorem dX12_leaves_19 : decode cX12_leaves 19 = .ok (.iload_n 3, 1) := dec_of da_X12_leaves_0 (k := 13) rfl
theorem dX12_leaves_20 : decode cX12_leaves 20 = .ok (.bipush 12, 2) := dec_of da_X12_leaves_0 (k := 14) rfl
theorem dX12_leaves_22 : decode cX12_leaves 22 = .ok (.iload_n 1, 1) := dec_of da_X12_leaves_0 (k := 15) rfl
theorem dX12_leaves_23 : decode cX12_leaves 23 = .ok (.imul, 1) := dec_of da_X12_leaves_0 (k := 16) rfl
theorem dX12_leaves_24 : decode cX12_leaves 24 = .ok (.aload_n 0, 1) := dec_of da_X12_leaves_0 (k := 17) rfl
theorem dX12_leaves_25 : decode cX12_leaves 25 = .ok (.getfield 111, 3) := dec_of da_X12_leaves_0 (k := 18) rfl
theorem dX12_leaves_28 : decode cX12_leaves 28 = .ok (.iload_n 1, 1) := dec_of da_X12_leaves_0 (k := 19) rfl
theorem dX12_leaves_29 : decode cX12_leaves 29 = .ok (.iaload, 1) := dec_of da_X12_leaves_0 (k := 20) rfl
theorem dX12_leaves_30 : decode cX12_leaves 30 = .ok (.iadd, 1) := dec_of da_X12_leaves_0 (k := 21) rfl
theorem dX12_leaves_31 : decode cX12_leaves 31 = .ok (.iconst 1, 1) := dec_of da_X12_leaves_0 (k := 22) rfl
theorem dX12_leaves_32 : decode cX12_leaves 32 = .ok (.isub, 1) := dec_of da_X12_leaves_0 (k := 23) rfl
theorem dX12_leaves_33 : decode cX12_leaves 33 = .ok (.if_icmp .ge 154, 3) := dec_of da_X12_leaves_0 (k := 24) rfl
theorem dX12_leaves_36 : decode cX12_leaves 36 = .ok (.aload_n 0, 1) := dec_of da_X12_leaves_0 (k := 25) rfl
theorem dX12_leaves_37 : decode cX12_leaves 37 = .ok (.getfield 114, 3) := dec_of da_X12_leaves_0 (k := 26) rfl
theorem dX12_leaves_40 : decode cX12_leaves 40 = .ok (.iload_n 3, 1) := dec_of da_X12_leaves_0 (k := 27) rfl
theorem dX12_leaves_41 : decode cX12_leaves 41 = .ok (.aload_n 0, 1) := dec_of da_X12_leaves_0 (k := 28) rfl
theorem dX12_leaves_42 : decode cX12_leaves 42 = .ok (.getfield 114, 3) := dec_of da_X12_leaves_0 (k := 29) rfl
theorem dX12_leaves_45 : decode cX12_leaves 45 = .ok (.iload_n 3, 1) := dec_of da_X12_leaves_0 (k := 30) rfl
theorem dX12_leaves_46 : decode cX12_leaves 46 = .ok (.iconst 1, 1) := dec_of da_X12_leaves_0 (k := 31) rfl
theorem dX12_leaves_47 : decode cX12_leaves 47 = .ok (.iadd, 1) := dec_of da_X12_leaves_0 (k := 32) rfl
theorem dX12_leaves_48 : decode cX12_leaves 48 = .ok (.iaload, 1) := dec_of da_X12_leaves_0 (k := 33) rfl
theorem dX12_leaves_49 : decode cX12_leaves 49 = .ok (.iastore, 1) := dec_of da_X12_leaves_0 (k := 34) rfl
theorem dX12_leaves_50 : decode cX12_leaves 50 = .ok (.aload_n 0, 1) := dec_of da_X12_leaves_0 (k := 35) rfl
theorem dX12_leaves_51 : decode cX12_leaves 51 = .ok (.getfield 117, 3) := dec_of da_X12_leaves_0 (k := 36) rfl
theorem dX12_leaves_54 : decode cX12_leaves 54 = .ok (.iload_n 3, 1) := dec_of da_X12_leaves_0 (k := 37) rfl
theorem dX12_leaves_55 : decode cX12_leaves 55 = .ok (.aload_n 0, 1) := dec_of da_X12_leaves_0 (k := 38) rfl
theorem dX12_leaves_56 : decode cX12_leaves 56 = .ok (.getfield 117, 3) := dec_of da_X12_leaves_0 (k := 39) rfl
theorem dX12_leaves_59 : decode cX12_leaves 59 = .ok (.iload_n 3, 1) := dec_of da_X12_leaves_0 (k := 40) rfl
theorem dX12_leaves_60 : decode cX12_leaves 60 = .ok (.iconst 1, 1) := dec_of da_X12_leaves_0 (k := 41) rfl
theorem dX12_leaves_61 : decode cX12_leaves 61 = .ok (.iadd, 1) := dec_of da_X12_leaves_0 (k := 42) rfl
theorem dX12_leaves_62 : decode cX12_leaves 62 = .ok (.iaload, 1) := dec_of da_X12_leaves_0 (k := 43) rfl
theorem dX12_leaves_63 : decode cX12_leaves 63 = .ok (.iastore, 1) := dec_of da_X12_leaves_0 (k := 44) rfl
theorem dX12_leaves_64 : decode cX12_leaves 64 = .ok (.aload_n 0, 1) := dec_of da_X12_leaves_0 (k := 45) rfl
theorem dX12_leaves_65 : decode cX12_leaves 65 = .ok (.getfield 120, 3) := dec_of da_X12_leaves_0 (k := 46) rfl
theorem dX12_leaves_68 : decode cX12_leaves 68 = .ok (.iload_n 3, 1) := dec_of da_X12_leaves_0 (k := 47) rfl
theorem dX12_leaves_69 : decode cX12_leaves 69 = .ok (.aload_n 0, 1) := dec_of da_X12_leaves_0 (k := 48) rfl
theorem dX12_leaves_70 : decode cX12_leaves 70 = .ok (.getfield 120, 3) := dec_of da_X12_leaves_0 (k := 49) rfl
theorem dX12_leaves_73 : decode cX12_leaves 73 = .ok (.iload_n 3, 1) := dec_of da_X12_leaves_0 (k := 50) rfl
theorem dX12_leaves_74 : decode cX12_leaves 74 = .ok (.iconst 1, 1) := dec_of da_X12_leaves_0 (k := 51) rfl
theorem dX12_leaves_75 : decode cX12_leaves 75 = .ok (.iadd, 1) := dec_of da_X12_leaves_0 (k := 52) rfl
theorem dX12_leaves_76 : decode cX12_leaves 76 = .ok (.iaload, 1) := dec_of da_X12_leaves_0 (k := 53) rfl
theorem dX12_leaves_77 : decode cX12_leaves 77 = .ok (.iastore, 1) := dec_of da_X12_leaves_0 (k := 54) rfl
theorem dX12_leaves_78 : decode cX12_leaves 78 = .ok (.aload_n 0, 1) := dec_of da_X12_leaves_0 (k := 55) rfl
theorem dX12_leaves_79 : decode cX12_leaves 79 = .ok (.getfield 123, 3) := dec_of da_X12_leaves_0 (k := 56) rfl
theorem dX12_leaves_82 : decode cX12_leaves 82 = .ok (.iload_n 3, 1) := dec_of da_X12_leaves_0 (k := 57) rfl
theorem dX12_leaves_83 : decode cX12_leaves 83 = .ok (.aload_n 0, 1) := dec_of da_X12_leaves_0 (k := 58) rfl
theorem dX12_leaves_84 : decode cX12_leaves 84 = .ok (.getfield 123, 3) := dec_of da_X12_leaves_0 (k := 59) rfl
def dl_X12_leaves_1 : List (Nat × (Instr × Nat)) := [(87, (.iload_n 3, 1)), (88, (.iconst 1, 1)), (89, (.iadd, 1)), (90, (.iaload, 1)), (91, (.iastore, 1)), (92, (.aload_n 0, 1)), (93, (.getfield 126, 3)), (96, (.iload_n 3, 1)), (97, (.aload_n 0, 1)), (98, (.getfield 126, 3)), (101, (.iload_n 3, 1)), (102, (.iconst 1, 1)), (103, (.iadd, 1)), (104, (.iaload, 1)), (105, (.iastore, 1)), (106, (.aload_n 0, 1)), (107, (.getfield 129, 3)), (110, (.iload_n 3, 1)), (111, (.aload_n 0, 1)), (112, (.getfield 129, 3)), (115, (.iload_n 3, 1)), (116, (.iconst 1, 1)), (117, (.iadd, 1)), (118, (.iaload, 1)), (119, (.iastore, 1)), (120, (.aload_n 0, 1)), (121, (.getfield 132, 3)), (124, (.iload_n 3, 1)), (125, (.aload_n 0, 1)), (126, (.getfield 132, 3)), (129, (.iload_n 3, 1)), (130, (.iconst 1, 1)), (131, (.iadd, 1)), (132, (.iaload, 1)), (133, (.iastore, 1)), (134, (.iconst 0, 1)), (135, (.istore 4, 2)), (137, (.iload 4, 2)), (139, (.sipush 208, 3)), (142, (.if_icmp .ge 39, 3)), (145, (.aload_n 0, 1)), (146, (.getfield 135, 3)), (149, (.sipush 208, 3)), (152, (.iload_n 3, 1)), (153, (.imul, 1)), (154, (.iload 4, 2)), (156, (.iadd, 1)), (157, (.aload_n 0, 1)), (158, (.getfield 135, 3)), (161, (.sipush 208, 3)), (164, (.iload_n 3, 1)), (165, (.imul, 1)), (166, (.sipush 208, 3)), (169, (.iadd, 1)), (170, (.iload 4, 2)), (172, (.iadd, 1)), (173, (.iaload, 1)), (174, (.iastore, 1)), (175, (.iinc 4 1, 3)), (178, (.goto (-41), 3))]
set_option maxRecDepth 100000 in
theorem da_X12_leaves_1 : dl_X12_leaves_1.all (fun q => decide (decode cX12_leaves q.1 = .ok q.2)) = true := by decide +kernel
theorem dX12_leaves_87 : decode cX12_leaves 87 = .ok (.iload_n 3, 1) := dec_of da_X12_leaves_1 (k := 0) rfl
theorem dX12_leaves_88 : decode cX12_leaves 88 = .ok (.iconst 1, 1) := dec_of da_X12_leaves_1 (k := 1) rfl
theorem dX12_leaves_89 : decode cX12_leaves 89 = .ok (.iadd, 1) := dec_of da_X12_leaves_1 (k := 2) rfl
theorem dX12_leaves_90 : decode cX12_leaves 90 = .ok (.iaload, 1) := dec_of da_X12_leaves_1 (k := 3) rfl
theorem dX12_leaves_91 : decode cX12_leaves 91 = .ok (.iastore, 1) := dec_of da_X12_leaves_1 (k := 4) rfl
theorem dX12_leaves_92 : decode cX12_leaves 92 = .ok (.aload_n 0, 1) := dec_of da_X12_leaves_1 (k := 5) rfl
theorem dX12_leaves_93 : decode cX12_leaves 93 = .ok (.getfield 126, 3) := dec_of da_X12_leaves_1 (k := 6) rfl
theorem dX12_leaves_96 : decode cX12_leaves 96 = .ok (.iload_n 3, 1) := dec_of da_X12_leaves_1 (k := 7) rfl
theorem dX12_leaves_97 : decode cX12_leaves 97 = .ok (.aload_n 0, 1) := dec_of da_X12_leaves_1 (k := 8) rfl
theorem dX12_leaves_98 : decode cX12_leaves 98 = .ok (.getfield 126, 3) := dec_of da_X12_leaves_1 (k := 9) rfl
theorem dX12_leaves_101 : decode cX12_leaves 101 = .ok (.iload_n 3, 1) := dec_of da_X12_leaves_1 (k := 10) rfl
theorem dX12_leaves_102 : decode cX12_leaves 102 = .ok (.iconst 1, 1) := dec_of da_X12_leaves_1 (k := 11) rfl
theorem dX12_leaves_103 : decode cX12_leaves 103 = .ok (.iadd, 1) := dec_of da_X12_leaves_1 (k := 12) rfl
theorem dX12_leaves_104 : decode cX12_leaves 104 = .ok (.iaload, 1) := dec_of da_X12_leaves_1 (k := 13) rfl
theorem dX12_leaves_105 : decode cX12_leaves 105 = .ok (.iastore, 1) := dec_of da_X12_leaves_1 (k := 14) rfl
theorem dX12_leaves_106 : decode cX12_leaves 106 = .ok (.aload_n 0, 1) := dec_of da_X12_leaves_1 (k := 15) rfl
theorem dX12_leaves_107 : decode cX12_leaves 107 = .ok (.getfield 129, 3) := dec_of da_X12_leaves_1 (k := 16) rfl
theorem dX12_leaves_110 : decode cX12_leaves 110 = .ok (.iload_n 3, 1) := dec_of da_X12_leaves_1 (k := 17) rfl
theorem dX12_leaves_111 : decode cX12_leaves 111 = .ok (.aload_n 0, 1) := dec_of da_X12_leaves_1 (k := 18) rfl
theorem dX12_leaves_112 : decode cX12_leaves 112 = .ok (.getfield 129, 3) := dec_of da_X12_leaves_1 (k := 19) rfl
theorem dX12_leaves_115 : decode cX12_leaves 115 = .ok (.iload_n 3, 1) := dec_of da_X12_leaves_1 (k := 20) rfl
theorem dX12_leaves_116 : decode cX12_leaves 116 = .ok (.iconst 1, 1) := dec_of da_X12_leaves_1 (k := 21) rfl
theorem dX12_leaves_117 : decode cX12_leaves 117 = .ok (.iadd, 1) := dec_of da_X12_leaves_1 (k := 22) rfl
theorem dX12_leaves_118 : decode cX12_leaves 118 = .ok (.iaload, 1) := dec_of da_X12_leaves_1 (k := 23) rfl
theorem dX12_leaves_119 : decode cX12_leaves 119 = .ok (.iastore, 1) := dec_of da_X12_leaves_1 (k := 24) rfl
theorem dX12_leaves_120 : decode cX12_leaves 120 = .ok (.aload_n 0, 1) := dec_of da_X12_leaves_1 (k := 25) rfl
theorem dX12_leaves_121 : decode cX12_leaves 121 = .ok (.getfield 132, 3) := dec_of da_X12_leaves_1 (k := 26) rfl
theorem dX12_leaves_124 : decode cX12_leaves 124 = .ok (.iload_n 3, 1) := dec_of da_X12_leaves_1 (k := 27) rfl
theorem dX12_leaves_125 : decode cX12_leaves 125 = .ok (.aload_n 0, 1) := dec_of da_X12_leaves_1 (k := 28) rfl
theorem dX12_leaves_126 : decode cX12_leaves 126 = .ok (.getfield 132, 3) := dec_of da_X12_leaves_1 (k := 29) rfl
theorem dX12_leaves_129 : decode cX12_leaves 129 = .ok (.iload_n 3, 1) := dec_of da_X12_leaves_1 (k := 30) rfl
theorem dX12_leaves_130 : decode cX12_leaves 130 = .ok (.iconst 1, 1) := dec_of da_X12_leaves_1 (k := 31) rfl
theorem dX12_leaves_131 : decode cX12_leaves 131 = .ok (.iadd, 1) := dec_of da_X12_leaves_1 (k := 32) rfl
theorem dX12_leaves_132 : decode cX12_leaves 132 = .ok (.iaload, 1) := dec_of da_X12_leaves_1 (k := 33) rfl
theorem dX12_leaves_133 : decode cX12_leaves 133 = .ok (.iastore, 1) := dec_of da_X12_leaves_1 (k := 34) rfl
theorem dX12_leaves_134 : decode cX12_leaves 134 = .ok (.iconst 0, 1) := dec_of da_X12_leaves_1 (k := 35) rfl
theorem dX12_leaves_135 : decode cX12_leaves 135 = .ok (.istore 4, 2) := dec_of da_X12_leaves_1 (k := 36) rfl
theorem dX12_leaves_137 : decode cX12_leaves 137 = .ok (.iload 4, 2) := dec_of da_X12_leaves_1 (k := 37) rfl
theorem dX12_leaves_139 : decode cX12_leaves 139 = .ok (.sipush 208, 3) := dec_of da_X12_leaves_1 (k := 38) rfl
theorem dX12_leaves_142 : decode cX12_leaves 142 = .ok (.if_icmp .ge 39, 3) := dec_of da_X12_leaves_1 (k := 39) rfl
theorem dX12_leaves_145 : decode cX12_leaves 145 = .ok (.aload_n 0, 1) := dec_of da_X12_leaves_1 (k := 40) rfl
theorem dX12_leaves_146 : decode cX12_leaves 146 = .ok (.getfield 135, 3) := dec_of da_X12_leaves_1 (k := 41) rfl
theorem dX12_leaves_149 : decode cX12_leaves 149 = .ok (.sipush 208, 3) := dec_of da_X12_leaves_1 (k := 42) rfl
theorem dX12_leaves_152 : decode cX12_leaves 152 = .ok (.iload_n 3, 1) := dec_of da_X12_leaves_1 (k := 43) rfl
theorem dX12_leaves_153 : decode cX12_leaves 153 = .ok (.imul, 1) := dec_of da_X12_leaves_1 (k := 44) rfl
theorem dX12_leaves_154 : decode cX12_leaves 154 = .ok (.iload 4, 2) := dec_of da_X12_leaves_1 (k := 45) rfl
theorem dX12_leaves_156 : decode cX12_leaves 156 = .ok (.iadd, 1) := dec_of da_X12_leaves_1 (k := 46) rfl
theorem dX12_leaves_157 : decode cX12_leaves 157 = .ok (.aload_n 0, 1) := dec_of da_X12_leaves_1 (k := 47) rfl
theorem dX12_leaves_158 : decode cX12_leaves 158 = .ok (.getfield 135, 3) := dec_of da_X12_leaves_1 (k := 48) rfl
theorem dX12_leaves_161 : decode cX12_leaves 161 = .ok (.sipush 208, 3) := dec_of da_X12_leaves_1 (k := 49) rfl
theorem dX12_leaves_164 : decode cX12_leaves 164 = .ok (.iload_n 3, 1) := dec_of da_X12_leaves_1 (k := 50) rfl
theorem dX12_leaves_165 : decode cX12_leaves 165 = .ok (.imul, 1) := dec_of da_X12_leaves_1 (k := 51) rfl
theorem dX12_leaves_166 : decode cX12_leaves 166 = .ok (.sipush 208, 3) := dec_of da_X12_leaves_1 (k := 52) rfl
theorem dX12_leaves_169 : decode cX12_leaves 169 = .ok (.iadd, 1) := dec_of da_X12_leaves_1 (k := 53) rfl
theorem dX12_leaves_170 : decode cX12_leaves 170 = .ok (.iload 4, 2) := dec_of da_X12_leaves_1 (k := 54) rfl
theorem dX12_leaves_172 : decode cX12_leaves 172 = .ok (.iadd, 1) := dec_of da_X12_leaves_1 (k := 55) rfl
theorem dX12_leaves_173 : decode cX12_leaves 173 = .ok (.iaload, 1) := dec_of da_X12_leaves_1 (k := 56) rfl
theorem dX12_leaves_174 : decode cX12_leaves 174 = .ok (.iastore, 1) := dec_of da_X12_leaves_1 (k := 57) rfl
theorem dX12_leaves_175 : decode cX12_leaves 175 = .ok (.iinc 4 1, 3) := dec_of da_X12_leaves_1 (k := 58) rfl
theorem dX12_leaves_178 : decode cX12_leaves 178 = .ok (.goto (-41), 3) := dec_of da_X12_leaves_1 (k := 59) rfl
def dl_X12_leaves_2 : List (Nat × (Instr × Nat)) := [(181, (.iinc 3 1, 3)), (184, (.goto (-165), 3)), (187, (.aload_n 0, 1)), (188, (.getfield 111, 3)), (191, (.iload_n 1, 1)), (192, (.dup2, 1)), (193, (.iaload, 1)), (194, (.iconst 1, 1)), (195, (.isub, 1)), (196, (.iastore, 1)), (197, (.aload_n 0, 1)), (198, (.getfield 159, 3)), (201, (.iload_n 1, 1)), (202, (.iconst 0, 1)), (203, (.iastore, 1)), (204, (.aload_n 0, 1)), (205, (.getfield 156, 3)), (208, (.iload_n 1, 1)), (209, (.bipush 7, 2)), (211, (.iastore, 1)), (212, (.aload_n 0, 1)), (213, (.getfield 111, 3)), (216, (.iload_n 1, 1)), (217, (.iaload, 1)), (218, (.ifCond .le 8, 3)), (221, (.aload_n 0, 1)), (222, (.iload_n 1, 1)), (223, (.invokevirtual 411, 3)), (226, (.return_, 1))]
set_option maxRecDepth 100000 in
theorem da_X12_leaves_2 : dl_X12_leaves_2.all (fun q => decide (decode cX12_leaves q.1 = .ok q.2)) = true := by decide +kernel
theorem dX12_leaves_181 : decode cX12_leaves 181 = .ok (.iinc 3 1, 3) := dec_of da_X12_leaves_2 (k := 0) rfl
theorem dX12_leaves_184 : decode cX12_leaves 184 = .ok (.goto (-165), 3) := dec_of da_X12_leaves_2 (k := 1) rfl
theorem dX12_leaves_187 : decode cX12_leaves 187 = .ok (.aload_n 0, 1) := dec_of da_X12_leaves_2 (k := 2) rfl
theorem dX12_leaves_188 : decode cX12_leaves 188 = .ok (.getfield 111, 3) := dec_of da_X12_leaves_2 (k := 3) rfl
theorem dX12_leaves_191 : decode cX12_leaves 191 = .ok (.iload_n 1, 1) := dec_of da_X12_leaves_2 (k := 4) rfl
theorem dX12_leaves_192 : decode cX12_leaves 192 = .ok (.dup2, 1) := dec_of da_X12_leaves_2 (k := 5) rfl
theorem dX12_leaves_193 : decode cX12_leaves 193 = .ok (.iaload, 1) := dec_of da_X12_leaves_2 (k := 6) rfl
theorem dX12_leaves_194 : decode cX12_leaves 194 = .ok (.iconst 1, 1) := dec_of da_X12_leaves_2 (k := 7) rfl
theorem dX12_leaves_195 : decode cX12_leaves 195 = .ok (.isub, 1) := dec_of da_X12_leaves_2 (k := 8) rfl
theorem dX12_leaves_196 : decode cX12_leaves 196 = .ok (.iastore, 1) := dec_of da_X12_leaves_2 (k := 9) rfl
theorem dX12_leaves_197 : decode cX12_leaves 197 = .ok (.aload_n 0, 1) := dec_of da_X12_leaves_2 (k := 10) rfl
theorem dX12_leaves_198 : decode cX12_leaves 198 = .ok (.getfield 159, 3) := dec_of da_X12_leaves_2 (k := 11) rfl
theorem dX12_leaves_201 : decode cX12_leaves 201 = .ok (.iload_n 1, 1) := dec_of da_X12_leaves_2 (k := 12) rfl
theorem dX12_leaves_202 : decode cX12_leaves 202 = .ok (.iconst 0, 1) := dec_of da_X12_leaves_2 (k := 13) rfl
theorem dX12_leaves_203 : decode cX12_leaves 203 = .ok (.iastore, 1) := dec_of da_X12_leaves_2 (k := 14) rfl
theorem dX12_leaves_204 : decode cX12_leaves 204 = .ok (.aload_n 0, 1) := dec_of da_X12_leaves_2 (k := 15) rfl
theorem dX12_leaves_205 : decode cX12_leaves 205 = .ok (.getfield 156, 3) := dec_of da_X12_leaves_2 (k := 16) rfl
theorem dX12_leaves_208 : decode cX12_leaves 208 = .ok (.iload_n 1, 1) := dec_of da_X12_leaves_2 (k := 17) rfl
theorem dX12_leaves_209 : decode cX12_leaves 209 = .ok (.bipush 7, 2) := dec_of da_X12_leaves_2 (k := 18) rfl
theorem dX12_leaves_211 : decode cX12_leaves 211 = .ok (.iastore, 1) := dec_of da_X12_leaves_2 (k := 19) rfl
theorem dX12_leaves_212 : decode cX12_leaves 212 = .ok (.aload_n 0, 1) := dec_of da_X12_leaves_2 (k := 20) rfl
theorem dX12_leaves_213 : decode cX12_leaves 213 = .ok (.getfield 111, 3) := dec_of da_X12_leaves_2 (k := 21) rfl
theorem dX12_leaves_216 : decode cX12_leaves 216 = .ok (.iload_n 1, 1) := dec_of da_X12_leaves_2 (k := 22) rfl
theorem dX12_leaves_217 : decode cX12_leaves 217 = .ok (.iaload, 1) := dec_of da_X12_leaves_2 (k := 23) rfl
theorem dX12_leaves_218 : decode cX12_leaves 218 = .ok (.ifCond .le 8, 3) := dec_of da_X12_leaves_2 (k := 24) rfl
theorem dX12_leaves_221 : decode cX12_leaves 221 = .ok (.aload_n 0, 1) := dec_of da_X12_leaves_2 (k := 25) rfl
theorem dX12_leaves_222 : decode cX12_leaves 222 = .ok (.iload_n 1, 1) := dec_of da_X12_leaves_2 (k := 26) rfl
theorem dX12_leaves_223 : decode cX12_leaves 223 = .ok (.invokevirtual 411, 3) := dec_of da_X12_leaves_2 (k := 27) rfl
theorem dX12_leaves_226 : decode cX12_leaves 226 = .ok (.return_, 1) := dec_of da_X12_leaves_2 (k := 28) rfl
def dl_X12_partsOf_0 : List (Nat × (Instr × Nat)) := [(0, (.bipush 12, 2)), (2, (.iload_n 1, 1)), (3, (.imul, 1)), (4, (.istore_n 2, 1)), (5, (.aload_n 0, 1)), (6, (.getfield 114, 3)), (9, (.iload_n 2, 1)), (10, (.iaload, 1)), (11, (.bipush 8, 2)), (13, (.if_icmp .eq 7, 3)), (16, (.iconst 1, 1)), (17, (.goto 25, 3)), (20, (.aload_n 0, 1)), (21, (.getfield 129, 3)), (24, (.iload_n 2, 1)), (25, (.iaload, 1)), (26, (.aload_n 0, 1)), (27, (.getfield 126, 3)), (30, (.iload_n 2, 1)), (31, (.iaload, 1)), (32, (.iadd, 1)), (33, (.iconst 1, 1)), (34, (.isub, 1)), (35, (.aload_n 0, 1)), (36, (.getfield 126, 3)), (39, (.iload_n 2, 1)), (40, (.iaload, 1)), (41, (.idiv, 1)), (42, (.ireturn, 1))]
set_option maxRecDepth 100000 in
theorem da_X12_partsOf_0 : dl_X12_partsOf_0.all (fun q => decide (decode cX12_partsOf q.1 = .ok q.2)) = true := by decide +kernel
theorem dX12_partsOf_0 : decode cX12_partsOf 0 = .ok (.bipush 12, 2) := dec_of da_X12_partsOf_0 (k := 0) rfl
theorem dX12_partsOf_2 : decode cX12_partsOf 2 = .ok (.iload_n 1, 1) := dec_of da_X12_partsOf_0 (k := 1) rfl
theorem dX12_partsOf_3 : decode cX12_partsOf 3 = .ok (.imul, 1) := dec_of da_X12_partsOf_0 (k := 2) rfl
theorem dX12_partsOf_4 : decode cX12_partsOf 4 = .ok (.istore_n 2, 1) := dec_of da_X12_partsOf_0 (k := 3) rfl
theorem dX12_partsOf_5 : decode cX12_partsOf 5 = .ok (.aload_n 0, 1) := dec_of da_X12_partsOf_0 (k := 4) rfl
theorem dX12_partsOf_6 : decode cX12_partsOf 6 = .ok (.getfield 114, 3) := dec_of da_X12_partsOf_0 (k := 5) rfl
theorem dX12_partsOf_9 : decode cX12_partsOf 9 = .ok (.iload_n 2, 1) := dec_of da_X12_partsOf_0 (k := 6) rfl
theorem dX12_partsOf_10 : decode cX12_partsOf 10 = .ok (.iaload, 1) := dec_of da_X12_partsOf_0 (k := 7) rfl
theorem dX12_partsOf_11 : decode cX12_partsOf 11 = .ok (.bipush 8, 2) := dec_of da_X12_partsOf_0 (k := 8) rfl
theorem dX12_partsOf_13 : decode cX12_partsOf 13 = .ok (.if_icmp .eq 7, 3) := dec_of da_X12_partsOf_0 (k := 9) rfl
theorem dX12_partsOf_16 : decode cX12_partsOf 16 = .ok (.iconst 1, 1) := dec_of da_X12_partsOf_0 (k := 10) rfl
theorem dX12_partsOf_17 : decode cX12_partsOf 17 = .ok (.goto 25, 3) := dec_of da_X12_partsOf_0 (k := 11) rfl
theorem dX12_partsOf_20 : decode cX12_partsOf 20 = .ok (.aload_n 0, 1) := dec_of da_X12_partsOf_0 (k := 12) rfl
theorem dX12_partsOf_21 : decode cX12_partsOf 21 = .ok (.getfield 129, 3) := dec_of da_X12_partsOf_0 (k := 13) rfl
theorem dX12_partsOf_24 : decode cX12_partsOf 24 = .ok (.iload_n 2, 1) := dec_of da_X12_partsOf_0 (k := 14) rfl
theorem dX12_partsOf_25 : decode cX12_partsOf 25 = .ok (.iaload, 1) := dec_of da_X12_partsOf_0 (k := 15) rfl
theorem dX12_partsOf_26 : decode cX12_partsOf 26 = .ok (.aload_n 0, 1) := dec_of da_X12_partsOf_0 (k := 16) rfl
theorem dX12_partsOf_27 : decode cX12_partsOf 27 = .ok (.getfield 126, 3) := dec_of da_X12_partsOf_0 (k := 17) rfl
theorem dX12_partsOf_30 : decode cX12_partsOf 30 = .ok (.iload_n 2, 1) := dec_of da_X12_partsOf_0 (k := 18) rfl
theorem dX12_partsOf_31 : decode cX12_partsOf 31 = .ok (.iaload, 1) := dec_of da_X12_partsOf_0 (k := 19) rfl
theorem dX12_partsOf_32 : decode cX12_partsOf 32 = .ok (.iadd, 1) := dec_of da_X12_partsOf_0 (k := 20) rfl
theorem dX12_partsOf_33 : decode cX12_partsOf 33 = .ok (.iconst 1, 1) := dec_of da_X12_partsOf_0 (k := 21) rfl
theorem dX12_partsOf_34 : decode cX12_partsOf 34 = .ok (.isub, 1) := dec_of da_X12_partsOf_0 (k := 22) rfl
theorem dX12_partsOf_35 : decode cX12_partsOf 35 = .ok (.aload_n 0, 1) := dec_of da_X12_partsOf_0 (k := 23) rfl
theorem dX12_partsOf_36 : decode cX12_partsOf 36 = .ok (.getfield 126, 3) := dec_of da_X12_partsOf_0 (k := 24) rfl
theorem dX12_partsOf_39 : decode cX12_partsOf 39 = .ok (.iload_n 2, 1) := dec_of da_X12_partsOf_0 (k := 25) rfl
theorem dX12_partsOf_40 : decode cX12_partsOf 40 = .ok (.iaload, 1) := dec_of da_X12_partsOf_0 (k := 26) rfl
theorem dX12_partsOf_41 : decode cX12_partsOf 41 = .ok (.idiv, 1) := dec_of da_X12_partsOf_0 (k := 27) rfl
theorem dX12_partsOf_42 : decode cX12_partsOf 42 = .ok (.ireturn, 1) := dec_of da_X12_partsOf_0 (k := 28) rfl
def dl_X12_isSealed_0 : List (Nat × (Instr × Nat)) := [(0, (.bipush 12, 2)), (2, (.iload_n 1, 1)), (3, (.imul, 1)), (4, (.istore_n 2, 1)), (5, (.aload_n 0, 1)), (6, (.getfield 114, 3)), (9, (.iload_n 2, 1)), (10, (.iaload, 1)), (11, (.bipush 8, 2)), (13, (.if_icmp .ne 25, 3)), (16, (.aload_n 0, 1)), (17, (.getfield 135, 3)), (20, (.sipush 208, 3)), (23, (.iload_n 2, 1)), (24, (.imul, 1)), (25, (.bipush 6, 2)), (27, (.iadd, 1)), (28, (.iaload, 1)), (29, (.bipush 8, 2)), (31, (.if_icmp .ne 7, 3)), (34, (.iconst 1, 1)), (35, (.goto 4, 3)), (38, (.iconst 0, 1)), (39, (.ireturn, 1))]
set_option maxRecDepth 100000 in
theorem da_X12_isSealed_0 : dl_X12_isSealed_0.all (fun q => decide (decode cX12_isSealed q.1 = .ok q.2)) = true := by decide +kernel
theorem dX12_isSealed_0 : decode cX12_isSealed 0 = .ok (.bipush 12, 2) := dec_of da_X12_isSealed_0 (k := 0) rfl
theorem dX12_isSealed_2 : decode cX12_isSealed 2 = .ok (.iload_n 1, 1) := dec_of da_X12_isSealed_0 (k := 1) rfl
theorem dX12_isSealed_3 : decode cX12_isSealed 3 = .ok (.imul, 1) := dec_of da_X12_isSealed_0 (k := 2) rfl
theorem dX12_isSealed_4 : decode cX12_isSealed 4 = .ok (.istore_n 2, 1) := dec_of da_X12_isSealed_0 (k := 3) rfl
theorem dX12_isSealed_5 : decode cX12_isSealed 5 = .ok (.aload_n 0, 1) := dec_of da_X12_isSealed_0 (k := 4) rfl
theorem dX12_isSealed_6 : decode cX12_isSealed 6 = .ok (.getfield 114, 3) := dec_of da_X12_isSealed_0 (k := 5) rfl
theorem dX12_isSealed_9 : decode cX12_isSealed 9 = .ok (.iload_n 2, 1) := dec_of da_X12_isSealed_0 (k := 6) rfl
theorem dX12_isSealed_10 : decode cX12_isSealed 10 = .ok (.iaload, 1) := dec_of da_X12_isSealed_0 (k := 7) rfl
theorem dX12_isSealed_11 : decode cX12_isSealed 11 = .ok (.bipush 8, 2) := dec_of da_X12_isSealed_0 (k := 8) rfl
theorem dX12_isSealed_13 : decode cX12_isSealed 13 = .ok (.if_icmp .ne 25, 3) := dec_of da_X12_isSealed_0 (k := 9) rfl
theorem dX12_isSealed_16 : decode cX12_isSealed 16 = .ok (.aload_n 0, 1) := dec_of da_X12_isSealed_0 (k := 10) rfl
theorem dX12_isSealed_17 : decode cX12_isSealed 17 = .ok (.getfield 135, 3) := dec_of da_X12_isSealed_0 (k := 11) rfl
theorem dX12_isSealed_20 : decode cX12_isSealed 20 = .ok (.sipush 208, 3) := dec_of da_X12_isSealed_0 (k := 12) rfl
theorem dX12_isSealed_23 : decode cX12_isSealed 23 = .ok (.iload_n 2, 1) := dec_of da_X12_isSealed_0 (k := 13) rfl
theorem dX12_isSealed_24 : decode cX12_isSealed 24 = .ok (.imul, 1) := dec_of da_X12_isSealed_0 (k := 14) rfl
theorem dX12_isSealed_25 : decode cX12_isSealed 25 = .ok (.bipush 6, 2) := dec_of da_X12_isSealed_0 (k := 15) rfl
theorem dX12_isSealed_27 : decode cX12_isSealed 27 = .ok (.iadd, 1) := dec_of da_X12_isSealed_0 (k := 16) rfl
theorem dX12_isSealed_28 : decode cX12_isSealed 28 = .ok (.iaload, 1) := dec_of da_X12_isSealed_0 (k := 17) rfl
theorem dX12_isSealed_29 : decode cX12_isSealed 29 = .ok (.bipush 8, 2) := dec_of da_X12_isSealed_0 (k := 18) rfl
theorem dX12_isSealed_31 : decode cX12_isSealed 31 = .ok (.if_icmp .ne 7, 3) := dec_of da_X12_isSealed_0 (k := 19) rfl
theorem dX12_isSealed_34 : decode cX12_isSealed 34 = .ok (.iconst 1, 1) := dec_of da_X12_isSealed_0 (k := 20) rfl
theorem dX12_isSealed_35 : decode cX12_isSealed 35 = .ok (.goto 4, 3) := dec_of da_X12_isSealed_0 (k := 21) rfl
theorem dX12_isSealed_38 : decode cX12_isSealed 38 = .ok (.iconst 0, 1) := dec_of da_X12_isSealed_0 (k := 22) rfl
theorem dX12_isSealed_39 : decode cX12_isSealed 39 = .ok (.ireturn, 1) := dec_of da_X12_isSealed_0 (k := 23) rfl
def dl_X12_putAddress_0 : List (Nat × (Instr × Nat)) := [(0, (.iconst 0, 1)), (1, (.istore_n 3, 1)), (2, (.iload_n 3, 1)), (3, (.bipush 6, 2)), (5, (.if_icmp .ge 32, 3)), (8, (.aload_n 0, 1)), (9, (.iload_n 1, 1)), (10, (.iload_n 3, 1)), (11, (.iadd, 1)), (12, (.iload_n 3, 1)), (13, (.ifCond .ne 7, 3)), (16, (.iconst 2, 1)), (17, (.goto 13, 3)), (20, (.iload_n 3, 1)), (21, (.iconst 5, 1)), (22, (.if_icmp .ne 7, 3)), (25, (.iload_n 2, 1)), (26, (.goto 4, 3)), (29, (.iconst 0, 1)), (30, (.iastore, 1)), (31, (.iinc 3 1, 3)), (34, (.goto (-32), 3)), (37, (.return_, 1))]
set_option maxRecDepth 100000 in
theorem da_X12_putAddress_0 : dl_X12_putAddress_0.all (fun q => decide (decode cX12_putAddress q.1 = .ok q.2)) = true := by decide +kernel
theorem dX12_putAddress_0 : decode cX12_putAddress 0 = .ok (.iconst 0, 1) := dec_of da_X12_putAddress_0 (k := 0) rfl
theorem dX12_putAddress_1 : decode cX12_putAddress 1 = .ok (.istore_n 3, 1) := dec_of da_X12_putAddress_0 (k := 1) rfl
theorem dX12_putAddress_2 : decode cX12_putAddress 2 = .ok (.iload_n 3, 1) := dec_of da_X12_putAddress_0 (k := 2) rfl
theorem dX12_putAddress_3 : decode cX12_putAddress 3 = .ok (.bipush 6, 2) := dec_of da_X12_putAddress_0 (k := 3) rfl
theorem dX12_putAddress_5 : decode cX12_putAddress 5 = .ok (.if_icmp .ge 32, 3) := dec_of da_X12_putAddress_0 (k := 4) rfl
theorem dX12_putAddress_8 : decode cX12_putAddress 8 = .ok (.aload_n 0, 1) := dec_of da_X12_putAddress_0 (k := 5) rfl
theorem dX12_putAddress_9 : decode cX12_putAddress 9 = .ok (.iload_n 1, 1) := dec_of da_X12_putAddress_0 (k := 6) rfl
theorem dX12_putAddress_10 : decode cX12_putAddress 10 = .ok (.iload_n 3, 1) := dec_of da_X12_putAddress_0 (k := 7) rfl
theorem dX12_putAddress_11 : decode cX12_putAddress 11 = .ok (.iadd, 1) := dec_of da_X12_putAddress_0 (k := 8) rfl
theorem dX12_putAddress_12 : decode cX12_putAddress 12 = .ok (.iload_n 3, 1) := dec_of da_X12_putAddress_0 (k := 9) rfl
theorem dX12_putAddress_13 : decode cX12_putAddress 13 = .ok (.ifCond .ne 7, 3) := dec_of da_X12_putAddress_0 (k := 10) rfl
theorem dX12_putAddress_16 : decode cX12_putAddress 16 = .ok (.iconst 2, 1) := dec_of da_X12_putAddress_0 (k := 11) rfl
theorem dX12_putAddress_17 : decode cX12_putAddress 17 = .ok (.goto 13, 3) := dec_of da_X12_putAddress_0 (k := 12) rfl
theorem dX12_putAddress_20 : decode cX12_putAddress 20 = .ok (.iload_n 3, 1) := dec_of da_X12_putAddress_0 (k := 13) rfl
theorem dX12_putAddress_21 : decode cX12_putAddress 21 = .ok (.iconst 5, 1) := dec_of da_X12_putAddress_0 (k := 14) rfl
theorem dX12_putAddress_22 : decode cX12_putAddress 22 = .ok (.if_icmp .ne 7, 3) := dec_of da_X12_putAddress_0 (k := 15) rfl
theorem dX12_putAddress_25 : decode cX12_putAddress 25 = .ok (.iload_n 2, 1) := dec_of da_X12_putAddress_0 (k := 16) rfl
theorem dX12_putAddress_26 : decode cX12_putAddress 26 = .ok (.goto 4, 3) := dec_of da_X12_putAddress_0 (k := 17) rfl
theorem dX12_putAddress_29 : decode cX12_putAddress 29 = .ok (.iconst 0, 1) := dec_of da_X12_putAddress_0 (k := 18) rfl
theorem dX12_putAddress_30 : decode cX12_putAddress 30 = .ok (.iastore, 1) := dec_of da_X12_putAddress_0 (k := 19) rfl
theorem dX12_putAddress_31 : decode cX12_putAddress 31 = .ok (.iinc 3 1, 3) := dec_of da_X12_putAddress_0 (k := 20) rfl
theorem dX12_putAddress_34 : decode cX12_putAddress 34 = .ok (.goto (-32), 3) := dec_of da_X12_putAddress_0 (k := 21) rfl
theorem dX12_putAddress_37 : decode cX12_putAddress 37 = .ok (.return_, 1) := dec_of da_X12_putAddress_0 (k := 22) rfl
def dl_X12_putCheck_0 : List (Nat × (Instr × Nat)) := [(0, (.aload_n 1, 1)), (1, (.iload_n 2, 1)), (2, (.iload_n 3, 1)), (3, (.invokestatic 358, 3)), (6, (.istore 4, 2)), (8, (.iconst 0, 1)), (9, (.istore 5, 2)), (11, (.iload 5, 2)), (13, (.iconst 4, 1)), (14, (.if_icmp .ge 29, 3)), (17, (.aload_n 1, 1)), (18, (.iload_n 2, 1)), (19, (.iload_n 3, 1)), (20, (.iadd, 1)), (21, (.iload 5, 2)), (23, (.iadd, 1)), (24, (.iload 4, 2)), (26, (.bipush 8, 2)), (28, (.iload 5, 2)), (30, (.imul, 1)), (31, (.ishr, 1)), (32, (.sipush 255, 3)), (35, (.iand, 1)), (36, (.iastore, 1)), (37, (.iinc 5 1, 3)), (40, (.goto (-29), 3)), (43, (.return_, 1))]
set_option maxRecDepth 100000 in
theorem da_X12_putCheck_0 : dl_X12_putCheck_0.all (fun q => decide (decode cX12_putCheck q.1 = .ok q.2)) = true := by decide +kernel
theorem dX12_putCheck_0 : decode cX12_putCheck 0 = .ok (.aload_n 1, 1) := dec_of da_X12_putCheck_0 (k := 0) rfl
theorem dX12_putCheck_1 : decode cX12_putCheck 1 = .ok (.iload_n 2, 1) := dec_of da_X12_putCheck_0 (k := 1) rfl
theorem dX12_putCheck_2 : decode cX12_putCheck 2 = .ok (.iload_n 3, 1) := dec_of da_X12_putCheck_0 (k := 2) rfl
theorem dX12_putCheck_3 : decode cX12_putCheck 3 = .ok (.invokestatic 358, 3) := dec_of da_X12_putCheck_0 (k := 3) rfl
theorem dX12_putCheck_6 : decode cX12_putCheck 6 = .ok (.istore 4, 2) := dec_of da_X12_putCheck_0 (k := 4) rfl
theorem dX12_putCheck_8 : decode cX12_putCheck 8 = .ok (.iconst 0, 1) := dec_of da_X12_putCheck_0 (k := 5) rfl
theorem dX12_putCheck_9 : decode cX12_putCheck 9 = .ok (.istore 5, 2) := dec_of da_X12_putCheck_0 (k := 6) rfl
theorem dX12_putCheck_11 : decode cX12_putCheck 11 = .ok (.iload 5, 2) := dec_of da_X12_putCheck_0 (k := 7) rfl
theorem dX12_putCheck_13 : decode cX12_putCheck 13 = .ok (.iconst 4, 1) := dec_of da_X12_putCheck_0 (k := 8) rfl
theorem dX12_putCheck_14 : decode cX12_putCheck 14 = .ok (.if_icmp .ge 29, 3) := dec_of da_X12_putCheck_0 (k := 9) rfl
theorem dX12_putCheck_17 : decode cX12_putCheck 17 = .ok (.aload_n 1, 1) := dec_of da_X12_putCheck_0 (k := 10) rfl
theorem dX12_putCheck_18 : decode cX12_putCheck 18 = .ok (.iload_n 2, 1) := dec_of da_X12_putCheck_0 (k := 11) rfl
theorem dX12_putCheck_19 : decode cX12_putCheck 19 = .ok (.iload_n 3, 1) := dec_of da_X12_putCheck_0 (k := 12) rfl
theorem dX12_putCheck_20 : decode cX12_putCheck 20 = .ok (.iadd, 1) := dec_of da_X12_putCheck_0 (k := 13) rfl
theorem dX12_putCheck_21 : decode cX12_putCheck 21 = .ok (.iload 5, 2) := dec_of da_X12_putCheck_0 (k := 14) rfl
theorem dX12_putCheck_23 : decode cX12_putCheck 23 = .ok (.iadd, 1) := dec_of da_X12_putCheck_0 (k := 15) rfl
theorem dX12_putCheck_24 : decode cX12_putCheck 24 = .ok (.iload 4, 2) := dec_of da_X12_putCheck_0 (k := 16) rfl
theorem dX12_putCheck_26 : decode cX12_putCheck 26 = .ok (.bipush 8, 2) := dec_of da_X12_putCheck_0 (k := 17) rfl
theorem dX12_putCheck_28 : decode cX12_putCheck 28 = .ok (.iload 5, 2) := dec_of da_X12_putCheck_0 (k := 18) rfl
theorem dX12_putCheck_30 : decode cX12_putCheck 30 = .ok (.imul, 1) := dec_of da_X12_putCheck_0 (k := 19) rfl
theorem dX12_putCheck_31 : decode cX12_putCheck 31 = .ok (.ishr, 1) := dec_of da_X12_putCheck_0 (k := 20) rfl
theorem dX12_putCheck_32 : decode cX12_putCheck 32 = .ok (.sipush 255, 3) := dec_of da_X12_putCheck_0 (k := 21) rfl
theorem dX12_putCheck_35 : decode cX12_putCheck 35 = .ok (.iand, 1) := dec_of da_X12_putCheck_0 (k := 22) rfl
theorem dX12_putCheck_36 : decode cX12_putCheck 36 = .ok (.iastore, 1) := dec_of da_X12_putCheck_0 (k := 23) rfl
theorem dX12_putCheck_37 : decode cX12_putCheck 37 = .ok (.iinc 5 1, 3) := dec_of da_X12_putCheck_0 (k := 24) rfl
theorem dX12_putCheck_40 : decode cX12_putCheck 40 = .ok (.goto (-29), 3) := dec_of da_X12_putCheck_0 (k := 25) rfl
theorem dX12_putCheck_43 : decode cX12_putCheck 43 = .ok (.return_, 1) := dec_of da_X12_putCheck_0 (k := 26) rfl
def dl_X12_pairOf_0 : List (Nat × (Instr × Nat)) := [(0, (.iload_n 1, 1)), (1, (.ifCond .ne 15, 3)), (4, (.bipush 9, 2)), (6, (.aload_n 0, 1)), (7, (.getfield 117, 3)), (10, (.iconst 0, 1)), (11, (.iaload, 1)), (12, (.iadd, 1)), (13, (.goto 4, 3)), (16, (.iload_n 1, 1)), (17, (.ireturn, 1))]
set_option maxRecDepth 100000 in
theorem da_X12_pairOf_0 : dl_X12_pairOf_0.all (fun q => decide (decode cX12_pairOf q.1 = .ok q.2)) = true := by decide +kernel
theorem dX12_pairOf_0 : decode cX12_pairOf 0 = .ok (.iload_n 1, 1) := dec_of da_X12_pairOf_0 (k := 0) rfl
theorem dX12_pairOf_1 : decode cX12_pairOf 1 = .ok (.ifCond .ne 15, 3) := dec_of da_X12_pairOf_0 (k := 1) rfl
theorem dX12_pairOf_4 : decode cX12_pairOf 4 = .ok (.bipush 9, 2) := dec_of da_X12_pairOf_0 (k := 2) rfl
theorem dX12_pairOf_6 : decode cX12_pairOf 6 = .ok (.aload_n 0, 1) := dec_of da_X12_pairOf_0 (k := 3) rfl
theorem dX12_pairOf_7 : decode cX12_pairOf 7 = .ok (.getfield 117, 3) := dec_of da_X12_pairOf_0 (k := 4) rfl
theorem dX12_pairOf_10 : decode cX12_pairOf 10 = .ok (.iconst 0, 1) := dec_of da_X12_pairOf_0 (k := 5) rfl
theorem dX12_pairOf_11 : decode cX12_pairOf 11 = .ok (.iaload, 1) := dec_of da_X12_pairOf_0 (k := 6) rfl
theorem dX12_pairOf_12 : decode cX12_pairOf 12 = .ok (.iadd, 1) := dec_of da_X12_pairOf_0 (k := 7) rfl
theorem dX12_pairOf_13 : decode cX12_pairOf 13 = .ok (.goto 4, 3) := dec_of da_X12_pairOf_0 (k := 8) rfl
theorem dX12_pairOf_16 : decode cX12_pairOf 16 = .ok (.iload_n 1, 1) := dec_of da_X12_pairOf_0 (k := 9) rfl
theorem dX12_pairOf_17 : decode cX12_pairOf 17 = .ok (.ireturn, 1) := dec_of da_X12_pairOf_0 (k := 10) rfl
def dl_X12_make_0 : List (Nat × (Instr × Nat)) := [(0, (.bipush 12, 2)), (2, (.iload_n 1, 1)), (3, (.imul, 1)), (4, (.istore_n 2, 1)), (5, (.sipush 300, 3)), (8, (.iload_n 1, 1)), (9, (.imul, 1)), (10, (.istore_n 3, 1)), (11, (.aload_n 0, 1)), (12, (.iload_n 1, 1)), (13, (.invokevirtual 418, 3)), (16, (.istore 4, 2)), (18, (.aload_n 0, 1)), (19, (.iload_n 1, 1)), (20, (.invokevirtual 421, 3)), (23, (.istore 5, 2)), (25, (.iload 4, 2)), (27, (.ifCond .eq 15, 3)), (30, (.aload_n 0, 1)), (31, (.getfield 74, 3)), (34, (.iload 5, 2)), (36, (.baload, 1)), (37, (.ifCond .ne 5, 3)), (40, (.iconst 0, 1)), (41, (.ireturn, 1)), (42, (.aload_n 0, 1)), (43, (.getfield 138, 3)), (46, (.iload_n 1, 1)), (47, (.iaload, 1)), (48, (.aload_n 0, 1)), (49, (.iload_n 1, 1)), (50, (.invokevirtual 424, 3)), (53, (.iconst 1, 1)), (54, (.isub, 1)), (55, (.if_icmp .ge 7, 3)), (58, (.iconst 1, 1)), (59, (.goto 4, 3)), (62, (.iconst 0, 1)), (63, (.istore 6, 2)), (65, (.aload_n 0, 1)), (66, (.getfield 144, 3)), (69, (.iload_n 3, 1)), (70, (.aload_n 0, 1)), (71, (.getfield 114, 3)), (74, (.iload_n 2, 1)), (75, (.iaload, 1)), (76, (.iastore, 1)), (77, (.aload_n 0, 1)), (78, (.getfield 144, 3)), (81, (.iload_n 3, 1)), (82, (.iconst 1, 1)), (83, (.iadd, 1)), (84, (.aload_n 0, 1)), (85, (.getfield 114, 3)), (88, (.iload_n 2, 1)), (89, (.iaload, 1)), (90, (.bipush 8, 2)), (92, (.if_icmp .eq 7, 3)), (95, (.iconst 0, 1)), (96, (.goto 12, 3))]
set_option maxRecDepth 100000 in
theorem da_X12_make_0 : dl_X12_make_0.all (fun q => decide (decode cX12_make q.1 = .ok q.2)) = true := by decide +kernel
theorem dX12_make_0 : decode cX12_make 0 = .ok (.bipush 12, 2) := dec_of da_X12_make_0 (k := 0) rfl
theorem dX12_make_2 : decode cX12_make 2 = .ok (.iload_n 1, 1) := dec_of da_X12_make_0 (k := 1) rfl
theorem dX12_make_3 : decode cX12_make 3 = .ok (.imul, 1) := dec_of da_X12_make_0 (k := 2) rfl
theorem dX12_make_4 : decode cX12_make 4 = .ok (.istore_n 2, 1) := dec_of da_X12_make_0 (k := 3) rfl
theorem dX12_make_5 : decode cX12_make 5 = .ok (.sipush 300, 3) := dec_of da_X12_make_0 (k := 4) rfl
theorem dX12_make_8 : decode cX12_make 8 = .ok (.iload_n 1, 1) := dec_of da_X12_make_0 (k := 5) rfl
theorem dX12_make_9 : decode cX12_make 9 = .ok (.imul, 1) := dec_of da_X12_make_0 (k := 6) rfl
theorem dX12_make_10 : decode cX12_make 10 = .ok (.istore_n 3, 1) := dec_of da_X12_make_0 (k := 7) rfl
theorem dX12_make_11 : decode cX12_make 11 = .ok (.aload_n 0, 1) := dec_of da_X12_make_0 (k := 8) rfl
theorem dX12_make_12 : decode cX12_make 12 = .ok (.iload_n 1, 1) := dec_of da_X12_make_0 (k := 9) rfl
theorem dX12_make_13 : decode cX12_make 13 = .ok (.invokevirtual 418, 3) := dec_of da_X12_make_0 (k := 10) rfl
theorem dX12_make_16 : decode cX12_make 16 = .ok (.istore 4, 2) := dec_of da_X12_make_0 (k := 11) rfl
theorem dX12_make_18 : decode cX12_make 18 = .ok (.aload_n 0, 1) := dec_of da_X12_make_0 (k := 12) rfl
theorem dX12_make_19 : decode cX12_make 19 = .ok (.iload_n 1, 1) := dec_of da_X12_make_0 (k := 13) rfl
theorem dX12_make_20 : decode cX12_make 20 = .ok (.invokevirtual 421, 3) := dec_of da_X12_make_0 (k := 14) rfl
theorem dX12_make_23 : decode cX12_make 23 = .ok (.istore 5, 2) := dec_of da_X12_make_0 (k := 15) rfl
theorem dX12_make_25 : decode cX12_make 25 = .ok (.iload 4, 2) := dec_of da_X12_make_0 (k := 16) rfl
theorem dX12_make_27 : decode cX12_make 27 = .ok (.ifCond .eq 15, 3) := dec_of da_X12_make_0 (k := 17) rfl
theorem dX12_make_30 : decode cX12_make 30 = .ok (.aload_n 0, 1) := dec_of da_X12_make_0 (k := 18) rfl
theorem dX12_make_31 : decode cX12_make 31 = .ok (.getfield 74, 3) := dec_of da_X12_make_0 (k := 19) rfl
theorem dX12_make_34 : decode cX12_make 34 = .ok (.iload 5, 2) := dec_of da_X12_make_0 (k := 20) rfl
theorem dX12_make_36 : decode cX12_make 36 = .ok (.baload, 1) := dec_of da_X12_make_0 (k := 21) rfl
theorem dX12_make_37 : decode cX12_make 37 = .ok (.ifCond .ne 5, 3) := dec_of da_X12_make_0 (k := 22) rfl
theorem dX12_make_40 : decode cX12_make 40 = .ok (.iconst 0, 1) := dec_of da_X12_make_0 (k := 23) rfl
theorem dX12_make_41 : decode cX12_make 41 = .ok (.ireturn, 1) := dec_of da_X12_make_0 (k := 24) rfl
theorem dX12_make_42 : decode cX12_make 42 = .ok (.aload_n 0, 1) := dec_of da_X12_make_0 (k := 25) rfl
theorem dX12_make_43 : decode cX12_make 43 = .ok (.getfield 138, 3) := dec_of da_X12_make_0 (k := 26) rfl
theorem dX12_make_46 : decode cX12_make 46 = .ok (.iload_n 1, 1) := dec_of da_X12_make_0 (k := 27) rfl
theorem dX12_make_47 : decode cX12_make 47 = .ok (.iaload, 1) := dec_of da_X12_make_0 (k := 28) rfl
theorem dX12_make_48 : decode cX12_make 48 = .ok (.aload_n 0, 1) := dec_of da_X12_make_0 (k := 29) rfl
theorem dX12_make_49 : decode cX12_make 49 = .ok (.iload_n 1, 1) := dec_of da_X12_make_0 (k := 30) rfl
theorem dX12_make_50 : decode cX12_make 50 = .ok (.invokevirtual 424, 3) := dec_of da_X12_make_0 (k := 31) rfl
theorem dX12_make_53 : decode cX12_make 53 = .ok (.iconst 1, 1) := dec_of da_X12_make_0 (k := 32) rfl
theorem dX12_make_54 : decode cX12_make 54 = .ok (.isub, 1) := dec_of da_X12_make_0 (k := 33) rfl
theorem dX12_make_55 : decode cX12_make 55 = .ok (.if_icmp .ge 7, 3) := dec_of da_X12_make_0 (k := 34) rfl
theorem dX12_make_58 : decode cX12_make 58 = .ok (.iconst 1, 1) := dec_of da_X12_make_0 (k := 35) rfl
theorem dX12_make_59 : decode cX12_make 59 = .ok (.goto 4, 3) := dec_of da_X12_make_0 (k := 36) rfl
theorem dX12_make_62 : decode cX12_make 62 = .ok (.iconst 0, 1) := dec_of da_X12_make_0 (k := 37) rfl
theorem dX12_make_63 : decode cX12_make 63 = .ok (.istore 6, 2) := dec_of da_X12_make_0 (k := 38) rfl
theorem dX12_make_65 : decode cX12_make 65 = .ok (.aload_n 0, 1) := dec_of da_X12_make_0 (k := 39) rfl
theorem dX12_make_66 : decode cX12_make 66 = .ok (.getfield 144, 3) := dec_of da_X12_make_0 (k := 40) rfl
theorem dX12_make_69 : decode cX12_make 69 = .ok (.iload_n 3, 1) := dec_of da_X12_make_0 (k := 41) rfl
theorem dX12_make_70 : decode cX12_make 70 = .ok (.aload_n 0, 1) := dec_of da_X12_make_0 (k := 42) rfl
theorem dX12_make_71 : decode cX12_make 71 = .ok (.getfield 114, 3) := dec_of da_X12_make_0 (k := 43) rfl
theorem dX12_make_74 : decode cX12_make 74 = .ok (.iload_n 2, 1) := dec_of da_X12_make_0 (k := 44) rfl
theorem dX12_make_75 : decode cX12_make 75 = .ok (.iaload, 1) := dec_of da_X12_make_0 (k := 45) rfl
theorem dX12_make_76 : decode cX12_make 76 = .ok (.iastore, 1) := dec_of da_X12_make_0 (k := 46) rfl
theorem dX12_make_77 : decode cX12_make 77 = .ok (.aload_n 0, 1) := dec_of da_X12_make_0 (k := 47) rfl
theorem dX12_make_78 : decode cX12_make 78 = .ok (.getfield 144, 3) := dec_of da_X12_make_0 (k := 48) rfl
theorem dX12_make_81 : decode cX12_make 81 = .ok (.iload_n 3, 1) := dec_of da_X12_make_0 (k := 49) rfl
theorem dX12_make_82 : decode cX12_make 82 = .ok (.iconst 1, 1) := dec_of da_X12_make_0 (k := 50) rfl
theorem dX12_make_83 : decode cX12_make 83 = .ok (.iadd, 1) := dec_of da_X12_make_0 (k := 51) rfl
theorem dX12_make_84 : decode cX12_make 84 = .ok (.aload_n 0, 1) := dec_of da_X12_make_0 (k := 52) rfl
theorem dX12_make_85 : decode cX12_make 85 = .ok (.getfield 114, 3) := dec_of da_X12_make_0 (k := 53) rfl
theorem dX12_make_88 : decode cX12_make 88 = .ok (.iload_n 2, 1) := dec_of da_X12_make_0 (k := 54) rfl
theorem dX12_make_89 : decode cX12_make 89 = .ok (.iaload, 1) := dec_of da_X12_make_0 (k := 55) rfl
theorem dX12_make_90 : decode cX12_make 90 = .ok (.bipush 8, 2) := dec_of da_X12_make_0 (k := 56) rfl
theorem dX12_make_92 : decode cX12_make 92 = .ok (.if_icmp .eq 7, 3) := dec_of da_X12_make_0 (k := 57) rfl
theorem dX12_make_95 : decode cX12_make 95 = .ok (.iconst 0, 1) := dec_of da_X12_make_0 (k := 58) rfl
theorem dX12_make_96 : decode cX12_make 96 = .ok (.goto 12, 3) := dec_of da_X12_make_0 (k := 59) rfl
def dl_X12_make_1 : List (Nat × (Instr × Nat)) := [(99, (.iload_n 1, 1)), (100, (.ifCond .le 7, 3)), (103, (.iconst 1, 1)), (104, (.goto 4, 3)), (107, (.iconst 2, 1)), (108, (.iload 6, 2)), (110, (.ifCond .eq 7, 3)), (113, (.iconst 4, 1)), (114, (.goto 4, 3)), (117, (.iconst 0, 1)), (118, (.ior, 1)), (119, (.iload 4, 2)), (121, (.ifCond .eq 8, 3)), (124, (.bipush 64, 2)), (126, (.goto 4, 3)), (129, (.iconst 0, 1)), (130, (.ior, 1)), (131, (.iastore, 1)), (132, (.aload_n 0, 1)), (133, (.getfield 144, 3)), (136, (.iload_n 3, 1)), (137, (.iconst 2, 1)), (138, (.iadd, 1)), (139, (.iconst 0, 1)), (140, (.iastore, 1)), (141, (.aload_n 0, 1)), (142, (.getfield 144, 3)), (145, (.iload_n 3, 1)), (146, (.iconst 3, 1)), (147, (.iadd, 1)), (148, (.iconst 0, 1)), (149, (.iastore, 1)), (150, (.aload_n 0, 1)), (151, (.getfield 144, 3)), (154, (.iload_n 3, 1)), (155, (.iconst 4, 1)), (156, (.iadd, 1)), (157, (.aload_n 0, 1)), (158, (.getfield 117, 3)), (161, (.iload_n 2, 1)), (162, (.iaload, 1)), (163, (.invokestatic 427, 3)), (166, (.aload_n 0, 1)), (167, (.getfield 144, 3)), (170, (.iload_n 3, 1)), (171, (.bipush 10, 2)), (173, (.iadd, 1)), (174, (.iload_n 1, 1)), (175, (.invokestatic 427, 3)), (178, (.aload_n 0, 1)), (179, (.getfield 144, 3)), (182, (.iload_n 3, 1)), (183, (.bipush 16, 2)), (185, (.iadd, 1)), (186, (.aload_n 0, 1)), (187, (.getfield 120, 3)), (190, (.iload_n 2, 1)), (191, (.iaload, 1)), (192, (.invokestatic 427, 3)), (195, (.aload_n 0, 1))]
set_option maxRecDepth 100000 in
theorem da_X12_make_1 : dl_X12_make_1.all (fun q => decide (decode cX12_make q.1 = .ok q.2)) = true := by decide +kernel
theorem dX12_make_99 : decode cX12_make 99 = .ok (.iload_n 1, 1) := dec_of da_X12_make_1 (k := 0) rfl
theorem dX12_make_100 : decode cX12_make 100 = .ok (.ifCond .le 7, 3) := dec_of da_X12_make_1 (k := 1) rfl
theorem dX12_make_103 : decode cX12_make 103 = .ok (.iconst 1, 1) := dec_of da_X12_make_1 (k := 2) rfl
theorem dX12_make_104 : decode cX12_make 104 = .ok (.goto 4, 3) := dec_of da_X12_make_1 (k := 3) rfl
theorem dX12_make_107 : decode cX12_make 107 = .ok (.iconst 2, 1) := dec_of da_X12_make_1 (k := 4) rfl
theorem dX12_make_108 : decode cX12_make 108 = .ok (.iload 6, 2) := dec_of da_X12_make_1 (k := 5) rfl
theorem dX12_make_110 : decode cX12_make 110 = .ok (.ifCond .eq 7, 3) := dec_of da_X12_make_1 (k := 6) rfl
theorem dX12_make_113 : decode cX12_make 113 = .ok (.iconst 4, 1) := dec_of da_X12_make_1 (k := 7) rfl
theorem dX12_make_114 : decode cX12_make 114 = .ok (.goto 4, 3) := dec_of da_X12_make_1 (k := 8) rfl
theorem dX12_make_117 : decode cX12_make 117 = .ok (.iconst 0, 1) := dec_of da_X12_make_1 (k := 9) rfl
theorem dX12_make_118 : decode cX12_make 118 = .ok (.ior, 1) := dec_of da_X12_make_1 (k := 10) rfl
theorem dX12_make_119 : decode cX12_make 119 = .ok (.iload 4, 2) := dec_of da_X12_make_1 (k := 11) rfl
theorem dX12_make_121 : decode cX12_make 121 = .ok (.ifCond .eq 8, 3) := dec_of da_X12_make_1 (k := 12) rfl
theorem dX12_make_124 : decode cX12_make 124 = .ok (.bipush 64, 2) := dec_of da_X12_make_1 (k := 13) rfl
theorem dX12_make_126 : decode cX12_make 126 = .ok (.goto 4, 3) := dec_of da_X12_make_1 (k := 14) rfl
theorem dX12_make_129 : decode cX12_make 129 = .ok (.iconst 0, 1) := dec_of da_X12_make_1 (k := 15) rfl
theorem dX12_make_130 : decode cX12_make 130 = .ok (.ior, 1) := dec_of da_X12_make_1 (k := 16) rfl
theorem dX12_make_131 : decode cX12_make 131 = .ok (.iastore, 1) := dec_of da_X12_make_1 (k := 17) rfl
theorem dX12_make_132 : decode cX12_make 132 = .ok (.aload_n 0, 1) := dec_of da_X12_make_1 (k := 18) rfl
theorem dX12_make_133 : decode cX12_make 133 = .ok (.getfield 144, 3) := dec_of da_X12_make_1 (k := 19) rfl
theorem dX12_make_136 : decode cX12_make 136 = .ok (.iload_n 3, 1) := dec_of da_X12_make_1 (k := 20) rfl
theorem dX12_make_137 : decode cX12_make 137 = .ok (.iconst 2, 1) := dec_of da_X12_make_1 (k := 21) rfl
theorem dX12_make_138 : decode cX12_make 138 = .ok (.iadd, 1) := dec_of da_X12_make_1 (k := 22) rfl
theorem dX12_make_139 : decode cX12_make 139 = .ok (.iconst 0, 1) := dec_of da_X12_make_1 (k := 23) rfl
theorem dX12_make_140 : decode cX12_make 140 = .ok (.iastore, 1) := dec_of da_X12_make_1 (k := 24) rfl
theorem dX12_make_141 : decode cX12_make 141 = .ok (.aload_n 0, 1) := dec_of da_X12_make_1 (k := 25) rfl
theorem dX12_make_142 : decode cX12_make 142 = .ok (.getfield 144, 3) := dec_of da_X12_make_1 (k := 26) rfl
theorem dX12_make_145 : decode cX12_make 145 = .ok (.iload_n 3, 1) := dec_of da_X12_make_1 (k := 27) rfl
theorem dX12_make_146 : decode cX12_make 146 = .ok (.iconst 3, 1) := dec_of da_X12_make_1 (k := 28) rfl
theorem dX12_make_147 : decode cX12_make 147 = .ok (.iadd, 1) := dec_of da_X12_make_1 (k := 29) rfl
theorem dX12_make_148 : decode cX12_make 148 = .ok (.iconst 0, 1) := dec_of da_X12_make_1 (k := 30) rfl
theorem dX12_make_149 : decode cX12_make 149 = .ok (.iastore, 1) := dec_of da_X12_make_1 (k := 31) rfl
theorem dX12_make_150 : decode cX12_make 150 = .ok (.aload_n 0, 1) := dec_of da_X12_make_1 (k := 32) rfl
theorem dX12_make_151 : decode cX12_make 151 = .ok (.getfield 144, 3) := dec_of da_X12_make_1 (k := 33) rfl
theorem dX12_make_154 : decode cX12_make 154 = .ok (.iload_n 3, 1) := dec_of da_X12_make_1 (k := 34) rfl
theorem dX12_make_155 : decode cX12_make 155 = .ok (.iconst 4, 1) := dec_of da_X12_make_1 (k := 35) rfl
theorem dX12_make_156 : decode cX12_make 156 = .ok (.iadd, 1) := dec_of da_X12_make_1 (k := 36) rfl
theorem dX12_make_157 : decode cX12_make 157 = .ok (.aload_n 0, 1) := dec_of da_X12_make_1 (k := 37) rfl
theorem dX12_make_158 : decode cX12_make 158 = .ok (.getfield 117, 3) := dec_of da_X12_make_1 (k := 38) rfl
theorem dX12_make_161 : decode cX12_make 161 = .ok (.iload_n 2, 1) := dec_of da_X12_make_1 (k := 39) rfl
theorem dX12_make_162 : decode cX12_make 162 = .ok (.iaload, 1) := dec_of da_X12_make_1 (k := 40) rfl
theorem dX12_make_163 : decode cX12_make 163 = .ok (.invokestatic 427, 3) := dec_of da_X12_make_1 (k := 41) rfl
theorem dX12_make_166 : decode cX12_make 166 = .ok (.aload_n 0, 1) := dec_of da_X12_make_1 (k := 42) rfl
theorem dX12_make_167 : decode cX12_make 167 = .ok (.getfield 144, 3) := dec_of da_X12_make_1 (k := 43) rfl
theorem dX12_make_170 : decode cX12_make 170 = .ok (.iload_n 3, 1) := dec_of da_X12_make_1 (k := 44) rfl
theorem dX12_make_171 : decode cX12_make 171 = .ok (.bipush 10, 2) := dec_of da_X12_make_1 (k := 45) rfl
theorem dX12_make_173 : decode cX12_make 173 = .ok (.iadd, 1) := dec_of da_X12_make_1 (k := 46) rfl
theorem dX12_make_174 : decode cX12_make 174 = .ok (.iload_n 1, 1) := dec_of da_X12_make_1 (k := 47) rfl
theorem dX12_make_175 : decode cX12_make 175 = .ok (.invokestatic 427, 3) := dec_of da_X12_make_1 (k := 48) rfl
theorem dX12_make_178 : decode cX12_make 178 = .ok (.aload_n 0, 1) := dec_of da_X12_make_1 (k := 49) rfl
theorem dX12_make_179 : decode cX12_make 179 = .ok (.getfield 144, 3) := dec_of da_X12_make_1 (k := 50) rfl
theorem dX12_make_182 : decode cX12_make 182 = .ok (.iload_n 3, 1) := dec_of da_X12_make_1 (k := 51) rfl
theorem dX12_make_183 : decode cX12_make 183 = .ok (.bipush 16, 2) := dec_of da_X12_make_1 (k := 52) rfl
theorem dX12_make_185 : decode cX12_make 185 = .ok (.iadd, 1) := dec_of da_X12_make_1 (k := 53) rfl
theorem dX12_make_186 : decode cX12_make 186 = .ok (.aload_n 0, 1) := dec_of da_X12_make_1 (k := 54) rfl
theorem dX12_make_187 : decode cX12_make 187 = .ok (.getfield 120, 3) := dec_of da_X12_make_1 (k := 55) rfl
theorem dX12_make_190 : decode cX12_make 190 = .ok (.iload_n 2, 1) := dec_of da_X12_make_1 (k := 56) rfl
theorem dX12_make_191 : decode cX12_make 191 = .ok (.iaload, 1) := dec_of da_X12_make_1 (k := 57) rfl
theorem dX12_make_192 : decode cX12_make 192 = .ok (.invokestatic 427, 3) := dec_of da_X12_make_1 (k := 58) rfl
theorem dX12_make_195 : decode cX12_make 195 = .ok (.aload_n 0, 1) := dec_of da_X12_make_1 (k := 59) rfl
def dl_X12_make_2 : List (Nat × (Instr × Nat)) := [(196, (.getfield 138, 3)), (199, (.iload_n 1, 1)), (200, (.iaload, 1)), (201, (.bipush 16, 2)), (203, (.aload_n 0, 1)), (204, (.getfield 123, 3)), (207, (.iload_n 2, 1)), (208, (.iaload, 1)), (209, (.imul, 1)), (210, (.iadd, 1)), (211, (.istore 7, 2)), (213, (.aload_n 0, 1)), (214, (.getfield 144, 3)), (217, (.iload_n 3, 1)), (218, (.bipush 22, 2)), (220, (.iadd, 1)), (221, (.iload 7, 2)), (223, (.sipush 255, 3)), (226, (.iand, 1)), (227, (.iastore, 1)), (228, (.aload_n 0, 1)), (229, (.getfield 144, 3)), (232, (.iload_n 3, 1)), (233, (.bipush 23, 2)), (235, (.iadd, 1)), (236, (.iload 7, 2)), (238, (.bipush 8, 2)), (240, (.ishr, 1)), (241, (.iastore, 1)), (242, (.sipush 208, 3)), (245, (.iload_n 2, 1)), (246, (.imul, 1)), (247, (.aload_n 0, 1)), (248, (.getfield 138, 3)), (251, (.iload_n 1, 1)), (252, (.iaload, 1)), (253, (.aload_n 0, 1)), (254, (.getfield 126, 3)), (257, (.iload_n 2, 1)), (258, (.iaload, 1)), (259, (.imul, 1)), (260, (.iadd, 1)), (261, (.istore 8, 2)), (263, (.iload 6, 2)), (265, (.ifCond .eq 12, 3)), (268, (.aload_n 0, 1)), (269, (.getfield 126, 3)), (272, (.iload_n 2, 1)), (273, (.iaload, 1)), (274, (.goto 23, 3)), (277, (.aload_n 0, 1)), (278, (.getfield 129, 3)), (281, (.iload_n 2, 1)), (282, (.iaload, 1)), (283, (.aload_n 0, 1)), (284, (.getfield 138, 3)), (287, (.iload_n 1, 1)), (288, (.iaload, 1)), (289, (.aload_n 0, 1)), (290, (.getfield 126, 3))]
set_option maxRecDepth 100000 in
theorem da_X12_make_2 : dl_X12_make_2.all (fun q => decide (decode cX12_make q.1 = .ok q.2)) = true := by decide +kernel
theorem dX12_make_196 : decode cX12_make 196 = .ok (.getfield 138, 3) := dec_of da_X12_make_2 (k := 0) rfl
theorem dX12_make_199 : decode cX12_make 199 = .ok (.iload_n 1, 1) := dec_of da_X12_make_2 (k := 1) rfl
theorem dX12_make_200 : decode cX12_make 200 = .ok (.iaload, 1) := dec_of da_X12_make_2 (k := 2) rfl
theorem dX12_make_201 : decode cX12_make 201 = .ok (.bipush 16, 2) := dec_of da_X12_make_2 (k := 3) rfl
theorem dX12_make_203 : decode cX12_make 203 = .ok (.aload_n 0, 1) := dec_of da_X12_make_2 (k := 4) rfl
theorem dX12_make_204 : decode cX12_make 204 = .ok (.getfield 123, 3) := dec_of da_X12_make_2 (k := 5) rfl
theorem dX12_make_207 : decode cX12_make 207 = .ok (.iload_n 2, 1) := dec_of da_X12_make_2 (k := 6) rfl
theorem dX12_make_208 : decode cX12_make 208 = .ok (.iaload, 1) := dec_of da_X12_make_2 (k := 7) rfl
theorem dX12_make_209 : decode cX12_make 209 = .ok (.imul, 1) := dec_of da_X12_make_2 (k := 8) rfl
theorem dX12_make_210 : decode cX12_make 210 = .ok (.iadd, 1) := dec_of da_X12_make_2 (k := 9) rfl
theorem dX12_make_211 : decode cX12_make 211 = .ok (.istore 7, 2) := dec_of da_X12_make_2 (k := 10) rfl
theorem dX12_make_213 : decode cX12_make 213 = .ok (.aload_n 0, 1) := dec_of da_X12_make_2 (k := 11) rfl
theorem dX12_make_214 : decode cX12_make 214 = .ok (.getfield 144, 3) := dec_of da_X12_make_2 (k := 12) rfl
theorem dX12_make_217 : decode cX12_make 217 = .ok (.iload_n 3, 1) := dec_of da_X12_make_2 (k := 13) rfl
theorem dX12_make_218 : decode cX12_make 218 = .ok (.bipush 22, 2) := dec_of da_X12_make_2 (k := 14) rfl
theorem dX12_make_220 : decode cX12_make 220 = .ok (.iadd, 1) := dec_of da_X12_make_2 (k := 15) rfl
theorem dX12_make_221 : decode cX12_make 221 = .ok (.iload 7, 2) := dec_of da_X12_make_2 (k := 16) rfl
theorem dX12_make_223 : decode cX12_make 223 = .ok (.sipush 255, 3) := dec_of da_X12_make_2 (k := 17) rfl
theorem dX12_make_226 : decode cX12_make 226 = .ok (.iand, 1) := dec_of da_X12_make_2 (k := 18) rfl
theorem dX12_make_227 : decode cX12_make 227 = .ok (.iastore, 1) := dec_of da_X12_make_2 (k := 19) rfl
theorem dX12_make_228 : decode cX12_make 228 = .ok (.aload_n 0, 1) := dec_of da_X12_make_2 (k := 20) rfl
theorem dX12_make_229 : decode cX12_make 229 = .ok (.getfield 144, 3) := dec_of da_X12_make_2 (k := 21) rfl
theorem dX12_make_232 : decode cX12_make 232 = .ok (.iload_n 3, 1) := dec_of da_X12_make_2 (k := 22) rfl
theorem dX12_make_233 : decode cX12_make 233 = .ok (.bipush 23, 2) := dec_of da_X12_make_2 (k := 23) rfl
theorem dX12_make_235 : decode cX12_make 235 = .ok (.iadd, 1) := dec_of da_X12_make_2 (k := 24) rfl
theorem dX12_make_236 : decode cX12_make 236 = .ok (.iload 7, 2) := dec_of da_X12_make_2 (k := 25) rfl
theorem dX12_make_238 : decode cX12_make 238 = .ok (.bipush 8, 2) := dec_of da_X12_make_2 (k := 26) rfl
theorem dX12_make_240 : decode cX12_make 240 = .ok (.ishr, 1) := dec_of da_X12_make_2 (k := 27) rfl
theorem dX12_make_241 : decode cX12_make 241 = .ok (.iastore, 1) := dec_of da_X12_make_2 (k := 28) rfl
theorem dX12_make_242 : decode cX12_make 242 = .ok (.sipush 208, 3) := dec_of da_X12_make_2 (k := 29) rfl
theorem dX12_make_245 : decode cX12_make 245 = .ok (.iload_n 2, 1) := dec_of da_X12_make_2 (k := 30) rfl
theorem dX12_make_246 : decode cX12_make 246 = .ok (.imul, 1) := dec_of da_X12_make_2 (k := 31) rfl
theorem dX12_make_247 : decode cX12_make 247 = .ok (.aload_n 0, 1) := dec_of da_X12_make_2 (k := 32) rfl
theorem dX12_make_248 : decode cX12_make 248 = .ok (.getfield 138, 3) := dec_of da_X12_make_2 (k := 33) rfl
theorem dX12_make_251 : decode cX12_make 251 = .ok (.iload_n 1, 1) := dec_of da_X12_make_2 (k := 34) rfl
theorem dX12_make_252 : decode cX12_make 252 = .ok (.iaload, 1) := dec_of da_X12_make_2 (k := 35) rfl
theorem dX12_make_253 : decode cX12_make 253 = .ok (.aload_n 0, 1) := dec_of da_X12_make_2 (k := 36) rfl
theorem dX12_make_254 : decode cX12_make 254 = .ok (.getfield 126, 3) := dec_of da_X12_make_2 (k := 37) rfl
theorem dX12_make_257 : decode cX12_make 257 = .ok (.iload_n 2, 1) := dec_of da_X12_make_2 (k := 38) rfl
theorem dX12_make_258 : decode cX12_make 258 = .ok (.iaload, 1) := dec_of da_X12_make_2 (k := 39) rfl
theorem dX12_make_259 : decode cX12_make 259 = .ok (.imul, 1) := dec_of da_X12_make_2 (k := 40) rfl
theorem dX12_make_260 : decode cX12_make 260 = .ok (.iadd, 1) := dec_of da_X12_make_2 (k := 41) rfl
theorem dX12_make_261 : decode cX12_make 261 = .ok (.istore 8, 2) := dec_of da_X12_make_2 (k := 42) rfl
theorem dX12_make_263 : decode cX12_make 263 = .ok (.iload 6, 2) := dec_of da_X12_make_2 (k := 43) rfl
theorem dX12_make_265 : decode cX12_make 265 = .ok (.ifCond .eq 12, 3) := dec_of da_X12_make_2 (k := 44) rfl
theorem dX12_make_268 : decode cX12_make 268 = .ok (.aload_n 0, 1) := dec_of da_X12_make_2 (k := 45) rfl
theorem dX12_make_269 : decode cX12_make 269 = .ok (.getfield 126, 3) := dec_of da_X12_make_2 (k := 46) rfl
theorem dX12_make_272 : decode cX12_make 272 = .ok (.iload_n 2, 1) := dec_of da_X12_make_2 (k := 47) rfl
theorem dX12_make_273 : decode cX12_make 273 = .ok (.iaload, 1) := dec_of da_X12_make_2 (k := 48) rfl
theorem dX12_make_274 : decode cX12_make 274 = .ok (.goto 23, 3) := dec_of da_X12_make_2 (k := 49) rfl
theorem dX12_make_277 : decode cX12_make 277 = .ok (.aload_n 0, 1) := dec_of da_X12_make_2 (k := 50) rfl
theorem dX12_make_278 : decode cX12_make 278 = .ok (.getfield 129, 3) := dec_of da_X12_make_2 (k := 51) rfl
theorem dX12_make_281 : decode cX12_make 281 = .ok (.iload_n 2, 1) := dec_of da_X12_make_2 (k := 52) rfl
theorem dX12_make_282 : decode cX12_make 282 = .ok (.iaload, 1) := dec_of da_X12_make_2 (k := 53) rfl
theorem dX12_make_283 : decode cX12_make 283 = .ok (.aload_n 0, 1) := dec_of da_X12_make_2 (k := 54) rfl
theorem dX12_make_284 : decode cX12_make 284 = .ok (.getfield 138, 3) := dec_of da_X12_make_2 (k := 55) rfl
theorem dX12_make_287 : decode cX12_make 287 = .ok (.iload_n 1, 1) := dec_of da_X12_make_2 (k := 56) rfl
theorem dX12_make_288 : decode cX12_make 288 = .ok (.iaload, 1) := dec_of da_X12_make_2 (k := 57) rfl
theorem dX12_make_289 : decode cX12_make 289 = .ok (.aload_n 0, 1) := dec_of da_X12_make_2 (k := 58) rfl
theorem dX12_make_290 : decode cX12_make 290 = .ok (.getfield 126, 3) := dec_of da_X12_make_2 (k := 59) rfl
def dl_X12_make_3 : List (Nat × (Instr × Nat)) := [(293, (.iload_n 2, 1)), (294, (.iaload, 1)), (295, (.imul, 1)), (296, (.isub, 1)), (297, (.istore 9, 2)), (299, (.bipush 24, 2)), (301, (.istore 10, 2)), (303, (.iload 4, 2)), (305, (.ifCond .eq 27, 3)), (308, (.aload_n 0, 1)), (309, (.iload_n 3, 1)), (310, (.iload 8, 2)), (312, (.iload 9, 2)), (314, (.iload 5, 2)), (316, (.invokevirtual 430, 3)), (319, (.iload 10, 2)), (321, (.bipush 16, 2)), (323, (.iload 9, 2)), (325, (.iadd, 1)), (326, (.iadd, 1)), (327, (.istore 10, 2)), (329, (.goto 48, 3)), (332, (.iconst 0, 1)), (333, (.istore 11, 2)), (335, (.iload 11, 2)), (337, (.iload 9, 2)), (339, (.if_icmp .ge 31, 3)), (342, (.aload_n 0, 1)), (343, (.getfield 144, 3)), (346, (.iload_n 3, 1)), (347, (.bipush 24, 2)), (349, (.iadd, 1)), (350, (.iload 11, 2)), (352, (.iadd, 1)), (353, (.aload_n 0, 1)), (354, (.getfield 135, 3)), (357, (.iload 8, 2)), (359, (.iload 11, 2)), (361, (.iadd, 1)), (362, (.iaload, 1)), (363, (.iastore, 1)), (364, (.iinc 11 1, 3)), (367, (.goto (-32), 3)), (370, (.iload 10, 2)), (372, (.iload 9, 2)), (374, (.iadd, 1)), (375, (.istore 10, 2)), (377, (.aload_n 0, 1)), (378, (.aload_n 0, 1)), (379, (.getfield 144, 3)), (382, (.iload_n 3, 1)), (383, (.iload 10, 2)), (385, (.invokevirtual 434, 3)), (388, (.aload_n 0, 1)), (389, (.getfield 147, 3)), (392, (.iload_n 1, 1)), (393, (.iload 10, 2)), (395, (.iconst 4, 1)), (396, (.iadd, 1)), (397, (.iastore, 1))]
set_option maxRecDepth 100000 in
theorem da_X12_make_3 : dl_X12_make_3.all (fun q => decide (decode cX12_make q.1 = .ok q.2)) = true := by decide +kernel
theorem dX12_make_293 : decode cX12_make 293 = .ok (.iload_n 2, 1) := dec_of da_X12_make_3 (k := 0) rfl
theorem dX12_make_294 : decode cX12_make 294 = .ok (.iaload, 1) := dec_of da_X12_make_3 (k := 1) rfl
theorem dX12_make_295 : decode cX12_make 295 = .ok (.imul, 1) := dec_of da_X12_make_3 (k := 2) rfl
theorem dX12_make_296 : decode cX12_make 296 = .ok (.isub, 1) := dec_of da_X12_make_3 (k := 3) rfl
theorem dX12_make_297 : decode cX12_make 297 = .ok (.istore 9, 2) := dec_of da_X12_make_3 (k := 4) rfl
theorem dX12_make_299 : decode cX12_make 299 = .ok (.bipush 24, 2) := dec_of da_X12_make_3 (k := 5) rfl
theorem dX12_make_301 : decode cX12_make 301 = .ok (.istore 10, 2) := dec_of da_X12_make_3 (k := 6) rfl
theorem dX12_make_303 : decode cX12_make 303 = .ok (.iload 4, 2) := dec_of da_X12_make_3 (k := 7) rfl
theorem dX12_make_305 : decode cX12_make 305 = .ok (.ifCond .eq 27, 3) := dec_of da_X12_make_3 (k := 8) rfl
theorem dX12_make_308 : decode cX12_make 308 = .ok (.aload_n 0, 1) := dec_of da_X12_make_3 (k := 9) rfl
theorem dX12_make_309 : decode cX12_make 309 = .ok (.iload_n 3, 1) := dec_of da_X12_make_3 (k := 10) rfl
theorem dX12_make_310 : decode cX12_make 310 = .ok (.iload 8, 2) := dec_of da_X12_make_3 (k := 11) rfl
theorem dX12_make_312 : decode cX12_make 312 = .ok (.iload 9, 2) := dec_of da_X12_make_3 (k := 12) rfl
theorem dX12_make_314 : decode cX12_make 314 = .ok (.iload 5, 2) := dec_of da_X12_make_3 (k := 13) rfl
theorem dX12_make_316 : decode cX12_make 316 = .ok (.invokevirtual 430, 3) := dec_of da_X12_make_3 (k := 14) rfl
theorem dX12_make_319 : decode cX12_make 319 = .ok (.iload 10, 2) := dec_of da_X12_make_3 (k := 15) rfl
theorem dX12_make_321 : decode cX12_make 321 = .ok (.bipush 16, 2) := dec_of da_X12_make_3 (k := 16) rfl
theorem dX12_make_323 : decode cX12_make 323 = .ok (.iload 9, 2) := dec_of da_X12_make_3 (k := 17) rfl
theorem dX12_make_325 : decode cX12_make 325 = .ok (.iadd, 1) := dec_of da_X12_make_3 (k := 18) rfl
theorem dX12_make_326 : decode cX12_make 326 = .ok (.iadd, 1) := dec_of da_X12_make_3 (k := 19) rfl
theorem dX12_make_327 : decode cX12_make 327 = .ok (.istore 10, 2) := dec_of da_X12_make_3 (k := 20) rfl
theorem dX12_make_329 : decode cX12_make 329 = .ok (.goto 48, 3) := dec_of da_X12_make_3 (k := 21) rfl
theorem dX12_make_332 : decode cX12_make 332 = .ok (.iconst 0, 1) := dec_of da_X12_make_3 (k := 22) rfl
theorem dX12_make_333 : decode cX12_make 333 = .ok (.istore 11, 2) := dec_of da_X12_make_3 (k := 23) rfl
theorem dX12_make_335 : decode cX12_make 335 = .ok (.iload 11, 2) := dec_of da_X12_make_3 (k := 24) rfl
theorem dX12_make_337 : decode cX12_make 337 = .ok (.iload 9, 2) := dec_of da_X12_make_3 (k := 25) rfl
theorem dX12_make_339 : decode cX12_make 339 = .ok (.if_icmp .ge 31, 3) := dec_of da_X12_make_3 (k := 26) rfl
theorem dX12_make_342 : decode cX12_make 342 = .ok (.aload_n 0, 1) := dec_of da_X12_make_3 (k := 27) rfl
theorem dX12_make_343 : decode cX12_make 343 = .ok (.getfield 144, 3) := dec_of da_X12_make_3 (k := 28) rfl
theorem dX12_make_346 : decode cX12_make 346 = .ok (.iload_n 3, 1) := dec_of da_X12_make_3 (k := 29) rfl
theorem dX12_make_347 : decode cX12_make 347 = .ok (.bipush 24, 2) := dec_of da_X12_make_3 (k := 30) rfl
theorem dX12_make_349 : decode cX12_make 349 = .ok (.iadd, 1) := dec_of da_X12_make_3 (k := 31) rfl
theorem dX12_make_350 : decode cX12_make 350 = .ok (.iload 11, 2) := dec_of da_X12_make_3 (k := 32) rfl
theorem dX12_make_352 : decode cX12_make 352 = .ok (.iadd, 1) := dec_of da_X12_make_3 (k := 33) rfl
theorem dX12_make_353 : decode cX12_make 353 = .ok (.aload_n 0, 1) := dec_of da_X12_make_3 (k := 34) rfl
theorem dX12_make_354 : decode cX12_make 354 = .ok (.getfield 135, 3) := dec_of da_X12_make_3 (k := 35) rfl
theorem dX12_make_357 : decode cX12_make 357 = .ok (.iload 8, 2) := dec_of da_X12_make_3 (k := 36) rfl
theorem dX12_make_359 : decode cX12_make 359 = .ok (.iload 11, 2) := dec_of da_X12_make_3 (k := 37) rfl
theorem dX12_make_361 : decode cX12_make 361 = .ok (.iadd, 1) := dec_of da_X12_make_3 (k := 38) rfl
theorem dX12_make_362 : decode cX12_make 362 = .ok (.iaload, 1) := dec_of da_X12_make_3 (k := 39) rfl
theorem dX12_make_363 : decode cX12_make 363 = .ok (.iastore, 1) := dec_of da_X12_make_3 (k := 40) rfl
theorem dX12_make_364 : decode cX12_make 364 = .ok (.iinc 11 1, 3) := dec_of da_X12_make_3 (k := 41) rfl
theorem dX12_make_367 : decode cX12_make 367 = .ok (.goto (-32), 3) := dec_of da_X12_make_3 (k := 42) rfl
theorem dX12_make_370 : decode cX12_make 370 = .ok (.iload 10, 2) := dec_of da_X12_make_3 (k := 43) rfl
theorem dX12_make_372 : decode cX12_make 372 = .ok (.iload 9, 2) := dec_of da_X12_make_3 (k := 44) rfl
theorem dX12_make_374 : decode cX12_make 374 = .ok (.iadd, 1) := dec_of da_X12_make_3 (k := 45) rfl
theorem dX12_make_375 : decode cX12_make 375 = .ok (.istore 10, 2) := dec_of da_X12_make_3 (k := 46) rfl
theorem dX12_make_377 : decode cX12_make 377 = .ok (.aload_n 0, 1) := dec_of da_X12_make_3 (k := 47) rfl
theorem dX12_make_378 : decode cX12_make 378 = .ok (.aload_n 0, 1) := dec_of da_X12_make_3 (k := 48) rfl
theorem dX12_make_379 : decode cX12_make 379 = .ok (.getfield 144, 3) := dec_of da_X12_make_3 (k := 49) rfl
theorem dX12_make_382 : decode cX12_make 382 = .ok (.iload_n 3, 1) := dec_of da_X12_make_3 (k := 50) rfl
theorem dX12_make_383 : decode cX12_make 383 = .ok (.iload 10, 2) := dec_of da_X12_make_3 (k := 51) rfl
theorem dX12_make_385 : decode cX12_make 385 = .ok (.invokevirtual 434, 3) := dec_of da_X12_make_3 (k := 52) rfl
theorem dX12_make_388 : decode cX12_make 388 = .ok (.aload_n 0, 1) := dec_of da_X12_make_3 (k := 53) rfl
theorem dX12_make_389 : decode cX12_make 389 = .ok (.getfield 147, 3) := dec_of da_X12_make_3 (k := 54) rfl
theorem dX12_make_392 : decode cX12_make 392 = .ok (.iload_n 1, 1) := dec_of da_X12_make_3 (k := 55) rfl
theorem dX12_make_393 : decode cX12_make 393 = .ok (.iload 10, 2) := dec_of da_X12_make_3 (k := 56) rfl
theorem dX12_make_395 : decode cX12_make 395 = .ok (.iconst 4, 1) := dec_of da_X12_make_3 (k := 57) rfl
theorem dX12_make_396 : decode cX12_make 396 = .ok (.iadd, 1) := dec_of da_X12_make_3 (k := 58) rfl
theorem dX12_make_397 : decode cX12_make 397 = .ok (.iastore, 1) := dec_of da_X12_make_3 (k := 59) rfl
def dl_X12_make_4 : List (Nat × (Instr × Nat)) := [(398, (.aload_n 0, 1)), (399, (.getfield 141, 3)), (402, (.iload_n 1, 1)), (403, (.iconst 1, 1)), (404, (.bastore, 1)), (405, (.iconst 1, 1)), (406, (.ireturn, 1))]
set_option maxRecDepth 100000 in
theorem da_X12_make_4 : dl_X12_make_4.all (fun q => decide (decode cX12_make q.1 = .ok q.2)) = true := by decide +kernel
theorem dX12_make_398 : decode cX12_make 398 = .ok (.aload_n 0, 1) := dec_of da_X12_make_4 (k := 0) rfl
theorem dX12_make_399 : decode cX12_make 399 = .ok (.getfield 141, 3) := dec_of da_X12_make_4 (k := 1) rfl
theorem dX12_make_402 : decode cX12_make 402 = .ok (.iload_n 1, 1) := dec_of da_X12_make_4 (k := 2) rfl
theorem dX12_make_403 : decode cX12_make 403 = .ok (.iconst 1, 1) := dec_of da_X12_make_4 (k := 3) rfl
theorem dX12_make_404 : decode cX12_make 404 = .ok (.bastore, 1) := dec_of da_X12_make_4 (k := 4) rfl
theorem dX12_make_405 : decode cX12_make 405 = .ok (.iconst 1, 1) := dec_of da_X12_make_4 (k := 5) rfl
theorem dX12_make_406 : decode cX12_make 406 = .ok (.ireturn, 1) := dec_of da_X12_make_4 (k := 6) rfl
def dl_X12_seal_0 : List (Nat × (Instr × Nat)) := [(0, (.aload_n 0, 1)), (1, (.getfield 90, 3)), (4, (.iload 4, 2)), (6, (.laload, 1)), (7, (.lstore 5, 2)), (9, (.aload_n 0, 1)), (10, (.getfield 90, 3)), (13, (.iload 4, 2)), (15, (.dup2, 1)), (16, (.laload, 1)), (17, (.lconst 1, 1)), (18, (.ladd, 1)), (19, (.lastore, 1)), (20, (.iconst 0, 1)), (21, (.istore 7, 2)), (23, (.iload 7, 2)), (25, (.bipush 8, 2)), (27, (.if_icmp .ge 81, 3)), (30, (.iload 7, 2)), (32, (.iconst 2, 1)), (33, (.if_icmp .ge 8, 3)), (36, (.iload 7, 2)), (38, (.goto 17, 3)), (41, (.iload 7, 2)), (43, (.iconst 4, 1)), (44, (.if_icmp .ge 7, 3)), (47, (.iconst (-1), 1)), (48, (.goto 7, 3)), (51, (.iload 7, 2)), (53, (.iconst 2, 1)), (54, (.isub, 1)), (55, (.istore 8, 2)), (57, (.aload_n 0, 1)), (58, (.getfield 144, 3)), (61, (.iload_n 1, 1)), (62, (.bipush 24, 2)), (64, (.iadd, 1)), (65, (.iload 7, 2)), (67, (.iadd, 1)), (68, (.iload 8, 2)), (70, (.ifCond .lt 19, 3)), (73, (.lload 5, 2)), (75, (.bipush 8, 2)), (77, (.iload 8, 2)), (79, (.imul, 1)), (80, (.lshr, 1)), (81, (.l2i, 1)), (82, (.sipush 255, 3)), (85, (.iand, 1)), (86, (.goto 15, 3)), (89, (.iload 7, 2)), (91, (.iconst 3, 1)), (92, (.if_icmp .ne 8, 3)), (95, (.bipush 32, 2)), (97, (.goto 4, 3)), (100, (.iconst 0, 1)), (101, (.iastore, 1)), (102, (.iinc 7 1, 3)), (105, (.goto (-82), 3)), (108, (.aload_n 0, 1))]
set_option maxRecDepth 100000 in
theorem da_X12_seal_0 : dl_X12_seal_0.all (fun q => decide (decode cX12_seal q.1 = .ok q.2)) = true := by decide +kernel
theorem dX12_seal_0 : decode cX12_seal 0 = .ok (.aload_n 0, 1) := dec_of da_X12_seal_0 (k := 0) rfl
theorem dX12_seal_1 : decode cX12_seal 1 = .ok (.getfield 90, 3) := dec_of da_X12_seal_0 (k := 1) rfl
theorem dX12_seal_4 : decode cX12_seal 4 = .ok (.iload 4, 2) := dec_of da_X12_seal_0 (k := 2) rfl
theorem dX12_seal_6 : decode cX12_seal 6 = .ok (.laload, 1) := dec_of da_X12_seal_0 (k := 3) rfl
theorem dX12_seal_7 : decode cX12_seal 7 = .ok (.lstore 5, 2) := dec_of da_X12_seal_0 (k := 4) rfl
theorem dX12_seal_9 : decode cX12_seal 9 = .ok (.aload_n 0, 1) := dec_of da_X12_seal_0 (k := 5) rfl
theorem dX12_seal_10 : decode cX12_seal 10 = .ok (.getfield 90, 3) := dec_of da_X12_seal_0 (k := 6) rfl
theorem dX12_seal_13 : decode cX12_seal 13 = .ok (.iload 4, 2) := dec_of da_X12_seal_0 (k := 7) rfl
theorem dX12_seal_15 : decode cX12_seal 15 = .ok (.dup2, 1) := dec_of da_X12_seal_0 (k := 8) rfl
theorem dX12_seal_16 : decode cX12_seal 16 = .ok (.laload, 1) := dec_of da_X12_seal_0 (k := 9) rfl
theorem dX12_seal_17 : decode cX12_seal 17 = .ok (.lconst 1, 1) := dec_of da_X12_seal_0 (k := 10) rfl
theorem dX12_seal_18 : decode cX12_seal 18 = .ok (.ladd, 1) := dec_of da_X12_seal_0 (k := 11) rfl
theorem dX12_seal_19 : decode cX12_seal 19 = .ok (.lastore, 1) := dec_of da_X12_seal_0 (k := 12) rfl
theorem dX12_seal_20 : decode cX12_seal 20 = .ok (.iconst 0, 1) := dec_of da_X12_seal_0 (k := 13) rfl
theorem dX12_seal_21 : decode cX12_seal 21 = .ok (.istore 7, 2) := dec_of da_X12_seal_0 (k := 14) rfl
theorem dX12_seal_23 : decode cX12_seal 23 = .ok (.iload 7, 2) := dec_of da_X12_seal_0 (k := 15) rfl
theorem dX12_seal_25 : decode cX12_seal 25 = .ok (.bipush 8, 2) := dec_of da_X12_seal_0 (k := 16) rfl
theorem dX12_seal_27 : decode cX12_seal 27 = .ok (.if_icmp .ge 81, 3) := dec_of da_X12_seal_0 (k := 17) rfl
theorem dX12_seal_30 : decode cX12_seal 30 = .ok (.iload 7, 2) := dec_of da_X12_seal_0 (k := 18) rfl
theorem dX12_seal_32 : decode cX12_seal 32 = .ok (.iconst 2, 1) := dec_of da_X12_seal_0 (k := 19) rfl
theorem dX12_seal_33 : decode cX12_seal 33 = .ok (.if_icmp .ge 8, 3) := dec_of da_X12_seal_0 (k := 20) rfl
theorem dX12_seal_36 : decode cX12_seal 36 = .ok (.iload 7, 2) := dec_of da_X12_seal_0 (k := 21) rfl
theorem dX12_seal_38 : decode cX12_seal 38 = .ok (.goto 17, 3) := dec_of da_X12_seal_0 (k := 22) rfl
theorem dX12_seal_41 : decode cX12_seal 41 = .ok (.iload 7, 2) := dec_of da_X12_seal_0 (k := 23) rfl
theorem dX12_seal_43 : decode cX12_seal 43 = .ok (.iconst 4, 1) := dec_of da_X12_seal_0 (k := 24) rfl
theorem dX12_seal_44 : decode cX12_seal 44 = .ok (.if_icmp .ge 7, 3) := dec_of da_X12_seal_0 (k := 25) rfl
theorem dX12_seal_47 : decode cX12_seal 47 = .ok (.iconst (-1), 1) := dec_of da_X12_seal_0 (k := 26) rfl
theorem dX12_seal_48 : decode cX12_seal 48 = .ok (.goto 7, 3) := dec_of da_X12_seal_0 (k := 27) rfl
theorem dX12_seal_51 : decode cX12_seal 51 = .ok (.iload 7, 2) := dec_of da_X12_seal_0 (k := 28) rfl
theorem dX12_seal_53 : decode cX12_seal 53 = .ok (.iconst 2, 1) := dec_of da_X12_seal_0 (k := 29) rfl
theorem dX12_seal_54 : decode cX12_seal 54 = .ok (.isub, 1) := dec_of da_X12_seal_0 (k := 30) rfl
theorem dX12_seal_55 : decode cX12_seal 55 = .ok (.istore 8, 2) := dec_of da_X12_seal_0 (k := 31) rfl
theorem dX12_seal_57 : decode cX12_seal 57 = .ok (.aload_n 0, 1) := dec_of da_X12_seal_0 (k := 32) rfl
theorem dX12_seal_58 : decode cX12_seal 58 = .ok (.getfield 144, 3) := dec_of da_X12_seal_0 (k := 33) rfl
theorem dX12_seal_61 : decode cX12_seal 61 = .ok (.iload_n 1, 1) := dec_of da_X12_seal_0 (k := 34) rfl
theorem dX12_seal_62 : decode cX12_seal 62 = .ok (.bipush 24, 2) := dec_of da_X12_seal_0 (k := 35) rfl
theorem dX12_seal_64 : decode cX12_seal 64 = .ok (.iadd, 1) := dec_of da_X12_seal_0 (k := 36) rfl
theorem dX12_seal_65 : decode cX12_seal 65 = .ok (.iload 7, 2) := dec_of da_X12_seal_0 (k := 37) rfl
theorem dX12_seal_67 : decode cX12_seal 67 = .ok (.iadd, 1) := dec_of da_X12_seal_0 (k := 38) rfl
theorem dX12_seal_68 : decode cX12_seal 68 = .ok (.iload 8, 2) := dec_of da_X12_seal_0 (k := 39) rfl
theorem dX12_seal_70 : decode cX12_seal 70 = .ok (.ifCond .lt 19, 3) := dec_of da_X12_seal_0 (k := 40) rfl
theorem dX12_seal_73 : decode cX12_seal 73 = .ok (.lload 5, 2) := dec_of da_X12_seal_0 (k := 41) rfl
theorem dX12_seal_75 : decode cX12_seal 75 = .ok (.bipush 8, 2) := dec_of da_X12_seal_0 (k := 42) rfl
theorem dX12_seal_77 : decode cX12_seal 77 = .ok (.iload 8, 2) := dec_of da_X12_seal_0 (k := 43) rfl
theorem dX12_seal_79 : decode cX12_seal 79 = .ok (.imul, 1) := dec_of da_X12_seal_0 (k := 44) rfl
theorem dX12_seal_80 : decode cX12_seal 80 = .ok (.lshr, 1) := dec_of da_X12_seal_0 (k := 45) rfl
theorem dX12_seal_81 : decode cX12_seal 81 = .ok (.l2i, 1) := dec_of da_X12_seal_0 (k := 46) rfl
theorem dX12_seal_82 : decode cX12_seal 82 = .ok (.sipush 255, 3) := dec_of da_X12_seal_0 (k := 47) rfl
theorem dX12_seal_85 : decode cX12_seal 85 = .ok (.iand, 1) := dec_of da_X12_seal_0 (k := 48) rfl
theorem dX12_seal_86 : decode cX12_seal 86 = .ok (.goto 15, 3) := dec_of da_X12_seal_0 (k := 49) rfl
theorem dX12_seal_89 : decode cX12_seal 89 = .ok (.iload 7, 2) := dec_of da_X12_seal_0 (k := 50) rfl
theorem dX12_seal_91 : decode cX12_seal 91 = .ok (.iconst 3, 1) := dec_of da_X12_seal_0 (k := 51) rfl
theorem dX12_seal_92 : decode cX12_seal 92 = .ok (.if_icmp .ne 8, 3) := dec_of da_X12_seal_0 (k := 52) rfl
theorem dX12_seal_95 : decode cX12_seal 95 = .ok (.bipush 32, 2) := dec_of da_X12_seal_0 (k := 53) rfl
theorem dX12_seal_97 : decode cX12_seal 97 = .ok (.goto 4, 3) := dec_of da_X12_seal_0 (k := 54) rfl
theorem dX12_seal_100 : decode cX12_seal 100 = .ok (.iconst 0, 1) := dec_of da_X12_seal_0 (k := 55) rfl
theorem dX12_seal_101 : decode cX12_seal 101 = .ok (.iastore, 1) := dec_of da_X12_seal_0 (k := 56) rfl
theorem dX12_seal_102 : decode cX12_seal 102 = .ok (.iinc 7 1, 3) := dec_of da_X12_seal_0 (k := 57) rfl
theorem dX12_seal_105 : decode cX12_seal 105 = .ok (.goto (-82), 3) := dec_of da_X12_seal_0 (k := 58) rfl
theorem dX12_seal_108 : decode cX12_seal 108 = .ok (.aload_n 0, 1) := dec_of da_X12_seal_0 (k := 59) rfl
def dl_X12_seal_1 : List (Nat × (Instr × Nat)) := [(109, (.aload_n 0, 1)), (110, (.getfield 71, 3)), (113, (.bipush 16, 2)), (115, (.iload 4, 2)), (117, (.imul, 1)), (118, (.invokevirtual 437, 3)), (121, (.aload_n 0, 1)), (122, (.aload_n 0, 1)), (123, (.getfield 144, 3)), (126, (.iload_n 1, 1)), (127, (.lload 5, 2)), (129, (.invokevirtual 441, 3)), (132, (.aload_n 0, 1)), (133, (.aload_n 0, 1)), (134, (.getfield 144, 3)), (137, (.iload_n 1, 1)), (138, (.aload_n 0, 1)), (139, (.getfield 135, 3)), (142, (.iload_n 2, 1)), (143, (.iload_n 3, 1)), (144, (.invokevirtual 445, 3)), (147, (.aload_n 0, 1)), (148, (.aload_n 0, 1)), (149, (.getfield 135, 3)), (152, (.iload_n 2, 1)), (153, (.aload_n 0, 1)), (154, (.getfield 144, 3)), (157, (.iload_n 1, 1)), (158, (.bipush 32, 2)), (160, (.iadd, 1)), (161, (.iload_n 3, 1)), (162, (.invokevirtual 448, 3)), (165, (.iconst 0, 1)), (166, (.istore 7, 2)), (168, (.iload 7, 2)), (170, (.bipush 8, 2)), (172, (.if_icmp .ge 30, 3)), (175, (.aload_n 0, 1)), (176, (.getfield 144, 3)), (179, (.iload_n 1, 1)), (180, (.bipush 32, 2)), (182, (.iadd, 1)), (183, (.iload_n 3, 1)), (184, (.iadd, 1)), (185, (.iload 7, 2)), (187, (.iadd, 1)), (188, (.aload_n 0, 1)), (189, (.getfield 49, 3)), (192, (.iload 7, 2)), (194, (.iaload, 1)), (195, (.iastore, 1)), (196, (.iinc 7 1, 3)), (199, (.goto (-31), 3)), (202, (.return_, 1))]
set_option maxRecDepth 100000 in
theorem da_X12_seal_1 : dl_X12_seal_1.all (fun q => decide (decode cX12_seal q.1 = .ok q.2)) = true := by decide +kernel
theorem dX12_seal_109 : decode cX12_seal 109 = .ok (.aload_n 0, 1) := dec_of da_X12_seal_1 (k := 0) rfl
theorem dX12_seal_110 : decode cX12_seal 110 = .ok (.getfield 71, 3) := dec_of da_X12_seal_1 (k := 1) rfl
theorem dX12_seal_113 : decode cX12_seal 113 = .ok (.bipush 16, 2) := dec_of da_X12_seal_1 (k := 2) rfl
theorem dX12_seal_115 : decode cX12_seal 115 = .ok (.iload 4, 2) := dec_of da_X12_seal_1 (k := 3) rfl
theorem dX12_seal_117 : decode cX12_seal 117 = .ok (.imul, 1) := dec_of da_X12_seal_1 (k := 4) rfl
theorem dX12_seal_118 : decode cX12_seal 118 = .ok (.invokevirtual 437, 3) := dec_of da_X12_seal_1 (k := 5) rfl
theorem dX12_seal_121 : decode cX12_seal 121 = .ok (.aload_n 0, 1) := dec_of da_X12_seal_1 (k := 6) rfl
theorem dX12_seal_122 : decode cX12_seal 122 = .ok (.aload_n 0, 1) := dec_of da_X12_seal_1 (k := 7) rfl
theorem dX12_seal_123 : decode cX12_seal 123 = .ok (.getfield 144, 3) := dec_of da_X12_seal_1 (k := 8) rfl
theorem dX12_seal_126 : decode cX12_seal 126 = .ok (.iload_n 1, 1) := dec_of da_X12_seal_1 (k := 9) rfl
theorem dX12_seal_127 : decode cX12_seal 127 = .ok (.lload 5, 2) := dec_of da_X12_seal_1 (k := 10) rfl
theorem dX12_seal_129 : decode cX12_seal 129 = .ok (.invokevirtual 441, 3) := dec_of da_X12_seal_1 (k := 11) rfl
theorem dX12_seal_132 : decode cX12_seal 132 = .ok (.aload_n 0, 1) := dec_of da_X12_seal_1 (k := 12) rfl
theorem dX12_seal_133 : decode cX12_seal 133 = .ok (.aload_n 0, 1) := dec_of da_X12_seal_1 (k := 13) rfl
theorem dX12_seal_134 : decode cX12_seal 134 = .ok (.getfield 144, 3) := dec_of da_X12_seal_1 (k := 14) rfl
theorem dX12_seal_137 : decode cX12_seal 137 = .ok (.iload_n 1, 1) := dec_of da_X12_seal_1 (k := 15) rfl
theorem dX12_seal_138 : decode cX12_seal 138 = .ok (.aload_n 0, 1) := dec_of da_X12_seal_1 (k := 16) rfl
theorem dX12_seal_139 : decode cX12_seal 139 = .ok (.getfield 135, 3) := dec_of da_X12_seal_1 (k := 17) rfl
theorem dX12_seal_142 : decode cX12_seal 142 = .ok (.iload_n 2, 1) := dec_of da_X12_seal_1 (k := 18) rfl
theorem dX12_seal_143 : decode cX12_seal 143 = .ok (.iload_n 3, 1) := dec_of da_X12_seal_1 (k := 19) rfl
theorem dX12_seal_144 : decode cX12_seal 144 = .ok (.invokevirtual 445, 3) := dec_of da_X12_seal_1 (k := 20) rfl
theorem dX12_seal_147 : decode cX12_seal 147 = .ok (.aload_n 0, 1) := dec_of da_X12_seal_1 (k := 21) rfl
theorem dX12_seal_148 : decode cX12_seal 148 = .ok (.aload_n 0, 1) := dec_of da_X12_seal_1 (k := 22) rfl
theorem dX12_seal_149 : decode cX12_seal 149 = .ok (.getfield 135, 3) := dec_of da_X12_seal_1 (k := 23) rfl
theorem dX12_seal_152 : decode cX12_seal 152 = .ok (.iload_n 2, 1) := dec_of da_X12_seal_1 (k := 24) rfl
theorem dX12_seal_153 : decode cX12_seal 153 = .ok (.aload_n 0, 1) := dec_of da_X12_seal_1 (k := 25) rfl
theorem dX12_seal_154 : decode cX12_seal 154 = .ok (.getfield 144, 3) := dec_of da_X12_seal_1 (k := 26) rfl
theorem dX12_seal_157 : decode cX12_seal 157 = .ok (.iload_n 1, 1) := dec_of da_X12_seal_1 (k := 27) rfl
theorem dX12_seal_158 : decode cX12_seal 158 = .ok (.bipush 32, 2) := dec_of da_X12_seal_1 (k := 28) rfl
theorem dX12_seal_160 : decode cX12_seal 160 = .ok (.iadd, 1) := dec_of da_X12_seal_1 (k := 29) rfl
theorem dX12_seal_161 : decode cX12_seal 161 = .ok (.iload_n 3, 1) := dec_of da_X12_seal_1 (k := 30) rfl
theorem dX12_seal_162 : decode cX12_seal 162 = .ok (.invokevirtual 448, 3) := dec_of da_X12_seal_1 (k := 31) rfl
theorem dX12_seal_165 : decode cX12_seal 165 = .ok (.iconst 0, 1) := dec_of da_X12_seal_1 (k := 32) rfl
theorem dX12_seal_166 : decode cX12_seal 166 = .ok (.istore 7, 2) := dec_of da_X12_seal_1 (k := 33) rfl
theorem dX12_seal_168 : decode cX12_seal 168 = .ok (.iload 7, 2) := dec_of da_X12_seal_1 (k := 34) rfl
theorem dX12_seal_170 : decode cX12_seal 170 = .ok (.bipush 8, 2) := dec_of da_X12_seal_1 (k := 35) rfl
theorem dX12_seal_172 : decode cX12_seal 172 = .ok (.if_icmp .ge 30, 3) := dec_of da_X12_seal_1 (k := 36) rfl
theorem dX12_seal_175 : decode cX12_seal 175 = .ok (.aload_n 0, 1) := dec_of da_X12_seal_1 (k := 37) rfl
theorem dX12_seal_176 : decode cX12_seal 176 = .ok (.getfield 144, 3) := dec_of da_X12_seal_1 (k := 38) rfl
theorem dX12_seal_179 : decode cX12_seal 179 = .ok (.iload_n 1, 1) := dec_of da_X12_seal_1 (k := 39) rfl
theorem dX12_seal_180 : decode cX12_seal 180 = .ok (.bipush 32, 2) := dec_of da_X12_seal_1 (k := 40) rfl
theorem dX12_seal_182 : decode cX12_seal 182 = .ok (.iadd, 1) := dec_of da_X12_seal_1 (k := 41) rfl
theorem dX12_seal_183 : decode cX12_seal 183 = .ok (.iload_n 3, 1) := dec_of da_X12_seal_1 (k := 42) rfl
theorem dX12_seal_184 : decode cX12_seal 184 = .ok (.iadd, 1) := dec_of da_X12_seal_1 (k := 43) rfl
theorem dX12_seal_185 : decode cX12_seal 185 = .ok (.iload 7, 2) := dec_of da_X12_seal_1 (k := 44) rfl
theorem dX12_seal_187 : decode cX12_seal 187 = .ok (.iadd, 1) := dec_of da_X12_seal_1 (k := 45) rfl
theorem dX12_seal_188 : decode cX12_seal 188 = .ok (.aload_n 0, 1) := dec_of da_X12_seal_1 (k := 46) rfl
theorem dX12_seal_189 : decode cX12_seal 189 = .ok (.getfield 49, 3) := dec_of da_X12_seal_1 (k := 47) rfl
theorem dX12_seal_192 : decode cX12_seal 192 = .ok (.iload 7, 2) := dec_of da_X12_seal_1 (k := 48) rfl
theorem dX12_seal_194 : decode cX12_seal 194 = .ok (.iaload, 1) := dec_of da_X12_seal_1 (k := 49) rfl
theorem dX12_seal_195 : decode cX12_seal 195 = .ok (.iastore, 1) := dec_of da_X12_seal_1 (k := 50) rfl
theorem dX12_seal_196 : decode cX12_seal 196 = .ok (.iinc 7 1, 3) := dec_of da_X12_seal_1 (k := 51) rfl
theorem dX12_seal_199 : decode cX12_seal 199 = .ok (.goto (-31), 3) := dec_of da_X12_seal_1 (k := 52) rfl
theorem dX12_seal_202 : decode cX12_seal 202 = .ok (.return_, 1) := dec_of da_X12_seal_1 (k := 53) rfl
def dl_X12_goesOut_0 : List (Nat × (Instr × Nat)) := [(0, (.aload_n 0, 1)), (1, (.getfield 451, 3)), (4, (.istore 5, 2)), (6, (.aload_n 0, 1)), (7, (.dup, 1)), (8, (.getfield 451, 3)), (11, (.iconst 1, 1)), (12, (.iadd, 1)), (13, (.putfield 451, 3)), (16, (.iconst 2, 1)), (17, (.iload 4, 2)), (19, (.bipush 31, 2)), (21, (.iadd, 1)), (22, (.bipush 32, 2)), (24, (.idiv, 1)), (25, (.iadd, 1)), (26, (.istore 6, 2)), (28, (.aload_n 0, 1)), (29, (.getfield 199, 3)), (32, (.iload 5, 2)), (34, (.iload_n 1, 1)), (35, (.iastore, 1)), (36, (.aload_n 0, 1)), (37, (.getfield 202, 3)), (40, (.iload 5, 2)), (42, (.aload_n 0, 1)), (43, (.getfield 454, 3)), (46, (.iload 6, 2)), (48, (.iadd, 1)), (49, (.iconst 1, 1)), (50, (.isub, 1)), (51, (.iastore, 1)), (52, (.aload_n 0, 1)), (53, (.getfield 205, 3)), (56, (.iload 5, 2)), (58, (.iload 4, 2)), (60, (.iastore, 1)), (61, (.aload_n 0, 1)), (62, (.getfield 208, 3)), (65, (.iload 5, 2)), (67, (.iconst 1, 1)), (68, (.bastore, 1)), (69, (.aload_n 0, 1)), (70, (.getfield 211, 3)), (73, (.iload 5, 2)), (75, (.aload_n 0, 1)), (76, (.getfield 457, 3)), (79, (.iastore, 1)), (80, (.aload_n 0, 1)), (81, (.getfield 457, 3)), (84, (.bipush 40, 2)), (86, (.irem, 1)), (87, (.istore 7, 2)), (89, (.aload_n 0, 1)), (90, (.getfield 218, 3)), (93, (.iload 7, 2)), (95, (.iload_n 1, 1)), (96, (.iastore, 1)), (97, (.aload_n 0, 1)), (98, (.getfield 221, 3))]
set_option maxRecDepth 100000 in
theorem da_X12_goesOut_0 : dl_X12_goesOut_0.all (fun q => decide (decode cX12_goesOut q.1 = .ok q.2)) = true := by decide +kernel
theorem dX12_goesOut_0 : decode cX12_goesOut 0 = .ok (.aload_n 0, 1) := dec_of da_X12_goesOut_0 (k := 0) rfl
theorem dX12_goesOut_1 : decode cX12_goesOut 1 = .ok (.getfield 451, 3) := dec_of da_X12_goesOut_0 (k := 1) rfl
theorem dX12_goesOut_4 : decode cX12_goesOut 4 = .ok (.istore 5, 2) := dec_of da_X12_goesOut_0 (k := 2) rfl
theorem dX12_goesOut_6 : decode cX12_goesOut 6 = .ok (.aload_n 0, 1) := dec_of da_X12_goesOut_0 (k := 3) rfl
theorem dX12_goesOut_7 : decode cX12_goesOut 7 = .ok (.dup, 1) := dec_of da_X12_goesOut_0 (k := 4) rfl
theorem dX12_goesOut_8 : decode cX12_goesOut 8 = .ok (.getfield 451, 3) := dec_of da_X12_goesOut_0 (k := 5) rfl
theorem dX12_goesOut_11 : decode cX12_goesOut 11 = .ok (.iconst 1, 1) := dec_of da_X12_goesOut_0 (k := 6) rfl
theorem dX12_goesOut_12 : decode cX12_goesOut 12 = .ok (.iadd, 1) := dec_of da_X12_goesOut_0 (k := 7) rfl
theorem dX12_goesOut_13 : decode cX12_goesOut 13 = .ok (.putfield 451, 3) := dec_of da_X12_goesOut_0 (k := 8) rfl
theorem dX12_goesOut_16 : decode cX12_goesOut 16 = .ok (.iconst 2, 1) := dec_of da_X12_goesOut_0 (k := 9) rfl
theorem dX12_goesOut_17 : decode cX12_goesOut 17 = .ok (.iload 4, 2) := dec_of da_X12_goesOut_0 (k := 10) rfl
theorem dX12_goesOut_19 : decode cX12_goesOut 19 = .ok (.bipush 31, 2) := dec_of da_X12_goesOut_0 (k := 11) rfl
theorem dX12_goesOut_21 : decode cX12_goesOut 21 = .ok (.iadd, 1) := dec_of da_X12_goesOut_0 (k := 12) rfl
theorem dX12_goesOut_22 : decode cX12_goesOut 22 = .ok (.bipush 32, 2) := dec_of da_X12_goesOut_0 (k := 13) rfl
theorem dX12_goesOut_24 : decode cX12_goesOut 24 = .ok (.idiv, 1) := dec_of da_X12_goesOut_0 (k := 14) rfl
theorem dX12_goesOut_25 : decode cX12_goesOut 25 = .ok (.iadd, 1) := dec_of da_X12_goesOut_0 (k := 15) rfl
theorem dX12_goesOut_26 : decode cX12_goesOut 26 = .ok (.istore 6, 2) := dec_of da_X12_goesOut_0 (k := 16) rfl
theorem dX12_goesOut_28 : decode cX12_goesOut 28 = .ok (.aload_n 0, 1) := dec_of da_X12_goesOut_0 (k := 17) rfl
theorem dX12_goesOut_29 : decode cX12_goesOut 29 = .ok (.getfield 199, 3) := dec_of da_X12_goesOut_0 (k := 18) rfl
theorem dX12_goesOut_32 : decode cX12_goesOut 32 = .ok (.iload 5, 2) := dec_of da_X12_goesOut_0 (k := 19) rfl
theorem dX12_goesOut_34 : decode cX12_goesOut 34 = .ok (.iload_n 1, 1) := dec_of da_X12_goesOut_0 (k := 20) rfl
theorem dX12_goesOut_35 : decode cX12_goesOut 35 = .ok (.iastore, 1) := dec_of da_X12_goesOut_0 (k := 21) rfl
theorem dX12_goesOut_36 : decode cX12_goesOut 36 = .ok (.aload_n 0, 1) := dec_of da_X12_goesOut_0 (k := 22) rfl
theorem dX12_goesOut_37 : decode cX12_goesOut 37 = .ok (.getfield 202, 3) := dec_of da_X12_goesOut_0 (k := 23) rfl
theorem dX12_goesOut_40 : decode cX12_goesOut 40 = .ok (.iload 5, 2) := dec_of da_X12_goesOut_0 (k := 24) rfl
theorem dX12_goesOut_42 : decode cX12_goesOut 42 = .ok (.aload_n 0, 1) := dec_of da_X12_goesOut_0 (k := 25) rfl
theorem dX12_goesOut_43 : decode cX12_goesOut 43 = .ok (.getfield 454, 3) := dec_of da_X12_goesOut_0 (k := 26) rfl
theorem dX12_goesOut_46 : decode cX12_goesOut 46 = .ok (.iload 6, 2) := dec_of da_X12_goesOut_0 (k := 27) rfl
theorem dX12_goesOut_48 : decode cX12_goesOut 48 = .ok (.iadd, 1) := dec_of da_X12_goesOut_0 (k := 28) rfl
theorem dX12_goesOut_49 : decode cX12_goesOut 49 = .ok (.iconst 1, 1) := dec_of da_X12_goesOut_0 (k := 29) rfl
theorem dX12_goesOut_50 : decode cX12_goesOut 50 = .ok (.isub, 1) := dec_of da_X12_goesOut_0 (k := 30) rfl
theorem dX12_goesOut_51 : decode cX12_goesOut 51 = .ok (.iastore, 1) := dec_of da_X12_goesOut_0 (k := 31) rfl
theorem dX12_goesOut_52 : decode cX12_goesOut 52 = .ok (.aload_n 0, 1) := dec_of da_X12_goesOut_0 (k := 32) rfl
theorem dX12_goesOut_53 : decode cX12_goesOut 53 = .ok (.getfield 205, 3) := dec_of da_X12_goesOut_0 (k := 33) rfl
theorem dX12_goesOut_56 : decode cX12_goesOut 56 = .ok (.iload 5, 2) := dec_of da_X12_goesOut_0 (k := 34) rfl
theorem dX12_goesOut_58 : decode cX12_goesOut 58 = .ok (.iload 4, 2) := dec_of da_X12_goesOut_0 (k := 35) rfl
theorem dX12_goesOut_60 : decode cX12_goesOut 60 = .ok (.iastore, 1) := dec_of da_X12_goesOut_0 (k := 36) rfl
theorem dX12_goesOut_61 : decode cX12_goesOut 61 = .ok (.aload_n 0, 1) := dec_of da_X12_goesOut_0 (k := 37) rfl
theorem dX12_goesOut_62 : decode cX12_goesOut 62 = .ok (.getfield 208, 3) := dec_of da_X12_goesOut_0 (k := 38) rfl
theorem dX12_goesOut_65 : decode cX12_goesOut 65 = .ok (.iload 5, 2) := dec_of da_X12_goesOut_0 (k := 39) rfl
theorem dX12_goesOut_67 : decode cX12_goesOut 67 = .ok (.iconst 1, 1) := dec_of da_X12_goesOut_0 (k := 40) rfl
theorem dX12_goesOut_68 : decode cX12_goesOut 68 = .ok (.bastore, 1) := dec_of da_X12_goesOut_0 (k := 41) rfl
theorem dX12_goesOut_69 : decode cX12_goesOut 69 = .ok (.aload_n 0, 1) := dec_of da_X12_goesOut_0 (k := 42) rfl
theorem dX12_goesOut_70 : decode cX12_goesOut 70 = .ok (.getfield 211, 3) := dec_of da_X12_goesOut_0 (k := 43) rfl
theorem dX12_goesOut_73 : decode cX12_goesOut 73 = .ok (.iload 5, 2) := dec_of da_X12_goesOut_0 (k := 44) rfl
theorem dX12_goesOut_75 : decode cX12_goesOut 75 = .ok (.aload_n 0, 1) := dec_of da_X12_goesOut_0 (k := 45) rfl
theorem dX12_goesOut_76 : decode cX12_goesOut 76 = .ok (.getfield 457, 3) := dec_of da_X12_goesOut_0 (k := 46) rfl
theorem dX12_goesOut_79 : decode cX12_goesOut 79 = .ok (.iastore, 1) := dec_of da_X12_goesOut_0 (k := 47) rfl
theorem dX12_goesOut_80 : decode cX12_goesOut 80 = .ok (.aload_n 0, 1) := dec_of da_X12_goesOut_0 (k := 48) rfl
theorem dX12_goesOut_81 : decode cX12_goesOut 81 = .ok (.getfield 457, 3) := dec_of da_X12_goesOut_0 (k := 49) rfl
theorem dX12_goesOut_84 : decode cX12_goesOut 84 = .ok (.bipush 40, 2) := dec_of da_X12_goesOut_0 (k := 50) rfl
theorem dX12_goesOut_86 : decode cX12_goesOut 86 = .ok (.irem, 1) := dec_of da_X12_goesOut_0 (k := 51) rfl
theorem dX12_goesOut_87 : decode cX12_goesOut 87 = .ok (.istore 7, 2) := dec_of da_X12_goesOut_0 (k := 52) rfl
theorem dX12_goesOut_89 : decode cX12_goesOut 89 = .ok (.aload_n 0, 1) := dec_of da_X12_goesOut_0 (k := 53) rfl
theorem dX12_goesOut_90 : decode cX12_goesOut 90 = .ok (.getfield 218, 3) := dec_of da_X12_goesOut_0 (k := 54) rfl
theorem dX12_goesOut_93 : decode cX12_goesOut 93 = .ok (.iload 7, 2) := dec_of da_X12_goesOut_0 (k := 55) rfl
theorem dX12_goesOut_95 : decode cX12_goesOut 95 = .ok (.iload_n 1, 1) := dec_of da_X12_goesOut_0 (k := 56) rfl
theorem dX12_goesOut_96 : decode cX12_goesOut 96 = .ok (.iastore, 1) := dec_of da_X12_goesOut_0 (k := 57) rfl
theorem dX12_goesOut_97 : decode cX12_goesOut 97 = .ok (.aload_n 0, 1) := dec_of da_X12_goesOut_0 (k := 58) rfl
theorem dX12_goesOut_98 : decode cX12_goesOut 98 = .ok (.getfield 221, 3) := dec_of da_X12_goesOut_0 (k := 59) rfl
def dl_X12_goesOut_1 : List (Nat × (Instr × Nat)) := [(101, (.iload 7, 2)), (103, (.aload_n 0, 1)), (104, (.getfield 454, 3)), (107, (.iastore, 1)), (108, (.aload_n 0, 1)), (109, (.getfield 224, 3)), (112, (.iload 7, 2)), (114, (.iload 4, 2)), (116, (.iastore, 1)), (117, (.aload_n 0, 1)), (118, (.getfield 227, 3)), (121, (.iload 7, 2)), (123, (.iload 6, 2)), (125, (.iastore, 1)), (126, (.aload_n 0, 1)), (127, (.getfield 230, 3)), (130, (.iload 7, 2)), (132, (.iconst 2, 1)), (133, (.iastore, 1)), (134, (.iconst 0, 1)), (135, (.istore 8, 2)), (137, (.iload 8, 2)), (139, (.iload 4, 2)), (141, (.if_icmp .ge 49, 3)), (144, (.aload_n 0, 1)), (145, (.getfield 215, 3)), (148, (.sipush 300, 3)), (151, (.iload 5, 2)), (153, (.imul, 1)), (154, (.iload 8, 2)), (156, (.iadd, 1)), (157, (.aload_n 2, 1)), (158, (.iload_n 3, 1)), (159, (.iload 8, 2)), (161, (.iadd, 1)), (162, (.iaload, 1)), (163, (.iastore, 1)), (164, (.aload_n 0, 1)), (165, (.getfield 233, 3)), (168, (.sipush 300, 3)), (171, (.iload 7, 2)), (173, (.imul, 1)), (174, (.iload 8, 2)), (176, (.iadd, 1)), (177, (.aload_n 2, 1)), (178, (.iload_n 3, 1)), (179, (.iload 8, 2)), (181, (.iadd, 1)), (182, (.iaload, 1)), (183, (.iastore, 1)), (184, (.iinc 8 1, 3)), (187, (.goto (-50), 3)), (190, (.aload_n 0, 1)), (191, (.dup, 1)), (192, (.getfield 457, 3)), (195, (.iconst 1, 1)), (196, (.iadd, 1)), (197, (.putfield 457, 3)), (200, (.iload_n 1, 1)), (201, (.bipush 9, 2))]
set_option maxRecDepth 100000 in
theorem da_X12_goesOut_1 : dl_X12_goesOut_1.all (fun q => decide (decode cX12_goesOut q.1 = .ok q.2)) = true := by decide +kernel
theorem dX12_goesOut_101 : decode cX12_goesOut 101 = .ok (.iload 7, 2) := dec_of da_X12_goesOut_1 (k := 0) rfl
theorem dX12_goesOut_103 : decode cX12_goesOut 103 = .ok (.aload_n 0, 1) := dec_of da_X12_goesOut_1 (k := 1) rfl
theorem dX12_goesOut_104 : decode cX12_goesOut 104 = .ok (.getfield 454, 3) := dec_of da_X12_goesOut_1 (k := 2) rfl
theorem dX12_goesOut_107 : decode cX12_goesOut 107 = .ok (.iastore, 1) := dec_of da_X12_goesOut_1 (k := 3) rfl
theorem dX12_goesOut_108 : decode cX12_goesOut 108 = .ok (.aload_n 0, 1) := dec_of da_X12_goesOut_1 (k := 4) rfl
theorem dX12_goesOut_109 : decode cX12_goesOut 109 = .ok (.getfield 224, 3) := dec_of da_X12_goesOut_1 (k := 5) rfl
theorem dX12_goesOut_112 : decode cX12_goesOut 112 = .ok (.iload 7, 2) := dec_of da_X12_goesOut_1 (k := 6) rfl
theorem dX12_goesOut_114 : decode cX12_goesOut 114 = .ok (.iload 4, 2) := dec_of da_X12_goesOut_1 (k := 7) rfl
theorem dX12_goesOut_116 : decode cX12_goesOut 116 = .ok (.iastore, 1) := dec_of da_X12_goesOut_1 (k := 8) rfl
theorem dX12_goesOut_117 : decode cX12_goesOut 117 = .ok (.aload_n 0, 1) := dec_of da_X12_goesOut_1 (k := 9) rfl
theorem dX12_goesOut_118 : decode cX12_goesOut 118 = .ok (.getfield 227, 3) := dec_of da_X12_goesOut_1 (k := 10) rfl
theorem dX12_goesOut_121 : decode cX12_goesOut 121 = .ok (.iload 7, 2) := dec_of da_X12_goesOut_1 (k := 11) rfl
theorem dX12_goesOut_123 : decode cX12_goesOut 123 = .ok (.iload 6, 2) := dec_of da_X12_goesOut_1 (k := 12) rfl
theorem dX12_goesOut_125 : decode cX12_goesOut 125 = .ok (.iastore, 1) := dec_of da_X12_goesOut_1 (k := 13) rfl
theorem dX12_goesOut_126 : decode cX12_goesOut 126 = .ok (.aload_n 0, 1) := dec_of da_X12_goesOut_1 (k := 14) rfl
theorem dX12_goesOut_127 : decode cX12_goesOut 127 = .ok (.getfield 230, 3) := dec_of da_X12_goesOut_1 (k := 15) rfl
theorem dX12_goesOut_130 : decode cX12_goesOut 130 = .ok (.iload 7, 2) := dec_of da_X12_goesOut_1 (k := 16) rfl
theorem dX12_goesOut_132 : decode cX12_goesOut 132 = .ok (.iconst 2, 1) := dec_of da_X12_goesOut_1 (k := 17) rfl
theorem dX12_goesOut_133 : decode cX12_goesOut 133 = .ok (.iastore, 1) := dec_of da_X12_goesOut_1 (k := 18) rfl
theorem dX12_goesOut_134 : decode cX12_goesOut 134 = .ok (.iconst 0, 1) := dec_of da_X12_goesOut_1 (k := 19) rfl
theorem dX12_goesOut_135 : decode cX12_goesOut 135 = .ok (.istore 8, 2) := dec_of da_X12_goesOut_1 (k := 20) rfl
theorem dX12_goesOut_137 : decode cX12_goesOut 137 = .ok (.iload 8, 2) := dec_of da_X12_goesOut_1 (k := 21) rfl
theorem dX12_goesOut_139 : decode cX12_goesOut 139 = .ok (.iload 4, 2) := dec_of da_X12_goesOut_1 (k := 22) rfl
theorem dX12_goesOut_141 : decode cX12_goesOut 141 = .ok (.if_icmp .ge 49, 3) := dec_of da_X12_goesOut_1 (k := 23) rfl
theorem dX12_goesOut_144 : decode cX12_goesOut 144 = .ok (.aload_n 0, 1) := dec_of da_X12_goesOut_1 (k := 24) rfl
theorem dX12_goesOut_145 : decode cX12_goesOut 145 = .ok (.getfield 215, 3) := dec_of da_X12_goesOut_1 (k := 25) rfl
theorem dX12_goesOut_148 : decode cX12_goesOut 148 = .ok (.sipush 300, 3) := dec_of da_X12_goesOut_1 (k := 26) rfl
theorem dX12_goesOut_151 : decode cX12_goesOut 151 = .ok (.iload 5, 2) := dec_of da_X12_goesOut_1 (k := 27) rfl
theorem dX12_goesOut_153 : decode cX12_goesOut 153 = .ok (.imul, 1) := dec_of da_X12_goesOut_1 (k := 28) rfl
theorem dX12_goesOut_154 : decode cX12_goesOut 154 = .ok (.iload 8, 2) := dec_of da_X12_goesOut_1 (k := 29) rfl
theorem dX12_goesOut_156 : decode cX12_goesOut 156 = .ok (.iadd, 1) := dec_of da_X12_goesOut_1 (k := 30) rfl
theorem dX12_goesOut_157 : decode cX12_goesOut 157 = .ok (.aload_n 2, 1) := dec_of da_X12_goesOut_1 (k := 31) rfl
theorem dX12_goesOut_158 : decode cX12_goesOut 158 = .ok (.iload_n 3, 1) := dec_of da_X12_goesOut_1 (k := 32) rfl
theorem dX12_goesOut_159 : decode cX12_goesOut 159 = .ok (.iload 8, 2) := dec_of da_X12_goesOut_1 (k := 33) rfl
theorem dX12_goesOut_161 : decode cX12_goesOut 161 = .ok (.iadd, 1) := dec_of da_X12_goesOut_1 (k := 34) rfl
theorem dX12_goesOut_162 : decode cX12_goesOut 162 = .ok (.iaload, 1) := dec_of da_X12_goesOut_1 (k := 35) rfl
theorem dX12_goesOut_163 : decode cX12_goesOut 163 = .ok (.iastore, 1) := dec_of da_X12_goesOut_1 (k := 36) rfl
theorem dX12_goesOut_164 : decode cX12_goesOut 164 = .ok (.aload_n 0, 1) := dec_of da_X12_goesOut_1 (k := 37) rfl
theorem dX12_goesOut_165 : decode cX12_goesOut 165 = .ok (.getfield 233, 3) := dec_of da_X12_goesOut_1 (k := 38) rfl
theorem dX12_goesOut_168 : decode cX12_goesOut 168 = .ok (.sipush 300, 3) := dec_of da_X12_goesOut_1 (k := 39) rfl
theorem dX12_goesOut_171 : decode cX12_goesOut 171 = .ok (.iload 7, 2) := dec_of da_X12_goesOut_1 (k := 40) rfl
theorem dX12_goesOut_173 : decode cX12_goesOut 173 = .ok (.imul, 1) := dec_of da_X12_goesOut_1 (k := 41) rfl
theorem dX12_goesOut_174 : decode cX12_goesOut 174 = .ok (.iload 8, 2) := dec_of da_X12_goesOut_1 (k := 42) rfl
theorem dX12_goesOut_176 : decode cX12_goesOut 176 = .ok (.iadd, 1) := dec_of da_X12_goesOut_1 (k := 43) rfl
theorem dX12_goesOut_177 : decode cX12_goesOut 177 = .ok (.aload_n 2, 1) := dec_of da_X12_goesOut_1 (k := 44) rfl
theorem dX12_goesOut_178 : decode cX12_goesOut 178 = .ok (.iload_n 3, 1) := dec_of da_X12_goesOut_1 (k := 45) rfl
theorem dX12_goesOut_179 : decode cX12_goesOut 179 = .ok (.iload 8, 2) := dec_of da_X12_goesOut_1 (k := 46) rfl
theorem dX12_goesOut_181 : decode cX12_goesOut 181 = .ok (.iadd, 1) := dec_of da_X12_goesOut_1 (k := 47) rfl
theorem dX12_goesOut_182 : decode cX12_goesOut 182 = .ok (.iaload, 1) := dec_of da_X12_goesOut_1 (k := 48) rfl
theorem dX12_goesOut_183 : decode cX12_goesOut 183 = .ok (.iastore, 1) := dec_of da_X12_goesOut_1 (k := 49) rfl
theorem dX12_goesOut_184 : decode cX12_goesOut 184 = .ok (.iinc 8 1, 3) := dec_of da_X12_goesOut_1 (k := 50) rfl
theorem dX12_goesOut_187 : decode cX12_goesOut 187 = .ok (.goto (-50), 3) := dec_of da_X12_goesOut_1 (k := 51) rfl
theorem dX12_goesOut_190 : decode cX12_goesOut 190 = .ok (.aload_n 0, 1) := dec_of da_X12_goesOut_1 (k := 52) rfl
theorem dX12_goesOut_191 : decode cX12_goesOut 191 = .ok (.dup, 1) := dec_of da_X12_goesOut_1 (k := 53) rfl
theorem dX12_goesOut_192 : decode cX12_goesOut 192 = .ok (.getfield 457, 3) := dec_of da_X12_goesOut_1 (k := 54) rfl
theorem dX12_goesOut_195 : decode cX12_goesOut 195 = .ok (.iconst 1, 1) := dec_of da_X12_goesOut_1 (k := 55) rfl
theorem dX12_goesOut_196 : decode cX12_goesOut 196 = .ok (.iadd, 1) := dec_of da_X12_goesOut_1 (k := 56) rfl
theorem dX12_goesOut_197 : decode cX12_goesOut 197 = .ok (.putfield 457, 3) := dec_of da_X12_goesOut_1 (k := 57) rfl
theorem dX12_goesOut_200 : decode cX12_goesOut 200 = .ok (.iload_n 1, 1) := dec_of da_X12_goesOut_1 (k := 58) rfl
theorem dX12_goesOut_201 : decode cX12_goesOut 201 = .ok (.bipush 9, 2) := dec_of da_X12_goesOut_1 (k := 59) rfl
def dl_X12_goesOut_2 : List (Nat × (Instr × Nat)) := [(203, (.if_icmp .ge 11, 3)), (206, (.aload_n 0, 1)), (207, (.getfield 181, 3)), (210, (.iload_n 1, 1)), (211, (.iload 5, 2)), (213, (.iastore, 1)), (214, (.return_, 1))]
set_option maxRecDepth 100000 in
theorem da_X12_goesOut_2 : dl_X12_goesOut_2.all (fun q => decide (decode cX12_goesOut q.1 = .ok q.2)) = true := by decide +kernel
theorem dX12_goesOut_203 : decode cX12_goesOut 203 = .ok (.if_icmp .ge 11, 3) := dec_of da_X12_goesOut_2 (k := 0) rfl
theorem dX12_goesOut_206 : decode cX12_goesOut 206 = .ok (.aload_n 0, 1) := dec_of da_X12_goesOut_2 (k := 1) rfl
theorem dX12_goesOut_207 : decode cX12_goesOut 207 = .ok (.getfield 181, 3) := dec_of da_X12_goesOut_2 (k := 2) rfl
theorem dX12_goesOut_210 : decode cX12_goesOut 210 = .ok (.iload_n 1, 1) := dec_of da_X12_goesOut_2 (k := 3) rfl
theorem dX12_goesOut_211 : decode cX12_goesOut 211 = .ok (.iload 5, 2) := dec_of da_X12_goesOut_2 (k := 4) rfl
theorem dX12_goesOut_213 : decode cX12_goesOut 213 = .ok (.iastore, 1) := dec_of da_X12_goesOut_2 (k := 5) rfl
theorem dX12_goesOut_214 : decode cX12_goesOut 214 = .ok (.return_, 1) := dec_of da_X12_goesOut_2 (k := 6) rfl
def dl_X12_acknowledge_0 : List (Nat × (Instr × Nat)) := [(0, (.iconst 0, 1)), (1, (.istore_n 2, 1)), (2, (.iload_n 2, 1)), (3, (.bipush 10, 2)), (5, (.if_icmp .ge 55, 3)), (8, (.aload_n 0, 1)), (9, (.getfield 251, 3)), (12, (.iload_n 2, 1)), (13, (.iload_n 2, 1)), (14, (.ifCond .ne 9, 3)), (17, (.sipush 212, 3)), (20, (.goto 33, 3)), (23, (.iload_n 2, 1)), (24, (.iconst 4, 1)), (25, (.if_icmp .ge 7, 3)), (28, (.iconst 0, 1)), (29, (.goto 24, 3)), (32, (.aload_n 0, 1)), (33, (.getfield 196, 3)), (36, (.iload_n 1, 1)), (37, (.laload, 1)), (38, (.bipush 40, 2)), (40, (.bipush 8, 2)), (42, (.iload_n 2, 1)), (43, (.iconst 4, 1)), (44, (.isub, 1)), (45, (.imul, 1)), (46, (.isub, 1)), (47, (.lshr, 1)), (48, (.l2i, 1)), (49, (.sipush 255, 3)), (52, (.iand, 1)), (53, (.iastore, 1)), (54, (.iinc 2 1, 3)), (57, (.goto (-55), 3)), (60, (.aload_n 0, 1)), (61, (.aload_n 0, 1)), (62, (.getfield 251, 3)), (65, (.iconst 0, 1)), (66, (.bipush 10, 2)), (68, (.invokevirtual 434, 3)), (71, (.aload_n 0, 1)), (72, (.iload_n 1, 1)), (73, (.aload_n 0, 1)), (74, (.getfield 251, 3)), (77, (.iconst 0, 1)), (78, (.bipush 14, 2)), (80, (.invokevirtual 460, 3)), (83, (.return_, 1))]
set_option maxRecDepth 100000 in
theorem da_X12_acknowledge_0 : dl_X12_acknowledge_0.all (fun q => decide (decode cX12_acknowledge q.1 = .ok q.2)) = true := by decide +kernel
theorem dX12_acknowledge_0 : decode cX12_acknowledge 0 = .ok (.iconst 0, 1) := dec_of da_X12_acknowledge_0 (k := 0) rfl
theorem dX12_acknowledge_1 : decode cX12_acknowledge 1 = .ok (.istore_n 2, 1) := dec_of da_X12_acknowledge_0 (k := 1) rfl
theorem dX12_acknowledge_2 : decode cX12_acknowledge 2 = .ok (.iload_n 2, 1) := dec_of da_X12_acknowledge_0 (k := 2) rfl
theorem dX12_acknowledge_3 : decode cX12_acknowledge 3 = .ok (.bipush 10, 2) := dec_of da_X12_acknowledge_0 (k := 3) rfl
theorem dX12_acknowledge_5 : decode cX12_acknowledge 5 = .ok (.if_icmp .ge 55, 3) := dec_of da_X12_acknowledge_0 (k := 4) rfl
theorem dX12_acknowledge_8 : decode cX12_acknowledge 8 = .ok (.aload_n 0, 1) := dec_of da_X12_acknowledge_0 (k := 5) rfl
theorem dX12_acknowledge_9 : decode cX12_acknowledge 9 = .ok (.getfield 251, 3) := dec_of da_X12_acknowledge_0 (k := 6) rfl
theorem dX12_acknowledge_12 : decode cX12_acknowledge 12 = .ok (.iload_n 2, 1) := dec_of da_X12_acknowledge_0 (k := 7) rfl
theorem dX12_acknowledge_13 : decode cX12_acknowledge 13 = .ok (.iload_n 2, 1) := dec_of da_X12_acknowledge_0 (k := 8) rfl
theorem dX12_acknowledge_14 : decode cX12_acknowledge 14 = .ok (.ifCond .ne 9, 3) := dec_of da_X12_acknowledge_0 (k := 9) rfl
theorem dX12_acknowledge_17 : decode cX12_acknowledge 17 = .ok (.sipush 212, 3) := dec_of da_X12_acknowledge_0 (k := 10) rfl
theorem dX12_acknowledge_20 : decode cX12_acknowledge 20 = .ok (.goto 33, 3) := dec_of da_X12_acknowledge_0 (k := 11) rfl
theorem dX12_acknowledge_23 : decode cX12_acknowledge 23 = .ok (.iload_n 2, 1) := dec_of da_X12_acknowledge_0 (k := 12) rfl
theorem dX12_acknowledge_24 : decode cX12_acknowledge 24 = .ok (.iconst 4, 1) := dec_of da_X12_acknowledge_0 (k := 13) rfl
theorem dX12_acknowledge_25 : decode cX12_acknowledge 25 = .ok (.if_icmp .ge 7, 3) := dec_of da_X12_acknowledge_0 (k := 14) rfl
theorem dX12_acknowledge_28 : decode cX12_acknowledge 28 = .ok (.iconst 0, 1) := dec_of da_X12_acknowledge_0 (k := 15) rfl
theorem dX12_acknowledge_29 : decode cX12_acknowledge 29 = .ok (.goto 24, 3) := dec_of da_X12_acknowledge_0 (k := 16) rfl
theorem dX12_acknowledge_32 : decode cX12_acknowledge 32 = .ok (.aload_n 0, 1) := dec_of da_X12_acknowledge_0 (k := 17) rfl
theorem dX12_acknowledge_33 : decode cX12_acknowledge 33 = .ok (.getfield 196, 3) := dec_of da_X12_acknowledge_0 (k := 18) rfl
theorem dX12_acknowledge_36 : decode cX12_acknowledge 36 = .ok (.iload_n 1, 1) := dec_of da_X12_acknowledge_0 (k := 19) rfl
theorem dX12_acknowledge_37 : decode cX12_acknowledge 37 = .ok (.laload, 1) := dec_of da_X12_acknowledge_0 (k := 20) rfl
theorem dX12_acknowledge_38 : decode cX12_acknowledge 38 = .ok (.bipush 40, 2) := dec_of da_X12_acknowledge_0 (k := 21) rfl
theorem dX12_acknowledge_40 : decode cX12_acknowledge 40 = .ok (.bipush 8, 2) := dec_of da_X12_acknowledge_0 (k := 22) rfl
theorem dX12_acknowledge_42 : decode cX12_acknowledge 42 = .ok (.iload_n 2, 1) := dec_of da_X12_acknowledge_0 (k := 23) rfl
theorem dX12_acknowledge_43 : decode cX12_acknowledge 43 = .ok (.iconst 4, 1) := dec_of da_X12_acknowledge_0 (k := 24) rfl
theorem dX12_acknowledge_44 : decode cX12_acknowledge 44 = .ok (.isub, 1) := dec_of da_X12_acknowledge_0 (k := 25) rfl
theorem dX12_acknowledge_45 : decode cX12_acknowledge 45 = .ok (.imul, 1) := dec_of da_X12_acknowledge_0 (k := 26) rfl
theorem dX12_acknowledge_46 : decode cX12_acknowledge 46 = .ok (.isub, 1) := dec_of da_X12_acknowledge_0 (k := 27) rfl
theorem dX12_acknowledge_47 : decode cX12_acknowledge 47 = .ok (.lshr, 1) := dec_of da_X12_acknowledge_0 (k := 28) rfl
theorem dX12_acknowledge_48 : decode cX12_acknowledge 48 = .ok (.l2i, 1) := dec_of da_X12_acknowledge_0 (k := 29) rfl
theorem dX12_acknowledge_49 : decode cX12_acknowledge 49 = .ok (.sipush 255, 3) := dec_of da_X12_acknowledge_0 (k := 30) rfl
theorem dX12_acknowledge_52 : decode cX12_acknowledge 52 = .ok (.iand, 1) := dec_of da_X12_acknowledge_0 (k := 31) rfl
theorem dX12_acknowledge_53 : decode cX12_acknowledge 53 = .ok (.iastore, 1) := dec_of da_X12_acknowledge_0 (k := 32) rfl
theorem dX12_acknowledge_54 : decode cX12_acknowledge 54 = .ok (.iinc 2 1, 3) := dec_of da_X12_acknowledge_0 (k := 33) rfl
theorem dX12_acknowledge_57 : decode cX12_acknowledge 57 = .ok (.goto (-55), 3) := dec_of da_X12_acknowledge_0 (k := 34) rfl
theorem dX12_acknowledge_60 : decode cX12_acknowledge 60 = .ok (.aload_n 0, 1) := dec_of da_X12_acknowledge_0 (k := 35) rfl
theorem dX12_acknowledge_61 : decode cX12_acknowledge 61 = .ok (.aload_n 0, 1) := dec_of da_X12_acknowledge_0 (k := 36) rfl
theorem dX12_acknowledge_62 : decode cX12_acknowledge 62 = .ok (.getfield 251, 3) := dec_of da_X12_acknowledge_0 (k := 37) rfl
theorem dX12_acknowledge_65 : decode cX12_acknowledge 65 = .ok (.iconst 0, 1) := dec_of da_X12_acknowledge_0 (k := 38) rfl
theorem dX12_acknowledge_66 : decode cX12_acknowledge 66 = .ok (.bipush 10, 2) := dec_of da_X12_acknowledge_0 (k := 39) rfl
theorem dX12_acknowledge_68 : decode cX12_acknowledge 68 = .ok (.invokevirtual 434, 3) := dec_of da_X12_acknowledge_0 (k := 40) rfl
theorem dX12_acknowledge_71 : decode cX12_acknowledge 71 = .ok (.aload_n 0, 1) := dec_of da_X12_acknowledge_0 (k := 41) rfl
theorem dX12_acknowledge_72 : decode cX12_acknowledge 72 = .ok (.iload_n 1, 1) := dec_of da_X12_acknowledge_0 (k := 42) rfl
theorem dX12_acknowledge_73 : decode cX12_acknowledge 73 = .ok (.aload_n 0, 1) := dec_of da_X12_acknowledge_0 (k := 43) rfl
theorem dX12_acknowledge_74 : decode cX12_acknowledge 74 = .ok (.getfield 251, 3) := dec_of da_X12_acknowledge_0 (k := 44) rfl
theorem dX12_acknowledge_77 : decode cX12_acknowledge 77 = .ok (.iconst 0, 1) := dec_of da_X12_acknowledge_0 (k := 45) rfl
theorem dX12_acknowledge_78 : decode cX12_acknowledge 78 = .ok (.bipush 14, 2) := dec_of da_X12_acknowledge_0 (k := 46) rfl
theorem dX12_acknowledge_80 : decode cX12_acknowledge 80 = .ok (.invokevirtual 460, 3) := dec_of da_X12_acknowledge_0 (k := 47) rfl
theorem dX12_acknowledge_83 : decode cX12_acknowledge 83 = .ok (.return_, 1) := dec_of da_X12_acknowledge_0 (k := 48) rfl
def dl_X12_sendsAtHand_0 : List (Nat × (Instr × Nat)) := [(0, (.aload_n 0, 1)), (1, (.getfield 141, 3)), (4, (.iload_n 1, 1)), (5, (.baload, 1)), (6, (.ifCond .ne 18, 3)), (9, (.aload_n 0, 1)), (10, (.iload_n 1, 1)), (11, (.invokevirtual 464, 3)), (14, (.ifCond .ne 10, 3)), (17, (.aload_n 0, 1)), (18, (.iload_n 1, 1)), (19, (.iconst 5, 1)), (20, (.invokevirtual 467, 3)), (23, (.return_, 1)), (24, (.aload_n 0, 1)), (25, (.iload_n 1, 1)), (26, (.aload_n 0, 1)), (27, (.getfield 144, 3)), (30, (.sipush 300, 3)), (33, (.iload_n 1, 1)), (34, (.imul, 1)), (35, (.aload_n 0, 1)), (36, (.getfield 147, 3)), (39, (.iload_n 1, 1)), (40, (.iaload, 1)), (41, (.invokevirtual 460, 3)), (44, (.return_, 1))]
set_option maxRecDepth 100000 in
theorem da_X12_sendsAtHand_0 : dl_X12_sendsAtHand_0.all (fun q => decide (decode cX12_sendsAtHand q.1 = .ok q.2)) = true := by decide +kernel
theorem dX12_sendsAtHand_0 : decode cX12_sendsAtHand 0 = .ok (.aload_n 0, 1) := dec_of da_X12_sendsAtHand_0 (k := 0) rfl
theorem dX12_sendsAtHand_1 : decode cX12_sendsAtHand 1 = .ok (.getfield 141, 3) := dec_of da_X12_sendsAtHand_0 (k := 1) rfl
theorem dX12_sendsAtHand_4 : decode cX12_sendsAtHand 4 = .ok (.iload_n 1, 1) := dec_of da_X12_sendsAtHand_0 (k := 2) rfl
theorem dX12_sendsAtHand_5 : decode cX12_sendsAtHand 5 = .ok (.baload, 1) := dec_of da_X12_sendsAtHand_0 (k := 3) rfl
theorem dX12_sendsAtHand_6 : decode cX12_sendsAtHand 6 = .ok (.ifCond .ne 18, 3) := dec_of da_X12_sendsAtHand_0 (k := 4) rfl
theorem dX12_sendsAtHand_9 : decode cX12_sendsAtHand 9 = .ok (.aload_n 0, 1) := dec_of da_X12_sendsAtHand_0 (k := 5) rfl
theorem dX12_sendsAtHand_10 : decode cX12_sendsAtHand 10 = .ok (.iload_n 1, 1) := dec_of da_X12_sendsAtHand_0 (k := 6) rfl
theorem dX12_sendsAtHand_11 : decode cX12_sendsAtHand 11 = .ok (.invokevirtual 464, 3) := dec_of da_X12_sendsAtHand_0 (k := 7) rfl
theorem dX12_sendsAtHand_14 : decode cX12_sendsAtHand 14 = .ok (.ifCond .ne 10, 3) := dec_of da_X12_sendsAtHand_0 (k := 8) rfl
theorem dX12_sendsAtHand_17 : decode cX12_sendsAtHand 17 = .ok (.aload_n 0, 1) := dec_of da_X12_sendsAtHand_0 (k := 9) rfl
theorem dX12_sendsAtHand_18 : decode cX12_sendsAtHand 18 = .ok (.iload_n 1, 1) := dec_of da_X12_sendsAtHand_0 (k := 10) rfl
theorem dX12_sendsAtHand_19 : decode cX12_sendsAtHand 19 = .ok (.iconst 5, 1) := dec_of da_X12_sendsAtHand_0 (k := 11) rfl
theorem dX12_sendsAtHand_20 : decode cX12_sendsAtHand 20 = .ok (.invokevirtual 467, 3) := dec_of da_X12_sendsAtHand_0 (k := 12) rfl
theorem dX12_sendsAtHand_23 : decode cX12_sendsAtHand 23 = .ok (.return_, 1) := dec_of da_X12_sendsAtHand_0 (k := 13) rfl
theorem dX12_sendsAtHand_24 : decode cX12_sendsAtHand 24 = .ok (.aload_n 0, 1) := dec_of da_X12_sendsAtHand_0 (k := 14) rfl
theorem dX12_sendsAtHand_25 : decode cX12_sendsAtHand 25 = .ok (.iload_n 1, 1) := dec_of da_X12_sendsAtHand_0 (k := 15) rfl
theorem dX12_sendsAtHand_26 : decode cX12_sendsAtHand 26 = .ok (.aload_n 0, 1) := dec_of da_X12_sendsAtHand_0 (k := 16) rfl
theorem dX12_sendsAtHand_27 : decode cX12_sendsAtHand 27 = .ok (.getfield 144, 3) := dec_of da_X12_sendsAtHand_0 (k := 17) rfl
theorem dX12_sendsAtHand_30 : decode cX12_sendsAtHand 30 = .ok (.sipush 300, 3) := dec_of da_X12_sendsAtHand_0 (k := 18) rfl
theorem dX12_sendsAtHand_33 : decode cX12_sendsAtHand 33 = .ok (.iload_n 1, 1) := dec_of da_X12_sendsAtHand_0 (k := 19) rfl
theorem dX12_sendsAtHand_34 : decode cX12_sendsAtHand 34 = .ok (.imul, 1) := dec_of da_X12_sendsAtHand_0 (k := 20) rfl
theorem dX12_sendsAtHand_35 : decode cX12_sendsAtHand 35 = .ok (.aload_n 0, 1) := dec_of da_X12_sendsAtHand_0 (k := 21) rfl
theorem dX12_sendsAtHand_36 : decode cX12_sendsAtHand 36 = .ok (.getfield 147, 3) := dec_of da_X12_sendsAtHand_0 (k := 22) rfl
theorem dX12_sendsAtHand_39 : decode cX12_sendsAtHand 39 = .ok (.iload_n 1, 1) := dec_of da_X12_sendsAtHand_0 (k := 23) rfl
theorem dX12_sendsAtHand_40 : decode cX12_sendsAtHand 40 = .ok (.iaload, 1) := dec_of da_X12_sendsAtHand_0 (k := 24) rfl
theorem dX12_sendsAtHand_41 : decode cX12_sendsAtHand 41 = .ok (.invokevirtual 460, 3) := dec_of da_X12_sendsAtHand_0 (k := 25) rfl
theorem dX12_sendsAtHand_44 : decode cX12_sendsAtHand 44 = .ok (.return_, 1) := dec_of da_X12_sendsAtHand_0 (k := 26) rfl
def dl_X12_begin_0 : List (Nat × (Instr × Nat)) := [(0, (.iconst 0, 1)), (1, (.istore_n 1, 1)), (2, (.iload_n 1, 1)), (3, (.bipush 9, 2)), (5, (.if_icmp .ge 124, 3)), (8, (.aload_n 0, 1)), (9, (.getfield 190, 3)), (12, (.iload_n 1, 1)), (13, (.iaload, 1)), (14, (.ifCond .le 51, 3)), (17, (.aload_n 0, 1)), (18, (.getfield 193, 3)), (21, (.iload_n 1, 1)), (22, (.iaload, 1)), (23, (.aload_n 0, 1)), (24, (.getfield 454, 3)), (27, (.if_icmp .ne 38, 3)), (30, (.aload_n 0, 1)), (31, (.getfield 190, 3)), (34, (.iload_n 1, 1)), (35, (.iaload, 1)), (36, (.istore_n 2, 1)), (37, (.aload_n 0, 1)), (38, (.getfield 190, 3)), (41, (.iload_n 1, 1)), (42, (.iconst 0, 1)), (43, (.iastore, 1)), (44, (.iload_n 2, 1)), (45, (.iconst 1, 1)), (46, (.if_icmp .ne 11, 3)), (49, (.aload_n 0, 1)), (50, (.iload_n 1, 1)), (51, (.invokevirtual 470, 3)), (54, (.goto 8, 3)), (57, (.aload_n 0, 1)), (58, (.iload_n 1, 1)), (59, (.invokevirtual 473, 3)), (62, (.goto 61, 3)), (65, (.aload_n 0, 1)), (66, (.getfield 181, 3)), (69, (.iload_n 1, 1)), (70, (.iaload, 1)), (71, (.ifCond .ge 52, 3)), (74, (.aload_n 0, 1)), (75, (.getfield 190, 3)), (78, (.iload_n 1, 1)), (79, (.iaload, 1)), (80, (.ifCond .ne 43, 3)), (83, (.aload_n 0, 1)), (84, (.getfield 184, 3)), (87, (.iload_n 1, 1)), (88, (.baload, 1)), (89, (.ifCond .ne 34, 3)), (92, (.aload_n 0, 1)), (93, (.getfield 111, 3)), (96, (.iload_n 1, 1)), (97, (.iaload, 1)), (98, (.ifCond .le 25, 3)), (101, (.aload_n 0, 1)), (102, (.getfield 153, 3))]
set_option maxRecDepth 100000 in
theorem da_X12_begin_0 : dl_X12_begin_0.all (fun q => decide (decode cX12_begin q.1 = .ok q.2)) = true := by decide +kernel
theorem dX12_begin_0 : decode cX12_begin 0 = .ok (.iconst 0, 1) := dec_of da_X12_begin_0 (k := 0) rfl
theorem dX12_begin_1 : decode cX12_begin 1 = .ok (.istore_n 1, 1) := dec_of da_X12_begin_0 (k := 1) rfl
theorem dX12_begin_2 : decode cX12_begin 2 = .ok (.iload_n 1, 1) := dec_of da_X12_begin_0 (k := 2) rfl
theorem dX12_begin_3 : decode cX12_begin 3 = .ok (.bipush 9, 2) := dec_of da_X12_begin_0 (k := 3) rfl
theorem dX12_begin_5 : decode cX12_begin 5 = .ok (.if_icmp .ge 124, 3) := dec_of da_X12_begin_0 (k := 4) rfl
theorem dX12_begin_8 : decode cX12_begin 8 = .ok (.aload_n 0, 1) := dec_of da_X12_begin_0 (k := 5) rfl
theorem dX12_begin_9 : decode cX12_begin 9 = .ok (.getfield 190, 3) := dec_of da_X12_begin_0 (k := 6) rfl
theorem dX12_begin_12 : decode cX12_begin 12 = .ok (.iload_n 1, 1) := dec_of da_X12_begin_0 (k := 7) rfl
theorem dX12_begin_13 : decode cX12_begin 13 = .ok (.iaload, 1) := dec_of da_X12_begin_0 (k := 8) rfl
theorem dX12_begin_14 : decode cX12_begin 14 = .ok (.ifCond .le 51, 3) := dec_of da_X12_begin_0 (k := 9) rfl
theorem dX12_begin_17 : decode cX12_begin 17 = .ok (.aload_n 0, 1) := dec_of da_X12_begin_0 (k := 10) rfl
theorem dX12_begin_18 : decode cX12_begin 18 = .ok (.getfield 193, 3) := dec_of da_X12_begin_0 (k := 11) rfl
theorem dX12_begin_21 : decode cX12_begin 21 = .ok (.iload_n 1, 1) := dec_of da_X12_begin_0 (k := 12) rfl
theorem dX12_begin_22 : decode cX12_begin 22 = .ok (.iaload, 1) := dec_of da_X12_begin_0 (k := 13) rfl
theorem dX12_begin_23 : decode cX12_begin 23 = .ok (.aload_n 0, 1) := dec_of da_X12_begin_0 (k := 14) rfl
theorem dX12_begin_24 : decode cX12_begin 24 = .ok (.getfield 454, 3) := dec_of da_X12_begin_0 (k := 15) rfl
theorem dX12_begin_27 : decode cX12_begin 27 = .ok (.if_icmp .ne 38, 3) := dec_of da_X12_begin_0 (k := 16) rfl
theorem dX12_begin_30 : decode cX12_begin 30 = .ok (.aload_n 0, 1) := dec_of da_X12_begin_0 (k := 17) rfl
theorem dX12_begin_31 : decode cX12_begin 31 = .ok (.getfield 190, 3) := dec_of da_X12_begin_0 (k := 18) rfl
theorem dX12_begin_34 : decode cX12_begin 34 = .ok (.iload_n 1, 1) := dec_of da_X12_begin_0 (k := 19) rfl
theorem dX12_begin_35 : decode cX12_begin 35 = .ok (.iaload, 1) := dec_of da_X12_begin_0 (k := 20) rfl
theorem dX12_begin_36 : decode cX12_begin 36 = .ok (.istore_n 2, 1) := dec_of da_X12_begin_0 (k := 21) rfl
theorem dX12_begin_37 : decode cX12_begin 37 = .ok (.aload_n 0, 1) := dec_of da_X12_begin_0 (k := 22) rfl
theorem dX12_begin_38 : decode cX12_begin 38 = .ok (.getfield 190, 3) := dec_of da_X12_begin_0 (k := 23) rfl
theorem dX12_begin_41 : decode cX12_begin 41 = .ok (.iload_n 1, 1) := dec_of da_X12_begin_0 (k := 24) rfl
theorem dX12_begin_42 : decode cX12_begin 42 = .ok (.iconst 0, 1) := dec_of da_X12_begin_0 (k := 25) rfl
theorem dX12_begin_43 : decode cX12_begin 43 = .ok (.iastore, 1) := dec_of da_X12_begin_0 (k := 26) rfl
theorem dX12_begin_44 : decode cX12_begin 44 = .ok (.iload_n 2, 1) := dec_of da_X12_begin_0 (k := 27) rfl
theorem dX12_begin_45 : decode cX12_begin 45 = .ok (.iconst 1, 1) := dec_of da_X12_begin_0 (k := 28) rfl
theorem dX12_begin_46 : decode cX12_begin 46 = .ok (.if_icmp .ne 11, 3) := dec_of da_X12_begin_0 (k := 29) rfl
theorem dX12_begin_49 : decode cX12_begin 49 = .ok (.aload_n 0, 1) := dec_of da_X12_begin_0 (k := 30) rfl
theorem dX12_begin_50 : decode cX12_begin 50 = .ok (.iload_n 1, 1) := dec_of da_X12_begin_0 (k := 31) rfl
theorem dX12_begin_51 : decode cX12_begin 51 = .ok (.invokevirtual 470, 3) := dec_of da_X12_begin_0 (k := 32) rfl
theorem dX12_begin_54 : decode cX12_begin 54 = .ok (.goto 8, 3) := dec_of da_X12_begin_0 (k := 33) rfl
theorem dX12_begin_57 : decode cX12_begin 57 = .ok (.aload_n 0, 1) := dec_of da_X12_begin_0 (k := 34) rfl
theorem dX12_begin_58 : decode cX12_begin 58 = .ok (.iload_n 1, 1) := dec_of da_X12_begin_0 (k := 35) rfl
theorem dX12_begin_59 : decode cX12_begin 59 = .ok (.invokevirtual 473, 3) := dec_of da_X12_begin_0 (k := 36) rfl
theorem dX12_begin_62 : decode cX12_begin 62 = .ok (.goto 61, 3) := dec_of da_X12_begin_0 (k := 37) rfl
theorem dX12_begin_65 : decode cX12_begin 65 = .ok (.aload_n 0, 1) := dec_of da_X12_begin_0 (k := 38) rfl
theorem dX12_begin_66 : decode cX12_begin 66 = .ok (.getfield 181, 3) := dec_of da_X12_begin_0 (k := 39) rfl
theorem dX12_begin_69 : decode cX12_begin 69 = .ok (.iload_n 1, 1) := dec_of da_X12_begin_0 (k := 40) rfl
theorem dX12_begin_70 : decode cX12_begin 70 = .ok (.iaload, 1) := dec_of da_X12_begin_0 (k := 41) rfl
theorem dX12_begin_71 : decode cX12_begin 71 = .ok (.ifCond .ge 52, 3) := dec_of da_X12_begin_0 (k := 42) rfl
theorem dX12_begin_74 : decode cX12_begin 74 = .ok (.aload_n 0, 1) := dec_of da_X12_begin_0 (k := 43) rfl
theorem dX12_begin_75 : decode cX12_begin 75 = .ok (.getfield 190, 3) := dec_of da_X12_begin_0 (k := 44) rfl
theorem dX12_begin_78 : decode cX12_begin 78 = .ok (.iload_n 1, 1) := dec_of da_X12_begin_0 (k := 45) rfl
theorem dX12_begin_79 : decode cX12_begin 79 = .ok (.iaload, 1) := dec_of da_X12_begin_0 (k := 46) rfl
theorem dX12_begin_80 : decode cX12_begin 80 = .ok (.ifCond .ne 43, 3) := dec_of da_X12_begin_0 (k := 47) rfl
theorem dX12_begin_83 : decode cX12_begin 83 = .ok (.aload_n 0, 1) := dec_of da_X12_begin_0 (k := 48) rfl
theorem dX12_begin_84 : decode cX12_begin 84 = .ok (.getfield 184, 3) := dec_of da_X12_begin_0 (k := 49) rfl
theorem dX12_begin_87 : decode cX12_begin 87 = .ok (.iload_n 1, 1) := dec_of da_X12_begin_0 (k := 50) rfl
theorem dX12_begin_88 : decode cX12_begin 88 = .ok (.baload, 1) := dec_of da_X12_begin_0 (k := 51) rfl
theorem dX12_begin_89 : decode cX12_begin 89 = .ok (.ifCond .ne 34, 3) := dec_of da_X12_begin_0 (k := 52) rfl
theorem dX12_begin_92 : decode cX12_begin 92 = .ok (.aload_n 0, 1) := dec_of da_X12_begin_0 (k := 53) rfl
theorem dX12_begin_93 : decode cX12_begin 93 = .ok (.getfield 111, 3) := dec_of da_X12_begin_0 (k := 54) rfl
theorem dX12_begin_96 : decode cX12_begin 96 = .ok (.iload_n 1, 1) := dec_of da_X12_begin_0 (k := 55) rfl
theorem dX12_begin_97 : decode cX12_begin 97 = .ok (.iaload, 1) := dec_of da_X12_begin_0 (k := 56) rfl
theorem dX12_begin_98 : decode cX12_begin 98 = .ok (.ifCond .le 25, 3) := dec_of da_X12_begin_0 (k := 57) rfl
theorem dX12_begin_101 : decode cX12_begin 101 = .ok (.aload_n 0, 1) := dec_of da_X12_begin_0 (k := 58) rfl
theorem dX12_begin_102 : decode cX12_begin 102 = .ok (.getfield 153, 3) := dec_of da_X12_begin_0 (k := 59) rfl
def dl_X12_begin_1 : List (Nat × (Instr × Nat)) := [(105, (.iload_n 1, 1)), (106, (.iaload, 1)), (107, (.ifCond .ne 16, 3)), (110, (.aload_n 0, 1)), (111, (.getfield 178, 3)), (114, (.iconst 3, 1)), (115, (.if_icmp .lt 8, 3)), (118, (.aload_n 0, 1)), (119, (.iload_n 1, 1)), (120, (.invokevirtual 473, 3)), (123, (.iinc 1 1, 3)), (126, (.goto (-124), 3)), (129, (.iconst 0, 1)), (130, (.istore_n 1, 1)), (131, (.iconst 0, 1)), (132, (.istore_n 2, 1)), (133, (.iload_n 2, 1)), (134, (.aload_n 0, 1)), (135, (.getfield 476, 3)), (138, (.if_icmp .ge 115, 3)), (141, (.aload_n 0, 1)), (142, (.getfield 242, 3)), (145, (.iload_n 2, 1)), (146, (.iaload, 1)), (147, (.aload_n 0, 1)), (148, (.getfield 454, 3)), (151, (.if_icmp .ne 27, 3)), (154, (.aload_n 0, 1)), (155, (.bipush 9, 2)), (157, (.aload_n 0, 1)), (158, (.getfield 248, 3)), (161, (.sipush 300, 3)), (164, (.iload_n 2, 1)), (165, (.imul, 1)), (166, (.aload_n 0, 1)), (167, (.getfield 245, 3)), (170, (.iload_n 2, 1)), (171, (.iaload, 1)), (172, (.invokevirtual 460, 3)), (175, (.goto 72, 3)), (178, (.aload_n 0, 1)), (179, (.getfield 242, 3)), (182, (.iload_n 1, 1)), (183, (.aload_n 0, 1)), (184, (.getfield 242, 3)), (187, (.iload_n 2, 1)), (188, (.iaload, 1)), (189, (.iastore, 1)), (190, (.aload_n 0, 1)), (191, (.getfield 245, 3)), (194, (.iload_n 1, 1)), (195, (.aload_n 0, 1)), (196, (.getfield 245, 3)), (199, (.iload_n 2, 1)), (200, (.iaload, 1)), (201, (.iastore, 1)), (202, (.iconst 0, 1)), (203, (.istore_n 3, 1)), (204, (.iload_n 3, 1)), (205, (.aload_n 0, 1))]
set_option maxRecDepth 100000 in
theorem da_X12_begin_1 : dl_X12_begin_1.all (fun q => decide (decode cX12_begin q.1 = .ok q.2)) = true := by decide +kernel
theorem dX12_begin_105 : decode cX12_begin 105 = .ok (.iload_n 1, 1) := dec_of da_X12_begin_1 (k := 0) rfl
theorem dX12_begin_106 : decode cX12_begin 106 = .ok (.iaload, 1) := dec_of da_X12_begin_1 (k := 1) rfl
theorem dX12_begin_107 : decode cX12_begin 107 = .ok (.ifCond .ne 16, 3) := dec_of da_X12_begin_1 (k := 2) rfl
theorem dX12_begin_110 : decode cX12_begin 110 = .ok (.aload_n 0, 1) := dec_of da_X12_begin_1 (k := 3) rfl
theorem dX12_begin_111 : decode cX12_begin 111 = .ok (.getfield 178, 3) := dec_of da_X12_begin_1 (k := 4) rfl
theorem dX12_begin_114 : decode cX12_begin 114 = .ok (.iconst 3, 1) := dec_of da_X12_begin_1 (k := 5) rfl
theorem dX12_begin_115 : decode cX12_begin 115 = .ok (.if_icmp .lt 8, 3) := dec_of da_X12_begin_1 (k := 6) rfl
theorem dX12_begin_118 : decode cX12_begin 118 = .ok (.aload_n 0, 1) := dec_of da_X12_begin_1 (k := 7) rfl
theorem dX12_begin_119 : decode cX12_begin 119 = .ok (.iload_n 1, 1) := dec_of da_X12_begin_1 (k := 8) rfl
theorem dX12_begin_120 : decode cX12_begin 120 = .ok (.invokevirtual 473, 3) := dec_of da_X12_begin_1 (k := 9) rfl
theorem dX12_begin_123 : decode cX12_begin 123 = .ok (.iinc 1 1, 3) := dec_of da_X12_begin_1 (k := 10) rfl
theorem dX12_begin_126 : decode cX12_begin 126 = .ok (.goto (-124), 3) := dec_of da_X12_begin_1 (k := 11) rfl
theorem dX12_begin_129 : decode cX12_begin 129 = .ok (.iconst 0, 1) := dec_of da_X12_begin_1 (k := 12) rfl
theorem dX12_begin_130 : decode cX12_begin 130 = .ok (.istore_n 1, 1) := dec_of da_X12_begin_1 (k := 13) rfl
theorem dX12_begin_131 : decode cX12_begin 131 = .ok (.iconst 0, 1) := dec_of da_X12_begin_1 (k := 14) rfl
theorem dX12_begin_132 : decode cX12_begin 132 = .ok (.istore_n 2, 1) := dec_of da_X12_begin_1 (k := 15) rfl
theorem dX12_begin_133 : decode cX12_begin 133 = .ok (.iload_n 2, 1) := dec_of da_X12_begin_1 (k := 16) rfl
theorem dX12_begin_134 : decode cX12_begin 134 = .ok (.aload_n 0, 1) := dec_of da_X12_begin_1 (k := 17) rfl
theorem dX12_begin_135 : decode cX12_begin 135 = .ok (.getfield 476, 3) := dec_of da_X12_begin_1 (k := 18) rfl
theorem dX12_begin_138 : decode cX12_begin 138 = .ok (.if_icmp .ge 115, 3) := dec_of da_X12_begin_1 (k := 19) rfl
theorem dX12_begin_141 : decode cX12_begin 141 = .ok (.aload_n 0, 1) := dec_of da_X12_begin_1 (k := 20) rfl
theorem dX12_begin_142 : decode cX12_begin 142 = .ok (.getfield 242, 3) := dec_of da_X12_begin_1 (k := 21) rfl
theorem dX12_begin_145 : decode cX12_begin 145 = .ok (.iload_n 2, 1) := dec_of da_X12_begin_1 (k := 22) rfl
theorem dX12_begin_146 : decode cX12_begin 146 = .ok (.iaload, 1) := dec_of da_X12_begin_1 (k := 23) rfl
theorem dX12_begin_147 : decode cX12_begin 147 = .ok (.aload_n 0, 1) := dec_of da_X12_begin_1 (k := 24) rfl
theorem dX12_begin_148 : decode cX12_begin 148 = .ok (.getfield 454, 3) := dec_of da_X12_begin_1 (k := 25) rfl
theorem dX12_begin_151 : decode cX12_begin 151 = .ok (.if_icmp .ne 27, 3) := dec_of da_X12_begin_1 (k := 26) rfl
theorem dX12_begin_154 : decode cX12_begin 154 = .ok (.aload_n 0, 1) := dec_of da_X12_begin_1 (k := 27) rfl
theorem dX12_begin_155 : decode cX12_begin 155 = .ok (.bipush 9, 2) := dec_of da_X12_begin_1 (k := 28) rfl
theorem dX12_begin_157 : decode cX12_begin 157 = .ok (.aload_n 0, 1) := dec_of da_X12_begin_1 (k := 29) rfl
theorem dX12_begin_158 : decode cX12_begin 158 = .ok (.getfield 248, 3) := dec_of da_X12_begin_1 (k := 30) rfl
theorem dX12_begin_161 : decode cX12_begin 161 = .ok (.sipush 300, 3) := dec_of da_X12_begin_1 (k := 31) rfl
theorem dX12_begin_164 : decode cX12_begin 164 = .ok (.iload_n 2, 1) := dec_of da_X12_begin_1 (k := 32) rfl
theorem dX12_begin_165 : decode cX12_begin 165 = .ok (.imul, 1) := dec_of da_X12_begin_1 (k := 33) rfl
theorem dX12_begin_166 : decode cX12_begin 166 = .ok (.aload_n 0, 1) := dec_of da_X12_begin_1 (k := 34) rfl
theorem dX12_begin_167 : decode cX12_begin 167 = .ok (.getfield 245, 3) := dec_of da_X12_begin_1 (k := 35) rfl
theorem dX12_begin_170 : decode cX12_begin 170 = .ok (.iload_n 2, 1) := dec_of da_X12_begin_1 (k := 36) rfl
theorem dX12_begin_171 : decode cX12_begin 171 = .ok (.iaload, 1) := dec_of da_X12_begin_1 (k := 37) rfl
theorem dX12_begin_172 : decode cX12_begin 172 = .ok (.invokevirtual 460, 3) := dec_of da_X12_begin_1 (k := 38) rfl
theorem dX12_begin_175 : decode cX12_begin 175 = .ok (.goto 72, 3) := dec_of da_X12_begin_1 (k := 39) rfl
theorem dX12_begin_178 : decode cX12_begin 178 = .ok (.aload_n 0, 1) := dec_of da_X12_begin_1 (k := 40) rfl
theorem dX12_begin_179 : decode cX12_begin 179 = .ok (.getfield 242, 3) := dec_of da_X12_begin_1 (k := 41) rfl
theorem dX12_begin_182 : decode cX12_begin 182 = .ok (.iload_n 1, 1) := dec_of da_X12_begin_1 (k := 42) rfl
theorem dX12_begin_183 : decode cX12_begin 183 = .ok (.aload_n 0, 1) := dec_of da_X12_begin_1 (k := 43) rfl
theorem dX12_begin_184 : decode cX12_begin 184 = .ok (.getfield 242, 3) := dec_of da_X12_begin_1 (k := 44) rfl
theorem dX12_begin_187 : decode cX12_begin 187 = .ok (.iload_n 2, 1) := dec_of da_X12_begin_1 (k := 45) rfl
theorem dX12_begin_188 : decode cX12_begin 188 = .ok (.iaload, 1) := dec_of da_X12_begin_1 (k := 46) rfl
theorem dX12_begin_189 : decode cX12_begin 189 = .ok (.iastore, 1) := dec_of da_X12_begin_1 (k := 47) rfl
theorem dX12_begin_190 : decode cX12_begin 190 = .ok (.aload_n 0, 1) := dec_of da_X12_begin_1 (k := 48) rfl
theorem dX12_begin_191 : decode cX12_begin 191 = .ok (.getfield 245, 3) := dec_of da_X12_begin_1 (k := 49) rfl
theorem dX12_begin_194 : decode cX12_begin 194 = .ok (.iload_n 1, 1) := dec_of da_X12_begin_1 (k := 50) rfl
theorem dX12_begin_195 : decode cX12_begin 195 = .ok (.aload_n 0, 1) := dec_of da_X12_begin_1 (k := 51) rfl
theorem dX12_begin_196 : decode cX12_begin 196 = .ok (.getfield 245, 3) := dec_of da_X12_begin_1 (k := 52) rfl
theorem dX12_begin_199 : decode cX12_begin 199 = .ok (.iload_n 2, 1) := dec_of da_X12_begin_1 (k := 53) rfl
theorem dX12_begin_200 : decode cX12_begin 200 = .ok (.iaload, 1) := dec_of da_X12_begin_1 (k := 54) rfl
theorem dX12_begin_201 : decode cX12_begin 201 = .ok (.iastore, 1) := dec_of da_X12_begin_1 (k := 55) rfl
theorem dX12_begin_202 : decode cX12_begin 202 = .ok (.iconst 0, 1) := dec_of da_X12_begin_1 (k := 56) rfl
theorem dX12_begin_203 : decode cX12_begin 203 = .ok (.istore_n 3, 1) := dec_of da_X12_begin_1 (k := 57) rfl
theorem dX12_begin_204 : decode cX12_begin 204 = .ok (.iload_n 3, 1) := dec_of da_X12_begin_1 (k := 58) rfl
theorem dX12_begin_205 : decode cX12_begin 205 = .ok (.aload_n 0, 1) := dec_of da_X12_begin_1 (k := 59) rfl
def dl_X12_begin_2 : List (Nat × (Instr × Nat)) := [(206, (.getfield 245, 3)), (209, (.iload_n 2, 1)), (210, (.iaload, 1)), (211, (.if_icmp .ge 33, 3)), (214, (.aload_n 0, 1)), (215, (.getfield 248, 3)), (218, (.sipush 300, 3)), (221, (.iload_n 1, 1)), (222, (.imul, 1)), (223, (.iload_n 3, 1)), (224, (.iadd, 1)), (225, (.aload_n 0, 1)), (226, (.getfield 248, 3)), (229, (.sipush 300, 3)), (232, (.iload_n 2, 1)), (233, (.imul, 1)), (234, (.iload_n 3, 1)), (235, (.iadd, 1)), (236, (.iaload, 1)), (237, (.iastore, 1)), (238, (.iinc 3 1, 3)), (241, (.goto (-37), 3)), (244, (.iinc 1 1, 3)), (247, (.iinc 2 1, 3)), (250, (.goto (-117), 3)), (253, (.aload_n 0, 1)), (254, (.iload_n 1, 1)), (255, (.putfield 476, 3)), (258, (.return_, 1))]
set_option maxRecDepth 100000 in
theorem da_X12_begin_2 : dl_X12_begin_2.all (fun q => decide (decode cX12_begin q.1 = .ok q.2)) = true := by decide +kernel
theorem dX12_begin_206 : decode cX12_begin 206 = .ok (.getfield 245, 3) := dec_of da_X12_begin_2 (k := 0) rfl
theorem dX12_begin_209 : decode cX12_begin 209 = .ok (.iload_n 2, 1) := dec_of da_X12_begin_2 (k := 1) rfl
theorem dX12_begin_210 : decode cX12_begin 210 = .ok (.iaload, 1) := dec_of da_X12_begin_2 (k := 2) rfl
theorem dX12_begin_211 : decode cX12_begin 211 = .ok (.if_icmp .ge 33, 3) := dec_of da_X12_begin_2 (k := 3) rfl
theorem dX12_begin_214 : decode cX12_begin 214 = .ok (.aload_n 0, 1) := dec_of da_X12_begin_2 (k := 4) rfl
theorem dX12_begin_215 : decode cX12_begin 215 = .ok (.getfield 248, 3) := dec_of da_X12_begin_2 (k := 5) rfl
theorem dX12_begin_218 : decode cX12_begin 218 = .ok (.sipush 300, 3) := dec_of da_X12_begin_2 (k := 6) rfl
theorem dX12_begin_221 : decode cX12_begin 221 = .ok (.iload_n 1, 1) := dec_of da_X12_begin_2 (k := 7) rfl
theorem dX12_begin_222 : decode cX12_begin 222 = .ok (.imul, 1) := dec_of da_X12_begin_2 (k := 8) rfl
theorem dX12_begin_223 : decode cX12_begin 223 = .ok (.iload_n 3, 1) := dec_of da_X12_begin_2 (k := 9) rfl
theorem dX12_begin_224 : decode cX12_begin 224 = .ok (.iadd, 1) := dec_of da_X12_begin_2 (k := 10) rfl
theorem dX12_begin_225 : decode cX12_begin 225 = .ok (.aload_n 0, 1) := dec_of da_X12_begin_2 (k := 11) rfl
theorem dX12_begin_226 : decode cX12_begin 226 = .ok (.getfield 248, 3) := dec_of da_X12_begin_2 (k := 12) rfl
theorem dX12_begin_229 : decode cX12_begin 229 = .ok (.sipush 300, 3) := dec_of da_X12_begin_2 (k := 13) rfl
theorem dX12_begin_232 : decode cX12_begin 232 = .ok (.iload_n 2, 1) := dec_of da_X12_begin_2 (k := 14) rfl
theorem dX12_begin_233 : decode cX12_begin 233 = .ok (.imul, 1) := dec_of da_X12_begin_2 (k := 15) rfl
theorem dX12_begin_234 : decode cX12_begin 234 = .ok (.iload_n 3, 1) := dec_of da_X12_begin_2 (k := 16) rfl
theorem dX12_begin_235 : decode cX12_begin 235 = .ok (.iadd, 1) := dec_of da_X12_begin_2 (k := 17) rfl
theorem dX12_begin_236 : decode cX12_begin 236 = .ok (.iaload, 1) := dec_of da_X12_begin_2 (k := 18) rfl
theorem dX12_begin_237 : decode cX12_begin 237 = .ok (.iastore, 1) := dec_of da_X12_begin_2 (k := 19) rfl
theorem dX12_begin_238 : decode cX12_begin 238 = .ok (.iinc 3 1, 3) := dec_of da_X12_begin_2 (k := 20) rfl
theorem dX12_begin_241 : decode cX12_begin 241 = .ok (.goto (-37), 3) := dec_of da_X12_begin_2 (k := 21) rfl
theorem dX12_begin_244 : decode cX12_begin 244 = .ok (.iinc 1 1, 3) := dec_of da_X12_begin_2 (k := 22) rfl
theorem dX12_begin_247 : decode cX12_begin 247 = .ok (.iinc 2 1, 3) := dec_of da_X12_begin_2 (k := 23) rfl
theorem dX12_begin_250 : decode cX12_begin 250 = .ok (.goto (-117), 3) := dec_of da_X12_begin_2 (k := 24) rfl
theorem dX12_begin_253 : decode cX12_begin 253 = .ok (.aload_n 0, 1) := dec_of da_X12_begin_2 (k := 25) rfl
theorem dX12_begin_254 : decode cX12_begin 254 = .ok (.iload_n 1, 1) := dec_of da_X12_begin_2 (k := 26) rfl
theorem dX12_begin_255 : decode cX12_begin 255 = .ok (.putfield 476, 3) := dec_of da_X12_begin_2 (k := 27) rfl
theorem dX12_begin_258 : decode cX12_begin 258 = .ok (.return_, 1) := dec_of da_X12_begin_2 (k := 28) rfl
def dl_X12_isNoisy_0 : List (Nat × (Instr × Nat)) := [(0, (.iconst 0, 1)), (1, (.istore_n 1, 1)), (2, (.iconst 0, 1)), (3, (.istore_n 2, 1)), (4, (.iload_n 2, 1)), (5, (.aload_n 0, 1)), (6, (.getfield 479, 3)), (9, (.if_icmp .ge 44, 3)), (12, (.iload_n 1, 1)), (13, (.ifCond .ne 28, 3)), (16, (.aload_n 0, 1)), (17, (.getfield 454, 3)), (20, (.i2l, 1)), (21, (.aload_n 0, 1)), (22, (.getfield 236, 3)), (25, (.iload_n 2, 1)), (26, (.iaload, 1)), (27, (.i2l, 1)), (28, (.aload_n 0, 1)), (29, (.getfield 239, 3)), (32, (.iload_n 2, 1)), (33, (.iaload, 1)), (34, (.i2l, 1)), (35, (.invokestatic 354, 3)), (38, (.ifCond .eq 7, 3)), (41, (.iconst 1, 1)), (42, (.goto 4, 3)), (45, (.iconst 0, 1)), (46, (.istore_n 1, 1)), (47, (.iinc 2 1, 3)), (50, (.goto (-46), 3)), (53, (.iload_n 1, 1)), (54, (.ireturn, 1))]
set_option maxRecDepth 100000 in
theorem da_X12_isNoisy_0 : dl_X12_isNoisy_0.all (fun q => decide (decode cX12_isNoisy q.1 = .ok q.2)) = true := by decide +kernel
theorem dX12_isNoisy_0 : decode cX12_isNoisy 0 = .ok (.iconst 0, 1) := dec_of da_X12_isNoisy_0 (k := 0) rfl
theorem dX12_isNoisy_1 : decode cX12_isNoisy 1 = .ok (.istore_n 1, 1) := dec_of da_X12_isNoisy_0 (k := 1) rfl
theorem dX12_isNoisy_2 : decode cX12_isNoisy 2 = .ok (.iconst 0, 1) := dec_of da_X12_isNoisy_0 (k := 2) rfl
theorem dX12_isNoisy_3 : decode cX12_isNoisy 3 = .ok (.istore_n 2, 1) := dec_of da_X12_isNoisy_0 (k := 3) rfl
theorem dX12_isNoisy_4 : decode cX12_isNoisy 4 = .ok (.iload_n 2, 1) := dec_of da_X12_isNoisy_0 (k := 4) rfl
theorem dX12_isNoisy_5 : decode cX12_isNoisy 5 = .ok (.aload_n 0, 1) := dec_of da_X12_isNoisy_0 (k := 5) rfl
theorem dX12_isNoisy_6 : decode cX12_isNoisy 6 = .ok (.getfield 479, 3) := dec_of da_X12_isNoisy_0 (k := 6) rfl
theorem dX12_isNoisy_9 : decode cX12_isNoisy 9 = .ok (.if_icmp .ge 44, 3) := dec_of da_X12_isNoisy_0 (k := 7) rfl
theorem dX12_isNoisy_12 : decode cX12_isNoisy 12 = .ok (.iload_n 1, 1) := dec_of da_X12_isNoisy_0 (k := 8) rfl
theorem dX12_isNoisy_13 : decode cX12_isNoisy 13 = .ok (.ifCond .ne 28, 3) := dec_of da_X12_isNoisy_0 (k := 9) rfl
theorem dX12_isNoisy_16 : decode cX12_isNoisy 16 = .ok (.aload_n 0, 1) := dec_of da_X12_isNoisy_0 (k := 10) rfl
theorem dX12_isNoisy_17 : decode cX12_isNoisy 17 = .ok (.getfield 454, 3) := dec_of da_X12_isNoisy_0 (k := 11) rfl
theorem dX12_isNoisy_20 : decode cX12_isNoisy 20 = .ok (.i2l, 1) := dec_of da_X12_isNoisy_0 (k := 12) rfl
theorem dX12_isNoisy_21 : decode cX12_isNoisy 21 = .ok (.aload_n 0, 1) := dec_of da_X12_isNoisy_0 (k := 13) rfl
theorem dX12_isNoisy_22 : decode cX12_isNoisy 22 = .ok (.getfield 236, 3) := dec_of da_X12_isNoisy_0 (k := 14) rfl
theorem dX12_isNoisy_25 : decode cX12_isNoisy 25 = .ok (.iload_n 2, 1) := dec_of da_X12_isNoisy_0 (k := 15) rfl
theorem dX12_isNoisy_26 : decode cX12_isNoisy 26 = .ok (.iaload, 1) := dec_of da_X12_isNoisy_0 (k := 16) rfl
theorem dX12_isNoisy_27 : decode cX12_isNoisy 27 = .ok (.i2l, 1) := dec_of da_X12_isNoisy_0 (k := 17) rfl
theorem dX12_isNoisy_28 : decode cX12_isNoisy 28 = .ok (.aload_n 0, 1) := dec_of da_X12_isNoisy_0 (k := 18) rfl
theorem dX12_isNoisy_29 : decode cX12_isNoisy 29 = .ok (.getfield 239, 3) := dec_of da_X12_isNoisy_0 (k := 19) rfl
theorem dX12_isNoisy_32 : decode cX12_isNoisy 32 = .ok (.iload_n 2, 1) := dec_of da_X12_isNoisy_0 (k := 20) rfl
theorem dX12_isNoisy_33 : decode cX12_isNoisy 33 = .ok (.iaload, 1) := dec_of da_X12_isNoisy_0 (k := 21) rfl
theorem dX12_isNoisy_34 : decode cX12_isNoisy 34 = .ok (.i2l, 1) := dec_of da_X12_isNoisy_0 (k := 22) rfl
theorem dX12_isNoisy_35 : decode cX12_isNoisy 35 = .ok (.invokestatic 354, 3) := dec_of da_X12_isNoisy_0 (k := 23) rfl
theorem dX12_isNoisy_38 : decode cX12_isNoisy 38 = .ok (.ifCond .eq 7, 3) := dec_of da_X12_isNoisy_0 (k := 24) rfl
theorem dX12_isNoisy_41 : decode cX12_isNoisy 41 = .ok (.iconst 1, 1) := dec_of da_X12_isNoisy_0 (k := 25) rfl
theorem dX12_isNoisy_42 : decode cX12_isNoisy 42 = .ok (.goto 4, 3) := dec_of da_X12_isNoisy_0 (k := 26) rfl
theorem dX12_isNoisy_45 : decode cX12_isNoisy 45 = .ok (.iconst 0, 1) := dec_of da_X12_isNoisy_0 (k := 27) rfl
theorem dX12_isNoisy_46 : decode cX12_isNoisy 46 = .ok (.istore_n 1, 1) := dec_of da_X12_isNoisy_0 (k := 28) rfl
theorem dX12_isNoisy_47 : decode cX12_isNoisy 47 = .ok (.iinc 2 1, 3) := dec_of da_X12_isNoisy_0 (k := 29) rfl
theorem dX12_isNoisy_50 : decode cX12_isNoisy 50 = .ok (.goto (-46), 3) := dec_of da_X12_isNoisy_0 (k := 30) rfl
theorem dX12_isNoisy_53 : decode cX12_isNoisy 53 = .ok (.iload_n 1, 1) := dec_of da_X12_isNoisy_0 (k := 31) rfl
theorem dX12_isNoisy_54 : decode cX12_isNoisy 54 = .ok (.ireturn, 1) := dec_of da_X12_isNoisy_0 (k := 32) rfl
def dl_X12_over_0 : List (Nat × (Instr × Nat)) := [(0, (.aload_n 0, 1)), (1, (.getfield 199, 3)), (4, (.iload_n 1, 1)), (5, (.iaload, 1)), (6, (.istore_n 2, 1)), (7, (.aload_n 0, 1)), (8, (.getfield 208, 3)), (11, (.iload_n 1, 1)), (12, (.baload, 1)), (13, (.istore_n 3, 1)), (14, (.aload_n 0, 1)), (15, (.getfield 211, 3)), (18, (.iload_n 1, 1)), (19, (.iaload, 1)), (20, (.istore 4, 2)), (22, (.aload_n 0, 1)), (23, (.aload_n 0, 1)), (24, (.getfield 205, 3)), (27, (.iload_n 1, 1)), (28, (.iaload, 1)), (29, (.putfield 482, 3)), (32, (.iconst 0, 1)), (33, (.istore 5, 2)), (35, (.iload 5, 2)), (37, (.aload_n 0, 1)), (38, (.getfield 482, 3)), (41, (.if_icmp .ge 29, 3)), (44, (.aload_n 0, 1)), (45, (.getfield 254, 3)), (48, (.iload 5, 2)), (50, (.aload_n 0, 1)), (51, (.getfield 215, 3)), (54, (.sipush 300, 3)), (57, (.iload_n 1, 1)), (58, (.imul, 1)), (59, (.iload 5, 2)), (61, (.iadd, 1)), (62, (.iaload, 1)), (63, (.iastore, 1)), (64, (.iinc 5 1, 3)), (67, (.goto (-32), 3)), (70, (.aload_n 0, 1)), (71, (.getfield 457, 3)), (74, (.iload 4, 2)), (76, (.isub, 1)), (77, (.bipush 40, 2)), (79, (.if_icmp .gt 22, 3)), (82, (.aload_n 0, 1)), (83, (.getfield 230, 3)), (86, (.iload 4, 2)), (88, (.bipush 40, 2)), (90, (.irem, 1)), (91, (.iload_n 3, 1)), (92, (.ifCond .eq 7, 3)), (95, (.iconst 1, 1)), (96, (.goto 4, 3)), (99, (.iconst 0, 1)), (100, (.iastore, 1)), (101, (.aload_n 0, 1)), (102, (.dup, 1))]
set_option maxRecDepth 100000 in
theorem da_X12_over_0 : dl_X12_over_0.all (fun q => decide (decode cX12_over q.1 = .ok q.2)) = true := by decide +kernel
theorem dX12_over_0 : decode cX12_over 0 = .ok (.aload_n 0, 1) := dec_of da_X12_over_0 (k := 0) rfl
theorem dX12_over_1 : decode cX12_over 1 = .ok (.getfield 199, 3) := dec_of da_X12_over_0 (k := 1) rfl
theorem dX12_over_4 : decode cX12_over 4 = .ok (.iload_n 1, 1) := dec_of da_X12_over_0 (k := 2) rfl
theorem dX12_over_5 : decode cX12_over 5 = .ok (.iaload, 1) := dec_of da_X12_over_0 (k := 3) rfl
theorem dX12_over_6 : decode cX12_over 6 = .ok (.istore_n 2, 1) := dec_of da_X12_over_0 (k := 4) rfl
theorem dX12_over_7 : decode cX12_over 7 = .ok (.aload_n 0, 1) := dec_of da_X12_over_0 (k := 5) rfl
theorem dX12_over_8 : decode cX12_over 8 = .ok (.getfield 208, 3) := dec_of da_X12_over_0 (k := 6) rfl
theorem dX12_over_11 : decode cX12_over 11 = .ok (.iload_n 1, 1) := dec_of da_X12_over_0 (k := 7) rfl
theorem dX12_over_12 : decode cX12_over 12 = .ok (.baload, 1) := dec_of da_X12_over_0 (k := 8) rfl
theorem dX12_over_13 : decode cX12_over 13 = .ok (.istore_n 3, 1) := dec_of da_X12_over_0 (k := 9) rfl
theorem dX12_over_14 : decode cX12_over 14 = .ok (.aload_n 0, 1) := dec_of da_X12_over_0 (k := 10) rfl
theorem dX12_over_15 : decode cX12_over 15 = .ok (.getfield 211, 3) := dec_of da_X12_over_0 (k := 11) rfl
theorem dX12_over_18 : decode cX12_over 18 = .ok (.iload_n 1, 1) := dec_of da_X12_over_0 (k := 12) rfl
theorem dX12_over_19 : decode cX12_over 19 = .ok (.iaload, 1) := dec_of da_X12_over_0 (k := 13) rfl
theorem dX12_over_20 : decode cX12_over 20 = .ok (.istore 4, 2) := dec_of da_X12_over_0 (k := 14) rfl
theorem dX12_over_22 : decode cX12_over 22 = .ok (.aload_n 0, 1) := dec_of da_X12_over_0 (k := 15) rfl
theorem dX12_over_23 : decode cX12_over 23 = .ok (.aload_n 0, 1) := dec_of da_X12_over_0 (k := 16) rfl
theorem dX12_over_24 : decode cX12_over 24 = .ok (.getfield 205, 3) := dec_of da_X12_over_0 (k := 17) rfl
theorem dX12_over_27 : decode cX12_over 27 = .ok (.iload_n 1, 1) := dec_of da_X12_over_0 (k := 18) rfl
theorem dX12_over_28 : decode cX12_over 28 = .ok (.iaload, 1) := dec_of da_X12_over_0 (k := 19) rfl
theorem dX12_over_29 : decode cX12_over 29 = .ok (.putfield 482, 3) := dec_of da_X12_over_0 (k := 20) rfl
theorem dX12_over_32 : decode cX12_over 32 = .ok (.iconst 0, 1) := dec_of da_X12_over_0 (k := 21) rfl
theorem dX12_over_33 : decode cX12_over 33 = .ok (.istore 5, 2) := dec_of da_X12_over_0 (k := 22) rfl
theorem dX12_over_35 : decode cX12_over 35 = .ok (.iload 5, 2) := dec_of da_X12_over_0 (k := 23) rfl
theorem dX12_over_37 : decode cX12_over 37 = .ok (.aload_n 0, 1) := dec_of da_X12_over_0 (k := 24) rfl
theorem dX12_over_38 : decode cX12_over 38 = .ok (.getfield 482, 3) := dec_of da_X12_over_0 (k := 25) rfl
theorem dX12_over_41 : decode cX12_over 41 = .ok (.if_icmp .ge 29, 3) := dec_of da_X12_over_0 (k := 26) rfl
theorem dX12_over_44 : decode cX12_over 44 = .ok (.aload_n 0, 1) := dec_of da_X12_over_0 (k := 27) rfl
theorem dX12_over_45 : decode cX12_over 45 = .ok (.getfield 254, 3) := dec_of da_X12_over_0 (k := 28) rfl
theorem dX12_over_48 : decode cX12_over 48 = .ok (.iload 5, 2) := dec_of da_X12_over_0 (k := 29) rfl
theorem dX12_over_50 : decode cX12_over 50 = .ok (.aload_n 0, 1) := dec_of da_X12_over_0 (k := 30) rfl
theorem dX12_over_51 : decode cX12_over 51 = .ok (.getfield 215, 3) := dec_of da_X12_over_0 (k := 31) rfl
theorem dX12_over_54 : decode cX12_over 54 = .ok (.sipush 300, 3) := dec_of da_X12_over_0 (k := 32) rfl
theorem dX12_over_57 : decode cX12_over 57 = .ok (.iload_n 1, 1) := dec_of da_X12_over_0 (k := 33) rfl
theorem dX12_over_58 : decode cX12_over 58 = .ok (.imul, 1) := dec_of da_X12_over_0 (k := 34) rfl
theorem dX12_over_59 : decode cX12_over 59 = .ok (.iload 5, 2) := dec_of da_X12_over_0 (k := 35) rfl
theorem dX12_over_61 : decode cX12_over 61 = .ok (.iadd, 1) := dec_of da_X12_over_0 (k := 36) rfl
theorem dX12_over_62 : decode cX12_over 62 = .ok (.iaload, 1) := dec_of da_X12_over_0 (k := 37) rfl
theorem dX12_over_63 : decode cX12_over 63 = .ok (.iastore, 1) := dec_of da_X12_over_0 (k := 38) rfl
theorem dX12_over_64 : decode cX12_over 64 = .ok (.iinc 5 1, 3) := dec_of da_X12_over_0 (k := 39) rfl
theorem dX12_over_67 : decode cX12_over 67 = .ok (.goto (-32), 3) := dec_of da_X12_over_0 (k := 40) rfl
theorem dX12_over_70 : decode cX12_over 70 = .ok (.aload_n 0, 1) := dec_of da_X12_over_0 (k := 41) rfl
theorem dX12_over_71 : decode cX12_over 71 = .ok (.getfield 457, 3) := dec_of da_X12_over_0 (k := 42) rfl
theorem dX12_over_74 : decode cX12_over 74 = .ok (.iload 4, 2) := dec_of da_X12_over_0 (k := 43) rfl
theorem dX12_over_76 : decode cX12_over 76 = .ok (.isub, 1) := dec_of da_X12_over_0 (k := 44) rfl
theorem dX12_over_77 : decode cX12_over 77 = .ok (.bipush 40, 2) := dec_of da_X12_over_0 (k := 45) rfl
theorem dX12_over_79 : decode cX12_over 79 = .ok (.if_icmp .gt 22, 3) := dec_of da_X12_over_0 (k := 46) rfl
theorem dX12_over_82 : decode cX12_over 82 = .ok (.aload_n 0, 1) := dec_of da_X12_over_0 (k := 47) rfl
theorem dX12_over_83 : decode cX12_over 83 = .ok (.getfield 230, 3) := dec_of da_X12_over_0 (k := 48) rfl
theorem dX12_over_86 : decode cX12_over 86 = .ok (.iload 4, 2) := dec_of da_X12_over_0 (k := 49) rfl
theorem dX12_over_88 : decode cX12_over 88 = .ok (.bipush 40, 2) := dec_of da_X12_over_0 (k := 50) rfl
theorem dX12_over_90 : decode cX12_over 90 = .ok (.irem, 1) := dec_of da_X12_over_0 (k := 51) rfl
theorem dX12_over_91 : decode cX12_over 91 = .ok (.iload_n 3, 1) := dec_of da_X12_over_0 (k := 52) rfl
theorem dX12_over_92 : decode cX12_over 92 = .ok (.ifCond .eq 7, 3) := dec_of da_X12_over_0 (k := 53) rfl
theorem dX12_over_95 : decode cX12_over 95 = .ok (.iconst 1, 1) := dec_of da_X12_over_0 (k := 54) rfl
theorem dX12_over_96 : decode cX12_over 96 = .ok (.goto 4, 3) := dec_of da_X12_over_0 (k := 55) rfl
theorem dX12_over_99 : decode cX12_over 99 = .ok (.iconst 0, 1) := dec_of da_X12_over_0 (k := 56) rfl
theorem dX12_over_100 : decode cX12_over 100 = .ok (.iastore, 1) := dec_of da_X12_over_0 (k := 57) rfl
theorem dX12_over_101 : decode cX12_over 101 = .ok (.aload_n 0, 1) := dec_of da_X12_over_0 (k := 58) rfl
theorem dX12_over_102 : decode cX12_over 102 = .ok (.dup, 1) := dec_of da_X12_over_0 (k := 59) rfl
def dl_X12_over_1 : List (Nat × (Instr × Nat)) := [(103, (.getfield 485, 3)), (106, (.iload_n 3, 1)), (107, (.ifCond .eq 7, 3)), (110, (.iconst 0, 1)), (111, (.goto 4, 3)), (114, (.iconst 1, 1)), (115, (.iadd, 1)), (116, (.putfield 485, 3)), (119, (.iload_n 2, 1)), (120, (.bipush 9, 2)), (122, (.if_icmp .ge 48, 3)), (125, (.aload_n 0, 1)), (126, (.getfield 181, 3)), (129, (.iload_n 2, 1)), (130, (.iconst (-1), 1)), (131, (.iastore, 1)), (132, (.aload_n 0, 1)), (133, (.getfield 254, 3)), (136, (.iconst 0, 1)), (137, (.iaload, 1)), (138, (.sipush 212, 3)), (141, (.if_icmp .ne 12, 3)), (144, (.aload_n 0, 1)), (145, (.getfield 482, 3)), (148, (.bipush 14, 2)), (150, (.if_icmp .eq 20, 3)), (153, (.aload_n 0, 1)), (154, (.getfield 184, 3)), (157, (.iload_n 2, 1)), (158, (.iconst 1, 1)), (159, (.bastore, 1)), (160, (.aload_n 0, 1)), (161, (.getfield 187, 3)), (164, (.iload_n 2, 1)), (165, (.aload_n 0, 1)), (166, (.getfield 454, 3)), (169, (.iastore, 1)), (170, (.iconst 0, 1)), (171, (.istore 5, 2)), (173, (.iload 5, 2)), (175, (.bipush 9, 2)), (177, (.if_icmp .ge 25, 3)), (180, (.iload_n 3, 1)), (181, (.ifCond .eq 21, 3)), (184, (.iload 5, 2)), (186, (.iload_n 2, 1)), (187, (.if_icmp .eq 9, 3)), (190, (.aload_n 0, 1)), (191, (.iload 5, 2)), (193, (.invokevirtual 488, 3)), (196, (.iinc 5 1, 3)), (199, (.goto (-26), 3)), (202, (.return_, 1))]
set_option maxRecDepth 100000 in
theorem da_X12_over_1 : dl_X12_over_1.all (fun q => decide (decode cX12_over q.1 = .ok q.2)) = true := by decide +kernel
theorem dX12_over_103 : decode cX12_over 103 = .ok (.getfield 485, 3) := dec_of da_X12_over_1 (k := 0) rfl
theorem dX12_over_106 : decode cX12_over 106 = .ok (.iload_n 3, 1) := dec_of da_X12_over_1 (k := 1) rfl
theorem dX12_over_107 : decode cX12_over 107 = .ok (.ifCond .eq 7, 3) := dec_of da_X12_over_1 (k := 2) rfl
theorem dX12_over_110 : decode cX12_over 110 = .ok (.iconst 0, 1) := dec_of da_X12_over_1 (k := 3) rfl
theorem dX12_over_111 : decode cX12_over 111 = .ok (.goto 4, 3) := dec_of da_X12_over_1 (k := 4) rfl
theorem dX12_over_114 : decode cX12_over 114 = .ok (.iconst 1, 1) := dec_of da_X12_over_1 (k := 5) rfl
theorem dX12_over_115 : decode cX12_over 115 = .ok (.iadd, 1) := dec_of da_X12_over_1 (k := 6) rfl
theorem dX12_over_116 : decode cX12_over 116 = .ok (.putfield 485, 3) := dec_of da_X12_over_1 (k := 7) rfl
theorem dX12_over_119 : decode cX12_over 119 = .ok (.iload_n 2, 1) := dec_of da_X12_over_1 (k := 8) rfl
theorem dX12_over_120 : decode cX12_over 120 = .ok (.bipush 9, 2) := dec_of da_X12_over_1 (k := 9) rfl
theorem dX12_over_122 : decode cX12_over 122 = .ok (.if_icmp .ge 48, 3) := dec_of da_X12_over_1 (k := 10) rfl
theorem dX12_over_125 : decode cX12_over 125 = .ok (.aload_n 0, 1) := dec_of da_X12_over_1 (k := 11) rfl
theorem dX12_over_126 : decode cX12_over 126 = .ok (.getfield 181, 3) := dec_of da_X12_over_1 (k := 12) rfl
theorem dX12_over_129 : decode cX12_over 129 = .ok (.iload_n 2, 1) := dec_of da_X12_over_1 (k := 13) rfl
theorem dX12_over_130 : decode cX12_over 130 = .ok (.iconst (-1), 1) := dec_of da_X12_over_1 (k := 14) rfl
theorem dX12_over_131 : decode cX12_over 131 = .ok (.iastore, 1) := dec_of da_X12_over_1 (k := 15) rfl
theorem dX12_over_132 : decode cX12_over 132 = .ok (.aload_n 0, 1) := dec_of da_X12_over_1 (k := 16) rfl
theorem dX12_over_133 : decode cX12_over 133 = .ok (.getfield 254, 3) := dec_of da_X12_over_1 (k := 17) rfl
theorem dX12_over_136 : decode cX12_over 136 = .ok (.iconst 0, 1) := dec_of da_X12_over_1 (k := 18) rfl
theorem dX12_over_137 : decode cX12_over 137 = .ok (.iaload, 1) := dec_of da_X12_over_1 (k := 19) rfl
theorem dX12_over_138 : decode cX12_over 138 = .ok (.sipush 212, 3) := dec_of da_X12_over_1 (k := 20) rfl
theorem dX12_over_141 : decode cX12_over 141 = .ok (.if_icmp .ne 12, 3) := dec_of da_X12_over_1 (k := 21) rfl
theorem dX12_over_144 : decode cX12_over 144 = .ok (.aload_n 0, 1) := dec_of da_X12_over_1 (k := 22) rfl
theorem dX12_over_145 : decode cX12_over 145 = .ok (.getfield 482, 3) := dec_of da_X12_over_1 (k := 23) rfl
theorem dX12_over_148 : decode cX12_over 148 = .ok (.bipush 14, 2) := dec_of da_X12_over_1 (k := 24) rfl
theorem dX12_over_150 : decode cX12_over 150 = .ok (.if_icmp .eq 20, 3) := dec_of da_X12_over_1 (k := 25) rfl
theorem dX12_over_153 : decode cX12_over 153 = .ok (.aload_n 0, 1) := dec_of da_X12_over_1 (k := 26) rfl
theorem dX12_over_154 : decode cX12_over 154 = .ok (.getfield 184, 3) := dec_of da_X12_over_1 (k := 27) rfl
theorem dX12_over_157 : decode cX12_over 157 = .ok (.iload_n 2, 1) := dec_of da_X12_over_1 (k := 28) rfl
theorem dX12_over_158 : decode cX12_over 158 = .ok (.iconst 1, 1) := dec_of da_X12_over_1 (k := 29) rfl
theorem dX12_over_159 : decode cX12_over 159 = .ok (.bastore, 1) := dec_of da_X12_over_1 (k := 30) rfl
theorem dX12_over_160 : decode cX12_over 160 = .ok (.aload_n 0, 1) := dec_of da_X12_over_1 (k := 31) rfl
theorem dX12_over_161 : decode cX12_over 161 = .ok (.getfield 187, 3) := dec_of da_X12_over_1 (k := 32) rfl
theorem dX12_over_164 : decode cX12_over 164 = .ok (.iload_n 2, 1) := dec_of da_X12_over_1 (k := 33) rfl
theorem dX12_over_165 : decode cX12_over 165 = .ok (.aload_n 0, 1) := dec_of da_X12_over_1 (k := 34) rfl
theorem dX12_over_166 : decode cX12_over 166 = .ok (.getfield 454, 3) := dec_of da_X12_over_1 (k := 35) rfl
theorem dX12_over_169 : decode cX12_over 169 = .ok (.iastore, 1) := dec_of da_X12_over_1 (k := 36) rfl
theorem dX12_over_170 : decode cX12_over 170 = .ok (.iconst 0, 1) := dec_of da_X12_over_1 (k := 37) rfl
theorem dX12_over_171 : decode cX12_over 171 = .ok (.istore 5, 2) := dec_of da_X12_over_1 (k := 38) rfl
theorem dX12_over_173 : decode cX12_over 173 = .ok (.iload 5, 2) := dec_of da_X12_over_1 (k := 39) rfl
theorem dX12_over_175 : decode cX12_over 175 = .ok (.bipush 9, 2) := dec_of da_X12_over_1 (k := 40) rfl
theorem dX12_over_177 : decode cX12_over 177 = .ok (.if_icmp .ge 25, 3) := dec_of da_X12_over_1 (k := 41) rfl
theorem dX12_over_180 : decode cX12_over 180 = .ok (.iload_n 3, 1) := dec_of da_X12_over_1 (k := 42) rfl
theorem dX12_over_181 : decode cX12_over 181 = .ok (.ifCond .eq 21, 3) := dec_of da_X12_over_1 (k := 43) rfl
theorem dX12_over_184 : decode cX12_over 184 = .ok (.iload 5, 2) := dec_of da_X12_over_1 (k := 44) rfl
theorem dX12_over_186 : decode cX12_over 186 = .ok (.iload_n 2, 1) := dec_of da_X12_over_1 (k := 45) rfl
theorem dX12_over_187 : decode cX12_over 187 = .ok (.if_icmp .eq 9, 3) := dec_of da_X12_over_1 (k := 46) rfl
theorem dX12_over_190 : decode cX12_over 190 = .ok (.aload_n 0, 1) := dec_of da_X12_over_1 (k := 47) rfl
theorem dX12_over_191 : decode cX12_over 191 = .ok (.iload 5, 2) := dec_of da_X12_over_1 (k := 48) rfl
theorem dX12_over_193 : decode cX12_over 193 = .ok (.invokevirtual 488, 3) := dec_of da_X12_over_1 (k := 49) rfl
theorem dX12_over_196 : decode cX12_over 196 = .ok (.iinc 5 1, 3) := dec_of da_X12_over_1 (k := 50) rfl
theorem dX12_over_199 : decode cX12_over 199 = .ok (.goto (-26), 3) := dec_of da_X12_over_1 (k := 51) rfl
theorem dX12_over_202 : decode cX12_over 202 = .ok (.return_, 1) := dec_of da_X12_over_1 (k := 52) rfl
def dl_X12_endAll_0 : List (Nat × (Instr × Nat)) := [(0, (.iconst 0, 1)), (1, (.istore_n 1, 1)), (2, (.iload_n 1, 1)), (3, (.bipush 9, 2)), (5, (.if_icmp .ge 46, 3)), (8, (.aload_n 0, 1)), (9, (.getfield 181, 3)), (12, (.iload_n 1, 1)), (13, (.iaload, 1)), (14, (.ifCond .lt 31, 3)), (17, (.aload_n 0, 1)), (18, (.getfield 202, 3)), (21, (.aload_n 0, 1)), (22, (.getfield 181, 3)), (25, (.iload_n 1, 1)), (26, (.iaload, 1)), (27, (.iaload, 1)), (28, (.aload_n 0, 1)), (29, (.getfield 454, 3)), (32, (.if_icmp .ne 13, 3)), (35, (.aload_n 0, 1)), (36, (.aload_n 0, 1)), (37, (.getfield 181, 3)), (40, (.iload_n 1, 1)), (41, (.iaload, 1)), (42, (.invokevirtual 491, 3)), (45, (.iinc 1 1, 3)), (48, (.goto (-46), 3)), (51, (.iconst 0, 1)), (52, (.istore_n 1, 1)), (53, (.iload_n 1, 1)), (54, (.aload_n 0, 1)), (55, (.getfield 451, 3)), (58, (.if_icmp .ge 38, 3)), (61, (.aload_n 0, 1)), (62, (.getfield 199, 3)), (65, (.iload_n 1, 1)), (66, (.iaload, 1)), (67, (.bipush 9, 2)), (69, (.if_icmp .ne 21, 3)), (72, (.aload_n 0, 1)), (73, (.getfield 202, 3)), (76, (.iload_n 1, 1)), (77, (.iaload, 1)), (78, (.aload_n 0, 1)), (79, (.getfield 454, 3)), (82, (.if_icmp .ne 8, 3)), (85, (.aload_n 0, 1)), (86, (.iload_n 1, 1)), (87, (.invokevirtual 491, 3)), (90, (.iinc 1 1, 3)), (93, (.goto (-40), 3)), (96, (.iconst 0, 1)), (97, (.istore_n 1, 1)), (98, (.iconst 0, 1)), (99, (.istore_n 2, 1)), (100, (.iload_n 2, 1)), (101, (.aload_n 0, 1)), (102, (.getfield 451, 3)), (105, (.if_icmp .ge 39, 3))]
set_option maxRecDepth 100000 in
theorem da_X12_endAll_0 : dl_X12_endAll_0.all (fun q => decide (decode cX12_endAll q.1 = .ok q.2)) = true := by decide +kernel
theorem dX12_endAll_0 : decode cX12_endAll 0 = .ok (.iconst 0, 1) := dec_of da_X12_endAll_0 (k := 0) rfl
theorem dX12_endAll_1 : decode cX12_endAll 1 = .ok (.istore_n 1, 1) := dec_of da_X12_endAll_0 (k := 1) rfl
theorem dX12_endAll_2 : decode cX12_endAll 2 = .ok (.iload_n 1, 1) := dec_of da_X12_endAll_0 (k := 2) rfl
theorem dX12_endAll_3 : decode cX12_endAll 3 = .ok (.bipush 9, 2) := dec_of da_X12_endAll_0 (k := 3) rfl
theorem dX12_endAll_5 : decode cX12_endAll 5 = .ok (.if_icmp .ge 46, 3) := dec_of da_X12_endAll_0 (k := 4) rfl
theorem dX12_endAll_8 : decode cX12_endAll 8 = .ok (.aload_n 0, 1) := dec_of da_X12_endAll_0 (k := 5) rfl
theorem dX12_endAll_9 : decode cX12_endAll 9 = .ok (.getfield 181, 3) := dec_of da_X12_endAll_0 (k := 6) rfl
theorem dX12_endAll_12 : decode cX12_endAll 12 = .ok (.iload_n 1, 1) := dec_of da_X12_endAll_0 (k := 7) rfl
theorem dX12_endAll_13 : decode cX12_endAll 13 = .ok (.iaload, 1) := dec_of da_X12_endAll_0 (k := 8) rfl
theorem dX12_endAll_14 : decode cX12_endAll 14 = .ok (.ifCond .lt 31, 3) := dec_of da_X12_endAll_0 (k := 9) rfl
theorem dX12_endAll_17 : decode cX12_endAll 17 = .ok (.aload_n 0, 1) := dec_of da_X12_endAll_0 (k := 10) rfl
theorem dX12_endAll_18 : decode cX12_endAll 18 = .ok (.getfield 202, 3) := dec_of da_X12_endAll_0 (k := 11) rfl
theorem dX12_endAll_21 : decode cX12_endAll 21 = .ok (.aload_n 0, 1) := dec_of da_X12_endAll_0 (k := 12) rfl
theorem dX12_endAll_22 : decode cX12_endAll 22 = .ok (.getfield 181, 3) := dec_of da_X12_endAll_0 (k := 13) rfl
theorem dX12_endAll_25 : decode cX12_endAll 25 = .ok (.iload_n 1, 1) := dec_of da_X12_endAll_0 (k := 14) rfl
theorem dX12_endAll_26 : decode cX12_endAll 26 = .ok (.iaload, 1) := dec_of da_X12_endAll_0 (k := 15) rfl
theorem dX12_endAll_27 : decode cX12_endAll 27 = .ok (.iaload, 1) := dec_of da_X12_endAll_0 (k := 16) rfl
theorem dX12_endAll_28 : decode cX12_endAll 28 = .ok (.aload_n 0, 1) := dec_of da_X12_endAll_0 (k := 17) rfl
theorem dX12_endAll_29 : decode cX12_endAll 29 = .ok (.getfield 454, 3) := dec_of da_X12_endAll_0 (k := 18) rfl
theorem dX12_endAll_32 : decode cX12_endAll 32 = .ok (.if_icmp .ne 13, 3) := dec_of da_X12_endAll_0 (k := 19) rfl
theorem dX12_endAll_35 : decode cX12_endAll 35 = .ok (.aload_n 0, 1) := dec_of da_X12_endAll_0 (k := 20) rfl
theorem dX12_endAll_36 : decode cX12_endAll 36 = .ok (.aload_n 0, 1) := dec_of da_X12_endAll_0 (k := 21) rfl
theorem dX12_endAll_37 : decode cX12_endAll 37 = .ok (.getfield 181, 3) := dec_of da_X12_endAll_0 (k := 22) rfl
theorem dX12_endAll_40 : decode cX12_endAll 40 = .ok (.iload_n 1, 1) := dec_of da_X12_endAll_0 (k := 23) rfl
theorem dX12_endAll_41 : decode cX12_endAll 41 = .ok (.iaload, 1) := dec_of da_X12_endAll_0 (k := 24) rfl
theorem dX12_endAll_42 : decode cX12_endAll 42 = .ok (.invokevirtual 491, 3) := dec_of da_X12_endAll_0 (k := 25) rfl
theorem dX12_endAll_45 : decode cX12_endAll 45 = .ok (.iinc 1 1, 3) := dec_of da_X12_endAll_0 (k := 26) rfl
theorem dX12_endAll_48 : decode cX12_endAll 48 = .ok (.goto (-46), 3) := dec_of da_X12_endAll_0 (k := 27) rfl
theorem dX12_endAll_51 : decode cX12_endAll 51 = .ok (.iconst 0, 1) := dec_of da_X12_endAll_0 (k := 28) rfl
theorem dX12_endAll_52 : decode cX12_endAll 52 = .ok (.istore_n 1, 1) := dec_of da_X12_endAll_0 (k := 29) rfl
theorem dX12_endAll_53 : decode cX12_endAll 53 = .ok (.iload_n 1, 1) := dec_of da_X12_endAll_0 (k := 30) rfl
theorem dX12_endAll_54 : decode cX12_endAll 54 = .ok (.aload_n 0, 1) := dec_of da_X12_endAll_0 (k := 31) rfl
theorem dX12_endAll_55 : decode cX12_endAll 55 = .ok (.getfield 451, 3) := dec_of da_X12_endAll_0 (k := 32) rfl
theorem dX12_endAll_58 : decode cX12_endAll 58 = .ok (.if_icmp .ge 38, 3) := dec_of da_X12_endAll_0 (k := 33) rfl
theorem dX12_endAll_61 : decode cX12_endAll 61 = .ok (.aload_n 0, 1) := dec_of da_X12_endAll_0 (k := 34) rfl
theorem dX12_endAll_62 : decode cX12_endAll 62 = .ok (.getfield 199, 3) := dec_of da_X12_endAll_0 (k := 35) rfl
theorem dX12_endAll_65 : decode cX12_endAll 65 = .ok (.iload_n 1, 1) := dec_of da_X12_endAll_0 (k := 36) rfl
theorem dX12_endAll_66 : decode cX12_endAll 66 = .ok (.iaload, 1) := dec_of da_X12_endAll_0 (k := 37) rfl
theorem dX12_endAll_67 : decode cX12_endAll 67 = .ok (.bipush 9, 2) := dec_of da_X12_endAll_0 (k := 38) rfl
theorem dX12_endAll_69 : decode cX12_endAll 69 = .ok (.if_icmp .ne 21, 3) := dec_of da_X12_endAll_0 (k := 39) rfl
theorem dX12_endAll_72 : decode cX12_endAll 72 = .ok (.aload_n 0, 1) := dec_of da_X12_endAll_0 (k := 40) rfl
theorem dX12_endAll_73 : decode cX12_endAll 73 = .ok (.getfield 202, 3) := dec_of da_X12_endAll_0 (k := 41) rfl
theorem dX12_endAll_76 : decode cX12_endAll 76 = .ok (.iload_n 1, 1) := dec_of da_X12_endAll_0 (k := 42) rfl
theorem dX12_endAll_77 : decode cX12_endAll 77 = .ok (.iaload, 1) := dec_of da_X12_endAll_0 (k := 43) rfl
theorem dX12_endAll_78 : decode cX12_endAll 78 = .ok (.aload_n 0, 1) := dec_of da_X12_endAll_0 (k := 44) rfl
theorem dX12_endAll_79 : decode cX12_endAll 79 = .ok (.getfield 454, 3) := dec_of da_X12_endAll_0 (k := 45) rfl
theorem dX12_endAll_82 : decode cX12_endAll 82 = .ok (.if_icmp .ne 8, 3) := dec_of da_X12_endAll_0 (k := 46) rfl
theorem dX12_endAll_85 : decode cX12_endAll 85 = .ok (.aload_n 0, 1) := dec_of da_X12_endAll_0 (k := 47) rfl
theorem dX12_endAll_86 : decode cX12_endAll 86 = .ok (.iload_n 1, 1) := dec_of da_X12_endAll_0 (k := 48) rfl
theorem dX12_endAll_87 : decode cX12_endAll 87 = .ok (.invokevirtual 491, 3) := dec_of da_X12_endAll_0 (k := 49) rfl
theorem dX12_endAll_90 : decode cX12_endAll 90 = .ok (.iinc 1 1, 3) := dec_of da_X12_endAll_0 (k := 50) rfl
theorem dX12_endAll_93 : decode cX12_endAll 93 = .ok (.goto (-40), 3) := dec_of da_X12_endAll_0 (k := 51) rfl
theorem dX12_endAll_96 : decode cX12_endAll 96 = .ok (.iconst 0, 1) := dec_of da_X12_endAll_0 (k := 52) rfl
theorem dX12_endAll_97 : decode cX12_endAll 97 = .ok (.istore_n 1, 1) := dec_of da_X12_endAll_0 (k := 53) rfl
theorem dX12_endAll_98 : decode cX12_endAll 98 = .ok (.iconst 0, 1) := dec_of da_X12_endAll_0 (k := 54) rfl
theorem dX12_endAll_99 : decode cX12_endAll 99 = .ok (.istore_n 2, 1) := dec_of da_X12_endAll_0 (k := 55) rfl
theorem dX12_endAll_100 : decode cX12_endAll 100 = .ok (.iload_n 2, 1) := dec_of da_X12_endAll_0 (k := 56) rfl
theorem dX12_endAll_101 : decode cX12_endAll 101 = .ok (.aload_n 0, 1) := dec_of da_X12_endAll_0 (k := 57) rfl
theorem dX12_endAll_102 : decode cX12_endAll 102 = .ok (.getfield 451, 3) := dec_of da_X12_endAll_0 (k := 58) rfl
theorem dX12_endAll_105 : decode cX12_endAll 105 = .ok (.if_icmp .ge 39, 3) := dec_of da_X12_endAll_0 (k := 59) rfl
def dl_X12_endAll_1 : List (Nat × (Instr × Nat)) := [(108, (.aload_n 0, 1)), (109, (.getfield 202, 3)), (112, (.iload_n 2, 1)), (113, (.iaload, 1)), (114, (.aload_n 0, 1)), (115, (.getfield 454, 3)), (118, (.if_icmp .ne 6, 3)), (121, (.goto 17, 3)), (124, (.iload_n 1, 1)), (125, (.iload_n 2, 1)), (126, (.if_icmp .eq 9, 3)), (129, (.aload_n 0, 1)), (130, (.iload_n 2, 1)), (131, (.iload_n 1, 1)), (132, (.invokevirtual 494, 3)), (135, (.iinc 1 1, 3)), (138, (.iinc 2 1, 3)), (141, (.goto (-41), 3)), (144, (.aload_n 0, 1)), (145, (.iload_n 1, 1)), (146, (.putfield 451, 3)), (149, (.return_, 1))]
set_option maxRecDepth 100000 in
theorem da_X12_endAll_1 : dl_X12_endAll_1.all (fun q => decide (decode cX12_endAll q.1 = .ok q.2)) = true := by decide +kernel
theorem dX12_endAll_108 : decode cX12_endAll 108 = .ok (.aload_n 0, 1) := dec_of da_X12_endAll_1 (k := 0) rfl
theorem dX12_endAll_109 : decode cX12_endAll 109 = .ok (.getfield 202, 3) := dec_of da_X12_endAll_1 (k := 1) rfl
theorem dX12_endAll_112 : decode cX12_endAll 112 = .ok (.iload_n 2, 1) := dec_of da_X12_endAll_1 (k := 2) rfl
theorem dX12_endAll_113 : decode cX12_endAll 113 = .ok (.iaload, 1) := dec_of da_X12_endAll_1 (k := 3) rfl
theorem dX12_endAll_114 : decode cX12_endAll 114 = .ok (.aload_n 0, 1) := dec_of da_X12_endAll_1 (k := 4) rfl
theorem dX12_endAll_115 : decode cX12_endAll 115 = .ok (.getfield 454, 3) := dec_of da_X12_endAll_1 (k := 5) rfl
theorem dX12_endAll_118 : decode cX12_endAll 118 = .ok (.if_icmp .ne 6, 3) := dec_of da_X12_endAll_1 (k := 6) rfl
theorem dX12_endAll_121 : decode cX12_endAll 121 = .ok (.goto 17, 3) := dec_of da_X12_endAll_1 (k := 7) rfl
theorem dX12_endAll_124 : decode cX12_endAll 124 = .ok (.iload_n 1, 1) := dec_of da_X12_endAll_1 (k := 8) rfl
theorem dX12_endAll_125 : decode cX12_endAll 125 = .ok (.iload_n 2, 1) := dec_of da_X12_endAll_1 (k := 9) rfl
theorem dX12_endAll_126 : decode cX12_endAll 126 = .ok (.if_icmp .eq 9, 3) := dec_of da_X12_endAll_1 (k := 10) rfl
theorem dX12_endAll_129 : decode cX12_endAll 129 = .ok (.aload_n 0, 1) := dec_of da_X12_endAll_1 (k := 11) rfl
theorem dX12_endAll_130 : decode cX12_endAll 130 = .ok (.iload_n 2, 1) := dec_of da_X12_endAll_1 (k := 12) rfl
theorem dX12_endAll_131 : decode cX12_endAll 131 = .ok (.iload_n 1, 1) := dec_of da_X12_endAll_1 (k := 13) rfl
theorem dX12_endAll_132 : decode cX12_endAll 132 = .ok (.invokevirtual 494, 3) := dec_of da_X12_endAll_1 (k := 14) rfl
theorem dX12_endAll_135 : decode cX12_endAll 135 = .ok (.iinc 1 1, 3) := dec_of da_X12_endAll_1 (k := 15) rfl
theorem dX12_endAll_138 : decode cX12_endAll 138 = .ok (.iinc 2 1, 3) := dec_of da_X12_endAll_1 (k := 16) rfl
theorem dX12_endAll_141 : decode cX12_endAll 141 = .ok (.goto (-41), 3) := dec_of da_X12_endAll_1 (k := 17) rfl
theorem dX12_endAll_144 : decode cX12_endAll 144 = .ok (.aload_n 0, 1) := dec_of da_X12_endAll_1 (k := 18) rfl
theorem dX12_endAll_145 : decode cX12_endAll 145 = .ok (.iload_n 1, 1) := dec_of da_X12_endAll_1 (k := 19) rfl
theorem dX12_endAll_146 : decode cX12_endAll 146 = .ok (.putfield 451, 3) := dec_of da_X12_endAll_1 (k := 20) rfl
theorem dX12_endAll_149 : decode cX12_endAll 149 = .ok (.return_, 1) := dec_of da_X12_endAll_1 (k := 21) rfl
def dl_X12_moveLive_0 : List (Nat × (Instr × Nat)) := [(0, (.aload_n 0, 1)), (1, (.getfield 199, 3)), (4, (.iload_n 2, 1)), (5, (.aload_n 0, 1)), (6, (.getfield 199, 3)), (9, (.iload_n 1, 1)), (10, (.iaload, 1)), (11, (.iastore, 1)), (12, (.aload_n 0, 1)), (13, (.getfield 202, 3)), (16, (.iload_n 2, 1)), (17, (.aload_n 0, 1)), (18, (.getfield 202, 3)), (21, (.iload_n 1, 1)), (22, (.iaload, 1)), (23, (.iastore, 1)), (24, (.aload_n 0, 1)), (25, (.getfield 205, 3)), (28, (.iload_n 2, 1)), (29, (.aload_n 0, 1)), (30, (.getfield 205, 3)), (33, (.iload_n 1, 1)), (34, (.iaload, 1)), (35, (.iastore, 1)), (36, (.aload_n 0, 1)), (37, (.getfield 208, 3)), (40, (.iload_n 2, 1)), (41, (.aload_n 0, 1)), (42, (.getfield 208, 3)), (45, (.iload_n 1, 1)), (46, (.baload, 1)), (47, (.bastore, 1)), (48, (.aload_n 0, 1)), (49, (.getfield 211, 3)), (52, (.iload_n 2, 1)), (53, (.aload_n 0, 1)), (54, (.getfield 211, 3)), (57, (.iload_n 1, 1)), (58, (.iaload, 1)), (59, (.iastore, 1)), (60, (.iconst 0, 1)), (61, (.istore_n 3, 1)), (62, (.iload_n 3, 1)), (63, (.aload_n 0, 1)), (64, (.getfield 205, 3)), (67, (.iload_n 1, 1)), (68, (.iaload, 1)), (69, (.if_icmp .ge 33, 3)), (72, (.aload_n 0, 1)), (73, (.getfield 215, 3)), (76, (.sipush 300, 3)), (79, (.iload_n 2, 1)), (80, (.imul, 1)), (81, (.iload_n 3, 1)), (82, (.iadd, 1)), (83, (.aload_n 0, 1)), (84, (.getfield 215, 3)), (87, (.sipush 300, 3)), (90, (.iload_n 1, 1)), (91, (.imul, 1))]
set_option maxRecDepth 100000 in
theorem da_X12_moveLive_0 : dl_X12_moveLive_0.all (fun q => decide (decode cX12_moveLive q.1 = .ok q.2)) = true := by decide +kernel
theorem dX12_moveLive_0 : decode cX12_moveLive 0 = .ok (.aload_n 0, 1) := dec_of da_X12_moveLive_0 (k := 0) rfl
theorem dX12_moveLive_1 : decode cX12_moveLive 1 = .ok (.getfield 199, 3) := dec_of da_X12_moveLive_0 (k := 1) rfl
theorem dX12_moveLive_4 : decode cX12_moveLive 4 = .ok (.iload_n 2, 1) := dec_of da_X12_moveLive_0 (k := 2) rfl
theorem dX12_moveLive_5 : decode cX12_moveLive 5 = .ok (.aload_n 0, 1) := dec_of da_X12_moveLive_0 (k := 3) rfl
theorem dX12_moveLive_6 : decode cX12_moveLive 6 = .ok (.getfield 199, 3) := dec_of da_X12_moveLive_0 (k := 4) rfl
theorem dX12_moveLive_9 : decode cX12_moveLive 9 = .ok (.iload_n 1, 1) := dec_of da_X12_moveLive_0 (k := 5) rfl
theorem dX12_moveLive_10 : decode cX12_moveLive 10 = .ok (.iaload, 1) := dec_of da_X12_moveLive_0 (k := 6) rfl
theorem dX12_moveLive_11 : decode cX12_moveLive 11 = .ok (.iastore, 1) := dec_of da_X12_moveLive_0 (k := 7) rfl
theorem dX12_moveLive_12 : decode cX12_moveLive 12 = .ok (.aload_n 0, 1) := dec_of da_X12_moveLive_0 (k := 8) rfl
theorem dX12_moveLive_13 : decode cX12_moveLive 13 = .ok (.getfield 202, 3) := dec_of da_X12_moveLive_0 (k := 9) rfl
theorem dX12_moveLive_16 : decode cX12_moveLive 16 = .ok (.iload_n 2, 1) := dec_of da_X12_moveLive_0 (k := 10) rfl
theorem dX12_moveLive_17 : decode cX12_moveLive 17 = .ok (.aload_n 0, 1) := dec_of da_X12_moveLive_0 (k := 11) rfl
theorem dX12_moveLive_18 : decode cX12_moveLive 18 = .ok (.getfield 202, 3) := dec_of da_X12_moveLive_0 (k := 12) rfl
theorem dX12_moveLive_21 : decode cX12_moveLive 21 = .ok (.iload_n 1, 1) := dec_of da_X12_moveLive_0 (k := 13) rfl
theorem dX12_moveLive_22 : decode cX12_moveLive 22 = .ok (.iaload, 1) := dec_of da_X12_moveLive_0 (k := 14) rfl
theorem dX12_moveLive_23 : decode cX12_moveLive 23 = .ok (.iastore, 1) := dec_of da_X12_moveLive_0 (k := 15) rfl
theorem dX12_moveLive_24 : decode cX12_moveLive 24 = .ok (.aload_n 0, 1) := dec_of da_X12_moveLive_0 (k := 16) rfl
theorem dX12_moveLive_25 : decode cX12_moveLive 25 = .ok (.getfield 205, 3) := dec_of da_X12_moveLive_0 (k := 17) rfl
theorem dX12_moveLive_28 : decode cX12_moveLive 28 = .ok (.iload_n 2, 1) := dec_of da_X12_moveLive_0 (k := 18) rfl
theorem dX12_moveLive_29 : decode cX12_moveLive 29 = .ok (.aload_n 0, 1) := dec_of da_X12_moveLive_0 (k := 19) rfl
theorem dX12_moveLive_30 : decode cX12_moveLive 30 = .ok (.getfield 205, 3) := dec_of da_X12_moveLive_0 (k := 20) rfl
theorem dX12_moveLive_33 : decode cX12_moveLive 33 = .ok (.iload_n 1, 1) := dec_of da_X12_moveLive_0 (k := 21) rfl
theorem dX12_moveLive_34 : decode cX12_moveLive 34 = .ok (.iaload, 1) := dec_of da_X12_moveLive_0 (k := 22) rfl
theorem dX12_moveLive_35 : decode cX12_moveLive 35 = .ok (.iastore, 1) := dec_of da_X12_moveLive_0 (k := 23) rfl
theorem dX12_moveLive_36 : decode cX12_moveLive 36 = .ok (.aload_n 0, 1) := dec_of da_X12_moveLive_0 (k := 24) rfl
theorem dX12_moveLive_37 : decode cX12_moveLive 37 = .ok (.getfield 208, 3) := dec_of da_X12_moveLive_0 (k := 25) rfl
theorem dX12_moveLive_40 : decode cX12_moveLive 40 = .ok (.iload_n 2, 1) := dec_of da_X12_moveLive_0 (k := 26) rfl
theorem dX12_moveLive_41 : decode cX12_moveLive 41 = .ok (.aload_n 0, 1) := dec_of da_X12_moveLive_0 (k := 27) rfl
theorem dX12_moveLive_42 : decode cX12_moveLive 42 = .ok (.getfield 208, 3) := dec_of da_X12_moveLive_0 (k := 28) rfl
theorem dX12_moveLive_45 : decode cX12_moveLive 45 = .ok (.iload_n 1, 1) := dec_of da_X12_moveLive_0 (k := 29) rfl
theorem dX12_moveLive_46 : decode cX12_moveLive 46 = .ok (.baload, 1) := dec_of da_X12_moveLive_0 (k := 30) rfl
theorem dX12_moveLive_47 : decode cX12_moveLive 47 = .ok (.bastore, 1) := dec_of da_X12_moveLive_0 (k := 31) rfl
theorem dX12_moveLive_48 : decode cX12_moveLive 48 = .ok (.aload_n 0, 1) := dec_of da_X12_moveLive_0 (k := 32) rfl
theorem dX12_moveLive_49 : decode cX12_moveLive 49 = .ok (.getfield 211, 3) := dec_of da_X12_moveLive_0 (k := 33) rfl
theorem dX12_moveLive_52 : decode cX12_moveLive 52 = .ok (.iload_n 2, 1) := dec_of da_X12_moveLive_0 (k := 34) rfl
theorem dX12_moveLive_53 : decode cX12_moveLive 53 = .ok (.aload_n 0, 1) := dec_of da_X12_moveLive_0 (k := 35) rfl
theorem dX12_moveLive_54 : decode cX12_moveLive 54 = .ok (.getfield 211, 3) := dec_of da_X12_moveLive_0 (k := 36) rfl
theorem dX12_moveLive_57 : decode cX12_moveLive 57 = .ok (.iload_n 1, 1) := dec_of da_X12_moveLive_0 (k := 37) rfl
theorem dX12_moveLive_58 : decode cX12_moveLive 58 = .ok (.iaload, 1) := dec_of da_X12_moveLive_0 (k := 38) rfl
theorem dX12_moveLive_59 : decode cX12_moveLive 59 = .ok (.iastore, 1) := dec_of da_X12_moveLive_0 (k := 39) rfl
theorem dX12_moveLive_60 : decode cX12_moveLive 60 = .ok (.iconst 0, 1) := dec_of da_X12_moveLive_0 (k := 40) rfl
theorem dX12_moveLive_61 : decode cX12_moveLive 61 = .ok (.istore_n 3, 1) := dec_of da_X12_moveLive_0 (k := 41) rfl
theorem dX12_moveLive_62 : decode cX12_moveLive 62 = .ok (.iload_n 3, 1) := dec_of da_X12_moveLive_0 (k := 42) rfl
theorem dX12_moveLive_63 : decode cX12_moveLive 63 = .ok (.aload_n 0, 1) := dec_of da_X12_moveLive_0 (k := 43) rfl
theorem dX12_moveLive_64 : decode cX12_moveLive 64 = .ok (.getfield 205, 3) := dec_of da_X12_moveLive_0 (k := 44) rfl
theorem dX12_moveLive_67 : decode cX12_moveLive 67 = .ok (.iload_n 1, 1) := dec_of da_X12_moveLive_0 (k := 45) rfl
theorem dX12_moveLive_68 : decode cX12_moveLive 68 = .ok (.iaload, 1) := dec_of da_X12_moveLive_0 (k := 46) rfl
theorem dX12_moveLive_69 : decode cX12_moveLive 69 = .ok (.if_icmp .ge 33, 3) := dec_of da_X12_moveLive_0 (k := 47) rfl
theorem dX12_moveLive_72 : decode cX12_moveLive 72 = .ok (.aload_n 0, 1) := dec_of da_X12_moveLive_0 (k := 48) rfl
theorem dX12_moveLive_73 : decode cX12_moveLive 73 = .ok (.getfield 215, 3) := dec_of da_X12_moveLive_0 (k := 49) rfl
theorem dX12_moveLive_76 : decode cX12_moveLive 76 = .ok (.sipush 300, 3) := dec_of da_X12_moveLive_0 (k := 50) rfl
theorem dX12_moveLive_79 : decode cX12_moveLive 79 = .ok (.iload_n 2, 1) := dec_of da_X12_moveLive_0 (k := 51) rfl
theorem dX12_moveLive_80 : decode cX12_moveLive 80 = .ok (.imul, 1) := dec_of da_X12_moveLive_0 (k := 52) rfl
theorem dX12_moveLive_81 : decode cX12_moveLive 81 = .ok (.iload_n 3, 1) := dec_of da_X12_moveLive_0 (k := 53) rfl
theorem dX12_moveLive_82 : decode cX12_moveLive 82 = .ok (.iadd, 1) := dec_of da_X12_moveLive_0 (k := 54) rfl
theorem dX12_moveLive_83 : decode cX12_moveLive 83 = .ok (.aload_n 0, 1) := dec_of da_X12_moveLive_0 (k := 55) rfl
theorem dX12_moveLive_84 : decode cX12_moveLive 84 = .ok (.getfield 215, 3) := dec_of da_X12_moveLive_0 (k := 56) rfl
theorem dX12_moveLive_87 : decode cX12_moveLive 87 = .ok (.sipush 300, 3) := dec_of da_X12_moveLive_0 (k := 57) rfl
theorem dX12_moveLive_90 : decode cX12_moveLive 90 = .ok (.iload_n 1, 1) := dec_of da_X12_moveLive_0 (k := 58) rfl
theorem dX12_moveLive_91 : decode cX12_moveLive 91 = .ok (.imul, 1) := dec_of da_X12_moveLive_0 (k := 59) rfl
def dl_X12_moveLive_1 : List (Nat × (Instr × Nat)) := [(92, (.iload_n 3, 1)), (93, (.iadd, 1)), (94, (.iaload, 1)), (95, (.iastore, 1)), (96, (.iinc 3 1, 3)), (99, (.goto (-37), 3)), (102, (.aload_n 0, 1)), (103, (.getfield 199, 3)), (106, (.iload_n 2, 1)), (107, (.iaload, 1)), (108, (.bipush 9, 2)), (110, (.if_icmp .ge 15, 3)), (113, (.aload_n 0, 1)), (114, (.getfield 181, 3)), (117, (.aload_n 0, 1)), (118, (.getfield 199, 3)), (121, (.iload_n 2, 1)), (122, (.iaload, 1)), (123, (.iload_n 2, 1)), (124, (.iastore, 1)), (125, (.return_, 1))]
set_option maxRecDepth 100000 in
theorem da_X12_moveLive_1 : dl_X12_moveLive_1.all (fun q => decide (decode cX12_moveLive q.1 = .ok q.2)) = true := by decide +kernel
theorem dX12_moveLive_92 : decode cX12_moveLive 92 = .ok (.iload_n 3, 1) := dec_of da_X12_moveLive_1 (k := 0) rfl
theorem dX12_moveLive_93 : decode cX12_moveLive 93 = .ok (.iadd, 1) := dec_of da_X12_moveLive_1 (k := 1) rfl
theorem dX12_moveLive_94 : decode cX12_moveLive 94 = .ok (.iaload, 1) := dec_of da_X12_moveLive_1 (k := 2) rfl
theorem dX12_moveLive_95 : decode cX12_moveLive 95 = .ok (.iastore, 1) := dec_of da_X12_moveLive_1 (k := 3) rfl
theorem dX12_moveLive_96 : decode cX12_moveLive 96 = .ok (.iinc 3 1, 3) := dec_of da_X12_moveLive_1 (k := 4) rfl
theorem dX12_moveLive_99 : decode cX12_moveLive 99 = .ok (.goto (-37), 3) := dec_of da_X12_moveLive_1 (k := 5) rfl
theorem dX12_moveLive_102 : decode cX12_moveLive 102 = .ok (.aload_n 0, 1) := dec_of da_X12_moveLive_1 (k := 6) rfl
theorem dX12_moveLive_103 : decode cX12_moveLive 103 = .ok (.getfield 199, 3) := dec_of da_X12_moveLive_1 (k := 7) rfl
theorem dX12_moveLive_106 : decode cX12_moveLive 106 = .ok (.iload_n 2, 1) := dec_of da_X12_moveLive_1 (k := 8) rfl
theorem dX12_moveLive_107 : decode cX12_moveLive 107 = .ok (.iaload, 1) := dec_of da_X12_moveLive_1 (k := 9) rfl
theorem dX12_moveLive_108 : decode cX12_moveLive 108 = .ok (.bipush 9, 2) := dec_of da_X12_moveLive_1 (k := 10) rfl
theorem dX12_moveLive_110 : decode cX12_moveLive 110 = .ok (.if_icmp .ge 15, 3) := dec_of da_X12_moveLive_1 (k := 11) rfl
theorem dX12_moveLive_113 : decode cX12_moveLive 113 = .ok (.aload_n 0, 1) := dec_of da_X12_moveLive_1 (k := 12) rfl
theorem dX12_moveLive_114 : decode cX12_moveLive 114 = .ok (.getfield 181, 3) := dec_of da_X12_moveLive_1 (k := 13) rfl
theorem dX12_moveLive_117 : decode cX12_moveLive 117 = .ok (.aload_n 0, 1) := dec_of da_X12_moveLive_1 (k := 14) rfl
theorem dX12_moveLive_118 : decode cX12_moveLive 118 = .ok (.getfield 199, 3) := dec_of da_X12_moveLive_1 (k := 15) rfl
theorem dX12_moveLive_121 : decode cX12_moveLive 121 = .ok (.iload_n 2, 1) := dec_of da_X12_moveLive_1 (k := 16) rfl
theorem dX12_moveLive_122 : decode cX12_moveLive 122 = .ok (.iaload, 1) := dec_of da_X12_moveLive_1 (k := 17) rfl
theorem dX12_moveLive_123 : decode cX12_moveLive 123 = .ok (.iload_n 2, 1) := dec_of da_X12_moveLive_1 (k := 18) rfl
theorem dX12_moveLive_124 : decode cX12_moveLive 124 = .ok (.iastore, 1) := dec_of da_X12_moveLive_1 (k := 19) rfl
theorem dX12_moveLive_125 : decode cX12_moveLive 125 = .ok (.return_, 1) := dec_of da_X12_moveLive_1 (k := 20) rfl
def dl_X12_fail_0 : List (Nat × (Instr × Nat)) := [(0, (.aload_n 0, 1)), (1, (.getfield 184, 3)), (4, (.iload_n 1, 1)), (5, (.iconst 0, 1)), (6, (.bastore, 1)), (7, (.aload_n 0, 1)), (8, (.dup, 1)), (9, (.getfield 497, 3)), (12, (.iconst 1, 1)), (13, (.iadd, 1)), (14, (.putfield 497, 3)), (17, (.aload_n 0, 1)), (18, (.getfield 159, 3)), (21, (.iload_n 1, 1)), (22, (.dup2, 1)), (23, (.iaload, 1)), (24, (.iconst 1, 1)), (25, (.iadd, 1)), (26, (.iastore, 1)), (27, (.aload_n 0, 1)), (28, (.getfield 159, 3)), (31, (.iload_n 1, 1)), (32, (.iaload, 1)), (33, (.aload_n 0, 1)), (34, (.getfield 166, 3)), (37, (.if_icmp .lt 10, 3)), (40, (.aload_n 0, 1)), (41, (.iload_n 1, 1)), (42, (.iconst 2, 1)), (43, (.invokevirtual 467, 3)), (46, (.return_, 1)), (47, (.aload_n 0, 1)), (48, (.getfield 156, 3)), (51, (.iload_n 1, 1)), (52, (.aload_n 0, 1)), (53, (.getfield 156, 3)), (56, (.iload_n 1, 1)), (57, (.iaload, 1)), (58, (.bipush 127, 2)), (60, (.if_icmp .ge 16, 3)), (63, (.iconst 2, 1)), (64, (.aload_n 0, 1)), (65, (.getfield 156, 3)), (68, (.iload_n 1, 1)), (69, (.iaload, 1)), (70, (.imul, 1)), (71, (.iconst 1, 1)), (72, (.iadd, 1)), (73, (.goto 5, 3)), (76, (.bipush 127, 2)), (78, (.iastore, 1)), (79, (.aload_n 0, 1)), (80, (.getfield 153, 3)), (83, (.iload_n 1, 1)), (84, (.aload_n 0, 1)), (85, (.invokevirtual 414, 3)), (88, (.aload_n 0, 1)), (89, (.getfield 156, 3)), (92, (.iload_n 1, 1)), (93, (.iaload, 1))]
set_option maxRecDepth 100000 in
theorem da_X12_fail_0 : dl_X12_fail_0.all (fun q => decide (decode cX12_fail q.1 = .ok q.2)) = true := by decide +kernel
theorem dX12_fail_0 : decode cX12_fail 0 = .ok (.aload_n 0, 1) := dec_of da_X12_fail_0 (k := 0) rfl
theorem dX12_fail_1 : decode cX12_fail 1 = .ok (.getfield 184, 3) := dec_of da_X12_fail_0 (k := 1) rfl
theorem dX12_fail_4 : decode cX12_fail 4 = .ok (.iload_n 1, 1) := dec_of da_X12_fail_0 (k := 2) rfl
theorem dX12_fail_5 : decode cX12_fail 5 = .ok (.iconst 0, 1) := dec_of da_X12_fail_0 (k := 3) rfl
theorem dX12_fail_6 : decode cX12_fail 6 = .ok (.bastore, 1) := dec_of da_X12_fail_0 (k := 4) rfl
theorem dX12_fail_7 : decode cX12_fail 7 = .ok (.aload_n 0, 1) := dec_of da_X12_fail_0 (k := 5) rfl
theorem dX12_fail_8 : decode cX12_fail 8 = .ok (.dup, 1) := dec_of da_X12_fail_0 (k := 6) rfl
theorem dX12_fail_9 : decode cX12_fail 9 = .ok (.getfield 497, 3) := dec_of da_X12_fail_0 (k := 7) rfl
theorem dX12_fail_12 : decode cX12_fail 12 = .ok (.iconst 1, 1) := dec_of da_X12_fail_0 (k := 8) rfl
theorem dX12_fail_13 : decode cX12_fail 13 = .ok (.iadd, 1) := dec_of da_X12_fail_0 (k := 9) rfl
theorem dX12_fail_14 : decode cX12_fail 14 = .ok (.putfield 497, 3) := dec_of da_X12_fail_0 (k := 10) rfl
theorem dX12_fail_17 : decode cX12_fail 17 = .ok (.aload_n 0, 1) := dec_of da_X12_fail_0 (k := 11) rfl
theorem dX12_fail_18 : decode cX12_fail 18 = .ok (.getfield 159, 3) := dec_of da_X12_fail_0 (k := 12) rfl
theorem dX12_fail_21 : decode cX12_fail 21 = .ok (.iload_n 1, 1) := dec_of da_X12_fail_0 (k := 13) rfl
theorem dX12_fail_22 : decode cX12_fail 22 = .ok (.dup2, 1) := dec_of da_X12_fail_0 (k := 14) rfl
theorem dX12_fail_23 : decode cX12_fail 23 = .ok (.iaload, 1) := dec_of da_X12_fail_0 (k := 15) rfl
theorem dX12_fail_24 : decode cX12_fail 24 = .ok (.iconst 1, 1) := dec_of da_X12_fail_0 (k := 16) rfl
theorem dX12_fail_25 : decode cX12_fail 25 = .ok (.iadd, 1) := dec_of da_X12_fail_0 (k := 17) rfl
theorem dX12_fail_26 : decode cX12_fail 26 = .ok (.iastore, 1) := dec_of da_X12_fail_0 (k := 18) rfl
theorem dX12_fail_27 : decode cX12_fail 27 = .ok (.aload_n 0, 1) := dec_of da_X12_fail_0 (k := 19) rfl
theorem dX12_fail_28 : decode cX12_fail 28 = .ok (.getfield 159, 3) := dec_of da_X12_fail_0 (k := 20) rfl
theorem dX12_fail_31 : decode cX12_fail 31 = .ok (.iload_n 1, 1) := dec_of da_X12_fail_0 (k := 21) rfl
theorem dX12_fail_32 : decode cX12_fail 32 = .ok (.iaload, 1) := dec_of da_X12_fail_0 (k := 22) rfl
theorem dX12_fail_33 : decode cX12_fail 33 = .ok (.aload_n 0, 1) := dec_of da_X12_fail_0 (k := 23) rfl
theorem dX12_fail_34 : decode cX12_fail 34 = .ok (.getfield 166, 3) := dec_of da_X12_fail_0 (k := 24) rfl
theorem dX12_fail_37 : decode cX12_fail 37 = .ok (.if_icmp .lt 10, 3) := dec_of da_X12_fail_0 (k := 25) rfl
theorem dX12_fail_40 : decode cX12_fail 40 = .ok (.aload_n 0, 1) := dec_of da_X12_fail_0 (k := 26) rfl
theorem dX12_fail_41 : decode cX12_fail 41 = .ok (.iload_n 1, 1) := dec_of da_X12_fail_0 (k := 27) rfl
theorem dX12_fail_42 : decode cX12_fail 42 = .ok (.iconst 2, 1) := dec_of da_X12_fail_0 (k := 28) rfl
theorem dX12_fail_43 : decode cX12_fail 43 = .ok (.invokevirtual 467, 3) := dec_of da_X12_fail_0 (k := 29) rfl
theorem dX12_fail_46 : decode cX12_fail 46 = .ok (.return_, 1) := dec_of da_X12_fail_0 (k := 30) rfl
theorem dX12_fail_47 : decode cX12_fail 47 = .ok (.aload_n 0, 1) := dec_of da_X12_fail_0 (k := 31) rfl
theorem dX12_fail_48 : decode cX12_fail 48 = .ok (.getfield 156, 3) := dec_of da_X12_fail_0 (k := 32) rfl
theorem dX12_fail_51 : decode cX12_fail 51 = .ok (.iload_n 1, 1) := dec_of da_X12_fail_0 (k := 33) rfl
theorem dX12_fail_52 : decode cX12_fail 52 = .ok (.aload_n 0, 1) := dec_of da_X12_fail_0 (k := 34) rfl
theorem dX12_fail_53 : decode cX12_fail 53 = .ok (.getfield 156, 3) := dec_of da_X12_fail_0 (k := 35) rfl
theorem dX12_fail_56 : decode cX12_fail 56 = .ok (.iload_n 1, 1) := dec_of da_X12_fail_0 (k := 36) rfl
theorem dX12_fail_57 : decode cX12_fail 57 = .ok (.iaload, 1) := dec_of da_X12_fail_0 (k := 37) rfl
theorem dX12_fail_58 : decode cX12_fail 58 = .ok (.bipush 127, 2) := dec_of da_X12_fail_0 (k := 38) rfl
theorem dX12_fail_60 : decode cX12_fail 60 = .ok (.if_icmp .ge 16, 3) := dec_of da_X12_fail_0 (k := 39) rfl
theorem dX12_fail_63 : decode cX12_fail 63 = .ok (.iconst 2, 1) := dec_of da_X12_fail_0 (k := 40) rfl
theorem dX12_fail_64 : decode cX12_fail 64 = .ok (.aload_n 0, 1) := dec_of da_X12_fail_0 (k := 41) rfl
theorem dX12_fail_65 : decode cX12_fail 65 = .ok (.getfield 156, 3) := dec_of da_X12_fail_0 (k := 42) rfl
theorem dX12_fail_68 : decode cX12_fail 68 = .ok (.iload_n 1, 1) := dec_of da_X12_fail_0 (k := 43) rfl
theorem dX12_fail_69 : decode cX12_fail 69 = .ok (.iaload, 1) := dec_of da_X12_fail_0 (k := 44) rfl
theorem dX12_fail_70 : decode cX12_fail 70 = .ok (.imul, 1) := dec_of da_X12_fail_0 (k := 45) rfl
theorem dX12_fail_71 : decode cX12_fail 71 = .ok (.iconst 1, 1) := dec_of da_X12_fail_0 (k := 46) rfl
theorem dX12_fail_72 : decode cX12_fail 72 = .ok (.iadd, 1) := dec_of da_X12_fail_0 (k := 47) rfl
theorem dX12_fail_73 : decode cX12_fail 73 = .ok (.goto 5, 3) := dec_of da_X12_fail_0 (k := 48) rfl
theorem dX12_fail_76 : decode cX12_fail 76 = .ok (.bipush 127, 2) := dec_of da_X12_fail_0 (k := 49) rfl
theorem dX12_fail_78 : decode cX12_fail 78 = .ok (.iastore, 1) := dec_of da_X12_fail_0 (k := 50) rfl
theorem dX12_fail_79 : decode cX12_fail 79 = .ok (.aload_n 0, 1) := dec_of da_X12_fail_0 (k := 51) rfl
theorem dX12_fail_80 : decode cX12_fail 80 = .ok (.getfield 153, 3) := dec_of da_X12_fail_0 (k := 52) rfl
theorem dX12_fail_83 : decode cX12_fail 83 = .ok (.iload_n 1, 1) := dec_of da_X12_fail_0 (k := 53) rfl
theorem dX12_fail_84 : decode cX12_fail 84 = .ok (.aload_n 0, 1) := dec_of da_X12_fail_0 (k := 54) rfl
theorem dX12_fail_85 : decode cX12_fail 85 = .ok (.invokevirtual 414, 3) := dec_of da_X12_fail_0 (k := 55) rfl
theorem dX12_fail_88 : decode cX12_fail 88 = .ok (.aload_n 0, 1) := dec_of da_X12_fail_0 (k := 56) rfl
theorem dX12_fail_89 : decode cX12_fail 89 = .ok (.getfield 156, 3) := dec_of da_X12_fail_0 (k := 57) rfl
theorem dX12_fail_92 : decode cX12_fail 92 = .ok (.iload_n 1, 1) := dec_of da_X12_fail_0 (k := 58) rfl
theorem dX12_fail_93 : decode cX12_fail 93 = .ok (.iaload, 1) := dec_of da_X12_fail_0 (k := 59) rfl
def dl_X12_fail_1 : List (Nat × (Instr × Nat)) := [(94, (.iand, 1)), (95, (.iastore, 1)), (96, (.sipush 300, 3)), (99, (.iload_n 1, 1)), (100, (.imul, 1)), (101, (.istore_n 2, 1)), (102, (.aload_n 0, 1)), (103, (.getfield 144, 3)), (106, (.iload_n 2, 1)), (107, (.iconst 1, 1)), (108, (.iadd, 1)), (109, (.aload_n 0, 1)), (110, (.getfield 144, 3)), (113, (.iload_n 2, 1)), (114, (.iconst 1, 1)), (115, (.iadd, 1)), (116, (.iaload, 1)), (117, (.bipush 8, 2)), (119, (.ior, 1)), (120, (.iastore, 1)), (121, (.aload_n 0, 1)), (122, (.aload_n 0, 1)), (123, (.getfield 144, 3)), (126, (.iload_n 2, 1)), (127, (.aload_n 0, 1)), (128, (.getfield 147, 3)), (131, (.iload_n 1, 1)), (132, (.iaload, 1)), (133, (.iconst 4, 1)), (134, (.isub, 1)), (135, (.invokevirtual 434, 3)), (138, (.return_, 1))]
set_option maxRecDepth 100000 in
theorem da_X12_fail_1 : dl_X12_fail_1.all (fun q => decide (decode cX12_fail q.1 = .ok q.2)) = true := by decide +kernel
theorem dX12_fail_94 : decode cX12_fail 94 = .ok (.iand, 1) := dec_of da_X12_fail_1 (k := 0) rfl
theorem dX12_fail_95 : decode cX12_fail 95 = .ok (.iastore, 1) := dec_of da_X12_fail_1 (k := 1) rfl
theorem dX12_fail_96 : decode cX12_fail 96 = .ok (.sipush 300, 3) := dec_of da_X12_fail_1 (k := 2) rfl
theorem dX12_fail_99 : decode cX12_fail 99 = .ok (.iload_n 1, 1) := dec_of da_X12_fail_1 (k := 3) rfl
theorem dX12_fail_100 : decode cX12_fail 100 = .ok (.imul, 1) := dec_of da_X12_fail_1 (k := 4) rfl
theorem dX12_fail_101 : decode cX12_fail 101 = .ok (.istore_n 2, 1) := dec_of da_X12_fail_1 (k := 5) rfl
theorem dX12_fail_102 : decode cX12_fail 102 = .ok (.aload_n 0, 1) := dec_of da_X12_fail_1 (k := 6) rfl
theorem dX12_fail_103 : decode cX12_fail 103 = .ok (.getfield 144, 3) := dec_of da_X12_fail_1 (k := 7) rfl
theorem dX12_fail_106 : decode cX12_fail 106 = .ok (.iload_n 2, 1) := dec_of da_X12_fail_1 (k := 8) rfl
theorem dX12_fail_107 : decode cX12_fail 107 = .ok (.iconst 1, 1) := dec_of da_X12_fail_1 (k := 9) rfl
theorem dX12_fail_108 : decode cX12_fail 108 = .ok (.iadd, 1) := dec_of da_X12_fail_1 (k := 10) rfl
theorem dX12_fail_109 : decode cX12_fail 109 = .ok (.aload_n 0, 1) := dec_of da_X12_fail_1 (k := 11) rfl
theorem dX12_fail_110 : decode cX12_fail 110 = .ok (.getfield 144, 3) := dec_of da_X12_fail_1 (k := 12) rfl
theorem dX12_fail_113 : decode cX12_fail 113 = .ok (.iload_n 2, 1) := dec_of da_X12_fail_1 (k := 13) rfl
theorem dX12_fail_114 : decode cX12_fail 114 = .ok (.iconst 1, 1) := dec_of da_X12_fail_1 (k := 14) rfl
theorem dX12_fail_115 : decode cX12_fail 115 = .ok (.iadd, 1) := dec_of da_X12_fail_1 (k := 15) rfl
theorem dX12_fail_116 : decode cX12_fail 116 = .ok (.iaload, 1) := dec_of da_X12_fail_1 (k := 16) rfl
theorem dX12_fail_117 : decode cX12_fail 117 = .ok (.bipush 8, 2) := dec_of da_X12_fail_1 (k := 17) rfl
theorem dX12_fail_119 : decode cX12_fail 119 = .ok (.ior, 1) := dec_of da_X12_fail_1 (k := 18) rfl
theorem dX12_fail_120 : decode cX12_fail 120 = .ok (.iastore, 1) := dec_of da_X12_fail_1 (k := 19) rfl
theorem dX12_fail_121 : decode cX12_fail 121 = .ok (.aload_n 0, 1) := dec_of da_X12_fail_1 (k := 20) rfl
theorem dX12_fail_122 : decode cX12_fail 122 = .ok (.aload_n 0, 1) := dec_of da_X12_fail_1 (k := 21) rfl
theorem dX12_fail_123 : decode cX12_fail 123 = .ok (.getfield 144, 3) := dec_of da_X12_fail_1 (k := 22) rfl
theorem dX12_fail_126 : decode cX12_fail 126 = .ok (.iload_n 2, 1) := dec_of da_X12_fail_1 (k := 23) rfl
theorem dX12_fail_127 : decode cX12_fail 127 = .ok (.aload_n 0, 1) := dec_of da_X12_fail_1 (k := 24) rfl
theorem dX12_fail_128 : decode cX12_fail 128 = .ok (.getfield 147, 3) := dec_of da_X12_fail_1 (k := 25) rfl
theorem dX12_fail_131 : decode cX12_fail 131 = .ok (.iload_n 1, 1) := dec_of da_X12_fail_1 (k := 26) rfl
theorem dX12_fail_132 : decode cX12_fail 132 = .ok (.iaload, 1) := dec_of da_X12_fail_1 (k := 27) rfl
theorem dX12_fail_133 : decode cX12_fail 133 = .ok (.iconst 4, 1) := dec_of da_X12_fail_1 (k := 28) rfl
theorem dX12_fail_134 : decode cX12_fail 134 = .ok (.isub, 1) := dec_of da_X12_fail_1 (k := 29) rfl
theorem dX12_fail_135 : decode cX12_fail 135 = .ok (.invokevirtual 434, 3) := dec_of da_X12_fail_1 (k := 30) rfl
theorem dX12_fail_138 : decode cX12_fail 138 = .ok (.return_, 1) := dec_of da_X12_fail_1 (k := 31) rfl
def dl_X12_goSlot_0 : List (Nat × (Instr × Nat)) := [(0, (.aload_n 0, 1)), (1, (.invokevirtual 500, 3)), (4, (.aload_n 0, 1)), (5, (.getfield 451, 3)), (8, (.ifCond .ne 7, 3)), (11, (.iconst 1, 1)), (12, (.goto 4, 3)), (15, (.iconst 0, 1)), (16, (.istore_n 1, 1)), (17, (.aload_n 0, 1)), (18, (.getfield 451, 3)), (21, (.iconst 1, 1)), (22, (.if_icmp .gt 10, 3)), (25, (.aload_n 0, 1)), (26, (.invokevirtual 503, 3)), (29, (.ifCond .eq 7, 3)), (32, (.iconst 1, 1)), (33, (.goto 4, 3)), (36, (.iconst 0, 1)), (37, (.istore_n 2, 1)), (38, (.iconst 0, 1)), (39, (.istore_n 3, 1)), (40, (.iload_n 3, 1)), (41, (.aload_n 0, 1)), (42, (.getfield 451, 3)), (45, (.if_icmp .ge 20, 3)), (48, (.iload_n 2, 1)), (49, (.ifCond .eq 16, 3)), (52, (.aload_n 0, 1)), (53, (.getfield 208, 3)), (56, (.iload_n 3, 1)), (57, (.iconst 0, 1)), (58, (.bastore, 1)), (59, (.iinc 3 1, 3)), (62, (.goto (-22), 3)), (65, (.aload_n 0, 1)), (66, (.invokevirtual 507, 3)), (69, (.iconst 0, 1)), (70, (.istore_n 3, 1)), (71, (.iload_n 3, 1)), (72, (.bipush 9, 2)), (74, (.if_icmp .ge 38, 3)), (77, (.aload_n 0, 1)), (78, (.getfield 184, 3)), (81, (.iload_n 3, 1)), (82, (.baload, 1)), (83, (.ifCond .eq 23, 3)), (86, (.aload_n 0, 1)), (87, (.getfield 454, 3)), (90, (.aload_n 0, 1)), (91, (.getfield 187, 3)), (94, (.iload_n 3, 1)), (95, (.iaload, 1)), (96, (.isub, 1)), (97, (.iconst 4, 1)), (98, (.if_icmp .ne 8, 3)), (101, (.aload_n 0, 1)), (102, (.iload_n 3, 1)), (103, (.invokevirtual 510, 3)), (106, (.iinc 3 1, 3))]
set_option maxRecDepth 100000 in
theorem da_X12_goSlot_0 : dl_X12_goSlot_0.all (fun q => decide (decode cX12_goSlot q.1 = .ok q.2)) = true := by decide +kernel
theorem dX12_goSlot_0 : decode cX12_goSlot 0 = .ok (.aload_n 0, 1) := dec_of da_X12_goSlot_0 (k := 0) rfl
theorem dX12_goSlot_1 : decode cX12_goSlot 1 = .ok (.invokevirtual 500, 3) := dec_of da_X12_goSlot_0 (k := 1) rfl
theorem dX12_goSlot_4 : decode cX12_goSlot 4 = .ok (.aload_n 0, 1) := dec_of da_X12_goSlot_0 (k := 2) rfl
theorem dX12_goSlot_5 : decode cX12_goSlot 5 = .ok (.getfield 451, 3) := dec_of da_X12_goSlot_0 (k := 3) rfl
theorem dX12_goSlot_8 : decode cX12_goSlot 8 = .ok (.ifCond .ne 7, 3) := dec_of da_X12_goSlot_0 (k := 4) rfl
theorem dX12_goSlot_11 : decode cX12_goSlot 11 = .ok (.iconst 1, 1) := dec_of da_X12_goSlot_0 (k := 5) rfl
theorem dX12_goSlot_12 : decode cX12_goSlot 12 = .ok (.goto 4, 3) := dec_of da_X12_goSlot_0 (k := 6) rfl
theorem dX12_goSlot_15 : decode cX12_goSlot 15 = .ok (.iconst 0, 1) := dec_of da_X12_goSlot_0 (k := 7) rfl
theorem dX12_goSlot_16 : decode cX12_goSlot 16 = .ok (.istore_n 1, 1) := dec_of da_X12_goSlot_0 (k := 8) rfl
theorem dX12_goSlot_17 : decode cX12_goSlot 17 = .ok (.aload_n 0, 1) := dec_of da_X12_goSlot_0 (k := 9) rfl
theorem dX12_goSlot_18 : decode cX12_goSlot 18 = .ok (.getfield 451, 3) := dec_of da_X12_goSlot_0 (k := 10) rfl
theorem dX12_goSlot_21 : decode cX12_goSlot 21 = .ok (.iconst 1, 1) := dec_of da_X12_goSlot_0 (k := 11) rfl
theorem dX12_goSlot_22 : decode cX12_goSlot 22 = .ok (.if_icmp .gt 10, 3) := dec_of da_X12_goSlot_0 (k := 12) rfl
theorem dX12_goSlot_25 : decode cX12_goSlot 25 = .ok (.aload_n 0, 1) := dec_of da_X12_goSlot_0 (k := 13) rfl
theorem dX12_goSlot_26 : decode cX12_goSlot 26 = .ok (.invokevirtual 503, 3) := dec_of da_X12_goSlot_0 (k := 14) rfl
theorem dX12_goSlot_29 : decode cX12_goSlot 29 = .ok (.ifCond .eq 7, 3) := dec_of da_X12_goSlot_0 (k := 15) rfl
theorem dX12_goSlot_32 : decode cX12_goSlot 32 = .ok (.iconst 1, 1) := dec_of da_X12_goSlot_0 (k := 16) rfl
theorem dX12_goSlot_33 : decode cX12_goSlot 33 = .ok (.goto 4, 3) := dec_of da_X12_goSlot_0 (k := 17) rfl
theorem dX12_goSlot_36 : decode cX12_goSlot 36 = .ok (.iconst 0, 1) := dec_of da_X12_goSlot_0 (k := 18) rfl
theorem dX12_goSlot_37 : decode cX12_goSlot 37 = .ok (.istore_n 2, 1) := dec_of da_X12_goSlot_0 (k := 19) rfl
theorem dX12_goSlot_38 : decode cX12_goSlot 38 = .ok (.iconst 0, 1) := dec_of da_X12_goSlot_0 (k := 20) rfl
theorem dX12_goSlot_39 : decode cX12_goSlot 39 = .ok (.istore_n 3, 1) := dec_of da_X12_goSlot_0 (k := 21) rfl
theorem dX12_goSlot_40 : decode cX12_goSlot 40 = .ok (.iload_n 3, 1) := dec_of da_X12_goSlot_0 (k := 22) rfl
theorem dX12_goSlot_41 : decode cX12_goSlot 41 = .ok (.aload_n 0, 1) := dec_of da_X12_goSlot_0 (k := 23) rfl
theorem dX12_goSlot_42 : decode cX12_goSlot 42 = .ok (.getfield 451, 3) := dec_of da_X12_goSlot_0 (k := 24) rfl
theorem dX12_goSlot_45 : decode cX12_goSlot 45 = .ok (.if_icmp .ge 20, 3) := dec_of da_X12_goSlot_0 (k := 25) rfl
theorem dX12_goSlot_48 : decode cX12_goSlot 48 = .ok (.iload_n 2, 1) := dec_of da_X12_goSlot_0 (k := 26) rfl
theorem dX12_goSlot_49 : decode cX12_goSlot 49 = .ok (.ifCond .eq 16, 3) := dec_of da_X12_goSlot_0 (k := 27) rfl
theorem dX12_goSlot_52 : decode cX12_goSlot 52 = .ok (.aload_n 0, 1) := dec_of da_X12_goSlot_0 (k := 28) rfl
theorem dX12_goSlot_53 : decode cX12_goSlot 53 = .ok (.getfield 208, 3) := dec_of da_X12_goSlot_0 (k := 29) rfl
theorem dX12_goSlot_56 : decode cX12_goSlot 56 = .ok (.iload_n 3, 1) := dec_of da_X12_goSlot_0 (k := 30) rfl
theorem dX12_goSlot_57 : decode cX12_goSlot 57 = .ok (.iconst 0, 1) := dec_of da_X12_goSlot_0 (k := 31) rfl
theorem dX12_goSlot_58 : decode cX12_goSlot 58 = .ok (.bastore, 1) := dec_of da_X12_goSlot_0 (k := 32) rfl
theorem dX12_goSlot_59 : decode cX12_goSlot 59 = .ok (.iinc 3 1, 3) := dec_of da_X12_goSlot_0 (k := 33) rfl
theorem dX12_goSlot_62 : decode cX12_goSlot 62 = .ok (.goto (-22), 3) := dec_of da_X12_goSlot_0 (k := 34) rfl
theorem dX12_goSlot_65 : decode cX12_goSlot 65 = .ok (.aload_n 0, 1) := dec_of da_X12_goSlot_0 (k := 35) rfl
theorem dX12_goSlot_66 : decode cX12_goSlot 66 = .ok (.invokevirtual 507, 3) := dec_of da_X12_goSlot_0 (k := 36) rfl
theorem dX12_goSlot_69 : decode cX12_goSlot 69 = .ok (.iconst 0, 1) := dec_of da_X12_goSlot_0 (k := 37) rfl
theorem dX12_goSlot_70 : decode cX12_goSlot 70 = .ok (.istore_n 3, 1) := dec_of da_X12_goSlot_0 (k := 38) rfl
theorem dX12_goSlot_71 : decode cX12_goSlot 71 = .ok (.iload_n 3, 1) := dec_of da_X12_goSlot_0 (k := 39) rfl
theorem dX12_goSlot_72 : decode cX12_goSlot 72 = .ok (.bipush 9, 2) := dec_of da_X12_goSlot_0 (k := 40) rfl
theorem dX12_goSlot_74 : decode cX12_goSlot 74 = .ok (.if_icmp .ge 38, 3) := dec_of da_X12_goSlot_0 (k := 41) rfl
theorem dX12_goSlot_77 : decode cX12_goSlot 77 = .ok (.aload_n 0, 1) := dec_of da_X12_goSlot_0 (k := 42) rfl
theorem dX12_goSlot_78 : decode cX12_goSlot 78 = .ok (.getfield 184, 3) := dec_of da_X12_goSlot_0 (k := 43) rfl
theorem dX12_goSlot_81 : decode cX12_goSlot 81 = .ok (.iload_n 3, 1) := dec_of da_X12_goSlot_0 (k := 44) rfl
theorem dX12_goSlot_82 : decode cX12_goSlot 82 = .ok (.baload, 1) := dec_of da_X12_goSlot_0 (k := 45) rfl
theorem dX12_goSlot_83 : decode cX12_goSlot 83 = .ok (.ifCond .eq 23, 3) := dec_of da_X12_goSlot_0 (k := 46) rfl
theorem dX12_goSlot_86 : decode cX12_goSlot 86 = .ok (.aload_n 0, 1) := dec_of da_X12_goSlot_0 (k := 47) rfl
theorem dX12_goSlot_87 : decode cX12_goSlot 87 = .ok (.getfield 454, 3) := dec_of da_X12_goSlot_0 (k := 48) rfl
theorem dX12_goSlot_90 : decode cX12_goSlot 90 = .ok (.aload_n 0, 1) := dec_of da_X12_goSlot_0 (k := 49) rfl
theorem dX12_goSlot_91 : decode cX12_goSlot 91 = .ok (.getfield 187, 3) := dec_of da_X12_goSlot_0 (k := 50) rfl
theorem dX12_goSlot_94 : decode cX12_goSlot 94 = .ok (.iload_n 3, 1) := dec_of da_X12_goSlot_0 (k := 51) rfl
theorem dX12_goSlot_95 : decode cX12_goSlot 95 = .ok (.iaload, 1) := dec_of da_X12_goSlot_0 (k := 52) rfl
theorem dX12_goSlot_96 : decode cX12_goSlot 96 = .ok (.isub, 1) := dec_of da_X12_goSlot_0 (k := 53) rfl
theorem dX12_goSlot_97 : decode cX12_goSlot 97 = .ok (.iconst 4, 1) := dec_of da_X12_goSlot_0 (k := 54) rfl
theorem dX12_goSlot_98 : decode cX12_goSlot 98 = .ok (.if_icmp .ne 8, 3) := dec_of da_X12_goSlot_0 (k := 55) rfl
theorem dX12_goSlot_101 : decode cX12_goSlot 101 = .ok (.aload_n 0, 1) := dec_of da_X12_goSlot_0 (k := 56) rfl
theorem dX12_goSlot_102 : decode cX12_goSlot 102 = .ok (.iload_n 3, 1) := dec_of da_X12_goSlot_0 (k := 57) rfl
theorem dX12_goSlot_103 : decode cX12_goSlot 103 = .ok (.invokevirtual 510, 3) := dec_of da_X12_goSlot_0 (k := 58) rfl
theorem dX12_goSlot_106 : decode cX12_goSlot 106 = .ok (.iinc 3 1, 3) := dec_of da_X12_goSlot_0 (k := 59) rfl
def dl_X12_goSlot_1 : List (Nat × (Instr × Nat)) := [(109, (.goto (-38), 3)), (112, (.iconst 0, 1)), (113, (.istore_n 3, 1)), (114, (.iload_n 3, 1)), (115, (.bipush 9, 2)), (117, (.if_icmp .ge 67, 3)), (120, (.iload_n 1, 1)), (121, (.ifCond .eq 63, 3)), (124, (.aload_n 0, 1)), (125, (.getfield 178, 3)), (128, (.iconst 3, 1)), (129, (.if_icmp .lt 55, 3)), (132, (.aload_n 0, 1)), (133, (.getfield 190, 3)), (136, (.iload_n 3, 1)), (137, (.iaload, 1)), (138, (.ifCond .ne 40, 3)), (141, (.aload_n 0, 1)), (142, (.getfield 184, 3)), (145, (.iload_n 3, 1)), (146, (.baload, 1)), (147, (.ifCond .ne 31, 3)), (150, (.aload_n 0, 1)), (151, (.getfield 111, 3)), (154, (.iload_n 3, 1)), (155, (.iaload, 1)), (156, (.ifCond .le 22, 3)), (159, (.aload_n 0, 1)), (160, (.getfield 153, 3)), (163, (.iload_n 3, 1)), (164, (.iaload, 1)), (165, (.ifCond .le 13, 3)), (168, (.aload_n 0, 1)), (169, (.getfield 153, 3)), (172, (.iload_n 3, 1)), (173, (.dup2, 1)), (174, (.iaload, 1)), (175, (.iconst 1, 1)), (176, (.isub, 1)), (177, (.iastore, 1)), (178, (.iinc 3 1, 3)), (181, (.goto (-67), 3)), (184, (.aload_n 0, 1)), (185, (.dup, 1)), (186, (.getfield 513, 3)), (189, (.iload_n 1, 1)), (190, (.ifCond .eq 7, 3)), (193, (.iconst 1, 1)), (194, (.goto 4, 3)), (197, (.iconst 0, 1)), (198, (.iadd, 1)), (199, (.putfield 513, 3)), (202, (.aload_n 0, 1)), (203, (.iload_n 1, 1)), (204, (.ifCond .eq 24, 3)), (207, (.aload_n 0, 1)), (208, (.getfield 178, 3)), (211, (.iconst 3, 1)), (212, (.if_icmp .ge 12, 3)), (215, (.aload_n 0, 1))]
set_option maxRecDepth 100000 in
theorem da_X12_goSlot_1 : dl_X12_goSlot_1.all (fun q => decide (decode cX12_goSlot q.1 = .ok q.2)) = true := by decide +kernel
theorem dX12_goSlot_109 : decode cX12_goSlot 109 = .ok (.goto (-38), 3) := dec_of da_X12_goSlot_1 (k := 0) rfl
theorem dX12_goSlot_112 : decode cX12_goSlot 112 = .ok (.iconst 0, 1) := dec_of da_X12_goSlot_1 (k := 1) rfl
theorem dX12_goSlot_113 : decode cX12_goSlot 113 = .ok (.istore_n 3, 1) := dec_of da_X12_goSlot_1 (k := 2) rfl
theorem dX12_goSlot_114 : decode cX12_goSlot 114 = .ok (.iload_n 3, 1) := dec_of da_X12_goSlot_1 (k := 3) rfl
theorem dX12_goSlot_115 : decode cX12_goSlot 115 = .ok (.bipush 9, 2) := dec_of da_X12_goSlot_1 (k := 4) rfl
theorem dX12_goSlot_117 : decode cX12_goSlot 117 = .ok (.if_icmp .ge 67, 3) := dec_of da_X12_goSlot_1 (k := 5) rfl
theorem dX12_goSlot_120 : decode cX12_goSlot 120 = .ok (.iload_n 1, 1) := dec_of da_X12_goSlot_1 (k := 6) rfl
theorem dX12_goSlot_121 : decode cX12_goSlot 121 = .ok (.ifCond .eq 63, 3) := dec_of da_X12_goSlot_1 (k := 7) rfl
theorem dX12_goSlot_124 : decode cX12_goSlot 124 = .ok (.aload_n 0, 1) := dec_of da_X12_goSlot_1 (k := 8) rfl
theorem dX12_goSlot_125 : decode cX12_goSlot 125 = .ok (.getfield 178, 3) := dec_of da_X12_goSlot_1 (k := 9) rfl
theorem dX12_goSlot_128 : decode cX12_goSlot 128 = .ok (.iconst 3, 1) := dec_of da_X12_goSlot_1 (k := 10) rfl
theorem dX12_goSlot_129 : decode cX12_goSlot 129 = .ok (.if_icmp .lt 55, 3) := dec_of da_X12_goSlot_1 (k := 11) rfl
theorem dX12_goSlot_132 : decode cX12_goSlot 132 = .ok (.aload_n 0, 1) := dec_of da_X12_goSlot_1 (k := 12) rfl
theorem dX12_goSlot_133 : decode cX12_goSlot 133 = .ok (.getfield 190, 3) := dec_of da_X12_goSlot_1 (k := 13) rfl
theorem dX12_goSlot_136 : decode cX12_goSlot 136 = .ok (.iload_n 3, 1) := dec_of da_X12_goSlot_1 (k := 14) rfl
theorem dX12_goSlot_137 : decode cX12_goSlot 137 = .ok (.iaload, 1) := dec_of da_X12_goSlot_1 (k := 15) rfl
theorem dX12_goSlot_138 : decode cX12_goSlot 138 = .ok (.ifCond .ne 40, 3) := dec_of da_X12_goSlot_1 (k := 16) rfl
theorem dX12_goSlot_141 : decode cX12_goSlot 141 = .ok (.aload_n 0, 1) := dec_of da_X12_goSlot_1 (k := 17) rfl
theorem dX12_goSlot_142 : decode cX12_goSlot 142 = .ok (.getfield 184, 3) := dec_of da_X12_goSlot_1 (k := 18) rfl
theorem dX12_goSlot_145 : decode cX12_goSlot 145 = .ok (.iload_n 3, 1) := dec_of da_X12_goSlot_1 (k := 19) rfl
theorem dX12_goSlot_146 : decode cX12_goSlot 146 = .ok (.baload, 1) := dec_of da_X12_goSlot_1 (k := 20) rfl
theorem dX12_goSlot_147 : decode cX12_goSlot 147 = .ok (.ifCond .ne 31, 3) := dec_of da_X12_goSlot_1 (k := 21) rfl
theorem dX12_goSlot_150 : decode cX12_goSlot 150 = .ok (.aload_n 0, 1) := dec_of da_X12_goSlot_1 (k := 22) rfl
theorem dX12_goSlot_151 : decode cX12_goSlot 151 = .ok (.getfield 111, 3) := dec_of da_X12_goSlot_1 (k := 23) rfl
theorem dX12_goSlot_154 : decode cX12_goSlot 154 = .ok (.iload_n 3, 1) := dec_of da_X12_goSlot_1 (k := 24) rfl
theorem dX12_goSlot_155 : decode cX12_goSlot 155 = .ok (.iaload, 1) := dec_of da_X12_goSlot_1 (k := 25) rfl
theorem dX12_goSlot_156 : decode cX12_goSlot 156 = .ok (.ifCond .le 22, 3) := dec_of da_X12_goSlot_1 (k := 26) rfl
theorem dX12_goSlot_159 : decode cX12_goSlot 159 = .ok (.aload_n 0, 1) := dec_of da_X12_goSlot_1 (k := 27) rfl
theorem dX12_goSlot_160 : decode cX12_goSlot 160 = .ok (.getfield 153, 3) := dec_of da_X12_goSlot_1 (k := 28) rfl
theorem dX12_goSlot_163 : decode cX12_goSlot 163 = .ok (.iload_n 3, 1) := dec_of da_X12_goSlot_1 (k := 29) rfl
theorem dX12_goSlot_164 : decode cX12_goSlot 164 = .ok (.iaload, 1) := dec_of da_X12_goSlot_1 (k := 30) rfl
theorem dX12_goSlot_165 : decode cX12_goSlot 165 = .ok (.ifCond .le 13, 3) := dec_of da_X12_goSlot_1 (k := 31) rfl
theorem dX12_goSlot_168 : decode cX12_goSlot 168 = .ok (.aload_n 0, 1) := dec_of da_X12_goSlot_1 (k := 32) rfl
theorem dX12_goSlot_169 : decode cX12_goSlot 169 = .ok (.getfield 153, 3) := dec_of da_X12_goSlot_1 (k := 33) rfl
theorem dX12_goSlot_172 : decode cX12_goSlot 172 = .ok (.iload_n 3, 1) := dec_of da_X12_goSlot_1 (k := 34) rfl
theorem dX12_goSlot_173 : decode cX12_goSlot 173 = .ok (.dup2, 1) := dec_of da_X12_goSlot_1 (k := 35) rfl
theorem dX12_goSlot_174 : decode cX12_goSlot 174 = .ok (.iaload, 1) := dec_of da_X12_goSlot_1 (k := 36) rfl
theorem dX12_goSlot_175 : decode cX12_goSlot 175 = .ok (.iconst 1, 1) := dec_of da_X12_goSlot_1 (k := 37) rfl
theorem dX12_goSlot_176 : decode cX12_goSlot 176 = .ok (.isub, 1) := dec_of da_X12_goSlot_1 (k := 38) rfl
theorem dX12_goSlot_177 : decode cX12_goSlot 177 = .ok (.iastore, 1) := dec_of da_X12_goSlot_1 (k := 39) rfl
theorem dX12_goSlot_178 : decode cX12_goSlot 178 = .ok (.iinc 3 1, 3) := dec_of da_X12_goSlot_1 (k := 40) rfl
theorem dX12_goSlot_181 : decode cX12_goSlot 181 = .ok (.goto (-67), 3) := dec_of da_X12_goSlot_1 (k := 41) rfl
theorem dX12_goSlot_184 : decode cX12_goSlot 184 = .ok (.aload_n 0, 1) := dec_of da_X12_goSlot_1 (k := 42) rfl
theorem dX12_goSlot_185 : decode cX12_goSlot 185 = .ok (.dup, 1) := dec_of da_X12_goSlot_1 (k := 43) rfl
theorem dX12_goSlot_186 : decode cX12_goSlot 186 = .ok (.getfield 513, 3) := dec_of da_X12_goSlot_1 (k := 44) rfl
theorem dX12_goSlot_189 : decode cX12_goSlot 189 = .ok (.iload_n 1, 1) := dec_of da_X12_goSlot_1 (k := 45) rfl
theorem dX12_goSlot_190 : decode cX12_goSlot 190 = .ok (.ifCond .eq 7, 3) := dec_of da_X12_goSlot_1 (k := 46) rfl
theorem dX12_goSlot_193 : decode cX12_goSlot 193 = .ok (.iconst 1, 1) := dec_of da_X12_goSlot_1 (k := 47) rfl
theorem dX12_goSlot_194 : decode cX12_goSlot 194 = .ok (.goto 4, 3) := dec_of da_X12_goSlot_1 (k := 48) rfl
theorem dX12_goSlot_197 : decode cX12_goSlot 197 = .ok (.iconst 0, 1) := dec_of da_X12_goSlot_1 (k := 49) rfl
theorem dX12_goSlot_198 : decode cX12_goSlot 198 = .ok (.iadd, 1) := dec_of da_X12_goSlot_1 (k := 50) rfl
theorem dX12_goSlot_199 : decode cX12_goSlot 199 = .ok (.putfield 513, 3) := dec_of da_X12_goSlot_1 (k := 51) rfl
theorem dX12_goSlot_202 : decode cX12_goSlot 202 = .ok (.aload_n 0, 1) := dec_of da_X12_goSlot_1 (k := 52) rfl
theorem dX12_goSlot_203 : decode cX12_goSlot 203 = .ok (.iload_n 1, 1) := dec_of da_X12_goSlot_1 (k := 53) rfl
theorem dX12_goSlot_204 : decode cX12_goSlot 204 = .ok (.ifCond .eq 24, 3) := dec_of da_X12_goSlot_1 (k := 54) rfl
theorem dX12_goSlot_207 : decode cX12_goSlot 207 = .ok (.aload_n 0, 1) := dec_of da_X12_goSlot_1 (k := 55) rfl
theorem dX12_goSlot_208 : decode cX12_goSlot 208 = .ok (.getfield 178, 3) := dec_of da_X12_goSlot_1 (k := 56) rfl
theorem dX12_goSlot_211 : decode cX12_goSlot 211 = .ok (.iconst 3, 1) := dec_of da_X12_goSlot_1 (k := 57) rfl
theorem dX12_goSlot_212 : decode cX12_goSlot 212 = .ok (.if_icmp .ge 12, 3) := dec_of da_X12_goSlot_1 (k := 58) rfl
theorem dX12_goSlot_215 : decode cX12_goSlot 215 = .ok (.aload_n 0, 1) := dec_of da_X12_goSlot_1 (k := 59) rfl
def dl_X12_goSlot_2 : List (Nat × (Instr × Nat)) := [(216, (.getfield 178, 3)), (219, (.iconst 1, 1)), (220, (.iadd, 1)), (221, (.goto 8, 3)), (224, (.iconst 3, 1)), (225, (.goto 4, 3)), (228, (.iconst 0, 1)), (229, (.putfield 178, 3)), (232, (.aload_n 0, 1)), (233, (.dup, 1)), (234, (.getfield 454, 3)), (237, (.iconst 1, 1)), (238, (.iadd, 1)), (239, (.putfield 454, 3)), (242, (.return_, 1))]
set_option maxRecDepth 100000 in
theorem da_X12_goSlot_2 : dl_X12_goSlot_2.all (fun q => decide (decode cX12_goSlot q.1 = .ok q.2)) = true := by decide +kernel
theorem dX12_goSlot_216 : decode cX12_goSlot 216 = .ok (.getfield 178, 3) := dec_of da_X12_goSlot_2 (k := 0) rfl
theorem dX12_goSlot_219 : decode cX12_goSlot 219 = .ok (.iconst 1, 1) := dec_of da_X12_goSlot_2 (k := 1) rfl
theorem dX12_goSlot_220 : decode cX12_goSlot 220 = .ok (.iadd, 1) := dec_of da_X12_goSlot_2 (k := 2) rfl
theorem dX12_goSlot_221 : decode cX12_goSlot 221 = .ok (.goto 8, 3) := dec_of da_X12_goSlot_2 (k := 3) rfl
theorem dX12_goSlot_224 : decode cX12_goSlot 224 = .ok (.iconst 3, 1) := dec_of da_X12_goSlot_2 (k := 4) rfl
theorem dX12_goSlot_225 : decode cX12_goSlot 225 = .ok (.goto 4, 3) := dec_of da_X12_goSlot_2 (k := 5) rfl
theorem dX12_goSlot_228 : decode cX12_goSlot 228 = .ok (.iconst 0, 1) := dec_of da_X12_goSlot_2 (k := 6) rfl
theorem dX12_goSlot_229 : decode cX12_goSlot 229 = .ok (.putfield 178, 3) := dec_of da_X12_goSlot_2 (k := 7) rfl
theorem dX12_goSlot_232 : decode cX12_goSlot 232 = .ok (.aload_n 0, 1) := dec_of da_X12_goSlot_2 (k := 8) rfl
theorem dX12_goSlot_233 : decode cX12_goSlot 233 = .ok (.dup, 1) := dec_of da_X12_goSlot_2 (k := 9) rfl
theorem dX12_goSlot_234 : decode cX12_goSlot 234 = .ok (.getfield 454, 3) := dec_of da_X12_goSlot_2 (k := 10) rfl
theorem dX12_goSlot_237 : decode cX12_goSlot 237 = .ok (.iconst 1, 1) := dec_of da_X12_goSlot_2 (k := 11) rfl
theorem dX12_goSlot_238 : decode cX12_goSlot 238 = .ok (.iadd, 1) := dec_of da_X12_goSlot_2 (k := 12) rfl
theorem dX12_goSlot_239 : decode cX12_goSlot 239 = .ok (.putfield 454, 3) := dec_of da_X12_goSlot_2 (k := 13) rfl
theorem dX12_goSlot_242 : decode cX12_goSlot 242 = .ok (.return_, 1) := dec_of da_X12_goSlot_2 (k := 14) rfl
def dl_X12_nodeAt_0 : List (Nat × (Instr × Nat)) := [(0, (.aload_n 0, 1)), (1, (.getfield 254, 3)), (4, (.iload_n 1, 1)), (5, (.iaload, 1)), (6, (.iconst 2, 1)), (7, (.if_icmp .ne 64, 3)), (10, (.aload_n 0, 1)), (11, (.getfield 254, 3)), (14, (.iload_n 1, 1)), (15, (.iconst 1, 1)), (16, (.iadd, 1)), (17, (.iaload, 1)), (18, (.ifCond .ne 53, 3)), (21, (.aload_n 0, 1)), (22, (.getfield 254, 3)), (25, (.iload_n 1, 1)), (26, (.iconst 2, 1)), (27, (.iadd, 1)), (28, (.iaload, 1)), (29, (.ifCond .ne 42, 3)), (32, (.aload_n 0, 1)), (33, (.getfield 254, 3)), (36, (.iload_n 1, 1)), (37, (.iconst 3, 1)), (38, (.iadd, 1)), (39, (.iaload, 1)), (40, (.ifCond .ne 31, 3)), (43, (.aload_n 0, 1)), (44, (.getfield 254, 3)), (47, (.iload_n 1, 1)), (48, (.iconst 4, 1)), (49, (.iadd, 1)), (50, (.iaload, 1)), (51, (.ifCond .ne 20, 3)), (54, (.aload_n 0, 1)), (55, (.getfield 254, 3)), (58, (.iload_n 1, 1)), (59, (.iconst 5, 1)), (60, (.iadd, 1)), (61, (.iaload, 1)), (62, (.bipush 9, 2)), (64, (.if_icmp .ge 7, 3)), (67, (.iconst 1, 1)), (68, (.goto 4, 3)), (71, (.iconst 0, 1)), (72, (.istore_n 2, 1)), (73, (.iload_n 2, 1)), (74, (.ifCond .eq 14, 3)), (77, (.aload_n 0, 1)), (78, (.getfield 254, 3)), (81, (.iload_n 1, 1)), (82, (.iconst 5, 1)), (83, (.iadd, 1)), (84, (.iaload, 1)), (85, (.goto 4, 3)), (88, (.iconst (-1), 1)), (89, (.ireturn, 1))]
set_option maxRecDepth 100000 in
theorem da_X12_nodeAt_0 : dl_X12_nodeAt_0.all (fun q => decide (decode cX12_nodeAt q.1 = .ok q.2)) = true := by decide +kernel
theorem dX12_nodeAt_0 : decode cX12_nodeAt 0 = .ok (.aload_n 0, 1) := dec_of da_X12_nodeAt_0 (k := 0) rfl
theorem dX12_nodeAt_1 : decode cX12_nodeAt 1 = .ok (.getfield 254, 3) := dec_of da_X12_nodeAt_0 (k := 1) rfl
theorem dX12_nodeAt_4 : decode cX12_nodeAt 4 = .ok (.iload_n 1, 1) := dec_of da_X12_nodeAt_0 (k := 2) rfl
theorem dX12_nodeAt_5 : decode cX12_nodeAt 5 = .ok (.iaload, 1) := dec_of da_X12_nodeAt_0 (k := 3) rfl
theorem dX12_nodeAt_6 : decode cX12_nodeAt 6 = .ok (.iconst 2, 1) := dec_of da_X12_nodeAt_0 (k := 4) rfl
theorem dX12_nodeAt_7 : decode cX12_nodeAt 7 = .ok (.if_icmp .ne 64, 3) := dec_of da_X12_nodeAt_0 (k := 5) rfl
theorem dX12_nodeAt_10 : decode cX12_nodeAt 10 = .ok (.aload_n 0, 1) := dec_of da_X12_nodeAt_0 (k := 6) rfl
theorem dX12_nodeAt_11 : decode cX12_nodeAt 11 = .ok (.getfield 254, 3) := dec_of da_X12_nodeAt_0 (k := 7) rfl
theorem dX12_nodeAt_14 : decode cX12_nodeAt 14 = .ok (.iload_n 1, 1) := dec_of da_X12_nodeAt_0 (k := 8) rfl
theorem dX12_nodeAt_15 : decode cX12_nodeAt 15 = .ok (.iconst 1, 1) := dec_of da_X12_nodeAt_0 (k := 9) rfl
theorem dX12_nodeAt_16 : decode cX12_nodeAt 16 = .ok (.iadd, 1) := dec_of da_X12_nodeAt_0 (k := 10) rfl
theorem dX12_nodeAt_17 : decode cX12_nodeAt 17 = .ok (.iaload, 1) := dec_of da_X12_nodeAt_0 (k := 11) rfl
theorem dX12_nodeAt_18 : decode cX12_nodeAt 18 = .ok (.ifCond .ne 53, 3) := dec_of da_X12_nodeAt_0 (k := 12) rfl
theorem dX12_nodeAt_21 : decode cX12_nodeAt 21 = .ok (.aload_n 0, 1) := dec_of da_X12_nodeAt_0 (k := 13) rfl
theorem dX12_nodeAt_22 : decode cX12_nodeAt 22 = .ok (.getfield 254, 3) := dec_of da_X12_nodeAt_0 (k := 14) rfl
theorem dX12_nodeAt_25 : decode cX12_nodeAt 25 = .ok (.iload_n 1, 1) := dec_of da_X12_nodeAt_0 (k := 15) rfl
theorem dX12_nodeAt_26 : decode cX12_nodeAt 26 = .ok (.iconst 2, 1) := dec_of da_X12_nodeAt_0 (k := 16) rfl
theorem dX12_nodeAt_27 : decode cX12_nodeAt 27 = .ok (.iadd, 1) := dec_of da_X12_nodeAt_0 (k := 17) rfl
theorem dX12_nodeAt_28 : decode cX12_nodeAt 28 = .ok (.iaload, 1) := dec_of da_X12_nodeAt_0 (k := 18) rfl
theorem dX12_nodeAt_29 : decode cX12_nodeAt 29 = .ok (.ifCond .ne 42, 3) := dec_of da_X12_nodeAt_0 (k := 19) rfl
theorem dX12_nodeAt_32 : decode cX12_nodeAt 32 = .ok (.aload_n 0, 1) := dec_of da_X12_nodeAt_0 (k := 20) rfl
theorem dX12_nodeAt_33 : decode cX12_nodeAt 33 = .ok (.getfield 254, 3) := dec_of da_X12_nodeAt_0 (k := 21) rfl
theorem dX12_nodeAt_36 : decode cX12_nodeAt 36 = .ok (.iload_n 1, 1) := dec_of da_X12_nodeAt_0 (k := 22) rfl
theorem dX12_nodeAt_37 : decode cX12_nodeAt 37 = .ok (.iconst 3, 1) := dec_of da_X12_nodeAt_0 (k := 23) rfl
theorem dX12_nodeAt_38 : decode cX12_nodeAt 38 = .ok (.iadd, 1) := dec_of da_X12_nodeAt_0 (k := 24) rfl
theorem dX12_nodeAt_39 : decode cX12_nodeAt 39 = .ok (.iaload, 1) := dec_of da_X12_nodeAt_0 (k := 25) rfl
theorem dX12_nodeAt_40 : decode cX12_nodeAt 40 = .ok (.ifCond .ne 31, 3) := dec_of da_X12_nodeAt_0 (k := 26) rfl
theorem dX12_nodeAt_43 : decode cX12_nodeAt 43 = .ok (.aload_n 0, 1) := dec_of da_X12_nodeAt_0 (k := 27) rfl
theorem dX12_nodeAt_44 : decode cX12_nodeAt 44 = .ok (.getfield 254, 3) := dec_of da_X12_nodeAt_0 (k := 28) rfl
theorem dX12_nodeAt_47 : decode cX12_nodeAt 47 = .ok (.iload_n 1, 1) := dec_of da_X12_nodeAt_0 (k := 29) rfl
theorem dX12_nodeAt_48 : decode cX12_nodeAt 48 = .ok (.iconst 4, 1) := dec_of da_X12_nodeAt_0 (k := 30) rfl
theorem dX12_nodeAt_49 : decode cX12_nodeAt 49 = .ok (.iadd, 1) := dec_of da_X12_nodeAt_0 (k := 31) rfl
theorem dX12_nodeAt_50 : decode cX12_nodeAt 50 = .ok (.iaload, 1) := dec_of da_X12_nodeAt_0 (k := 32) rfl
theorem dX12_nodeAt_51 : decode cX12_nodeAt 51 = .ok (.ifCond .ne 20, 3) := dec_of da_X12_nodeAt_0 (k := 33) rfl
theorem dX12_nodeAt_54 : decode cX12_nodeAt 54 = .ok (.aload_n 0, 1) := dec_of da_X12_nodeAt_0 (k := 34) rfl
theorem dX12_nodeAt_55 : decode cX12_nodeAt 55 = .ok (.getfield 254, 3) := dec_of da_X12_nodeAt_0 (k := 35) rfl
theorem dX12_nodeAt_58 : decode cX12_nodeAt 58 = .ok (.iload_n 1, 1) := dec_of da_X12_nodeAt_0 (k := 36) rfl
theorem dX12_nodeAt_59 : decode cX12_nodeAt 59 = .ok (.iconst 5, 1) := dec_of da_X12_nodeAt_0 (k := 37) rfl
theorem dX12_nodeAt_60 : decode cX12_nodeAt 60 = .ok (.iadd, 1) := dec_of da_X12_nodeAt_0 (k := 38) rfl
theorem dX12_nodeAt_61 : decode cX12_nodeAt 61 = .ok (.iaload, 1) := dec_of da_X12_nodeAt_0 (k := 39) rfl
theorem dX12_nodeAt_62 : decode cX12_nodeAt 62 = .ok (.bipush 9, 2) := dec_of da_X12_nodeAt_0 (k := 40) rfl
theorem dX12_nodeAt_64 : decode cX12_nodeAt 64 = .ok (.if_icmp .ge 7, 3) := dec_of da_X12_nodeAt_0 (k := 41) rfl
theorem dX12_nodeAt_67 : decode cX12_nodeAt 67 = .ok (.iconst 1, 1) := dec_of da_X12_nodeAt_0 (k := 42) rfl
theorem dX12_nodeAt_68 : decode cX12_nodeAt 68 = .ok (.goto 4, 3) := dec_of da_X12_nodeAt_0 (k := 43) rfl
theorem dX12_nodeAt_71 : decode cX12_nodeAt 71 = .ok (.iconst 0, 1) := dec_of da_X12_nodeAt_0 (k := 44) rfl
theorem dX12_nodeAt_72 : decode cX12_nodeAt 72 = .ok (.istore_n 2, 1) := dec_of da_X12_nodeAt_0 (k := 45) rfl
theorem dX12_nodeAt_73 : decode cX12_nodeAt 73 = .ok (.iload_n 2, 1) := dec_of da_X12_nodeAt_0 (k := 46) rfl
theorem dX12_nodeAt_74 : decode cX12_nodeAt 74 = .ok (.ifCond .eq 14, 3) := dec_of da_X12_nodeAt_0 (k := 47) rfl
theorem dX12_nodeAt_77 : decode cX12_nodeAt 77 = .ok (.aload_n 0, 1) := dec_of da_X12_nodeAt_0 (k := 48) rfl
theorem dX12_nodeAt_78 : decode cX12_nodeAt 78 = .ok (.getfield 254, 3) := dec_of da_X12_nodeAt_0 (k := 49) rfl
theorem dX12_nodeAt_81 : decode cX12_nodeAt 81 = .ok (.iload_n 1, 1) := dec_of da_X12_nodeAt_0 (k := 50) rfl
theorem dX12_nodeAt_82 : decode cX12_nodeAt 82 = .ok (.iconst 5, 1) := dec_of da_X12_nodeAt_0 (k := 51) rfl
theorem dX12_nodeAt_83 : decode cX12_nodeAt 83 = .ok (.iadd, 1) := dec_of da_X12_nodeAt_0 (k := 52) rfl
theorem dX12_nodeAt_84 : decode cX12_nodeAt 84 = .ok (.iaload, 1) := dec_of da_X12_nodeAt_0 (k := 53) rfl
theorem dX12_nodeAt_85 : decode cX12_nodeAt 85 = .ok (.goto 4, 3) := dec_of da_X12_nodeAt_0 (k := 54) rfl
theorem dX12_nodeAt_88 : decode cX12_nodeAt 88 = .ok (.iconst (-1), 1) := dec_of da_X12_nodeAt_0 (k := 55) rfl
theorem dX12_nodeAt_89 : decode cX12_nodeAt 89 = .ok (.ireturn, 1) := dec_of da_X12_nodeAt_0 (k := 56) rfl
def dl_X12_isWhole_0 : List (Nat × (Instr × Nat)) := [(0, (.aload_n 0, 1)), (1, (.getfield 482, 3)), (4, (.bipush 14, 2)), (6, (.if_icmp .ge 5, 3)), (9, (.iconst 0, 1)), (10, (.ireturn, 1)), (11, (.aload_n 0, 1)), (12, (.getfield 254, 3)), (15, (.iconst 0, 1)), (16, (.aload_n 0, 1)), (17, (.getfield 482, 3)), (20, (.iconst 4, 1)), (21, (.isub, 1)), (22, (.invokestatic 358, 3)), (25, (.istore_n 1, 1)), (26, (.iconst 1, 1)), (27, (.istore_n 2, 1)), (28, (.iconst 0, 1)), (29, (.istore_n 3, 1)), (30, (.iload_n 3, 1)), (31, (.iconst 4, 1)), (32, (.if_icmp .ge 45, 3)), (35, (.iload_n 2, 1)), (36, (.ifCond .eq 33, 3)), (39, (.aload_n 0, 1)), (40, (.getfield 254, 3)), (43, (.aload_n 0, 1)), (44, (.getfield 482, 3)), (47, (.iconst 4, 1)), (48, (.isub, 1)), (49, (.iload_n 3, 1)), (50, (.iadd, 1)), (51, (.iaload, 1)), (52, (.iload_n 1, 1)), (53, (.bipush 8, 2)), (55, (.iload_n 3, 1)), (56, (.imul, 1)), (57, (.ishr, 1)), (58, (.sipush 255, 3)), (61, (.iand, 1)), (62, (.if_icmp .ne 7, 3)), (65, (.iconst 1, 1)), (66, (.goto 4, 3)), (69, (.iconst 0, 1)), (70, (.istore_n 2, 1)), (71, (.iinc 3 1, 3)), (74, (.goto (-44), 3)), (77, (.iload_n 2, 1)), (78, (.ireturn, 1))]
set_option maxRecDepth 100000 in
theorem da_X12_isWhole_0 : dl_X12_isWhole_0.all (fun q => decide (decode cX12_isWhole q.1 = .ok q.2)) = true := by decide +kernel
theorem dX12_isWhole_0 : decode cX12_isWhole 0 = .ok (.aload_n 0, 1) := dec_of da_X12_isWhole_0 (k := 0) rfl
theorem dX12_isWhole_1 : decode cX12_isWhole 1 = .ok (.getfield 482, 3) := dec_of da_X12_isWhole_0 (k := 1) rfl
theorem dX12_isWhole_4 : decode cX12_isWhole 4 = .ok (.bipush 14, 2) := dec_of da_X12_isWhole_0 (k := 2) rfl
theorem dX12_isWhole_6 : decode cX12_isWhole 6 = .ok (.if_icmp .ge 5, 3) := dec_of da_X12_isWhole_0 (k := 3) rfl
theorem dX12_isWhole_9 : decode cX12_isWhole 9 = .ok (.iconst 0, 1) := dec_of da_X12_isWhole_0 (k := 4) rfl
theorem dX12_isWhole_10 : decode cX12_isWhole 10 = .ok (.ireturn, 1) := dec_of da_X12_isWhole_0 (k := 5) rfl
theorem dX12_isWhole_11 : decode cX12_isWhole 11 = .ok (.aload_n 0, 1) := dec_of da_X12_isWhole_0 (k := 6) rfl
theorem dX12_isWhole_12 : decode cX12_isWhole 12 = .ok (.getfield 254, 3) := dec_of da_X12_isWhole_0 (k := 7) rfl
theorem dX12_isWhole_15 : decode cX12_isWhole 15 = .ok (.iconst 0, 1) := dec_of da_X12_isWhole_0 (k := 8) rfl
theorem dX12_isWhole_16 : decode cX12_isWhole 16 = .ok (.aload_n 0, 1) := dec_of da_X12_isWhole_0 (k := 9) rfl
theorem dX12_isWhole_17 : decode cX12_isWhole 17 = .ok (.getfield 482, 3) := dec_of da_X12_isWhole_0 (k := 10) rfl
theorem dX12_isWhole_20 : decode cX12_isWhole 20 = .ok (.iconst 4, 1) := dec_of da_X12_isWhole_0 (k := 11) rfl
theorem dX12_isWhole_21 : decode cX12_isWhole 21 = .ok (.isub, 1) := dec_of da_X12_isWhole_0 (k := 12) rfl
theorem dX12_isWhole_22 : decode cX12_isWhole 22 = .ok (.invokestatic 358, 3) := dec_of da_X12_isWhole_0 (k := 13) rfl
theorem dX12_isWhole_25 : decode cX12_isWhole 25 = .ok (.istore_n 1, 1) := dec_of da_X12_isWhole_0 (k := 14) rfl
theorem dX12_isWhole_26 : decode cX12_isWhole 26 = .ok (.iconst 1, 1) := dec_of da_X12_isWhole_0 (k := 15) rfl
theorem dX12_isWhole_27 : decode cX12_isWhole 27 = .ok (.istore_n 2, 1) := dec_of da_X12_isWhole_0 (k := 16) rfl
theorem dX12_isWhole_28 : decode cX12_isWhole 28 = .ok (.iconst 0, 1) := dec_of da_X12_isWhole_0 (k := 17) rfl
theorem dX12_isWhole_29 : decode cX12_isWhole 29 = .ok (.istore_n 3, 1) := dec_of da_X12_isWhole_0 (k := 18) rfl
theorem dX12_isWhole_30 : decode cX12_isWhole 30 = .ok (.iload_n 3, 1) := dec_of da_X12_isWhole_0 (k := 19) rfl
theorem dX12_isWhole_31 : decode cX12_isWhole 31 = .ok (.iconst 4, 1) := dec_of da_X12_isWhole_0 (k := 20) rfl
theorem dX12_isWhole_32 : decode cX12_isWhole 32 = .ok (.if_icmp .ge 45, 3) := dec_of da_X12_isWhole_0 (k := 21) rfl
theorem dX12_isWhole_35 : decode cX12_isWhole 35 = .ok (.iload_n 2, 1) := dec_of da_X12_isWhole_0 (k := 22) rfl
theorem dX12_isWhole_36 : decode cX12_isWhole 36 = .ok (.ifCond .eq 33, 3) := dec_of da_X12_isWhole_0 (k := 23) rfl
theorem dX12_isWhole_39 : decode cX12_isWhole 39 = .ok (.aload_n 0, 1) := dec_of da_X12_isWhole_0 (k := 24) rfl
theorem dX12_isWhole_40 : decode cX12_isWhole 40 = .ok (.getfield 254, 3) := dec_of da_X12_isWhole_0 (k := 25) rfl
theorem dX12_isWhole_43 : decode cX12_isWhole 43 = .ok (.aload_n 0, 1) := dec_of da_X12_isWhole_0 (k := 26) rfl
theorem dX12_isWhole_44 : decode cX12_isWhole 44 = .ok (.getfield 482, 3) := dec_of da_X12_isWhole_0 (k := 27) rfl
theorem dX12_isWhole_47 : decode cX12_isWhole 47 = .ok (.iconst 4, 1) := dec_of da_X12_isWhole_0 (k := 28) rfl
theorem dX12_isWhole_48 : decode cX12_isWhole 48 = .ok (.isub, 1) := dec_of da_X12_isWhole_0 (k := 29) rfl
theorem dX12_isWhole_49 : decode cX12_isWhole 49 = .ok (.iload_n 3, 1) := dec_of da_X12_isWhole_0 (k := 30) rfl
theorem dX12_isWhole_50 : decode cX12_isWhole 50 = .ok (.iadd, 1) := dec_of da_X12_isWhole_0 (k := 31) rfl
theorem dX12_isWhole_51 : decode cX12_isWhole 51 = .ok (.iaload, 1) := dec_of da_X12_isWhole_0 (k := 32) rfl
theorem dX12_isWhole_52 : decode cX12_isWhole 52 = .ok (.iload_n 1, 1) := dec_of da_X12_isWhole_0 (k := 33) rfl
theorem dX12_isWhole_53 : decode cX12_isWhole 53 = .ok (.bipush 8, 2) := dec_of da_X12_isWhole_0 (k := 34) rfl
theorem dX12_isWhole_55 : decode cX12_isWhole 55 = .ok (.iload_n 3, 1) := dec_of da_X12_isWhole_0 (k := 35) rfl
theorem dX12_isWhole_56 : decode cX12_isWhole 56 = .ok (.imul, 1) := dec_of da_X12_isWhole_0 (k := 36) rfl
theorem dX12_isWhole_57 : decode cX12_isWhole 57 = .ok (.ishr, 1) := dec_of da_X12_isWhole_0 (k := 37) rfl
theorem dX12_isWhole_58 : decode cX12_isWhole 58 = .ok (.sipush 255, 3) := dec_of da_X12_isWhole_0 (k := 38) rfl
theorem dX12_isWhole_61 : decode cX12_isWhole 61 = .ok (.iand, 1) := dec_of da_X12_isWhole_0 (k := 39) rfl
theorem dX12_isWhole_62 : decode cX12_isWhole 62 = .ok (.if_icmp .ne 7, 3) := dec_of da_X12_isWhole_0 (k := 40) rfl
theorem dX12_isWhole_65 : decode cX12_isWhole 65 = .ok (.iconst 1, 1) := dec_of da_X12_isWhole_0 (k := 41) rfl
theorem dX12_isWhole_66 : decode cX12_isWhole 66 = .ok (.goto 4, 3) := dec_of da_X12_isWhole_0 (k := 42) rfl
theorem dX12_isWhole_69 : decode cX12_isWhole 69 = .ok (.iconst 0, 1) := dec_of da_X12_isWhole_0 (k := 43) rfl
theorem dX12_isWhole_70 : decode cX12_isWhole 70 = .ok (.istore_n 2, 1) := dec_of da_X12_isWhole_0 (k := 44) rfl
theorem dX12_isWhole_71 : decode cX12_isWhole 71 = .ok (.iinc 3 1, 3) := dec_of da_X12_isWhole_0 (k := 45) rfl
theorem dX12_isWhole_74 : decode cX12_isWhole 74 = .ok (.goto (-44), 3) := dec_of da_X12_isWhole_0 (k := 46) rfl
theorem dX12_isWhole_77 : decode cX12_isWhole 77 = .ok (.iload_n 2, 1) := dec_of da_X12_isWhole_0 (k := 47) rfl
theorem dX12_isWhole_78 : decode cX12_isWhole 78 = .ok (.ireturn, 1) := dec_of da_X12_isWhole_0 (k := 48) rfl
def dl_X12_isTold_0 : List (Nat × (Instr × Nat)) := [(0, (.aload_n 0, 1)), (1, (.getfield 254, 3)), (4, (.iconst 0, 1)), (5, (.iaload, 1)), (6, (.istore_n 1, 1)), (7, (.aload_n 0, 1)), (8, (.getfield 254, 3)), (11, (.iconst 1, 1)), (12, (.iaload, 1)), (13, (.istore_n 2, 1)), (14, (.iload_n 1, 1)), (15, (.sipush 212, 3)), (18, (.if_icmp .ne 22, 3)), (21, (.aload_n 0, 1)), (22, (.getfield 482, 3)), (25, (.bipush 14, 2)), (27, (.if_icmp .ne 11, 3)), (30, (.iload_n 2, 1)), (31, (.ifCond .ne 7, 3)), (34, (.iconst 1, 1)), (35, (.goto 4, 3)), (38, (.iconst 0, 1)), (39, (.ireturn, 1)), (40, (.aload_n 0, 1)), (41, (.getfield 482, 3)), (44, (.bipush 28, 2)), (46, (.if_icmp .ge 5, 3)), (49, (.iconst 0, 1)), (50, (.ireturn, 1)), (51, (.iload_n 1, 1)), (52, (.bipush 8, 2)), (54, (.if_icmp .ne 16, 3)), (57, (.iload_n 2, 1)), (58, (.bipush (-80), 2)), (60, (.iand, 1)), (61, (.ifCond .ne 7, 3)), (64, (.iconst 1, 1)), (65, (.goto 4, 3)), (68, (.iconst 0, 1)), (69, (.ireturn, 1)), (70, (.iload_n 1, 1)), (71, (.sipush 176, 3)), (74, (.if_icmp .eq 20, 3)), (77, (.iload_n 1, 1)), (78, (.ifCond .eq 16, 3)), (81, (.iload_n 1, 1)), (82, (.bipush 16, 2)), (84, (.if_icmp .eq 10, 3)), (87, (.iload_n 1, 1)), (88, (.sipush 192, 3)), (91, (.if_icmp .ne 17, 3)), (94, (.iload_n 2, 1)), (95, (.ifCond .eq 9, 3)), (98, (.iload_n 2, 1)), (99, (.bipush 8, 2)), (101, (.if_icmp .ne 7, 3)), (104, (.iconst 1, 1)), (105, (.goto 4, 3)), (108, (.iconst 0, 1)), (109, (.ireturn, 1))]
set_option maxRecDepth 100000 in
theorem da_X12_isTold_0 : dl_X12_isTold_0.all (fun q => decide (decode cX12_isTold q.1 = .ok q.2)) = true := by decide +kernel
theorem dX12_isTold_0 : decode cX12_isTold 0 = .ok (.aload_n 0, 1) := dec_of da_X12_isTold_0 (k := 0) rfl
theorem dX12_isTold_1 : decode cX12_isTold 1 = .ok (.getfield 254, 3) := dec_of da_X12_isTold_0 (k := 1) rfl
theorem dX12_isTold_4 : decode cX12_isTold 4 = .ok (.iconst 0, 1) := dec_of da_X12_isTold_0 (k := 2) rfl
theorem dX12_isTold_5 : decode cX12_isTold 5 = .ok (.iaload, 1) := dec_of da_X12_isTold_0 (k := 3) rfl
theorem dX12_isTold_6 : decode cX12_isTold 6 = .ok (.istore_n 1, 1) := dec_of da_X12_isTold_0 (k := 4) rfl
theorem dX12_isTold_7 : decode cX12_isTold 7 = .ok (.aload_n 0, 1) := dec_of da_X12_isTold_0 (k := 5) rfl
theorem dX12_isTold_8 : decode cX12_isTold 8 = .ok (.getfield 254, 3) := dec_of da_X12_isTold_0 (k := 6) rfl
theorem dX12_isTold_11 : decode cX12_isTold 11 = .ok (.iconst 1, 1) := dec_of da_X12_isTold_0 (k := 7) rfl
theorem dX12_isTold_12 : decode cX12_isTold 12 = .ok (.iaload, 1) := dec_of da_X12_isTold_0 (k := 8) rfl
theorem dX12_isTold_13 : decode cX12_isTold 13 = .ok (.istore_n 2, 1) := dec_of da_X12_isTold_0 (k := 9) rfl
theorem dX12_isTold_14 : decode cX12_isTold 14 = .ok (.iload_n 1, 1) := dec_of da_X12_isTold_0 (k := 10) rfl
theorem dX12_isTold_15 : decode cX12_isTold 15 = .ok (.sipush 212, 3) := dec_of da_X12_isTold_0 (k := 11) rfl
theorem dX12_isTold_18 : decode cX12_isTold 18 = .ok (.if_icmp .ne 22, 3) := dec_of da_X12_isTold_0 (k := 12) rfl
theorem dX12_isTold_21 : decode cX12_isTold 21 = .ok (.aload_n 0, 1) := dec_of da_X12_isTold_0 (k := 13) rfl
theorem dX12_isTold_22 : decode cX12_isTold 22 = .ok (.getfield 482, 3) := dec_of da_X12_isTold_0 (k := 14) rfl
theorem dX12_isTold_25 : decode cX12_isTold 25 = .ok (.bipush 14, 2) := dec_of da_X12_isTold_0 (k := 15) rfl
theorem dX12_isTold_27 : decode cX12_isTold 27 = .ok (.if_icmp .ne 11, 3) := dec_of da_X12_isTold_0 (k := 16) rfl
theorem dX12_isTold_30 : decode cX12_isTold 30 = .ok (.iload_n 2, 1) := dec_of da_X12_isTold_0 (k := 17) rfl
theorem dX12_isTold_31 : decode cX12_isTold 31 = .ok (.ifCond .ne 7, 3) := dec_of da_X12_isTold_0 (k := 18) rfl
theorem dX12_isTold_34 : decode cX12_isTold 34 = .ok (.iconst 1, 1) := dec_of da_X12_isTold_0 (k := 19) rfl
theorem dX12_isTold_35 : decode cX12_isTold 35 = .ok (.goto 4, 3) := dec_of da_X12_isTold_0 (k := 20) rfl
theorem dX12_isTold_38 : decode cX12_isTold 38 = .ok (.iconst 0, 1) := dec_of da_X12_isTold_0 (k := 21) rfl
theorem dX12_isTold_39 : decode cX12_isTold 39 = .ok (.ireturn, 1) := dec_of da_X12_isTold_0 (k := 22) rfl
theorem dX12_isTold_40 : decode cX12_isTold 40 = .ok (.aload_n 0, 1) := dec_of da_X12_isTold_0 (k := 23) rfl
theorem dX12_isTold_41 : decode cX12_isTold 41 = .ok (.getfield 482, 3) := dec_of da_X12_isTold_0 (k := 24) rfl
theorem dX12_isTold_44 : decode cX12_isTold 44 = .ok (.bipush 28, 2) := dec_of da_X12_isTold_0 (k := 25) rfl
theorem dX12_isTold_46 : decode cX12_isTold 46 = .ok (.if_icmp .ge 5, 3) := dec_of da_X12_isTold_0 (k := 26) rfl
theorem dX12_isTold_49 : decode cX12_isTold 49 = .ok (.iconst 0, 1) := dec_of da_X12_isTold_0 (k := 27) rfl
theorem dX12_isTold_50 : decode cX12_isTold 50 = .ok (.ireturn, 1) := dec_of da_X12_isTold_0 (k := 28) rfl
theorem dX12_isTold_51 : decode cX12_isTold 51 = .ok (.iload_n 1, 1) := dec_of da_X12_isTold_0 (k := 29) rfl
theorem dX12_isTold_52 : decode cX12_isTold 52 = .ok (.bipush 8, 2) := dec_of da_X12_isTold_0 (k := 30) rfl
theorem dX12_isTold_54 : decode cX12_isTold 54 = .ok (.if_icmp .ne 16, 3) := dec_of da_X12_isTold_0 (k := 31) rfl
theorem dX12_isTold_57 : decode cX12_isTold 57 = .ok (.iload_n 2, 1) := dec_of da_X12_isTold_0 (k := 32) rfl
theorem dX12_isTold_58 : decode cX12_isTold 58 = .ok (.bipush (-80), 2) := dec_of da_X12_isTold_0 (k := 33) rfl
theorem dX12_isTold_60 : decode cX12_isTold 60 = .ok (.iand, 1) := dec_of da_X12_isTold_0 (k := 34) rfl
theorem dX12_isTold_61 : decode cX12_isTold 61 = .ok (.ifCond .ne 7, 3) := dec_of da_X12_isTold_0 (k := 35) rfl
theorem dX12_isTold_64 : decode cX12_isTold 64 = .ok (.iconst 1, 1) := dec_of da_X12_isTold_0 (k := 36) rfl
theorem dX12_isTold_65 : decode cX12_isTold 65 = .ok (.goto 4, 3) := dec_of da_X12_isTold_0 (k := 37) rfl
theorem dX12_isTold_68 : decode cX12_isTold 68 = .ok (.iconst 0, 1) := dec_of da_X12_isTold_0 (k := 38) rfl
theorem dX12_isTold_69 : decode cX12_isTold 69 = .ok (.ireturn, 1) := dec_of da_X12_isTold_0 (k := 39) rfl
theorem dX12_isTold_70 : decode cX12_isTold 70 = .ok (.iload_n 1, 1) := dec_of da_X12_isTold_0 (k := 40) rfl
theorem dX12_isTold_71 : decode cX12_isTold 71 = .ok (.sipush 176, 3) := dec_of da_X12_isTold_0 (k := 41) rfl
theorem dX12_isTold_74 : decode cX12_isTold 74 = .ok (.if_icmp .eq 20, 3) := dec_of da_X12_isTold_0 (k := 42) rfl
theorem dX12_isTold_77 : decode cX12_isTold 77 = .ok (.iload_n 1, 1) := dec_of da_X12_isTold_0 (k := 43) rfl
theorem dX12_isTold_78 : decode cX12_isTold 78 = .ok (.ifCond .eq 16, 3) := dec_of da_X12_isTold_0 (k := 44) rfl
theorem dX12_isTold_81 : decode cX12_isTold 81 = .ok (.iload_n 1, 1) := dec_of da_X12_isTold_0 (k := 45) rfl
theorem dX12_isTold_82 : decode cX12_isTold 82 = .ok (.bipush 16, 2) := dec_of da_X12_isTold_0 (k := 46) rfl
theorem dX12_isTold_84 : decode cX12_isTold 84 = .ok (.if_icmp .eq 10, 3) := dec_of da_X12_isTold_0 (k := 47) rfl
theorem dX12_isTold_87 : decode cX12_isTold 87 = .ok (.iload_n 1, 1) := dec_of da_X12_isTold_0 (k := 48) rfl
theorem dX12_isTold_88 : decode cX12_isTold 88 = .ok (.sipush 192, 3) := dec_of da_X12_isTold_0 (k := 49) rfl
theorem dX12_isTold_91 : decode cX12_isTold 91 = .ok (.if_icmp .ne 17, 3) := dec_of da_X12_isTold_0 (k := 50) rfl
theorem dX12_isTold_94 : decode cX12_isTold 94 = .ok (.iload_n 2, 1) := dec_of da_X12_isTold_0 (k := 51) rfl
theorem dX12_isTold_95 : decode cX12_isTold 95 = .ok (.ifCond .eq 9, 3) := dec_of da_X12_isTold_0 (k := 52) rfl
theorem dX12_isTold_98 : decode cX12_isTold 98 = .ok (.iload_n 2, 1) := dec_of da_X12_isTold_0 (k := 53) rfl
theorem dX12_isTold_99 : decode cX12_isTold 99 = .ok (.bipush 8, 2) := dec_of da_X12_isTold_0 (k := 54) rfl
theorem dX12_isTold_101 : decode cX12_isTold 101 = .ok (.if_icmp .ne 7, 3) := dec_of da_X12_isTold_0 (k := 55) rfl
theorem dX12_isTold_104 : decode cX12_isTold 104 = .ok (.iconst 1, 1) := dec_of da_X12_isTold_0 (k := 56) rfl
theorem dX12_isTold_105 : decode cX12_isTold 105 = .ok (.goto 4, 3) := dec_of da_X12_isTold_0 (k := 57) rfl
theorem dX12_isTold_108 : decode cX12_isTold 108 = .ok (.iconst 0, 1) := dec_of da_X12_isTold_0 (k := 58) rfl
theorem dX12_isTold_109 : decode cX12_isTold 109 = .ok (.ireturn, 1) := dec_of da_X12_isTold_0 (k := 59) rfl
def dl_X12_look_0 : List (Nat × (Instr × Nat)) := [(0, (.aload_n 0, 1)), (1, (.invokevirtual 516, 3)), (4, (.ifCond .eq 19, 3)), (7, (.aload_n 0, 1)), (8, (.invokevirtual 519, 3)), (11, (.ifCond .eq 12, 3)), (14, (.aload_n 0, 1)), (15, (.iconst 4, 1)), (16, (.invokevirtual 522, 3)), (19, (.iload_n 1, 1)), (20, (.if_icmp .eq 4, 3)), (23, (.return_, 1)), (24, (.aload_n 0, 1)), (25, (.getfield 254, 3)), (28, (.iconst 0, 1)), (29, (.iaload, 1)), (30, (.sipush 212, 3)), (33, (.if_icmp .ne 9, 3)), (36, (.aload_n 0, 1)), (37, (.iload_n 1, 1)), (38, (.invokevirtual 525, 3)), (41, (.return_, 1)), (42, (.aload_n 0, 1)), (43, (.getfield 190, 3)), (46, (.iload_n 1, 1)), (47, (.iconst 1, 1)), (48, (.iastore, 1)), (49, (.aload_n 0, 1)), (50, (.getfield 193, 3)), (53, (.iload_n 1, 1)), (54, (.aload_n 0, 1)), (55, (.getfield 454, 3)), (58, (.iconst 2, 1)), (59, (.iadd, 1)), (60, (.iastore, 1)), (61, (.lconst 0, 1)), (62, (.lstore_n 2, 1)), (63, (.iconst 0, 1)), (64, (.istore 4, 2)), (66, (.iload 4, 2)), (68, (.bipush 6, 2)), (70, (.if_icmp .ge 26, 3)), (73, (.lload_n 2, 1)), (74, (.bipush 8, 2)), (76, (.lshl, 1)), (77, (.aload_n 0, 1)), (78, (.getfield 254, 3)), (81, (.bipush 10, 2)), (83, (.iload 4, 2)), (85, (.iadd, 1)), (86, (.iaload, 1)), (87, (.i2l, 1)), (88, (.lor, 1)), (89, (.lstore_n 2, 1)), (90, (.iinc 4 1, 3)), (93, (.goto (-27), 3)), (96, (.aload_n 0, 1)), (97, (.getfield 196, 3)), (100, (.iload_n 1, 1)), (101, (.lload_n 2, 1))]
set_option maxRecDepth 100000 in
theorem da_X12_look_0 : dl_X12_look_0.all (fun q => decide (decode cX12_look q.1 = .ok q.2)) = true := by decide +kernel
theorem dX12_look_0 : decode cX12_look 0 = .ok (.aload_n 0, 1) := dec_of da_X12_look_0 (k := 0) rfl
theorem dX12_look_1 : decode cX12_look 1 = .ok (.invokevirtual 516, 3) := dec_of da_X12_look_0 (k := 1) rfl
theorem dX12_look_4 : decode cX12_look 4 = .ok (.ifCond .eq 19, 3) := dec_of da_X12_look_0 (k := 2) rfl
theorem dX12_look_7 : decode cX12_look 7 = .ok (.aload_n 0, 1) := dec_of da_X12_look_0 (k := 3) rfl
theorem dX12_look_8 : decode cX12_look 8 = .ok (.invokevirtual 519, 3) := dec_of da_X12_look_0 (k := 4) rfl
theorem dX12_look_11 : decode cX12_look 11 = .ok (.ifCond .eq 12, 3) := dec_of da_X12_look_0 (k := 5) rfl
theorem dX12_look_14 : decode cX12_look 14 = .ok (.aload_n 0, 1) := dec_of da_X12_look_0 (k := 6) rfl
theorem dX12_look_15 : decode cX12_look 15 = .ok (.iconst 4, 1) := dec_of da_X12_look_0 (k := 7) rfl
theorem dX12_look_16 : decode cX12_look 16 = .ok (.invokevirtual 522, 3) := dec_of da_X12_look_0 (k := 8) rfl
theorem dX12_look_19 : decode cX12_look 19 = .ok (.iload_n 1, 1) := dec_of da_X12_look_0 (k := 9) rfl
theorem dX12_look_20 : decode cX12_look 20 = .ok (.if_icmp .eq 4, 3) := dec_of da_X12_look_0 (k := 10) rfl
theorem dX12_look_23 : decode cX12_look 23 = .ok (.return_, 1) := dec_of da_X12_look_0 (k := 11) rfl
theorem dX12_look_24 : decode cX12_look 24 = .ok (.aload_n 0, 1) := dec_of da_X12_look_0 (k := 12) rfl
theorem dX12_look_25 : decode cX12_look 25 = .ok (.getfield 254, 3) := dec_of da_X12_look_0 (k := 13) rfl
theorem dX12_look_28 : decode cX12_look 28 = .ok (.iconst 0, 1) := dec_of da_X12_look_0 (k := 14) rfl
theorem dX12_look_29 : decode cX12_look 29 = .ok (.iaload, 1) := dec_of da_X12_look_0 (k := 15) rfl
theorem dX12_look_30 : decode cX12_look 30 = .ok (.sipush 212, 3) := dec_of da_X12_look_0 (k := 16) rfl
theorem dX12_look_33 : decode cX12_look 33 = .ok (.if_icmp .ne 9, 3) := dec_of da_X12_look_0 (k := 17) rfl
theorem dX12_look_36 : decode cX12_look 36 = .ok (.aload_n 0, 1) := dec_of da_X12_look_0 (k := 18) rfl
theorem dX12_look_37 : decode cX12_look 37 = .ok (.iload_n 1, 1) := dec_of da_X12_look_0 (k := 19) rfl
theorem dX12_look_38 : decode cX12_look 38 = .ok (.invokevirtual 525, 3) := dec_of da_X12_look_0 (k := 20) rfl
theorem dX12_look_41 : decode cX12_look 41 = .ok (.return_, 1) := dec_of da_X12_look_0 (k := 21) rfl
theorem dX12_look_42 : decode cX12_look 42 = .ok (.aload_n 0, 1) := dec_of da_X12_look_0 (k := 22) rfl
theorem dX12_look_43 : decode cX12_look 43 = .ok (.getfield 190, 3) := dec_of da_X12_look_0 (k := 23) rfl
theorem dX12_look_46 : decode cX12_look 46 = .ok (.iload_n 1, 1) := dec_of da_X12_look_0 (k := 24) rfl
theorem dX12_look_47 : decode cX12_look 47 = .ok (.iconst 1, 1) := dec_of da_X12_look_0 (k := 25) rfl
theorem dX12_look_48 : decode cX12_look 48 = .ok (.iastore, 1) := dec_of da_X12_look_0 (k := 26) rfl
theorem dX12_look_49 : decode cX12_look 49 = .ok (.aload_n 0, 1) := dec_of da_X12_look_0 (k := 27) rfl
theorem dX12_look_50 : decode cX12_look 50 = .ok (.getfield 193, 3) := dec_of da_X12_look_0 (k := 28) rfl
theorem dX12_look_53 : decode cX12_look 53 = .ok (.iload_n 1, 1) := dec_of da_X12_look_0 (k := 29) rfl
theorem dX12_look_54 : decode cX12_look 54 = .ok (.aload_n 0, 1) := dec_of da_X12_look_0 (k := 30) rfl
theorem dX12_look_55 : decode cX12_look 55 = .ok (.getfield 454, 3) := dec_of da_X12_look_0 (k := 31) rfl
theorem dX12_look_58 : decode cX12_look 58 = .ok (.iconst 2, 1) := dec_of da_X12_look_0 (k := 32) rfl
theorem dX12_look_59 : decode cX12_look 59 = .ok (.iadd, 1) := dec_of da_X12_look_0 (k := 33) rfl
theorem dX12_look_60 : decode cX12_look 60 = .ok (.iastore, 1) := dec_of da_X12_look_0 (k := 34) rfl
theorem dX12_look_61 : decode cX12_look 61 = .ok (.lconst 0, 1) := dec_of da_X12_look_0 (k := 35) rfl
theorem dX12_look_62 : decode cX12_look 62 = .ok (.lstore_n 2, 1) := dec_of da_X12_look_0 (k := 36) rfl
theorem dX12_look_63 : decode cX12_look 63 = .ok (.iconst 0, 1) := dec_of da_X12_look_0 (k := 37) rfl
theorem dX12_look_64 : decode cX12_look 64 = .ok (.istore 4, 2) := dec_of da_X12_look_0 (k := 38) rfl
theorem dX12_look_66 : decode cX12_look 66 = .ok (.iload 4, 2) := dec_of da_X12_look_0 (k := 39) rfl
theorem dX12_look_68 : decode cX12_look 68 = .ok (.bipush 6, 2) := dec_of da_X12_look_0 (k := 40) rfl
theorem dX12_look_70 : decode cX12_look 70 = .ok (.if_icmp .ge 26, 3) := dec_of da_X12_look_0 (k := 41) rfl
theorem dX12_look_73 : decode cX12_look 73 = .ok (.lload_n 2, 1) := dec_of da_X12_look_0 (k := 42) rfl
theorem dX12_look_74 : decode cX12_look 74 = .ok (.bipush 8, 2) := dec_of da_X12_look_0 (k := 43) rfl
theorem dX12_look_76 : decode cX12_look 76 = .ok (.lshl, 1) := dec_of da_X12_look_0 (k := 44) rfl
theorem dX12_look_77 : decode cX12_look 77 = .ok (.aload_n 0, 1) := dec_of da_X12_look_0 (k := 45) rfl
theorem dX12_look_78 : decode cX12_look 78 = .ok (.getfield 254, 3) := dec_of da_X12_look_0 (k := 46) rfl
theorem dX12_look_81 : decode cX12_look 81 = .ok (.bipush 10, 2) := dec_of da_X12_look_0 (k := 47) rfl
theorem dX12_look_83 : decode cX12_look 83 = .ok (.iload 4, 2) := dec_of da_X12_look_0 (k := 48) rfl
theorem dX12_look_85 : decode cX12_look 85 = .ok (.iadd, 1) := dec_of da_X12_look_0 (k := 49) rfl
theorem dX12_look_86 : decode cX12_look 86 = .ok (.iaload, 1) := dec_of da_X12_look_0 (k := 50) rfl
theorem dX12_look_87 : decode cX12_look 87 = .ok (.i2l, 1) := dec_of da_X12_look_0 (k := 51) rfl
theorem dX12_look_88 : decode cX12_look 88 = .ok (.lor, 1) := dec_of da_X12_look_0 (k := 52) rfl
theorem dX12_look_89 : decode cX12_look 89 = .ok (.lstore_n 2, 1) := dec_of da_X12_look_0 (k := 53) rfl
theorem dX12_look_90 : decode cX12_look 90 = .ok (.iinc 4 1, 3) := dec_of da_X12_look_0 (k := 54) rfl
theorem dX12_look_93 : decode cX12_look 93 = .ok (.goto (-27), 3) := dec_of da_X12_look_0 (k := 55) rfl
theorem dX12_look_96 : decode cX12_look 96 = .ok (.aload_n 0, 1) := dec_of da_X12_look_0 (k := 56) rfl
theorem dX12_look_97 : decode cX12_look 97 = .ok (.getfield 196, 3) := dec_of da_X12_look_0 (k := 57) rfl
theorem dX12_look_100 : decode cX12_look 100 = .ok (.iload_n 1, 1) := dec_of da_X12_look_0 (k := 58) rfl
theorem dX12_look_101 : decode cX12_look 101 = .ok (.lload_n 2, 1) := dec_of da_X12_look_0 (k := 59) rfl
def dl_X12_look_1 : List (Nat × (Instr × Nat)) := [(102, (.lastore, 1)), (103, (.aload_n 0, 1)), (104, (.bipush 10, 2)), (106, (.invokevirtual 522, 3)), (109, (.istore 4, 2)), (111, (.iload 4, 2)), (113, (.ifCond .ge 4, 3)), (116, (.return_, 1)), (117, (.aload_n 0, 1)), (118, (.getfield 254, 3)), (121, (.bipush 22, 2)), (123, (.iaload, 1)), (124, (.aload_n 0, 1)), (125, (.getfield 254, 3)), (128, (.bipush 23, 2)), (130, (.iaload, 1)), (131, (.bipush 8, 2)), (133, (.ishl, 1)), (134, (.ior, 1)), (135, (.istore 5, 2)), (137, (.bipush 9, 2)), (139, (.iload_n 1, 1)), (140, (.imul, 1)), (141, (.iload 4, 2)), (143, (.iadd, 1)), (144, (.istore 6, 2)), (146, (.aload_n 0, 1)), (147, (.getfield 254, 3)), (150, (.iconst 1, 1)), (151, (.iaload, 1)), (152, (.bipush 8, 2)), (154, (.iand, 1)), (155, (.ifCond .eq 36, 3)), (158, (.aload_n 0, 1)), (159, (.getfield 260, 3)), (162, (.iload 6, 2)), (164, (.baload, 1)), (165, (.ifCond .eq 26, 3)), (168, (.aload_n 0, 1)), (169, (.getfield 257, 3)), (172, (.iload 6, 2)), (174, (.iaload, 1)), (175, (.iload 5, 2)), (177, (.if_icmp .ne 14, 3)), (180, (.aload_n 0, 1)), (181, (.getfield 263, 3)), (184, (.iload_n 1, 1)), (185, (.dup2, 1)), (186, (.iaload, 1)), (187, (.iconst 1, 1)), (188, (.iadd, 1)), (189, (.iastore, 1)), (190, (.return_, 1)), (191, (.aload_n 0, 1)), (192, (.getfield 260, 3)), (195, (.iload 6, 2)), (197, (.iconst 1, 1)), (198, (.bastore, 1)), (199, (.aload_n 0, 1)), (200, (.getfield 257, 3))]
set_option maxRecDepth 100000 in
theorem da_X12_look_1 : dl_X12_look_1.all (fun q => decide (decode cX12_look q.1 = .ok q.2)) = true := by decide +kernel
theorem dX12_look_102 : decode cX12_look 102 = .ok (.lastore, 1) := dec_of da_X12_look_1 (k := 0) rfl
theorem dX12_look_103 : decode cX12_look 103 = .ok (.aload_n 0, 1) := dec_of da_X12_look_1 (k := 1) rfl
theorem dX12_look_104 : decode cX12_look 104 = .ok (.bipush 10, 2) := dec_of da_X12_look_1 (k := 2) rfl
theorem dX12_look_106 : decode cX12_look 106 = .ok (.invokevirtual 522, 3) := dec_of da_X12_look_1 (k := 3) rfl
theorem dX12_look_109 : decode cX12_look 109 = .ok (.istore 4, 2) := dec_of da_X12_look_1 (k := 4) rfl
theorem dX12_look_111 : decode cX12_look 111 = .ok (.iload 4, 2) := dec_of da_X12_look_1 (k := 5) rfl
theorem dX12_look_113 : decode cX12_look 113 = .ok (.ifCond .ge 4, 3) := dec_of da_X12_look_1 (k := 6) rfl
theorem dX12_look_116 : decode cX12_look 116 = .ok (.return_, 1) := dec_of da_X12_look_1 (k := 7) rfl
theorem dX12_look_117 : decode cX12_look 117 = .ok (.aload_n 0, 1) := dec_of da_X12_look_1 (k := 8) rfl
theorem dX12_look_118 : decode cX12_look 118 = .ok (.getfield 254, 3) := dec_of da_X12_look_1 (k := 9) rfl
theorem dX12_look_121 : decode cX12_look 121 = .ok (.bipush 22, 2) := dec_of da_X12_look_1 (k := 10) rfl
theorem dX12_look_123 : decode cX12_look 123 = .ok (.iaload, 1) := dec_of da_X12_look_1 (k := 11) rfl
theorem dX12_look_124 : decode cX12_look 124 = .ok (.aload_n 0, 1) := dec_of da_X12_look_1 (k := 12) rfl
theorem dX12_look_125 : decode cX12_look 125 = .ok (.getfield 254, 3) := dec_of da_X12_look_1 (k := 13) rfl
theorem dX12_look_128 : decode cX12_look 128 = .ok (.bipush 23, 2) := dec_of da_X12_look_1 (k := 14) rfl
theorem dX12_look_130 : decode cX12_look 130 = .ok (.iaload, 1) := dec_of da_X12_look_1 (k := 15) rfl
theorem dX12_look_131 : decode cX12_look 131 = .ok (.bipush 8, 2) := dec_of da_X12_look_1 (k := 16) rfl
theorem dX12_look_133 : decode cX12_look 133 = .ok (.ishl, 1) := dec_of da_X12_look_1 (k := 17) rfl
theorem dX12_look_134 : decode cX12_look 134 = .ok (.ior, 1) := dec_of da_X12_look_1 (k := 18) rfl
theorem dX12_look_135 : decode cX12_look 135 = .ok (.istore 5, 2) := dec_of da_X12_look_1 (k := 19) rfl
theorem dX12_look_137 : decode cX12_look 137 = .ok (.bipush 9, 2) := dec_of da_X12_look_1 (k := 20) rfl
theorem dX12_look_139 : decode cX12_look 139 = .ok (.iload_n 1, 1) := dec_of da_X12_look_1 (k := 21) rfl
theorem dX12_look_140 : decode cX12_look 140 = .ok (.imul, 1) := dec_of da_X12_look_1 (k := 22) rfl
theorem dX12_look_141 : decode cX12_look 141 = .ok (.iload 4, 2) := dec_of da_X12_look_1 (k := 23) rfl
theorem dX12_look_143 : decode cX12_look 143 = .ok (.iadd, 1) := dec_of da_X12_look_1 (k := 24) rfl
theorem dX12_look_144 : decode cX12_look 144 = .ok (.istore 6, 2) := dec_of da_X12_look_1 (k := 25) rfl
theorem dX12_look_146 : decode cX12_look 146 = .ok (.aload_n 0, 1) := dec_of da_X12_look_1 (k := 26) rfl
theorem dX12_look_147 : decode cX12_look 147 = .ok (.getfield 254, 3) := dec_of da_X12_look_1 (k := 27) rfl
theorem dX12_look_150 : decode cX12_look 150 = .ok (.iconst 1, 1) := dec_of da_X12_look_1 (k := 28) rfl
theorem dX12_look_151 : decode cX12_look 151 = .ok (.iaload, 1) := dec_of da_X12_look_1 (k := 29) rfl
theorem dX12_look_152 : decode cX12_look 152 = .ok (.bipush 8, 2) := dec_of da_X12_look_1 (k := 30) rfl
theorem dX12_look_154 : decode cX12_look 154 = .ok (.iand, 1) := dec_of da_X12_look_1 (k := 31) rfl
theorem dX12_look_155 : decode cX12_look 155 = .ok (.ifCond .eq 36, 3) := dec_of da_X12_look_1 (k := 32) rfl
theorem dX12_look_158 : decode cX12_look 158 = .ok (.aload_n 0, 1) := dec_of da_X12_look_1 (k := 33) rfl
theorem dX12_look_159 : decode cX12_look 159 = .ok (.getfield 260, 3) := dec_of da_X12_look_1 (k := 34) rfl
theorem dX12_look_162 : decode cX12_look 162 = .ok (.iload 6, 2) := dec_of da_X12_look_1 (k := 35) rfl
theorem dX12_look_164 : decode cX12_look 164 = .ok (.baload, 1) := dec_of da_X12_look_1 (k := 36) rfl
theorem dX12_look_165 : decode cX12_look 165 = .ok (.ifCond .eq 26, 3) := dec_of da_X12_look_1 (k := 37) rfl
theorem dX12_look_168 : decode cX12_look 168 = .ok (.aload_n 0, 1) := dec_of da_X12_look_1 (k := 38) rfl
theorem dX12_look_169 : decode cX12_look 169 = .ok (.getfield 257, 3) := dec_of da_X12_look_1 (k := 39) rfl
theorem dX12_look_172 : decode cX12_look 172 = .ok (.iload 6, 2) := dec_of da_X12_look_1 (k := 40) rfl
theorem dX12_look_174 : decode cX12_look 174 = .ok (.iaload, 1) := dec_of da_X12_look_1 (k := 41) rfl
theorem dX12_look_175 : decode cX12_look 175 = .ok (.iload 5, 2) := dec_of da_X12_look_1 (k := 42) rfl
theorem dX12_look_177 : decode cX12_look 177 = .ok (.if_icmp .ne 14, 3) := dec_of da_X12_look_1 (k := 43) rfl
theorem dX12_look_180 : decode cX12_look 180 = .ok (.aload_n 0, 1) := dec_of da_X12_look_1 (k := 44) rfl
theorem dX12_look_181 : decode cX12_look 181 = .ok (.getfield 263, 3) := dec_of da_X12_look_1 (k := 45) rfl
theorem dX12_look_184 : decode cX12_look 184 = .ok (.iload_n 1, 1) := dec_of da_X12_look_1 (k := 46) rfl
theorem dX12_look_185 : decode cX12_look 185 = .ok (.dup2, 1) := dec_of da_X12_look_1 (k := 47) rfl
theorem dX12_look_186 : decode cX12_look 186 = .ok (.iaload, 1) := dec_of da_X12_look_1 (k := 48) rfl
theorem dX12_look_187 : decode cX12_look 187 = .ok (.iconst 1, 1) := dec_of da_X12_look_1 (k := 49) rfl
theorem dX12_look_188 : decode cX12_look 188 = .ok (.iadd, 1) := dec_of da_X12_look_1 (k := 50) rfl
theorem dX12_look_189 : decode cX12_look 189 = .ok (.iastore, 1) := dec_of da_X12_look_1 (k := 51) rfl
theorem dX12_look_190 : decode cX12_look 190 = .ok (.return_, 1) := dec_of da_X12_look_1 (k := 52) rfl
theorem dX12_look_191 : decode cX12_look 191 = .ok (.aload_n 0, 1) := dec_of da_X12_look_1 (k := 53) rfl
theorem dX12_look_192 : decode cX12_look 192 = .ok (.getfield 260, 3) := dec_of da_X12_look_1 (k := 54) rfl
theorem dX12_look_195 : decode cX12_look 195 = .ok (.iload 6, 2) := dec_of da_X12_look_1 (k := 55) rfl
theorem dX12_look_197 : decode cX12_look 197 = .ok (.iconst 1, 1) := dec_of da_X12_look_1 (k := 56) rfl
theorem dX12_look_198 : decode cX12_look 198 = .ok (.bastore, 1) := dec_of da_X12_look_1 (k := 57) rfl
theorem dX12_look_199 : decode cX12_look 199 = .ok (.aload_n 0, 1) := dec_of da_X12_look_1 (k := 58) rfl
theorem dX12_look_200 : decode cX12_look 200 = .ok (.getfield 257, 3) := dec_of da_X12_look_1 (k := 59) rfl
def dl_X12_look_2 : List (Nat × (Instr × Nat)) := [(203, (.iload 6, 2)), (205, (.iload 5, 2)), (207, (.iastore, 1)), (208, (.iload_n 1, 1)), (209, (.ifCond .ne 17, 3)), (212, (.iload 4, 2)), (214, (.ifCond .le 12, 3)), (217, (.aload_n 0, 1)), (218, (.iload 4, 2)), (220, (.invokevirtual 528, 3)), (223, (.goto 17, 3)), (226, (.iload_n 1, 1)), (227, (.ifCond .le 13, 3)), (230, (.iload 4, 2)), (232, (.ifCond .ne 8, 3)), (235, (.aload_n 0, 1)), (236, (.iload_n 1, 1)), (237, (.invokevirtual 531, 3)), (240, (.return_, 1))]
set_option maxRecDepth 100000 in
theorem da_X12_look_2 : dl_X12_look_2.all (fun q => decide (decode cX12_look q.1 = .ok q.2)) = true := by decide +kernel
theorem dX12_look_203 : decode cX12_look 203 = .ok (.iload 6, 2) := dec_of da_X12_look_2 (k := 0) rfl
theorem dX12_look_205 : decode cX12_look 205 = .ok (.iload 5, 2) := dec_of da_X12_look_2 (k := 1) rfl
theorem dX12_look_207 : decode cX12_look 207 = .ok (.iastore, 1) := dec_of da_X12_look_2 (k := 2) rfl
theorem dX12_look_208 : decode cX12_look 208 = .ok (.iload_n 1, 1) := dec_of da_X12_look_2 (k := 3) rfl
theorem dX12_look_209 : decode cX12_look 209 = .ok (.ifCond .ne 17, 3) := dec_of da_X12_look_2 (k := 4) rfl
theorem dX12_look_212 : decode cX12_look 212 = .ok (.iload 4, 2) := dec_of da_X12_look_2 (k := 5) rfl
theorem dX12_look_214 : decode cX12_look 214 = .ok (.ifCond .le 12, 3) := dec_of da_X12_look_2 (k := 6) rfl
theorem dX12_look_217 : decode cX12_look 217 = .ok (.aload_n 0, 1) := dec_of da_X12_look_2 (k := 7) rfl
theorem dX12_look_218 : decode cX12_look 218 = .ok (.iload 4, 2) := dec_of da_X12_look_2 (k := 8) rfl
theorem dX12_look_220 : decode cX12_look 220 = .ok (.invokevirtual 528, 3) := dec_of da_X12_look_2 (k := 9) rfl
theorem dX12_look_223 : decode cX12_look 223 = .ok (.goto 17, 3) := dec_of da_X12_look_2 (k := 10) rfl
theorem dX12_look_226 : decode cX12_look 226 = .ok (.iload_n 1, 1) := dec_of da_X12_look_2 (k := 11) rfl
theorem dX12_look_227 : decode cX12_look 227 = .ok (.ifCond .le 13, 3) := dec_of da_X12_look_2 (k := 12) rfl
theorem dX12_look_230 : decode cX12_look 230 = .ok (.iload 4, 2) := dec_of da_X12_look_2 (k := 13) rfl
theorem dX12_look_232 : decode cX12_look 232 = .ok (.ifCond .ne 8, 3) := dec_of da_X12_look_2 (k := 14) rfl
theorem dX12_look_235 : decode cX12_look 235 = .ok (.aload_n 0, 1) := dec_of da_X12_look_2 (k := 15) rfl
theorem dX12_look_236 : decode cX12_look 236 = .ok (.iload_n 1, 1) := dec_of da_X12_look_2 (k := 16) rfl
theorem dX12_look_237 : decode cX12_look 237 = .ok (.invokevirtual 531, 3) := dec_of da_X12_look_2 (k := 17) rfl
theorem dX12_look_240 : decode cX12_look 240 = .ok (.return_, 1) := dec_of da_X12_look_2 (k := 18) rfl
