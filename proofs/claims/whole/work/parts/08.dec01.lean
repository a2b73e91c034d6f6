def dl_X11_known_0 : List (Nat × (Instr × Nat)) := [(0, (.iload_n 1, 1)), (1, (.invokestatic 116, 3)), (4, (.ifCond .ne 5, 3)), (7, (.iconst (-1), 1)), (8, (.ireturn, 1)), (9, (.aload_n 0, 1)), (10, (.getfield 21, 3)), (13, (.iload_n 1, 1)), (14, (.aaload, 1)), (15, (.getfield 120, 3)), (18, (.lload_n 2, 1)), (19, (.lload 4, 2)), (21, (.lload 6, 2)), (23, (.lload 8, 2)), (25, (.invokestatic 123, 3)), (28, (.iconst 0, 1)), (29, (.ireturn, 1))]
set_option maxRecDepth 100000 in
theorem da_X11_known_0 : dl_X11_known_0.all (fun q => decide (decode cX11_known q.1 = .ok q.2)) = true := by decide +kernel
theorem dX11_known_0 : decode cX11_known 0 = .ok (.iload_n 1, 1) := dec_of da_X11_known_0 (k := 0) rfl
theorem dX11_known_1 : decode cX11_known 1 = .ok (.invokestatic 116, 3) := dec_of da_X11_known_0 (k := 1) rfl
theorem dX11_known_4 : decode cX11_known 4 = .ok (.ifCond .ne 5, 3) := dec_of da_X11_known_0 (k := 2) rfl
theorem dX11_known_7 : decode cX11_known 7 = .ok (.iconst (-1), 1) := dec_of da_X11_known_0 (k := 3) rfl
theorem dX11_known_8 : decode cX11_known 8 = .ok (.ireturn, 1) := dec_of da_X11_known_0 (k := 4) rfl
theorem dX11_known_9 : decode cX11_known 9 = .ok (.aload_n 0, 1) := dec_of da_X11_known_0 (k := 5) rfl
theorem dX11_known_10 : decode cX11_known 10 = .ok (.getfield 21, 3) := dec_of da_X11_known_0 (k := 6) rfl
theorem dX11_known_13 : decode cX11_known 13 = .ok (.iload_n 1, 1) := dec_of da_X11_known_0 (k := 7) rfl
theorem dX11_known_14 : decode cX11_known 14 = .ok (.aaload, 1) := dec_of da_X11_known_0 (k := 8) rfl
theorem dX11_known_15 : decode cX11_known 15 = .ok (.getfield 120, 3) := dec_of da_X11_known_0 (k := 9) rfl
theorem dX11_known_18 : decode cX11_known 18 = .ok (.lload_n 2, 1) := dec_of da_X11_known_0 (k := 10) rfl
theorem dX11_known_19 : decode cX11_known 19 = .ok (.lload 4, 2) := dec_of da_X11_known_0 (k := 11) rfl
theorem dX11_known_21 : decode cX11_known 21 = .ok (.lload 6, 2) := dec_of da_X11_known_0 (k := 12) rfl
theorem dX11_known_23 : decode cX11_known 23 = .ok (.lload 8, 2) := dec_of da_X11_known_0 (k := 13) rfl
theorem dX11_known_25 : decode cX11_known 25 = .ok (.invokestatic 123, 3) := dec_of da_X11_known_0 (k := 14) rfl
theorem dX11_known_28 : decode cX11_known 28 = .ok (.iconst 0, 1) := dec_of da_X11_known_0 (k := 15) rfl
theorem dX11_known_29 : decode cX11_known 29 = .ok (.ireturn, 1) := dec_of da_X11_known_0 (k := 16) rfl
def dl_X11_nonce_0 : List (Nat × (Instr × Nat)) := [(0, (.iload_n 1, 1)), (1, (.invokestatic 127, 3)), (4, (.ifCond .ne 5, 3)), (7, (.iconst (-1), 1)), (8, (.ireturn, 1)), (9, (.aload_n 0, 1)), (10, (.getfield 11, 3)), (13, (.iload_n 1, 1)), (14, (.aaload, 1)), (15, (.getfield 130, 3)), (18, (.lload_n 2, 1)), (19, (.lload 4, 2)), (21, (.lload 6, 2)), (23, (.lload 8, 2)), (25, (.invokestatic 123, 3)), (28, (.iconst 0, 1)), (29, (.ireturn, 1))]
set_option maxRecDepth 100000 in
theorem da_X11_nonce_0 : dl_X11_nonce_0.all (fun q => decide (decode cX11_nonce q.1 = .ok q.2)) = true := by decide +kernel
theorem dX11_nonce_0 : decode cX11_nonce 0 = .ok (.iload_n 1, 1) := dec_of da_X11_nonce_0 (k := 0) rfl
theorem dX11_nonce_1 : decode cX11_nonce 1 = .ok (.invokestatic 127, 3) := dec_of da_X11_nonce_0 (k := 1) rfl
theorem dX11_nonce_4 : decode cX11_nonce 4 = .ok (.ifCond .ne 5, 3) := dec_of da_X11_nonce_0 (k := 2) rfl
theorem dX11_nonce_7 : decode cX11_nonce 7 = .ok (.iconst (-1), 1) := dec_of da_X11_nonce_0 (k := 3) rfl
theorem dX11_nonce_8 : decode cX11_nonce 8 = .ok (.ireturn, 1) := dec_of da_X11_nonce_0 (k := 4) rfl
theorem dX11_nonce_9 : decode cX11_nonce 9 = .ok (.aload_n 0, 1) := dec_of da_X11_nonce_0 (k := 5) rfl
theorem dX11_nonce_10 : decode cX11_nonce 10 = .ok (.getfield 11, 3) := dec_of da_X11_nonce_0 (k := 6) rfl
theorem dX11_nonce_13 : decode cX11_nonce 13 = .ok (.iload_n 1, 1) := dec_of da_X11_nonce_0 (k := 7) rfl
theorem dX11_nonce_14 : decode cX11_nonce 14 = .ok (.aaload, 1) := dec_of da_X11_nonce_0 (k := 8) rfl
theorem dX11_nonce_15 : decode cX11_nonce 15 = .ok (.getfield 130, 3) := dec_of da_X11_nonce_0 (k := 9) rfl
theorem dX11_nonce_18 : decode cX11_nonce 18 = .ok (.lload_n 2, 1) := dec_of da_X11_nonce_0 (k := 10) rfl
theorem dX11_nonce_19 : decode cX11_nonce 19 = .ok (.lload 4, 2) := dec_of da_X11_nonce_0 (k := 11) rfl
theorem dX11_nonce_21 : decode cX11_nonce 21 = .ok (.lload 6, 2) := dec_of da_X11_nonce_0 (k := 12) rfl
theorem dX11_nonce_23 : decode cX11_nonce 23 = .ok (.lload 8, 2) := dec_of da_X11_nonce_0 (k := 13) rfl
theorem dX11_nonce_25 : decode cX11_nonce 25 = .ok (.invokestatic 123, 3) := dec_of da_X11_nonce_0 (k := 14) rfl
theorem dX11_nonce_28 : decode cX11_nonce 28 = .ok (.iconst 0, 1) := dec_of da_X11_nonce_0 (k := 15) rfl
theorem dX11_nonce_29 : decode cX11_nonce 29 = .ok (.ireturn, 1) := dec_of da_X11_nonce_0 (k := 16) rfl
def dl_X11_fillByLongs_0 : List (Nat × (Instr × Nat)) := [(0, (.aload_n 0, 1)), (1, (.iconst 0, 1)), (2, (.bipush 8, 2)), (4, (.lload_n 1, 1)), (5, (.invokestatic 89, 3)), (8, (.aload_n 0, 1)), (9, (.bipush 8, 2)), (11, (.bipush 8, 2)), (13, (.lload_n 3, 1)), (14, (.invokestatic 89, 3)), (17, (.aload_n 0, 1)), (18, (.bipush 16, 2)), (20, (.bipush 8, 2)), (22, (.lload 5, 2)), (24, (.invokestatic 89, 3)), (27, (.aload_n 0, 1)), (28, (.bipush 24, 2)), (30, (.bipush 8, 2)), (32, (.lload 7, 2)), (34, (.invokestatic 89, 3)), (37, (.return_, 1))]
set_option maxRecDepth 100000 in
theorem da_X11_fillByLongs_0 : dl_X11_fillByLongs_0.all (fun q => decide (decode cX11_fillByLongs q.1 = .ok q.2)) = true := by decide +kernel
theorem dX11_fillByLongs_0 : decode cX11_fillByLongs 0 = .ok (.aload_n 0, 1) := dec_of da_X11_fillByLongs_0 (k := 0) rfl
theorem dX11_fillByLongs_1 : decode cX11_fillByLongs 1 = .ok (.iconst 0, 1) := dec_of da_X11_fillByLongs_0 (k := 1) rfl
theorem dX11_fillByLongs_2 : decode cX11_fillByLongs 2 = .ok (.bipush 8, 2) := dec_of da_X11_fillByLongs_0 (k := 2) rfl
theorem dX11_fillByLongs_4 : decode cX11_fillByLongs 4 = .ok (.lload_n 1, 1) := dec_of da_X11_fillByLongs_0 (k := 3) rfl
theorem dX11_fillByLongs_5 : decode cX11_fillByLongs 5 = .ok (.invokestatic 89, 3) := dec_of da_X11_fillByLongs_0 (k := 4) rfl
theorem dX11_fillByLongs_8 : decode cX11_fillByLongs 8 = .ok (.aload_n 0, 1) := dec_of da_X11_fillByLongs_0 (k := 5) rfl
theorem dX11_fillByLongs_9 : decode cX11_fillByLongs 9 = .ok (.bipush 8, 2) := dec_of da_X11_fillByLongs_0 (k := 6) rfl
theorem dX11_fillByLongs_11 : decode cX11_fillByLongs 11 = .ok (.bipush 8, 2) := dec_of da_X11_fillByLongs_0 (k := 7) rfl
theorem dX11_fillByLongs_13 : decode cX11_fillByLongs 13 = .ok (.lload_n 3, 1) := dec_of da_X11_fillByLongs_0 (k := 8) rfl
theorem dX11_fillByLongs_14 : decode cX11_fillByLongs 14 = .ok (.invokestatic 89, 3) := dec_of da_X11_fillByLongs_0 (k := 9) rfl
theorem dX11_fillByLongs_17 : decode cX11_fillByLongs 17 = .ok (.aload_n 0, 1) := dec_of da_X11_fillByLongs_0 (k := 10) rfl
theorem dX11_fillByLongs_18 : decode cX11_fillByLongs 18 = .ok (.bipush 16, 2) := dec_of da_X11_fillByLongs_0 (k := 11) rfl
theorem dX11_fillByLongs_20 : decode cX11_fillByLongs 20 = .ok (.bipush 8, 2) := dec_of da_X11_fillByLongs_0 (k := 12) rfl
theorem dX11_fillByLongs_22 : decode cX11_fillByLongs 22 = .ok (.lload 5, 2) := dec_of da_X11_fillByLongs_0 (k := 13) rfl
theorem dX11_fillByLongs_24 : decode cX11_fillByLongs 24 = .ok (.invokestatic 89, 3) := dec_of da_X11_fillByLongs_0 (k := 14) rfl
theorem dX11_fillByLongs_27 : decode cX11_fillByLongs 27 = .ok (.aload_n 0, 1) := dec_of da_X11_fillByLongs_0 (k := 15) rfl
theorem dX11_fillByLongs_28 : decode cX11_fillByLongs 28 = .ok (.bipush 24, 2) := dec_of da_X11_fillByLongs_0 (k := 16) rfl
theorem dX11_fillByLongs_30 : decode cX11_fillByLongs 30 = .ok (.bipush 8, 2) := dec_of da_X11_fillByLongs_0 (k := 17) rfl
theorem dX11_fillByLongs_32 : decode cX11_fillByLongs 32 = .ok (.lload 7, 2) := dec_of da_X11_fillByLongs_0 (k := 18) rfl
theorem dX11_fillByLongs_34 : decode cX11_fillByLongs 34 = .ok (.invokestatic 89, 3) := dec_of da_X11_fillByLongs_0 (k := 19) rfl
theorem dX11_fillByLongs_37 : decode cX11_fillByLongs 37 = .ok (.return_, 1) := dec_of da_X11_fillByLongs_0 (k := 20) rfl
def dl_X11_size_0 : List (Nat × (Instr × Nat)) := [(0, (.iload_n 1, 1)), (1, (.bipush 16, 2)), (3, (.if_icmp .lt 10, 3)), (6, (.iload_n 1, 1)), (7, (.sipush 255, 3)), (10, (.if_icmp .le 5, 3)), (13, (.iconst (-1), 1)), (14, (.ireturn, 1)), (15, (.aload_n 0, 1)), (16, (.getfield 66, 3)), (19, (.istore_n 2, 1)), (20, (.aload_n 0, 1)), (21, (.iload_n 1, 1)), (22, (.putfield 66, 3)), (25, (.iload_n 2, 1)), (26, (.ireturn, 1))]
set_option maxRecDepth 100000 in
theorem da_X11_size_0 : dl_X11_size_0.all (fun q => decide (decode cX11_size q.1 = .ok q.2)) = true := by decide +kernel
theorem dX11_size_0 : decode cX11_size 0 = .ok (.iload_n 1, 1) := dec_of da_X11_size_0 (k := 0) rfl
theorem dX11_size_1 : decode cX11_size 1 = .ok (.bipush 16, 2) := dec_of da_X11_size_0 (k := 1) rfl
theorem dX11_size_3 : decode cX11_size 3 = .ok (.if_icmp .lt 10, 3) := dec_of da_X11_size_0 (k := 2) rfl
theorem dX11_size_6 : decode cX11_size 6 = .ok (.iload_n 1, 1) := dec_of da_X11_size_0 (k := 3) rfl
theorem dX11_size_7 : decode cX11_size 7 = .ok (.sipush 255, 3) := dec_of da_X11_size_0 (k := 4) rfl
theorem dX11_size_10 : decode cX11_size 10 = .ok (.if_icmp .le 5, 3) := dec_of da_X11_size_0 (k := 5) rfl
theorem dX11_size_13 : decode cX11_size 13 = .ok (.iconst (-1), 1) := dec_of da_X11_size_0 (k := 6) rfl
theorem dX11_size_14 : decode cX11_size 14 = .ok (.ireturn, 1) := dec_of da_X11_size_0 (k := 7) rfl
theorem dX11_size_15 : decode cX11_size 15 = .ok (.aload_n 0, 1) := dec_of da_X11_size_0 (k := 8) rfl
theorem dX11_size_16 : decode cX11_size 16 = .ok (.getfield 66, 3) := dec_of da_X11_size_0 (k := 9) rfl
theorem dX11_size_19 : decode cX11_size 19 = .ok (.istore_n 2, 1) := dec_of da_X11_size_0 (k := 10) rfl
theorem dX11_size_20 : decode cX11_size 20 = .ok (.aload_n 0, 1) := dec_of da_X11_size_0 (k := 11) rfl
theorem dX11_size_21 : decode cX11_size 21 = .ok (.iload_n 1, 1) := dec_of da_X11_size_0 (k := 12) rfl
theorem dX11_size_22 : decode cX11_size 22 = .ok (.putfield 66, 3) := dec_of da_X11_size_0 (k := 13) rfl
theorem dX11_size_25 : decode cX11_size 25 = .ok (.iload_n 2, 1) := dec_of da_X11_size_0 (k := 14) rfl
theorem dX11_size_26 : decode cX11_size 26 = .ok (.ireturn, 1) := dec_of da_X11_size_0 (k := 15) rfl
def dl_X11_limit_0 : List (Nat × (Instr × Nat)) := [(0, (.iload_n 1, 1)), (1, (.iconst 1, 1)), (2, (.if_icmp .lt 9, 3)), (5, (.iload_n 1, 1)), (6, (.bipush 15, 2)), (8, (.if_icmp .le 5, 3)), (11, (.iconst (-1), 1)), (12, (.ireturn, 1)), (13, (.aload_n 0, 1)), (14, (.getfield 70, 3)), (17, (.istore_n 2, 1)), (18, (.aload_n 0, 1)), (19, (.iload_n 1, 1)), (20, (.putfield 70, 3)), (23, (.iload_n 2, 1)), (24, (.ireturn, 1))]
set_option maxRecDepth 100000 in
theorem da_X11_limit_0 : dl_X11_limit_0.all (fun q => decide (decode cX11_limit q.1 = .ok q.2)) = true := by decide +kernel
theorem dX11_limit_0 : decode cX11_limit 0 = .ok (.iload_n 1, 1) := dec_of da_X11_limit_0 (k := 0) rfl
theorem dX11_limit_1 : decode cX11_limit 1 = .ok (.iconst 1, 1) := dec_of da_X11_limit_0 (k := 1) rfl
theorem dX11_limit_2 : decode cX11_limit 2 = .ok (.if_icmp .lt 9, 3) := dec_of da_X11_limit_0 (k := 2) rfl
theorem dX11_limit_5 : decode cX11_limit 5 = .ok (.iload_n 1, 1) := dec_of da_X11_limit_0 (k := 3) rfl
theorem dX11_limit_6 : decode cX11_limit 6 = .ok (.bipush 15, 2) := dec_of da_X11_limit_0 (k := 4) rfl
theorem dX11_limit_8 : decode cX11_limit 8 = .ok (.if_icmp .le 5, 3) := dec_of da_X11_limit_0 (k := 5) rfl
theorem dX11_limit_11 : decode cX11_limit 11 = .ok (.iconst (-1), 1) := dec_of da_X11_limit_0 (k := 6) rfl
theorem dX11_limit_12 : decode cX11_limit 12 = .ok (.ireturn, 1) := dec_of da_X11_limit_0 (k := 7) rfl
theorem dX11_limit_13 : decode cX11_limit 13 = .ok (.aload_n 0, 1) := dec_of da_X11_limit_0 (k := 8) rfl
theorem dX11_limit_14 : decode cX11_limit 14 = .ok (.getfield 70, 3) := dec_of da_X11_limit_0 (k := 9) rfl
theorem dX11_limit_17 : decode cX11_limit 17 = .ok (.istore_n 2, 1) := dec_of da_X11_limit_0 (k := 10) rfl
theorem dX11_limit_18 : decode cX11_limit 18 = .ok (.aload_n 0, 1) := dec_of da_X11_limit_0 (k := 11) rfl
theorem dX11_limit_19 : decode cX11_limit 19 = .ok (.iload_n 1, 1) := dec_of da_X11_limit_0 (k := 12) rfl
theorem dX11_limit_20 : decode cX11_limit 20 = .ok (.putfield 70, 3) := dec_of da_X11_limit_0 (k := 13) rfl
theorem dX11_limit_23 : decode cX11_limit 23 = .ok (.iload_n 2, 1) := dec_of da_X11_limit_0 (k := 14) rfl
theorem dX11_limit_24 : decode cX11_limit 24 = .ok (.ireturn, 1) := dec_of da_X11_limit_0 (k := 15) rfl
def dl_X11_draw_0 : List (Nat × (Instr × Nat)) := [(0, (.iload_n 1, 1)), (1, (.ifCond .lt 20, 3)), (4, (.iload_n 1, 1)), (5, (.bipush 127, 2)), (7, (.if_icmp .gt 14, 3)), (10, (.aload_n 0, 1)), (11, (.getfield 41, 3)), (14, (.iload_n 1, 1)), (15, (.invokevirtual 133, 3)), (18, (.ifCond .ne 5, 3)), (21, (.iconst (-1), 1)), (22, (.ireturn, 1)), (23, (.aload_n 0, 1)), (24, (.getfield 41, 3)), (27, (.getfield 136, 3)), (30, (.ireturn, 1))]
set_option maxRecDepth 100000 in
theorem da_X11_draw_0 : dl_X11_draw_0.all (fun q => decide (decode cX11_draw q.1 = .ok q.2)) = true := by decide +kernel
theorem dX11_draw_0 : decode cX11_draw 0 = .ok (.iload_n 1, 1) := dec_of da_X11_draw_0 (k := 0) rfl
theorem dX11_draw_1 : decode cX11_draw 1 = .ok (.ifCond .lt 20, 3) := dec_of da_X11_draw_0 (k := 1) rfl
theorem dX11_draw_4 : decode cX11_draw 4 = .ok (.iload_n 1, 1) := dec_of da_X11_draw_0 (k := 2) rfl
theorem dX11_draw_5 : decode cX11_draw 5 = .ok (.bipush 127, 2) := dec_of da_X11_draw_0 (k := 3) rfl
theorem dX11_draw_7 : decode cX11_draw 7 = .ok (.if_icmp .gt 14, 3) := dec_of da_X11_draw_0 (k := 4) rfl
theorem dX11_draw_10 : decode cX11_draw 10 = .ok (.aload_n 0, 1) := dec_of da_X11_draw_0 (k := 5) rfl
theorem dX11_draw_11 : decode cX11_draw 11 = .ok (.getfield 41, 3) := dec_of da_X11_draw_0 (k := 6) rfl
theorem dX11_draw_14 : decode cX11_draw 14 = .ok (.iload_n 1, 1) := dec_of da_X11_draw_0 (k := 7) rfl
theorem dX11_draw_15 : decode cX11_draw 15 = .ok (.invokevirtual 133, 3) := dec_of da_X11_draw_0 (k := 8) rfl
theorem dX11_draw_18 : decode cX11_draw 18 = .ok (.ifCond .ne 5, 3) := dec_of da_X11_draw_0 (k := 9) rfl
theorem dX11_draw_21 : decode cX11_draw 21 = .ok (.iconst (-1), 1) := dec_of da_X11_draw_0 (k := 10) rfl
theorem dX11_draw_22 : decode cX11_draw 22 = .ok (.ireturn, 1) := dec_of da_X11_draw_0 (k := 11) rfl
theorem dX11_draw_23 : decode cX11_draw 23 = .ok (.aload_n 0, 1) := dec_of da_X11_draw_0 (k := 12) rfl
theorem dX11_draw_24 : decode cX11_draw 24 = .ok (.getfield 41, 3) := dec_of da_X11_draw_0 (k := 13) rfl
theorem dX11_draw_27 : decode cX11_draw 27 = .ok (.getfield 136, 3) := dec_of da_X11_draw_0 (k := 14) rfl
theorem dX11_draw_30 : decode cX11_draw 30 = .ok (.ireturn, 1) := dec_of da_X11_draw_0 (k := 15) rfl
def dl_X11_noise_0 : List (Nat × (Instr × Nat)) := [(0, (.iload_n 1, 1)), (1, (.aload_n 0, 1)), (2, (.getfield 27, 3)), (5, (.getfield 139, 3)), (8, (.if_icmp .lt 15, 3)), (11, (.aload_n 0, 1)), (12, (.getfield 27, 3)), (15, (.iload_n 1, 1)), (16, (.iload_n 2, 1)), (17, (.invokevirtual 142, 3)), (20, (.ifCond .ne 5, 3)), (23, (.iconst (-1), 1)), (24, (.ireturn, 1)), (25, (.aload_n 0, 1)), (26, (.getfield 27, 3)), (29, (.getfield 146, 3)), (32, (.ireturn, 1))]
set_option maxRecDepth 100000 in
theorem da_X11_noise_0 : dl_X11_noise_0.all (fun q => decide (decode cX11_noise q.1 = .ok q.2)) = true := by decide +kernel
theorem dX11_noise_0 : decode cX11_noise 0 = .ok (.iload_n 1, 1) := dec_of da_X11_noise_0 (k := 0) rfl
theorem dX11_noise_1 : decode cX11_noise 1 = .ok (.aload_n 0, 1) := dec_of da_X11_noise_0 (k := 1) rfl
theorem dX11_noise_2 : decode cX11_noise 2 = .ok (.getfield 27, 3) := dec_of da_X11_noise_0 (k := 2) rfl
theorem dX11_noise_5 : decode cX11_noise 5 = .ok (.getfield 139, 3) := dec_of da_X11_noise_0 (k := 3) rfl
theorem dX11_noise_8 : decode cX11_noise 8 = .ok (.if_icmp .lt 15, 3) := dec_of da_X11_noise_0 (k := 4) rfl
theorem dX11_noise_11 : decode cX11_noise 11 = .ok (.aload_n 0, 1) := dec_of da_X11_noise_0 (k := 5) rfl
theorem dX11_noise_12 : decode cX11_noise 12 = .ok (.getfield 27, 3) := dec_of da_X11_noise_0 (k := 6) rfl
theorem dX11_noise_15 : decode cX11_noise 15 = .ok (.iload_n 1, 1) := dec_of da_X11_noise_0 (k := 7) rfl
theorem dX11_noise_16 : decode cX11_noise 16 = .ok (.iload_n 2, 1) := dec_of da_X11_noise_0 (k := 8) rfl
theorem dX11_noise_17 : decode cX11_noise 17 = .ok (.invokevirtual 142, 3) := dec_of da_X11_noise_0 (k := 9) rfl
theorem dX11_noise_20 : decode cX11_noise 20 = .ok (.ifCond .ne 5, 3) := dec_of da_X11_noise_0 (k := 10) rfl
theorem dX11_noise_23 : decode cX11_noise 23 = .ok (.iconst (-1), 1) := dec_of da_X11_noise_0 (k := 11) rfl
theorem dX11_noise_24 : decode cX11_noise 24 = .ok (.ireturn, 1) := dec_of da_X11_noise_0 (k := 12) rfl
theorem dX11_noise_25 : decode cX11_noise 25 = .ok (.aload_n 0, 1) := dec_of da_X11_noise_0 (k := 13) rfl
theorem dX11_noise_26 : decode cX11_noise 26 = .ok (.getfield 27, 3) := dec_of da_X11_noise_0 (k := 14) rfl
theorem dX11_noise_29 : decode cX11_noise 29 = .ok (.getfield 146, 3) := dec_of da_X11_noise_0 (k := 15) rfl
theorem dX11_noise_32 : decode cX11_noise 32 = .ok (.ireturn, 1) := dec_of da_X11_noise_0 (k := 16) rfl
def dl_X11_put_0 : List (Nat × (Instr × Nat)) := [(0, (.aload_n 0, 1)), (1, (.getfield 83, 3)), (4, (.ifCond .eq 33, 3)), (7, (.iload_n 1, 1)), (8, (.aload_n 0, 1)), (9, (.getfield 27, 3)), (12, (.getfield 139, 3)), (15, (.if_icmp .lt 22, 3)), (18, (.aload_n 0, 1)), (19, (.getfield 34, 3)), (22, (.aload_n 0, 1)), (23, (.getfield 59, 3)), (26, (.aload_n 0, 1)), (27, (.getfield 83, 3)), (30, (.iload_n 1, 1)), (31, (.invokevirtual 149, 3)), (34, (.ifCond .ne 5, 3)), (37, (.iconst (-1), 1)), (38, (.ireturn, 1)), (39, (.aload_n 0, 1)), (40, (.iconst 0, 1)), (41, (.putfield 83, 3)), (44, (.aload_n 0, 1)), (45, (.getfield 34, 3)), (48, (.getfield 152, 3)), (51, (.ireturn, 1))]
set_option maxRecDepth 100000 in
theorem da_X11_put_0 : dl_X11_put_0.all (fun q => decide (decode cX11_put q.1 = .ok q.2)) = true := by decide +kernel
theorem dX11_put_0 : decode cX11_put 0 = .ok (.aload_n 0, 1) := dec_of da_X11_put_0 (k := 0) rfl
theorem dX11_put_1 : decode cX11_put 1 = .ok (.getfield 83, 3) := dec_of da_X11_put_0 (k := 1) rfl
theorem dX11_put_4 : decode cX11_put 4 = .ok (.ifCond .eq 33, 3) := dec_of da_X11_put_0 (k := 2) rfl
theorem dX11_put_7 : decode cX11_put 7 = .ok (.iload_n 1, 1) := dec_of da_X11_put_0 (k := 3) rfl
theorem dX11_put_8 : decode cX11_put 8 = .ok (.aload_n 0, 1) := dec_of da_X11_put_0 (k := 4) rfl
theorem dX11_put_9 : decode cX11_put 9 = .ok (.getfield 27, 3) := dec_of da_X11_put_0 (k := 5) rfl
theorem dX11_put_12 : decode cX11_put 12 = .ok (.getfield 139, 3) := dec_of da_X11_put_0 (k := 6) rfl
theorem dX11_put_15 : decode cX11_put 15 = .ok (.if_icmp .lt 22, 3) := dec_of da_X11_put_0 (k := 7) rfl
theorem dX11_put_18 : decode cX11_put 18 = .ok (.aload_n 0, 1) := dec_of da_X11_put_0 (k := 8) rfl
theorem dX11_put_19 : decode cX11_put 19 = .ok (.getfield 34, 3) := dec_of da_X11_put_0 (k := 9) rfl
theorem dX11_put_22 : decode cX11_put 22 = .ok (.aload_n 0, 1) := dec_of da_X11_put_0 (k := 10) rfl
theorem dX11_put_23 : decode cX11_put 23 = .ok (.getfield 59, 3) := dec_of da_X11_put_0 (k := 11) rfl
theorem dX11_put_26 : decode cX11_put 26 = .ok (.aload_n 0, 1) := dec_of da_X11_put_0 (k := 12) rfl
theorem dX11_put_27 : decode cX11_put 27 = .ok (.getfield 83, 3) := dec_of da_X11_put_0 (k := 13) rfl
theorem dX11_put_30 : decode cX11_put 30 = .ok (.iload_n 1, 1) := dec_of da_X11_put_0 (k := 14) rfl
theorem dX11_put_31 : decode cX11_put 31 = .ok (.invokevirtual 149, 3) := dec_of da_X11_put_0 (k := 15) rfl
theorem dX11_put_34 : decode cX11_put 34 = .ok (.ifCond .ne 5, 3) := dec_of da_X11_put_0 (k := 16) rfl
theorem dX11_put_37 : decode cX11_put 37 = .ok (.iconst (-1), 1) := dec_of da_X11_put_0 (k := 17) rfl
theorem dX11_put_38 : decode cX11_put 38 = .ok (.ireturn, 1) := dec_of da_X11_put_0 (k := 18) rfl
theorem dX11_put_39 : decode cX11_put 39 = .ok (.aload_n 0, 1) := dec_of da_X11_put_0 (k := 19) rfl
theorem dX11_put_40 : decode cX11_put 40 = .ok (.iconst 0, 1) := dec_of da_X11_put_0 (k := 20) rfl
theorem dX11_put_41 : decode cX11_put 41 = .ok (.putfield 83, 3) := dec_of da_X11_put_0 (k := 21) rfl
theorem dX11_put_44 : decode cX11_put 44 = .ok (.aload_n 0, 1) := dec_of da_X11_put_0 (k := 22) rfl
theorem dX11_put_45 : decode cX11_put 45 = .ok (.getfield 34, 3) := dec_of da_X11_put_0 (k := 23) rfl
theorem dX11_put_48 : decode cX11_put 48 = .ok (.getfield 152, 3) := dec_of da_X11_put_0 (k := 24) rfl
theorem dX11_put_51 : decode cX11_put 51 = .ok (.ireturn, 1) := dec_of da_X11_put_0 (k := 25) rfl
def dl_X11_join_0 : List (Nat × (Instr × Nat)) := [(0, (.iload_n 1, 1)), (1, (.invokestatic 116, 3)), (4, (.ifCond .ne 5, 3)), (7, (.iconst (-1), 1)), (8, (.ireturn, 1)), (9, (.aload_n 0, 1)), (10, (.getfield 17, 3)), (13, (.iload_n 1, 1)), (14, (.aaload, 1)), (15, (.iconst 1, 1)), (16, (.invokevirtual 155, 3)), (19, (.aload_n 0, 1)), (20, (.getfield 17, 3)), (23, (.iload_n 1, 1)), (24, (.aaload, 1)), (25, (.iconst 1, 1)), (26, (.putfield 158, 3)), (29, (.aload_n 0, 1)), (30, (.iload_n 1, 1)), (31, (.iconst 0, 1)), (32, (.sipush 176, 3)), (35, (.iconst 1, 1)), (36, (.invokevirtual 162, 3)), (39, (.iconst 0, 1)), (40, (.ireturn, 1))]
set_option maxRecDepth 100000 in
theorem da_X11_join_0 : dl_X11_join_0.all (fun q => decide (decode cX11_join q.1 = .ok q.2)) = true := by decide +kernel
theorem dX11_join_0 : decode cX11_join 0 = .ok (.iload_n 1, 1) := dec_of da_X11_join_0 (k := 0) rfl
theorem dX11_join_1 : decode cX11_join 1 = .ok (.invokestatic 116, 3) := dec_of da_X11_join_0 (k := 1) rfl
theorem dX11_join_4 : decode cX11_join 4 = .ok (.ifCond .ne 5, 3) := dec_of da_X11_join_0 (k := 2) rfl
theorem dX11_join_7 : decode cX11_join 7 = .ok (.iconst (-1), 1) := dec_of da_X11_join_0 (k := 3) rfl
theorem dX11_join_8 : decode cX11_join 8 = .ok (.ireturn, 1) := dec_of da_X11_join_0 (k := 4) rfl
theorem dX11_join_9 : decode cX11_join 9 = .ok (.aload_n 0, 1) := dec_of da_X11_join_0 (k := 5) rfl
theorem dX11_join_10 : decode cX11_join 10 = .ok (.getfield 17, 3) := dec_of da_X11_join_0 (k := 6) rfl
theorem dX11_join_13 : decode cX11_join 13 = .ok (.iload_n 1, 1) := dec_of da_X11_join_0 (k := 7) rfl
theorem dX11_join_14 : decode cX11_join 14 = .ok (.aaload, 1) := dec_of da_X11_join_0 (k := 8) rfl
theorem dX11_join_15 : decode cX11_join 15 = .ok (.iconst 1, 1) := dec_of da_X11_join_0 (k := 9) rfl
theorem dX11_join_16 : decode cX11_join 16 = .ok (.invokevirtual 155, 3) := dec_of da_X11_join_0 (k := 10) rfl
theorem dX11_join_19 : decode cX11_join 19 = .ok (.aload_n 0, 1) := dec_of da_X11_join_0 (k := 11) rfl
theorem dX11_join_20 : decode cX11_join 20 = .ok (.getfield 17, 3) := dec_of da_X11_join_0 (k := 12) rfl
theorem dX11_join_23 : decode cX11_join 23 = .ok (.iload_n 1, 1) := dec_of da_X11_join_0 (k := 13) rfl
theorem dX11_join_24 : decode cX11_join 24 = .ok (.aaload, 1) := dec_of da_X11_join_0 (k := 14) rfl
theorem dX11_join_25 : decode cX11_join 25 = .ok (.iconst 1, 1) := dec_of da_X11_join_0 (k := 15) rfl
theorem dX11_join_26 : decode cX11_join 26 = .ok (.putfield 158, 3) := dec_of da_X11_join_0 (k := 16) rfl
theorem dX11_join_29 : decode cX11_join 29 = .ok (.aload_n 0, 1) := dec_of da_X11_join_0 (k := 17) rfl
theorem dX11_join_30 : decode cX11_join 30 = .ok (.iload_n 1, 1) := dec_of da_X11_join_0 (k := 18) rfl
theorem dX11_join_31 : decode cX11_join 31 = .ok (.iconst 0, 1) := dec_of da_X11_join_0 (k := 19) rfl
theorem dX11_join_32 : decode cX11_join 32 = .ok (.sipush 176, 3) := dec_of da_X11_join_0 (k := 20) rfl
theorem dX11_join_35 : decode cX11_join 35 = .ok (.iconst 1, 1) := dec_of da_X11_join_0 (k := 21) rfl
theorem dX11_join_36 : decode cX11_join 36 = .ok (.invokevirtual 162, 3) := dec_of da_X11_join_0 (k := 22) rfl
theorem dX11_join_39 : decode cX11_join 39 = .ok (.iconst 0, 1) := dec_of da_X11_join_0 (k := 23) rfl
theorem dX11_join_40 : decode cX11_join 40 = .ok (.ireturn, 1) := dec_of da_X11_join_0 (k := 24) rfl
def dl_X11_leave_0 : List (Nat × (Instr × Nat)) := [(0, (.iload_n 1, 1)), (1, (.invokestatic 116, 3)), (4, (.ifCond .eq 14, 3)), (7, (.iload_n 2, 1)), (8, (.ifCond .lt 10, 3)), (11, (.iload_n 2, 1)), (12, (.sipush 255, 3)), (15, (.if_icmp .le 5, 3)), (18, (.iconst (-1), 1)), (19, (.ireturn, 1)), (20, (.aload_n 0, 1)), (21, (.getfield 17, 3)), (24, (.iload_n 1, 1)), (25, (.aaload, 1)), (26, (.iconst 1, 1)), (27, (.invokevirtual 155, 3)), (30, (.aload_n 0, 1)), (31, (.getfield 17, 3)), (34, (.iload_n 1, 1)), (35, (.aaload, 1)), (36, (.iconst 0, 1)), (37, (.putfield 158, 3)), (40, (.aload_n 0, 1)), (41, (.iload_n 1, 1)), (42, (.iconst 0, 1)), (43, (.sipush 192, 3)), (46, (.iload_n 2, 1)), (47, (.invokevirtual 162, 3)), (50, (.iconst 0, 1)), (51, (.ireturn, 1))]
set_option maxRecDepth 100000 in
theorem da_X11_leave_0 : dl_X11_leave_0.all (fun q => decide (decode cX11_leave q.1 = .ok q.2)) = true := by decide +kernel
theorem dX11_leave_0 : decode cX11_leave 0 = .ok (.iload_n 1, 1) := dec_of da_X11_leave_0 (k := 0) rfl
theorem dX11_leave_1 : decode cX11_leave 1 = .ok (.invokestatic 116, 3) := dec_of da_X11_leave_0 (k := 1) rfl
theorem dX11_leave_4 : decode cX11_leave 4 = .ok (.ifCond .eq 14, 3) := dec_of da_X11_leave_0 (k := 2) rfl
theorem dX11_leave_7 : decode cX11_leave 7 = .ok (.iload_n 2, 1) := dec_of da_X11_leave_0 (k := 3) rfl
theorem dX11_leave_8 : decode cX11_leave 8 = .ok (.ifCond .lt 10, 3) := dec_of da_X11_leave_0 (k := 4) rfl
theorem dX11_leave_11 : decode cX11_leave 11 = .ok (.iload_n 2, 1) := dec_of da_X11_leave_0 (k := 5) rfl
theorem dX11_leave_12 : decode cX11_leave 12 = .ok (.sipush 255, 3) := dec_of da_X11_leave_0 (k := 6) rfl
theorem dX11_leave_15 : decode cX11_leave 15 = .ok (.if_icmp .le 5, 3) := dec_of da_X11_leave_0 (k := 7) rfl
theorem dX11_leave_18 : decode cX11_leave 18 = .ok (.iconst (-1), 1) := dec_of da_X11_leave_0 (k := 8) rfl
theorem dX11_leave_19 : decode cX11_leave 19 = .ok (.ireturn, 1) := dec_of da_X11_leave_0 (k := 9) rfl
theorem dX11_leave_20 : decode cX11_leave 20 = .ok (.aload_n 0, 1) := dec_of da_X11_leave_0 (k := 10) rfl
theorem dX11_leave_21 : decode cX11_leave 21 = .ok (.getfield 17, 3) := dec_of da_X11_leave_0 (k := 11) rfl
theorem dX11_leave_24 : decode cX11_leave 24 = .ok (.iload_n 1, 1) := dec_of da_X11_leave_0 (k := 12) rfl
theorem dX11_leave_25 : decode cX11_leave 25 = .ok (.aaload, 1) := dec_of da_X11_leave_0 (k := 13) rfl
theorem dX11_leave_26 : decode cX11_leave 26 = .ok (.iconst 1, 1) := dec_of da_X11_leave_0 (k := 14) rfl
theorem dX11_leave_27 : decode cX11_leave 27 = .ok (.invokevirtual 155, 3) := dec_of da_X11_leave_0 (k := 15) rfl
theorem dX11_leave_30 : decode cX11_leave 30 = .ok (.aload_n 0, 1) := dec_of da_X11_leave_0 (k := 16) rfl
theorem dX11_leave_31 : decode cX11_leave 31 = .ok (.getfield 17, 3) := dec_of da_X11_leave_0 (k := 17) rfl
theorem dX11_leave_34 : decode cX11_leave 34 = .ok (.iload_n 1, 1) := dec_of da_X11_leave_0 (k := 18) rfl
theorem dX11_leave_35 : decode cX11_leave 35 = .ok (.aaload, 1) := dec_of da_X11_leave_0 (k := 19) rfl
theorem dX11_leave_36 : decode cX11_leave 36 = .ok (.iconst 0, 1) := dec_of da_X11_leave_0 (k := 20) rfl
theorem dX11_leave_37 : decode cX11_leave 37 = .ok (.putfield 158, 3) := dec_of da_X11_leave_0 (k := 21) rfl
theorem dX11_leave_40 : decode cX11_leave 40 = .ok (.aload_n 0, 1) := dec_of da_X11_leave_0 (k := 22) rfl
theorem dX11_leave_41 : decode cX11_leave 41 = .ok (.iload_n 1, 1) := dec_of da_X11_leave_0 (k := 23) rfl
theorem dX11_leave_42 : decode cX11_leave 42 = .ok (.iconst 0, 1) := dec_of da_X11_leave_0 (k := 24) rfl
theorem dX11_leave_43 : decode cX11_leave 43 = .ok (.sipush 192, 3) := dec_of da_X11_leave_0 (k := 25) rfl
theorem dX11_leave_46 : decode cX11_leave 46 = .ok (.iload_n 2, 1) := dec_of da_X11_leave_0 (k := 26) rfl
theorem dX11_leave_47 : decode cX11_leave 47 = .ok (.invokevirtual 162, 3) := dec_of da_X11_leave_0 (k := 27) rfl
theorem dX11_leave_50 : decode cX11_leave 50 = .ok (.iconst 0, 1) := dec_of da_X11_leave_0 (k := 28) rfl
theorem dX11_leave_51 : decode cX11_leave 51 = .ok (.ireturn, 1) := dec_of da_X11_leave_0 (k := 29) rfl
def dl_X11_submit_0 : List (Nat × (Instr × Nat)) := [(0, (.iload_n 1, 1)), (1, (.invokestatic 127, 3)), (4, (.ifCond .eq 15, 3)), (7, (.iload_n 2, 1)), (8, (.invokestatic 127, 3)), (11, (.ifCond .eq 8, 3)), (14, (.iload_n 1, 1)), (15, (.iload_n 2, 1)), (16, (.if_icmp .ne 5, 3)), (19, (.iconst (-1), 1)), (20, (.ireturn, 1)), (21, (.aload_n 0, 1)), (22, (.getfield 83, 3)), (25, (.sipush 200, 3)), (28, (.if_icmp .gt 13, 3)), (31, (.aload_n 0, 1)), (32, (.getfield 166, 3)), (35, (.sipush 200, 3)), (38, (.if_icmp .lt 5, 3)), (41, (.iconst (-1), 1)), (42, (.ireturn, 1)), (43, (.aload_n 0, 1)), (44, (.getfield 166, 3)), (47, (.istore_n 3, 1)), (48, (.aload_n 0, 1)), (49, (.dup, 1)), (50, (.getfield 166, 3)), (53, (.iconst 1, 1)), (54, (.iadd, 1)), (55, (.putfield 166, 3)), (58, (.aload_n 0, 1)), (59, (.getfield 63, 3)), (62, (.iload_n 3, 1)), (63, (.aload_n 0, 1)), (64, (.iload_n 1, 1)), (65, (.iload_n 2, 1)), (66, (.iload_n 3, 1)), (67, (.invokevirtual 169, 3)), (70, (.iastore, 1)), (71, (.aload_n 0, 1)), (72, (.iconst 0, 1)), (73, (.putfield 83, 3)), (76, (.iload_n 3, 1)), (77, (.ireturn, 1))]
set_option maxRecDepth 100000 in
theorem da_X11_submit_0 : dl_X11_submit_0.all (fun q => decide (decode cX11_submit q.1 = .ok q.2)) = true := by decide +kernel
theorem dX11_submit_0 : decode cX11_submit 0 = .ok (.iload_n 1, 1) := dec_of da_X11_submit_0 (k := 0) rfl
theorem dX11_submit_1 : decode cX11_submit 1 = .ok (.invokestatic 127, 3) := dec_of da_X11_submit_0 (k := 1) rfl
theorem dX11_submit_4 : decode cX11_submit 4 = .ok (.ifCond .eq 15, 3) := dec_of da_X11_submit_0 (k := 2) rfl
theorem dX11_submit_7 : decode cX11_submit 7 = .ok (.iload_n 2, 1) := dec_of da_X11_submit_0 (k := 3) rfl
theorem dX11_submit_8 : decode cX11_submit 8 = .ok (.invokestatic 127, 3) := dec_of da_X11_submit_0 (k := 4) rfl
theorem dX11_submit_11 : decode cX11_submit 11 = .ok (.ifCond .eq 8, 3) := dec_of da_X11_submit_0 (k := 5) rfl
theorem dX11_submit_14 : decode cX11_submit 14 = .ok (.iload_n 1, 1) := dec_of da_X11_submit_0 (k := 6) rfl
theorem dX11_submit_15 : decode cX11_submit 15 = .ok (.iload_n 2, 1) := dec_of da_X11_submit_0 (k := 7) rfl
theorem dX11_submit_16 : decode cX11_submit 16 = .ok (.if_icmp .ne 5, 3) := dec_of da_X11_submit_0 (k := 8) rfl
theorem dX11_submit_19 : decode cX11_submit 19 = .ok (.iconst (-1), 1) := dec_of da_X11_submit_0 (k := 9) rfl
theorem dX11_submit_20 : decode cX11_submit 20 = .ok (.ireturn, 1) := dec_of da_X11_submit_0 (k := 10) rfl
theorem dX11_submit_21 : decode cX11_submit 21 = .ok (.aload_n 0, 1) := dec_of da_X11_submit_0 (k := 11) rfl
theorem dX11_submit_22 : decode cX11_submit 22 = .ok (.getfield 83, 3) := dec_of da_X11_submit_0 (k := 12) rfl
theorem dX11_submit_25 : decode cX11_submit 25 = .ok (.sipush 200, 3) := dec_of da_X11_submit_0 (k := 13) rfl
theorem dX11_submit_28 : decode cX11_submit 28 = .ok (.if_icmp .gt 13, 3) := dec_of da_X11_submit_0 (k := 14) rfl
theorem dX11_submit_31 : decode cX11_submit 31 = .ok (.aload_n 0, 1) := dec_of da_X11_submit_0 (k := 15) rfl
theorem dX11_submit_32 : decode cX11_submit 32 = .ok (.getfield 166, 3) := dec_of da_X11_submit_0 (k := 16) rfl
theorem dX11_submit_35 : decode cX11_submit 35 = .ok (.sipush 200, 3) := dec_of da_X11_submit_0 (k := 17) rfl
theorem dX11_submit_38 : decode cX11_submit 38 = .ok (.if_icmp .lt 5, 3) := dec_of da_X11_submit_0 (k := 18) rfl
theorem dX11_submit_41 : decode cX11_submit 41 = .ok (.iconst (-1), 1) := dec_of da_X11_submit_0 (k := 19) rfl
theorem dX11_submit_42 : decode cX11_submit 42 = .ok (.ireturn, 1) := dec_of da_X11_submit_0 (k := 20) rfl
theorem dX11_submit_43 : decode cX11_submit 43 = .ok (.aload_n 0, 1) := dec_of da_X11_submit_0 (k := 21) rfl
theorem dX11_submit_44 : decode cX11_submit 44 = .ok (.getfield 166, 3) := dec_of da_X11_submit_0 (k := 22) rfl
theorem dX11_submit_47 : decode cX11_submit 47 = .ok (.istore_n 3, 1) := dec_of da_X11_submit_0 (k := 23) rfl
theorem dX11_submit_48 : decode cX11_submit 48 = .ok (.aload_n 0, 1) := dec_of da_X11_submit_0 (k := 24) rfl
theorem dX11_submit_49 : decode cX11_submit 49 = .ok (.dup, 1) := dec_of da_X11_submit_0 (k := 25) rfl
theorem dX11_submit_50 : decode cX11_submit 50 = .ok (.getfield 166, 3) := dec_of da_X11_submit_0 (k := 26) rfl
theorem dX11_submit_53 : decode cX11_submit 53 = .ok (.iconst 1, 1) := dec_of da_X11_submit_0 (k := 27) rfl
theorem dX11_submit_54 : decode cX11_submit 54 = .ok (.iadd, 1) := dec_of da_X11_submit_0 (k := 28) rfl
theorem dX11_submit_55 : decode cX11_submit 55 = .ok (.putfield 166, 3) := dec_of da_X11_submit_0 (k := 29) rfl
theorem dX11_submit_58 : decode cX11_submit 58 = .ok (.aload_n 0, 1) := dec_of da_X11_submit_0 (k := 30) rfl
theorem dX11_submit_59 : decode cX11_submit 59 = .ok (.getfield 63, 3) := dec_of da_X11_submit_0 (k := 31) rfl
theorem dX11_submit_62 : decode cX11_submit 62 = .ok (.iload_n 3, 1) := dec_of da_X11_submit_0 (k := 32) rfl
theorem dX11_submit_63 : decode cX11_submit 63 = .ok (.aload_n 0, 1) := dec_of da_X11_submit_0 (k := 33) rfl
theorem dX11_submit_64 : decode cX11_submit 64 = .ok (.iload_n 1, 1) := dec_of da_X11_submit_0 (k := 34) rfl
theorem dX11_submit_65 : decode cX11_submit 65 = .ok (.iload_n 2, 1) := dec_of da_X11_submit_0 (k := 35) rfl
theorem dX11_submit_66 : decode cX11_submit 66 = .ok (.iload_n 3, 1) := dec_of da_X11_submit_0 (k := 36) rfl
theorem dX11_submit_67 : decode cX11_submit 67 = .ok (.invokevirtual 169, 3) := dec_of da_X11_submit_0 (k := 37) rfl
theorem dX11_submit_70 : decode cX11_submit 70 = .ok (.iastore, 1) := dec_of da_X11_submit_0 (k := 38) rfl
theorem dX11_submit_71 : decode cX11_submit 71 = .ok (.aload_n 0, 1) := dec_of da_X11_submit_0 (k := 39) rfl
theorem dX11_submit_72 : decode cX11_submit 72 = .ok (.iconst 0, 1) := dec_of da_X11_submit_0 (k := 40) rfl
theorem dX11_submit_73 : decode cX11_submit 73 = .ok (.putfield 83, 3) := dec_of da_X11_submit_0 (k := 41) rfl
theorem dX11_submit_76 : decode cX11_submit 76 = .ok (.iload_n 3, 1) := dec_of da_X11_submit_0 (k := 42) rfl
theorem dX11_submit_77 : decode cX11_submit 77 = .ok (.ireturn, 1) := dec_of da_X11_submit_0 (k := 43) rfl
def dl_X11_queueTape_0 : List (Nat × (Instr × Nat)) := [(0, (.iload_n 1, 1)), (1, (.ifCond .ne 7, 3)), (4, (.iload_n 2, 1)), (5, (.goto 4, 3)), (8, (.iconst 0, 1)), (9, (.istore 4, 2)), (11, (.aload_n 0, 1)), (12, (.iload_n 1, 1)), (13, (.iload 4, 2)), (15, (.invokevirtual 173, 3)), (18, (.getfield 177, 3)), (21, (.iconst 4, 1)), (22, (.if_icmp .eq 5, 3)), (25, (.iconst 4, 1)), (26, (.ireturn, 1)), (27, (.aload_n 0, 1)), (28, (.iload_n 1, 1)), (29, (.iload 4, 2)), (31, (.bipush 8, 2)), (33, (.invokevirtual 180, 3)), (36, (.astore 5, 2)), (38, (.aload 5, 2)), (40, (.ifnonnull 5, 3)), (43, (.iconst 3, 1)), (44, (.ireturn, 1)), (45, (.aload 5, 2)), (47, (.iconst 1, 1)), (48, (.putfield 184, 3)), (51, (.aload 5, 2)), (53, (.iload_n 1, 1)), (54, (.ifCond .ne 7, 3)), (57, (.iconst 0, 1)), (58, (.goto 4, 3)), (61, (.iload_n 2, 1)), (62, (.putfield 189, 3)), (65, (.aload 5, 2)), (67, (.iload_n 3, 1)), (68, (.putfield 192, 3)), (71, (.aload 5, 2)), (73, (.getfield 195, 3)), (76, (.bipush 8, 2)), (78, (.iconst 0, 1)), (79, (.invokestatic 198, 3)), (82, (.aload_n 0, 1)), (83, (.getfield 59, 3)), (86, (.iconst 0, 1)), (87, (.aload 5, 2)), (89, (.getfield 195, 3)), (92, (.bipush 8, 2)), (94, (.aload_n 0, 1)), (95, (.getfield 83, 3)), (98, (.invokestatic 110, 3)), (101, (.aload 5, 2)), (103, (.bipush 8, 2)), (105, (.aload_n 0, 1)), (106, (.getfield 83, 3)), (109, (.iadd, 1)), (110, (.putfield 202, 3)), (113, (.iconst 0, 1)), (114, (.ireturn, 1))]
set_option maxRecDepth 100000 in
theorem da_X11_queueTape_0 : dl_X11_queueTape_0.all (fun q => decide (decode cX11_queueTape q.1 = .ok q.2)) = true := by decide +kernel
theorem dX11_queueTape_0 : decode cX11_queueTape 0 = .ok (.iload_n 1, 1) := dec_of da_X11_queueTape_0 (k := 0) rfl
theorem dX11_queueTape_1 : decode cX11_queueTape 1 = .ok (.ifCond .ne 7, 3) := dec_of da_X11_queueTape_0 (k := 1) rfl
theorem dX11_queueTape_4 : decode cX11_queueTape 4 = .ok (.iload_n 2, 1) := dec_of da_X11_queueTape_0 (k := 2) rfl
theorem dX11_queueTape_5 : decode cX11_queueTape 5 = .ok (.goto 4, 3) := dec_of da_X11_queueTape_0 (k := 3) rfl
theorem dX11_queueTape_8 : decode cX11_queueTape 8 = .ok (.iconst 0, 1) := dec_of da_X11_queueTape_0 (k := 4) rfl
theorem dX11_queueTape_9 : decode cX11_queueTape 9 = .ok (.istore 4, 2) := dec_of da_X11_queueTape_0 (k := 5) rfl
theorem dX11_queueTape_11 : decode cX11_queueTape 11 = .ok (.aload_n 0, 1) := dec_of da_X11_queueTape_0 (k := 6) rfl
theorem dX11_queueTape_12 : decode cX11_queueTape 12 = .ok (.iload_n 1, 1) := dec_of da_X11_queueTape_0 (k := 7) rfl
theorem dX11_queueTape_13 : decode cX11_queueTape 13 = .ok (.iload 4, 2) := dec_of da_X11_queueTape_0 (k := 8) rfl
theorem dX11_queueTape_15 : decode cX11_queueTape 15 = .ok (.invokevirtual 173, 3) := dec_of da_X11_queueTape_0 (k := 9) rfl
theorem dX11_queueTape_18 : decode cX11_queueTape 18 = .ok (.getfield 177, 3) := dec_of da_X11_queueTape_0 (k := 10) rfl
theorem dX11_queueTape_21 : decode cX11_queueTape 21 = .ok (.iconst 4, 1) := dec_of da_X11_queueTape_0 (k := 11) rfl
theorem dX11_queueTape_22 : decode cX11_queueTape 22 = .ok (.if_icmp .eq 5, 3) := dec_of da_X11_queueTape_0 (k := 12) rfl
theorem dX11_queueTape_25 : decode cX11_queueTape 25 = .ok (.iconst 4, 1) := dec_of da_X11_queueTape_0 (k := 13) rfl
theorem dX11_queueTape_26 : decode cX11_queueTape 26 = .ok (.ireturn, 1) := dec_of da_X11_queueTape_0 (k := 14) rfl
theorem dX11_queueTape_27 : decode cX11_queueTape 27 = .ok (.aload_n 0, 1) := dec_of da_X11_queueTape_0 (k := 15) rfl
theorem dX11_queueTape_28 : decode cX11_queueTape 28 = .ok (.iload_n 1, 1) := dec_of da_X11_queueTape_0 (k := 16) rfl
theorem dX11_queueTape_29 : decode cX11_queueTape 29 = .ok (.iload 4, 2) := dec_of da_X11_queueTape_0 (k := 17) rfl
theorem dX11_queueTape_31 : decode cX11_queueTape 31 = .ok (.bipush 8, 2) := dec_of da_X11_queueTape_0 (k := 18) rfl
theorem dX11_queueTape_33 : decode cX11_queueTape 33 = .ok (.invokevirtual 180, 3) := dec_of da_X11_queueTape_0 (k := 19) rfl
theorem dX11_queueTape_36 : decode cX11_queueTape 36 = .ok (.astore 5, 2) := dec_of da_X11_queueTape_0 (k := 20) rfl
theorem dX11_queueTape_38 : decode cX11_queueTape 38 = .ok (.aload 5, 2) := dec_of da_X11_queueTape_0 (k := 21) rfl
theorem dX11_queueTape_40 : decode cX11_queueTape 40 = .ok (.ifnonnull 5, 3) := dec_of da_X11_queueTape_0 (k := 22) rfl
theorem dX11_queueTape_43 : decode cX11_queueTape 43 = .ok (.iconst 3, 1) := dec_of da_X11_queueTape_0 (k := 23) rfl
theorem dX11_queueTape_44 : decode cX11_queueTape 44 = .ok (.ireturn, 1) := dec_of da_X11_queueTape_0 (k := 24) rfl
theorem dX11_queueTape_45 : decode cX11_queueTape 45 = .ok (.aload 5, 2) := dec_of da_X11_queueTape_0 (k := 25) rfl
theorem dX11_queueTape_47 : decode cX11_queueTape 47 = .ok (.iconst 1, 1) := dec_of da_X11_queueTape_0 (k := 26) rfl
theorem dX11_queueTape_48 : decode cX11_queueTape 48 = .ok (.putfield 184, 3) := dec_of da_X11_queueTape_0 (k := 27) rfl
theorem dX11_queueTape_51 : decode cX11_queueTape 51 = .ok (.aload 5, 2) := dec_of da_X11_queueTape_0 (k := 28) rfl
theorem dX11_queueTape_53 : decode cX11_queueTape 53 = .ok (.iload_n 1, 1) := dec_of da_X11_queueTape_0 (k := 29) rfl
theorem dX11_queueTape_54 : decode cX11_queueTape 54 = .ok (.ifCond .ne 7, 3) := dec_of da_X11_queueTape_0 (k := 30) rfl
theorem dX11_queueTape_57 : decode cX11_queueTape 57 = .ok (.iconst 0, 1) := dec_of da_X11_queueTape_0 (k := 31) rfl
theorem dX11_queueTape_58 : decode cX11_queueTape 58 = .ok (.goto 4, 3) := dec_of da_X11_queueTape_0 (k := 32) rfl
theorem dX11_queueTape_61 : decode cX11_queueTape 61 = .ok (.iload_n 2, 1) := dec_of da_X11_queueTape_0 (k := 33) rfl
theorem dX11_queueTape_62 : decode cX11_queueTape 62 = .ok (.putfield 189, 3) := dec_of da_X11_queueTape_0 (k := 34) rfl
theorem dX11_queueTape_65 : decode cX11_queueTape 65 = .ok (.aload 5, 2) := dec_of da_X11_queueTape_0 (k := 35) rfl
theorem dX11_queueTape_67 : decode cX11_queueTape 67 = .ok (.iload_n 3, 1) := dec_of da_X11_queueTape_0 (k := 36) rfl
theorem dX11_queueTape_68 : decode cX11_queueTape 68 = .ok (.putfield 192, 3) := dec_of da_X11_queueTape_0 (k := 37) rfl
theorem dX11_queueTape_71 : decode cX11_queueTape 71 = .ok (.aload 5, 2) := dec_of da_X11_queueTape_0 (k := 38) rfl
theorem dX11_queueTape_73 : decode cX11_queueTape 73 = .ok (.getfield 195, 3) := dec_of da_X11_queueTape_0 (k := 39) rfl
theorem dX11_queueTape_76 : decode cX11_queueTape 76 = .ok (.bipush 8, 2) := dec_of da_X11_queueTape_0 (k := 40) rfl
theorem dX11_queueTape_78 : decode cX11_queueTape 78 = .ok (.iconst 0, 1) := dec_of da_X11_queueTape_0 (k := 41) rfl
theorem dX11_queueTape_79 : decode cX11_queueTape 79 = .ok (.invokestatic 198, 3) := dec_of da_X11_queueTape_0 (k := 42) rfl
theorem dX11_queueTape_82 : decode cX11_queueTape 82 = .ok (.aload_n 0, 1) := dec_of da_X11_queueTape_0 (k := 43) rfl
theorem dX11_queueTape_83 : decode cX11_queueTape 83 = .ok (.getfield 59, 3) := dec_of da_X11_queueTape_0 (k := 44) rfl
theorem dX11_queueTape_86 : decode cX11_queueTape 86 = .ok (.iconst 0, 1) := dec_of da_X11_queueTape_0 (k := 45) rfl
theorem dX11_queueTape_87 : decode cX11_queueTape 87 = .ok (.aload 5, 2) := dec_of da_X11_queueTape_0 (k := 46) rfl
theorem dX11_queueTape_89 : decode cX11_queueTape 89 = .ok (.getfield 195, 3) := dec_of da_X11_queueTape_0 (k := 47) rfl
theorem dX11_queueTape_92 : decode cX11_queueTape 92 = .ok (.bipush 8, 2) := dec_of da_X11_queueTape_0 (k := 48) rfl
theorem dX11_queueTape_94 : decode cX11_queueTape 94 = .ok (.aload_n 0, 1) := dec_of da_X11_queueTape_0 (k := 49) rfl
theorem dX11_queueTape_95 : decode cX11_queueTape 95 = .ok (.getfield 83, 3) := dec_of da_X11_queueTape_0 (k := 50) rfl
theorem dX11_queueTape_98 : decode cX11_queueTape 98 = .ok (.invokestatic 110, 3) := dec_of da_X11_queueTape_0 (k := 51) rfl
theorem dX11_queueTape_101 : decode cX11_queueTape 101 = .ok (.aload 5, 2) := dec_of da_X11_queueTape_0 (k := 52) rfl
theorem dX11_queueTape_103 : decode cX11_queueTape 103 = .ok (.bipush 8, 2) := dec_of da_X11_queueTape_0 (k := 53) rfl
theorem dX11_queueTape_105 : decode cX11_queueTape 105 = .ok (.aload_n 0, 1) := dec_of da_X11_queueTape_0 (k := 54) rfl
theorem dX11_queueTape_106 : decode cX11_queueTape 106 = .ok (.getfield 83, 3) := dec_of da_X11_queueTape_0 (k := 55) rfl
theorem dX11_queueTape_109 : decode cX11_queueTape 109 = .ok (.iadd, 1) := dec_of da_X11_queueTape_0 (k := 56) rfl
theorem dX11_queueTape_110 : decode cX11_queueTape 110 = .ok (.putfield 202, 3) := dec_of da_X11_queueTape_0 (k := 57) rfl
theorem dX11_queueTape_113 : decode cX11_queueTape 113 = .ok (.iconst 0, 1) := dec_of da_X11_queueTape_0 (k := 58) rfl
theorem dX11_queueTape_114 : decode cX11_queueTape 114 = .ok (.ireturn, 1) := dec_of da_X11_queueTape_0 (k := 59) rfl
def dl_X11_go_0 : List (Nat × (Instr × Nat)) := [(0, (.iload_n 1, 1)), (1, (.ifCond .lt 10, 3)), (4, (.iload_n 1, 1)), (5, (.sipush 3000, 3)), (8, (.if_icmp .le 5, 3)), (11, (.iconst (-1), 1)), (12, (.ireturn, 1)), (13, (.aload_n 0, 1)), (14, (.getfield 27, 3)), (17, (.getfield 205, 3)), (20, (.istore_n 2, 1)), (21, (.iload_n 1, 1)), (22, (.istore_n 3, 1)), (23, (.iload_n 3, 1)), (24, (.ifCond .le 122, 3)), (27, (.aload_n 0, 1)), (28, (.iload_n 3, 1)), (29, (.invokevirtual 208, 3)), (32, (.istore 4, 2)), (34, (.iload 4, 2)), (36, (.ifCond .le 20, 3)), (39, (.aload_n 0, 1)), (40, (.getfield 27, 3)), (43, (.iload 4, 2)), (45, (.invokevirtual 211, 3)), (48, (.iload_n 3, 1)), (49, (.iload 4, 2)), (51, (.isub, 1)), (52, (.istore_n 3, 1)), (53, (.goto (-30), 3)), (56, (.aload_n 0, 1)), (57, (.invokevirtual 214, 3)), (60, (.aload_n 0, 1)), (61, (.getfield 34, 3)), (64, (.aload_n 0, 1)), (65, (.getfield 27, 3)), (68, (.invokevirtual 217, 3)), (71, (.aload_n 0, 1)), (72, (.getfield 27, 3)), (75, (.invokevirtual 221, 3)), (78, (.aload_n 0, 1)), (79, (.invokevirtual 224, 3)), (82, (.istore 5, 2)), (84, (.iload 5, 2)), (86, (.iconst (-1), 1)), (87, (.if_icmp .eq 32, 3)), (90, (.aload_n 0, 1)), (91, (.getfield 27, 3)), (94, (.invokevirtual 228, 3)), (97, (.iconst 0, 1)), (98, (.iaload, 1)), (99, (.bipush 8, 2)), (101, (.if_icmp .ne 12, 3)), (104, (.aload_n 0, 1)), (105, (.iload 5, 2)), (107, (.invokevirtual 232, 3)), (110, (.goto 9, 3)), (113, (.aload_n 0, 1)), (114, (.iload 5, 2)), (116, (.invokevirtual 235, 3))]
set_option maxRecDepth 100000 in
theorem da_X11_go_0 : dl_X11_go_0.all (fun q => decide (decode cX11_go q.1 = .ok q.2)) = true := by decide +kernel
theorem dX11_go_0 : decode cX11_go 0 = .ok (.iload_n 1, 1) := dec_of da_X11_go_0 (k := 0) rfl
theorem dX11_go_1 : decode cX11_go 1 = .ok (.ifCond .lt 10, 3) := dec_of da_X11_go_0 (k := 1) rfl
theorem dX11_go_4 : decode cX11_go 4 = .ok (.iload_n 1, 1) := dec_of da_X11_go_0 (k := 2) rfl
theorem dX11_go_5 : decode cX11_go 5 = .ok (.sipush 3000, 3) := dec_of da_X11_go_0 (k := 3) rfl
theorem dX11_go_8 : decode cX11_go 8 = .ok (.if_icmp .le 5, 3) := dec_of da_X11_go_0 (k := 4) rfl
theorem dX11_go_11 : decode cX11_go 11 = .ok (.iconst (-1), 1) := dec_of da_X11_go_0 (k := 5) rfl
theorem dX11_go_12 : decode cX11_go 12 = .ok (.ireturn, 1) := dec_of da_X11_go_0 (k := 6) rfl
theorem dX11_go_13 : decode cX11_go 13 = .ok (.aload_n 0, 1) := dec_of da_X11_go_0 (k := 7) rfl
theorem dX11_go_14 : decode cX11_go 14 = .ok (.getfield 27, 3) := dec_of da_X11_go_0 (k := 8) rfl
theorem dX11_go_17 : decode cX11_go 17 = .ok (.getfield 205, 3) := dec_of da_X11_go_0 (k := 9) rfl
theorem dX11_go_20 : decode cX11_go 20 = .ok (.istore_n 2, 1) := dec_of da_X11_go_0 (k := 10) rfl
theorem dX11_go_21 : decode cX11_go 21 = .ok (.iload_n 1, 1) := dec_of da_X11_go_0 (k := 11) rfl
theorem dX11_go_22 : decode cX11_go 22 = .ok (.istore_n 3, 1) := dec_of da_X11_go_0 (k := 12) rfl
theorem dX11_go_23 : decode cX11_go 23 = .ok (.iload_n 3, 1) := dec_of da_X11_go_0 (k := 13) rfl
theorem dX11_go_24 : decode cX11_go 24 = .ok (.ifCond .le 122, 3) := dec_of da_X11_go_0 (k := 14) rfl
theorem dX11_go_27 : decode cX11_go 27 = .ok (.aload_n 0, 1) := dec_of da_X11_go_0 (k := 15) rfl
theorem dX11_go_28 : decode cX11_go 28 = .ok (.iload_n 3, 1) := dec_of da_X11_go_0 (k := 16) rfl
theorem dX11_go_29 : decode cX11_go 29 = .ok (.invokevirtual 208, 3) := dec_of da_X11_go_0 (k := 17) rfl
theorem dX11_go_32 : decode cX11_go 32 = .ok (.istore 4, 2) := dec_of da_X11_go_0 (k := 18) rfl
theorem dX11_go_34 : decode cX11_go 34 = .ok (.iload 4, 2) := dec_of da_X11_go_0 (k := 19) rfl
theorem dX11_go_36 : decode cX11_go 36 = .ok (.ifCond .le 20, 3) := dec_of da_X11_go_0 (k := 20) rfl
theorem dX11_go_39 : decode cX11_go 39 = .ok (.aload_n 0, 1) := dec_of da_X11_go_0 (k := 21) rfl
theorem dX11_go_40 : decode cX11_go 40 = .ok (.getfield 27, 3) := dec_of da_X11_go_0 (k := 22) rfl
theorem dX11_go_43 : decode cX11_go 43 = .ok (.iload 4, 2) := dec_of da_X11_go_0 (k := 23) rfl
theorem dX11_go_45 : decode cX11_go 45 = .ok (.invokevirtual 211, 3) := dec_of da_X11_go_0 (k := 24) rfl
theorem dX11_go_48 : decode cX11_go 48 = .ok (.iload_n 3, 1) := dec_of da_X11_go_0 (k := 25) rfl
theorem dX11_go_49 : decode cX11_go 49 = .ok (.iload 4, 2) := dec_of da_X11_go_0 (k := 26) rfl
theorem dX11_go_51 : decode cX11_go 51 = .ok (.isub, 1) := dec_of da_X11_go_0 (k := 27) rfl
theorem dX11_go_52 : decode cX11_go 52 = .ok (.istore_n 3, 1) := dec_of da_X11_go_0 (k := 28) rfl
theorem dX11_go_53 : decode cX11_go 53 = .ok (.goto (-30), 3) := dec_of da_X11_go_0 (k := 29) rfl
theorem dX11_go_56 : decode cX11_go 56 = .ok (.aload_n 0, 1) := dec_of da_X11_go_0 (k := 30) rfl
theorem dX11_go_57 : decode cX11_go 57 = .ok (.invokevirtual 214, 3) := dec_of da_X11_go_0 (k := 31) rfl
theorem dX11_go_60 : decode cX11_go 60 = .ok (.aload_n 0, 1) := dec_of da_X11_go_0 (k := 32) rfl
theorem dX11_go_61 : decode cX11_go 61 = .ok (.getfield 34, 3) := dec_of da_X11_go_0 (k := 33) rfl
theorem dX11_go_64 : decode cX11_go 64 = .ok (.aload_n 0, 1) := dec_of da_X11_go_0 (k := 34) rfl
theorem dX11_go_65 : decode cX11_go 65 = .ok (.getfield 27, 3) := dec_of da_X11_go_0 (k := 35) rfl
theorem dX11_go_68 : decode cX11_go 68 = .ok (.invokevirtual 217, 3) := dec_of da_X11_go_0 (k := 36) rfl
theorem dX11_go_71 : decode cX11_go 71 = .ok (.aload_n 0, 1) := dec_of da_X11_go_0 (k := 37) rfl
theorem dX11_go_72 : decode cX11_go 72 = .ok (.getfield 27, 3) := dec_of da_X11_go_0 (k := 38) rfl
theorem dX11_go_75 : decode cX11_go 75 = .ok (.invokevirtual 221, 3) := dec_of da_X11_go_0 (k := 39) rfl
theorem dX11_go_78 : decode cX11_go 78 = .ok (.aload_n 0, 1) := dec_of da_X11_go_0 (k := 40) rfl
theorem dX11_go_79 : decode cX11_go 79 = .ok (.invokevirtual 224, 3) := dec_of da_X11_go_0 (k := 41) rfl
theorem dX11_go_82 : decode cX11_go 82 = .ok (.istore 5, 2) := dec_of da_X11_go_0 (k := 42) rfl
theorem dX11_go_84 : decode cX11_go 84 = .ok (.iload 5, 2) := dec_of da_X11_go_0 (k := 43) rfl
theorem dX11_go_86 : decode cX11_go 86 = .ok (.iconst (-1), 1) := dec_of da_X11_go_0 (k := 44) rfl
theorem dX11_go_87 : decode cX11_go 87 = .ok (.if_icmp .eq 32, 3) := dec_of da_X11_go_0 (k := 45) rfl
theorem dX11_go_90 : decode cX11_go 90 = .ok (.aload_n 0, 1) := dec_of da_X11_go_0 (k := 46) rfl
theorem dX11_go_91 : decode cX11_go 91 = .ok (.getfield 27, 3) := dec_of da_X11_go_0 (k := 47) rfl
theorem dX11_go_94 : decode cX11_go 94 = .ok (.invokevirtual 228, 3) := dec_of da_X11_go_0 (k := 48) rfl
theorem dX11_go_97 : decode cX11_go 97 = .ok (.iconst 0, 1) := dec_of da_X11_go_0 (k := 49) rfl
theorem dX11_go_98 : decode cX11_go 98 = .ok (.iaload, 1) := dec_of da_X11_go_0 (k := 50) rfl
theorem dX11_go_99 : decode cX11_go 99 = .ok (.bipush 8, 2) := dec_of da_X11_go_0 (k := 51) rfl
theorem dX11_go_101 : decode cX11_go 101 = .ok (.if_icmp .ne 12, 3) := dec_of da_X11_go_0 (k := 52) rfl
theorem dX11_go_104 : decode cX11_go 104 = .ok (.aload_n 0, 1) := dec_of da_X11_go_0 (k := 53) rfl
theorem dX11_go_105 : decode cX11_go 105 = .ok (.iload 5, 2) := dec_of da_X11_go_0 (k := 54) rfl
theorem dX11_go_107 : decode cX11_go 107 = .ok (.invokevirtual 232, 3) := dec_of da_X11_go_0 (k := 55) rfl
theorem dX11_go_110 : decode cX11_go 110 = .ok (.goto 9, 3) := dec_of da_X11_go_0 (k := 56) rfl
theorem dX11_go_113 : decode cX11_go 113 = .ok (.aload_n 0, 1) := dec_of da_X11_go_0 (k := 57) rfl
theorem dX11_go_114 : decode cX11_go 114 = .ok (.iload 5, 2) := dec_of da_X11_go_0 (k := 58) rfl
theorem dX11_go_116 : decode cX11_go 116 = .ok (.invokevirtual 235, 3) := dec_of da_X11_go_0 (k := 59) rfl
def dl_X11_go_1 : List (Nat × (Instr × Nat)) := [(119, (.aload_n 0, 1)), (120, (.invokevirtual 238, 3)), (123, (.aload_n 0, 1)), (124, (.invokevirtual 241, 3)), (127, (.aload_n 0, 1)), (128, (.getfield 27, 3)), (131, (.dup, 1)), (132, (.getfield 139, 3)), (135, (.iconst 1, 1)), (136, (.iadd, 1)), (137, (.putfield 139, 3)), (140, (.iinc 3 (-1), 3)), (143, (.goto (-120), 3)), (146, (.aload_n 0, 1)), (147, (.getfield 27, 3)), (150, (.getfield 205, 3)), (153, (.iload_n 2, 1)), (154, (.isub, 1)), (155, (.ireturn, 1))]
set_option maxRecDepth 100000 in
theorem da_X11_go_1 : dl_X11_go_1.all (fun q => decide (decode cX11_go q.1 = .ok q.2)) = true := by decide +kernel
theorem dX11_go_119 : decode cX11_go 119 = .ok (.aload_n 0, 1) := dec_of da_X11_go_1 (k := 0) rfl
theorem dX11_go_120 : decode cX11_go 120 = .ok (.invokevirtual 238, 3) := dec_of da_X11_go_1 (k := 1) rfl
theorem dX11_go_123 : decode cX11_go 123 = .ok (.aload_n 0, 1) := dec_of da_X11_go_1 (k := 2) rfl
theorem dX11_go_124 : decode cX11_go 124 = .ok (.invokevirtual 241, 3) := dec_of da_X11_go_1 (k := 3) rfl
theorem dX11_go_127 : decode cX11_go 127 = .ok (.aload_n 0, 1) := dec_of da_X11_go_1 (k := 4) rfl
theorem dX11_go_128 : decode cX11_go 128 = .ok (.getfield 27, 3) := dec_of da_X11_go_1 (k := 5) rfl
theorem dX11_go_131 : decode cX11_go 131 = .ok (.dup, 1) := dec_of da_X11_go_1 (k := 6) rfl
theorem dX11_go_132 : decode cX11_go 132 = .ok (.getfield 139, 3) := dec_of da_X11_go_1 (k := 7) rfl
theorem dX11_go_135 : decode cX11_go 135 = .ok (.iconst 1, 1) := dec_of da_X11_go_1 (k := 8) rfl
theorem dX11_go_136 : decode cX11_go 136 = .ok (.iadd, 1) := dec_of da_X11_go_1 (k := 9) rfl
theorem dX11_go_137 : decode cX11_go 137 = .ok (.putfield 139, 3) := dec_of da_X11_go_1 (k := 10) rfl
theorem dX11_go_140 : decode cX11_go 140 = .ok (.iinc 3 (-1), 3) := dec_of da_X11_go_1 (k := 11) rfl
theorem dX11_go_143 : decode cX11_go 143 = .ok (.goto (-120), 3) := dec_of da_X11_go_1 (k := 12) rfl
theorem dX11_go_146 : decode cX11_go 146 = .ok (.aload_n 0, 1) := dec_of da_X11_go_1 (k := 13) rfl
theorem dX11_go_147 : decode cX11_go 147 = .ok (.getfield 27, 3) := dec_of da_X11_go_1 (k := 14) rfl
theorem dX11_go_150 : decode cX11_go 150 = .ok (.getfield 205, 3) := dec_of da_X11_go_1 (k := 15) rfl
theorem dX11_go_153 : decode cX11_go 153 = .ok (.iload_n 2, 1) := dec_of da_X11_go_1 (k := 16) rfl
theorem dX11_go_154 : decode cX11_go 154 = .ok (.isub, 1) := dec_of da_X11_go_1 (k := 17) rfl
theorem dX11_go_155 : decode cX11_go 155 = .ok (.ireturn, 1) := dec_of da_X11_go_1 (k := 18) rfl
def dl_X11_ended_0 : List (Nat × (Instr × Nat)) := [(0, (.iload_n 1, 1)), (1, (.ifCond .lt 20, 3)), (4, (.iload_n 1, 1)), (5, (.aload_n 0, 1)), (6, (.getfield 166, 3)), (9, (.if_icmp .ge 12, 3)), (12, (.aload_n 0, 1)), (13, (.getfield 63, 3)), (16, (.iload_n 1, 1)), (17, (.iaload, 1)), (18, (.goto 4, 3)), (21, (.iconst (-1), 1)), (22, (.ireturn, 1))]
set_option maxRecDepth 100000 in
theorem da_X11_ended_0 : dl_X11_ended_0.all (fun q => decide (decode cX11_ended q.1 = .ok q.2)) = true := by decide +kernel
theorem dX11_ended_0 : decode cX11_ended 0 = .ok (.iload_n 1, 1) := dec_of da_X11_ended_0 (k := 0) rfl
theorem dX11_ended_1 : decode cX11_ended 1 = .ok (.ifCond .lt 20, 3) := dec_of da_X11_ended_0 (k := 1) rfl
theorem dX11_ended_4 : decode cX11_ended 4 = .ok (.iload_n 1, 1) := dec_of da_X11_ended_0 (k := 2) rfl
theorem dX11_ended_5 : decode cX11_ended 5 = .ok (.aload_n 0, 1) := dec_of da_X11_ended_0 (k := 3) rfl
theorem dX11_ended_6 : decode cX11_ended 6 = .ok (.getfield 166, 3) := dec_of da_X11_ended_0 (k := 4) rfl
theorem dX11_ended_9 : decode cX11_ended 9 = .ok (.if_icmp .ge 12, 3) := dec_of da_X11_ended_0 (k := 5) rfl
theorem dX11_ended_12 : decode cX11_ended 12 = .ok (.aload_n 0, 1) := dec_of da_X11_ended_0 (k := 6) rfl
theorem dX11_ended_13 : decode cX11_ended 13 = .ok (.getfield 63, 3) := dec_of da_X11_ended_0 (k := 7) rfl
theorem dX11_ended_16 : decode cX11_ended 16 = .ok (.iload_n 1, 1) := dec_of da_X11_ended_0 (k := 8) rfl
theorem dX11_ended_17 : decode cX11_ended 17 = .ok (.iaload, 1) := dec_of da_X11_ended_0 (k := 9) rfl
theorem dX11_ended_18 : decode cX11_ended 18 = .ok (.goto 4, 3) := dec_of da_X11_ended_0 (k := 10) rfl
theorem dX11_ended_21 : decode cX11_ended 21 = .ok (.iconst (-1), 1) := dec_of da_X11_ended_0 (k := 11) rfl
theorem dX11_ended_22 : decode cX11_ended 22 = .ok (.ireturn, 1) := dec_of da_X11_ended_0 (k := 12) rfl
def dl_X11_node_0 : List (Nat × (Instr × Nat)) := [(0, (.iload_n 1, 1)), (1, (.invokestatic 127, 3)), (4, (.ifCond .ne 5, 3)), (7, (.iconst (-1), 1)), (8, (.ireturn, 1)), (9, (.aload_n 0, 1)), (10, (.getfield 11, 3)), (13, (.iload_n 1, 1)), (14, (.aaload, 1)), (15, (.astore_n 3, 1)), (16, (.iload_n 2, 1)), (17, (.tableswitch 161 0 10 #[59, 80, 98, 106, 111, 116, 121, 135, 143, 151, 156], 59)), (76, (.iload_n 1, 1)), (77, (.ifCond .ne 10, 3)), (80, (.aload_n 0, 1)), (81, (.invokevirtual 244, 3)), (84, (.goto 12, 3)), (87, (.aload_n 0, 1)), (88, (.getfield 17, 3)), (91, (.iload_n 1, 1)), (92, (.aaload, 1)), (93, (.getfield 177, 3)), (96, (.ireturn, 1)), (97, (.iload_n 1, 1)), (98, (.ifCond .ne 7, 3)), (101, (.iconst 0, 1)), (102, (.goto 12, 3)), (105, (.aload_n 0, 1)), (106, (.getfield 21, 3)), (109, (.iload_n 1, 1)), (110, (.aaload, 1)), (111, (.getfield 177, 3)), (114, (.ireturn, 1)), (115, (.aload_n 3, 1)), (116, (.getfield 247, 3)), (119, (.getfield 251, 3)), (122, (.ireturn, 1)), (123, (.aload_n 3, 1)), (124, (.getfield 254, 3)), (127, (.ireturn, 1)), (128, (.aload_n 3, 1)), (129, (.getfield 257, 3)), (132, (.ireturn, 1)), (133, (.aload_n 3, 1)), (134, (.getfield 260, 3)), (137, (.ireturn, 1)), (138, (.aload_n 3, 1)), (139, (.getfield 263, 3)), (142, (.iconst (-1), 1)), (143, (.if_icmp .ne 7, 3)), (146, (.iconst 0, 1)), (147, (.goto 4, 3)), (150, (.iconst 1, 1)), (151, (.ireturn, 1)), (152, (.aload_n 3, 1)), (153, (.getfield 247, 3)), (156, (.getfield 266, 3)), (159, (.ireturn, 1)), (160, (.aload_n 3, 1)), (161, (.getfield 269, 3))]
set_option maxRecDepth 100000 in
theorem da_X11_node_0 : dl_X11_node_0.all (fun q => decide (decode cX11_node q.1 = .ok q.2)) = true := by decide +kernel
theorem dX11_node_0 : decode cX11_node 0 = .ok (.iload_n 1, 1) := dec_of da_X11_node_0 (k := 0) rfl
theorem dX11_node_1 : decode cX11_node 1 = .ok (.invokestatic 127, 3) := dec_of da_X11_node_0 (k := 1) rfl
theorem dX11_node_4 : decode cX11_node 4 = .ok (.ifCond .ne 5, 3) := dec_of da_X11_node_0 (k := 2) rfl
theorem dX11_node_7 : decode cX11_node 7 = .ok (.iconst (-1), 1) := dec_of da_X11_node_0 (k := 3) rfl
theorem dX11_node_8 : decode cX11_node 8 = .ok (.ireturn, 1) := dec_of da_X11_node_0 (k := 4) rfl
theorem dX11_node_9 : decode cX11_node 9 = .ok (.aload_n 0, 1) := dec_of da_X11_node_0 (k := 5) rfl
theorem dX11_node_10 : decode cX11_node 10 = .ok (.getfield 11, 3) := dec_of da_X11_node_0 (k := 6) rfl
theorem dX11_node_13 : decode cX11_node 13 = .ok (.iload_n 1, 1) := dec_of da_X11_node_0 (k := 7) rfl
theorem dX11_node_14 : decode cX11_node 14 = .ok (.aaload, 1) := dec_of da_X11_node_0 (k := 8) rfl
theorem dX11_node_15 : decode cX11_node 15 = .ok (.astore_n 3, 1) := dec_of da_X11_node_0 (k := 9) rfl
theorem dX11_node_16 : decode cX11_node 16 = .ok (.iload_n 2, 1) := dec_of da_X11_node_0 (k := 10) rfl
theorem dX11_node_17 : decode cX11_node 17 = .ok (.tableswitch 161 0 10 #[59, 80, 98, 106, 111, 116, 121, 135, 143, 151, 156], 59) := dec_of da_X11_node_0 (k := 11) rfl
theorem dX11_node_76 : decode cX11_node 76 = .ok (.iload_n 1, 1) := dec_of da_X11_node_0 (k := 12) rfl
theorem dX11_node_77 : decode cX11_node 77 = .ok (.ifCond .ne 10, 3) := dec_of da_X11_node_0 (k := 13) rfl
theorem dX11_node_80 : decode cX11_node 80 = .ok (.aload_n 0, 1) := dec_of da_X11_node_0 (k := 14) rfl
theorem dX11_node_81 : decode cX11_node 81 = .ok (.invokevirtual 244, 3) := dec_of da_X11_node_0 (k := 15) rfl
theorem dX11_node_84 : decode cX11_node 84 = .ok (.goto 12, 3) := dec_of da_X11_node_0 (k := 16) rfl
theorem dX11_node_87 : decode cX11_node 87 = .ok (.aload_n 0, 1) := dec_of da_X11_node_0 (k := 17) rfl
theorem dX11_node_88 : decode cX11_node 88 = .ok (.getfield 17, 3) := dec_of da_X11_node_0 (k := 18) rfl
theorem dX11_node_91 : decode cX11_node 91 = .ok (.iload_n 1, 1) := dec_of da_X11_node_0 (k := 19) rfl
theorem dX11_node_92 : decode cX11_node 92 = .ok (.aaload, 1) := dec_of da_X11_node_0 (k := 20) rfl
theorem dX11_node_93 : decode cX11_node 93 = .ok (.getfield 177, 3) := dec_of da_X11_node_0 (k := 21) rfl
theorem dX11_node_96 : decode cX11_node 96 = .ok (.ireturn, 1) := dec_of da_X11_node_0 (k := 22) rfl
theorem dX11_node_97 : decode cX11_node 97 = .ok (.iload_n 1, 1) := dec_of da_X11_node_0 (k := 23) rfl
theorem dX11_node_98 : decode cX11_node 98 = .ok (.ifCond .ne 7, 3) := dec_of da_X11_node_0 (k := 24) rfl
theorem dX11_node_101 : decode cX11_node 101 = .ok (.iconst 0, 1) := dec_of da_X11_node_0 (k := 25) rfl
theorem dX11_node_102 : decode cX11_node 102 = .ok (.goto 12, 3) := dec_of da_X11_node_0 (k := 26) rfl
theorem dX11_node_105 : decode cX11_node 105 = .ok (.aload_n 0, 1) := dec_of da_X11_node_0 (k := 27) rfl
theorem dX11_node_106 : decode cX11_node 106 = .ok (.getfield 21, 3) := dec_of da_X11_node_0 (k := 28) rfl
theorem dX11_node_109 : decode cX11_node 109 = .ok (.iload_n 1, 1) := dec_of da_X11_node_0 (k := 29) rfl
theorem dX11_node_110 : decode cX11_node 110 = .ok (.aaload, 1) := dec_of da_X11_node_0 (k := 30) rfl
theorem dX11_node_111 : decode cX11_node 111 = .ok (.getfield 177, 3) := dec_of da_X11_node_0 (k := 31) rfl
theorem dX11_node_114 : decode cX11_node 114 = .ok (.ireturn, 1) := dec_of da_X11_node_0 (k := 32) rfl
theorem dX11_node_115 : decode cX11_node 115 = .ok (.aload_n 3, 1) := dec_of da_X11_node_0 (k := 33) rfl
theorem dX11_node_116 : decode cX11_node 116 = .ok (.getfield 247, 3) := dec_of da_X11_node_0 (k := 34) rfl
theorem dX11_node_119 : decode cX11_node 119 = .ok (.getfield 251, 3) := dec_of da_X11_node_0 (k := 35) rfl
theorem dX11_node_122 : decode cX11_node 122 = .ok (.ireturn, 1) := dec_of da_X11_node_0 (k := 36) rfl
theorem dX11_node_123 : decode cX11_node 123 = .ok (.aload_n 3, 1) := dec_of da_X11_node_0 (k := 37) rfl
theorem dX11_node_124 : decode cX11_node 124 = .ok (.getfield 254, 3) := dec_of da_X11_node_0 (k := 38) rfl
theorem dX11_node_127 : decode cX11_node 127 = .ok (.ireturn, 1) := dec_of da_X11_node_0 (k := 39) rfl
theorem dX11_node_128 : decode cX11_node 128 = .ok (.aload_n 3, 1) := dec_of da_X11_node_0 (k := 40) rfl
theorem dX11_node_129 : decode cX11_node 129 = .ok (.getfield 257, 3) := dec_of da_X11_node_0 (k := 41) rfl
theorem dX11_node_132 : decode cX11_node 132 = .ok (.ireturn, 1) := dec_of da_X11_node_0 (k := 42) rfl
theorem dX11_node_133 : decode cX11_node 133 = .ok (.aload_n 3, 1) := dec_of da_X11_node_0 (k := 43) rfl
theorem dX11_node_134 : decode cX11_node 134 = .ok (.getfield 260, 3) := dec_of da_X11_node_0 (k := 44) rfl
theorem dX11_node_137 : decode cX11_node 137 = .ok (.ireturn, 1) := dec_of da_X11_node_0 (k := 45) rfl
theorem dX11_node_138 : decode cX11_node 138 = .ok (.aload_n 3, 1) := dec_of da_X11_node_0 (k := 46) rfl
theorem dX11_node_139 : decode cX11_node 139 = .ok (.getfield 263, 3) := dec_of da_X11_node_0 (k := 47) rfl
theorem dX11_node_142 : decode cX11_node 142 = .ok (.iconst (-1), 1) := dec_of da_X11_node_0 (k := 48) rfl
theorem dX11_node_143 : decode cX11_node 143 = .ok (.if_icmp .ne 7, 3) := dec_of da_X11_node_0 (k := 49) rfl
theorem dX11_node_146 : decode cX11_node 146 = .ok (.iconst 0, 1) := dec_of da_X11_node_0 (k := 50) rfl
theorem dX11_node_147 : decode cX11_node 147 = .ok (.goto 4, 3) := dec_of da_X11_node_0 (k := 51) rfl
theorem dX11_node_150 : decode cX11_node 150 = .ok (.iconst 1, 1) := dec_of da_X11_node_0 (k := 52) rfl
theorem dX11_node_151 : decode cX11_node 151 = .ok (.ireturn, 1) := dec_of da_X11_node_0 (k := 53) rfl
theorem dX11_node_152 : decode cX11_node 152 = .ok (.aload_n 3, 1) := dec_of da_X11_node_0 (k := 54) rfl
theorem dX11_node_153 : decode cX11_node 153 = .ok (.getfield 247, 3) := dec_of da_X11_node_0 (k := 55) rfl
theorem dX11_node_156 : decode cX11_node 156 = .ok (.getfield 266, 3) := dec_of da_X11_node_0 (k := 56) rfl
theorem dX11_node_159 : decode cX11_node 159 = .ok (.ireturn, 1) := dec_of da_X11_node_0 (k := 57) rfl
theorem dX11_node_160 : decode cX11_node 160 = .ok (.aload_n 3, 1) := dec_of da_X11_node_0 (k := 58) rfl
theorem dX11_node_161 : decode cX11_node 161 = .ok (.getfield 269, 3) := dec_of da_X11_node_0 (k := 59) rfl
def dl_X11_node_1 : List (Nat × (Instr × Nat)) := [(164, (.getfield 273, 3)), (167, (.ireturn, 1)), (168, (.aload_n 3, 1)), (169, (.getfield 278, 3)), (172, (.ireturn, 1)), (173, (.aload_n 3, 1)), (174, (.getfield 281, 3)), (177, (.ireturn, 1)), (178, (.iconst (-1), 1)), (179, (.ireturn, 1))]
set_option maxRecDepth 100000 in
theorem da_X11_node_1 : dl_X11_node_1.all (fun q => decide (decode cX11_node q.1 = .ok q.2)) = true := by decide +kernel
theorem dX11_node_164 : decode cX11_node 164 = .ok (.getfield 273, 3) := dec_of da_X11_node_1 (k := 0) rfl
theorem dX11_node_167 : decode cX11_node 167 = .ok (.ireturn, 1) := dec_of da_X11_node_1 (k := 1) rfl
theorem dX11_node_168 : decode cX11_node 168 = .ok (.aload_n 3, 1) := dec_of da_X11_node_1 (k := 2) rfl
theorem dX11_node_169 : decode cX11_node 169 = .ok (.getfield 278, 3) := dec_of da_X11_node_1 (k := 3) rfl
theorem dX11_node_172 : decode cX11_node 172 = .ok (.ireturn, 1) := dec_of da_X11_node_1 (k := 4) rfl
theorem dX11_node_173 : decode cX11_node 173 = .ok (.aload_n 3, 1) := dec_of da_X11_node_1 (k := 5) rfl
theorem dX11_node_174 : decode cX11_node 174 = .ok (.getfield 281, 3) := dec_of da_X11_node_1 (k := 6) rfl
theorem dX11_node_177 : decode cX11_node 177 = .ok (.ireturn, 1) := dec_of da_X11_node_1 (k := 7) rfl
theorem dX11_node_178 : decode cX11_node 178 = .ok (.iconst (-1), 1) := dec_of da_X11_node_1 (k := 8) rfl
theorem dX11_node_179 : decode cX11_node 179 = .ok (.ireturn, 1) := dec_of da_X11_node_1 (k := 9) rfl
def dl_X11_keyedAtAp_0 : List (Nat × (Instr × Nat)) := [(0, (.iconst 0, 1)), (1, (.istore_n 1, 1)), (2, (.iconst 1, 1)), (3, (.istore_n 2, 1)), (4, (.iload_n 2, 1)), (5, (.bipush 9, 2)), (7, (.if_icmp .ge 25, 3)), (10, (.aload_n 0, 1)), (11, (.getfield 21, 3)), (14, (.iload_n 2, 1)), (15, (.aaload, 1)), (16, (.getfield 177, 3)), (19, (.iconst 4, 1)), (20, (.if_icmp .ne 6, 3)), (23, (.iinc 1 1, 3)), (26, (.iinc 2 1, 3)), (29, (.goto (-25), 3)), (32, (.iload_n 1, 1)), (33, (.ireturn, 1))]
set_option maxRecDepth 100000 in
theorem da_X11_keyedAtAp_0 : dl_X11_keyedAtAp_0.all (fun q => decide (decode cX11_keyedAtAp q.1 = .ok q.2)) = true := by decide +kernel
theorem dX11_keyedAtAp_0 : decode cX11_keyedAtAp 0 = .ok (.iconst 0, 1) := dec_of da_X11_keyedAtAp_0 (k := 0) rfl
theorem dX11_keyedAtAp_1 : decode cX11_keyedAtAp 1 = .ok (.istore_n 1, 1) := dec_of da_X11_keyedAtAp_0 (k := 1) rfl
theorem dX11_keyedAtAp_2 : decode cX11_keyedAtAp 2 = .ok (.iconst 1, 1) := dec_of da_X11_keyedAtAp_0 (k := 2) rfl
theorem dX11_keyedAtAp_3 : decode cX11_keyedAtAp 3 = .ok (.istore_n 2, 1) := dec_of da_X11_keyedAtAp_0 (k := 3) rfl
theorem dX11_keyedAtAp_4 : decode cX11_keyedAtAp 4 = .ok (.iload_n 2, 1) := dec_of da_X11_keyedAtAp_0 (k := 4) rfl
theorem dX11_keyedAtAp_5 : decode cX11_keyedAtAp 5 = .ok (.bipush 9, 2) := dec_of da_X11_keyedAtAp_0 (k := 5) rfl
theorem dX11_keyedAtAp_7 : decode cX11_keyedAtAp 7 = .ok (.if_icmp .ge 25, 3) := dec_of da_X11_keyedAtAp_0 (k := 6) rfl
theorem dX11_keyedAtAp_10 : decode cX11_keyedAtAp 10 = .ok (.aload_n 0, 1) := dec_of da_X11_keyedAtAp_0 (k := 7) rfl
theorem dX11_keyedAtAp_11 : decode cX11_keyedAtAp 11 = .ok (.getfield 21, 3) := dec_of da_X11_keyedAtAp_0 (k := 8) rfl
theorem dX11_keyedAtAp_14 : decode cX11_keyedAtAp 14 = .ok (.iload_n 2, 1) := dec_of da_X11_keyedAtAp_0 (k := 9) rfl
theorem dX11_keyedAtAp_15 : decode cX11_keyedAtAp 15 = .ok (.aaload, 1) := dec_of da_X11_keyedAtAp_0 (k := 10) rfl
theorem dX11_keyedAtAp_16 : decode cX11_keyedAtAp 16 = .ok (.getfield 177, 3) := dec_of da_X11_keyedAtAp_0 (k := 11) rfl
theorem dX11_keyedAtAp_19 : decode cX11_keyedAtAp 19 = .ok (.iconst 4, 1) := dec_of da_X11_keyedAtAp_0 (k := 12) rfl
theorem dX11_keyedAtAp_20 : decode cX11_keyedAtAp 20 = .ok (.if_icmp .ne 6, 3) := dec_of da_X11_keyedAtAp_0 (k := 13) rfl
theorem dX11_keyedAtAp_23 : decode cX11_keyedAtAp 23 = .ok (.iinc 1 1, 3) := dec_of da_X11_keyedAtAp_0 (k := 14) rfl
theorem dX11_keyedAtAp_26 : decode cX11_keyedAtAp 26 = .ok (.iinc 2 1, 3) := dec_of da_X11_keyedAtAp_0 (k := 15) rfl
theorem dX11_keyedAtAp_29 : decode cX11_keyedAtAp 29 = .ok (.goto (-25), 3) := dec_of da_X11_keyedAtAp_0 (k := 16) rfl
theorem dX11_keyedAtAp_32 : decode cX11_keyedAtAp 32 = .ok (.iload_n 1, 1) := dec_of da_X11_keyedAtAp_0 (k := 17) rfl
theorem dX11_keyedAtAp_33 : decode cX11_keyedAtAp 33 = .ok (.ireturn, 1) := dec_of da_X11_keyedAtAp_0 (k := 18) rfl
def dl_X11_key_0 : List (Nat × (Instr × Nat)) := [(0, (.iload_n 1, 1)), (1, (.invokestatic 116, 3)), (4, (.ifCond .eq 22, 3)), (7, (.iload_n 2, 1)), (8, (.ifCond .lt 18, 3)), (11, (.iload_n 2, 1)), (12, (.iconst 1, 1)), (13, (.if_icmp .gt 13, 3)), (16, (.iload_n 3, 1)), (17, (.ifCond .lt 9, 3)), (20, (.iload_n 3, 1)), (21, (.bipush 16, 2)), (23, (.if_icmp .lt 5, 3)), (26, (.iconst (-1), 1)), (27, (.ireturn, 1)), (28, (.iload_n 2, 1)), (29, (.ifCond .ne 12, 3)), (32, (.aload_n 0, 1)), (33, (.getfield 17, 3)), (36, (.iload_n 1, 1)), (37, (.aaload, 1)), (38, (.goto 9, 3)), (41, (.aload_n 0, 1)), (42, (.getfield 21, 3)), (45, (.iload_n 1, 1)), (46, (.aaload, 1)), (47, (.astore 4, 2)), (49, (.aload 4, 2)), (51, (.getfield 177, 3)), (54, (.iconst 4, 1)), (55, (.if_icmp .ne 13, 3)), (58, (.aload 4, 2)), (60, (.getfield 284, 3)), (63, (.iload_n 3, 1)), (64, (.iaload, 1)), (65, (.goto 4, 3)), (68, (.iconst (-1), 1)), (69, (.ireturn, 1))]
set_option maxRecDepth 100000 in
theorem da_X11_key_0 : dl_X11_key_0.all (fun q => decide (decode cX11_key q.1 = .ok q.2)) = true := by decide +kernel
theorem dX11_key_0 : decode cX11_key 0 = .ok (.iload_n 1, 1) := dec_of da_X11_key_0 (k := 0) rfl
theorem dX11_key_1 : decode cX11_key 1 = .ok (.invokestatic 116, 3) := dec_of da_X11_key_0 (k := 1) rfl
theorem dX11_key_4 : decode cX11_key 4 = .ok (.ifCond .eq 22, 3) := dec_of da_X11_key_0 (k := 2) rfl
theorem dX11_key_7 : decode cX11_key 7 = .ok (.iload_n 2, 1) := dec_of da_X11_key_0 (k := 3) rfl
theorem dX11_key_8 : decode cX11_key 8 = .ok (.ifCond .lt 18, 3) := dec_of da_X11_key_0 (k := 4) rfl
theorem dX11_key_11 : decode cX11_key 11 = .ok (.iload_n 2, 1) := dec_of da_X11_key_0 (k := 5) rfl
theorem dX11_key_12 : decode cX11_key 12 = .ok (.iconst 1, 1) := dec_of da_X11_key_0 (k := 6) rfl
theorem dX11_key_13 : decode cX11_key 13 = .ok (.if_icmp .gt 13, 3) := dec_of da_X11_key_0 (k := 7) rfl
theorem dX11_key_16 : decode cX11_key 16 = .ok (.iload_n 3, 1) := dec_of da_X11_key_0 (k := 8) rfl
theorem dX11_key_17 : decode cX11_key 17 = .ok (.ifCond .lt 9, 3) := dec_of da_X11_key_0 (k := 9) rfl
theorem dX11_key_20 : decode cX11_key 20 = .ok (.iload_n 3, 1) := dec_of da_X11_key_0 (k := 10) rfl
theorem dX11_key_21 : decode cX11_key 21 = .ok (.bipush 16, 2) := dec_of da_X11_key_0 (k := 11) rfl
theorem dX11_key_23 : decode cX11_key 23 = .ok (.if_icmp .lt 5, 3) := dec_of da_X11_key_0 (k := 12) rfl
theorem dX11_key_26 : decode cX11_key 26 = .ok (.iconst (-1), 1) := dec_of da_X11_key_0 (k := 13) rfl
theorem dX11_key_27 : decode cX11_key 27 = .ok (.ireturn, 1) := dec_of da_X11_key_0 (k := 14) rfl
theorem dX11_key_28 : decode cX11_key 28 = .ok (.iload_n 2, 1) := dec_of da_X11_key_0 (k := 15) rfl
theorem dX11_key_29 : decode cX11_key 29 = .ok (.ifCond .ne 12, 3) := dec_of da_X11_key_0 (k := 16) rfl
theorem dX11_key_32 : decode cX11_key 32 = .ok (.aload_n 0, 1) := dec_of da_X11_key_0 (k := 17) rfl
theorem dX11_key_33 : decode cX11_key 33 = .ok (.getfield 17, 3) := dec_of da_X11_key_0 (k := 18) rfl
theorem dX11_key_36 : decode cX11_key 36 = .ok (.iload_n 1, 1) := dec_of da_X11_key_0 (k := 19) rfl
theorem dX11_key_37 : decode cX11_key 37 = .ok (.aaload, 1) := dec_of da_X11_key_0 (k := 20) rfl
theorem dX11_key_38 : decode cX11_key 38 = .ok (.goto 9, 3) := dec_of da_X11_key_0 (k := 21) rfl
theorem dX11_key_41 : decode cX11_key 41 = .ok (.aload_n 0, 1) := dec_of da_X11_key_0 (k := 22) rfl
theorem dX11_key_42 : decode cX11_key 42 = .ok (.getfield 21, 3) := dec_of da_X11_key_0 (k := 23) rfl
theorem dX11_key_45 : decode cX11_key 45 = .ok (.iload_n 1, 1) := dec_of da_X11_key_0 (k := 24) rfl
theorem dX11_key_46 : decode cX11_key 46 = .ok (.aaload, 1) := dec_of da_X11_key_0 (k := 25) rfl
theorem dX11_key_47 : decode cX11_key 47 = .ok (.astore 4, 2) := dec_of da_X11_key_0 (k := 26) rfl
theorem dX11_key_49 : decode cX11_key 49 = .ok (.aload 4, 2) := dec_of da_X11_key_0 (k := 27) rfl
theorem dX11_key_51 : decode cX11_key 51 = .ok (.getfield 177, 3) := dec_of da_X11_key_0 (k := 28) rfl
theorem dX11_key_54 : decode cX11_key 54 = .ok (.iconst 4, 1) := dec_of da_X11_key_0 (k := 29) rfl
theorem dX11_key_55 : decode cX11_key 55 = .ok (.if_icmp .ne 13, 3) := dec_of da_X11_key_0 (k := 30) rfl
theorem dX11_key_58 : decode cX11_key 58 = .ok (.aload 4, 2) := dec_of da_X11_key_0 (k := 31) rfl
theorem dX11_key_60 : decode cX11_key 60 = .ok (.getfield 284, 3) := dec_of da_X11_key_0 (k := 32) rfl
theorem dX11_key_63 : decode cX11_key 63 = .ok (.iload_n 3, 1) := dec_of da_X11_key_0 (k := 33) rfl
theorem dX11_key_64 : decode cX11_key 64 = .ok (.iaload, 1) := dec_of da_X11_key_0 (k := 34) rfl
theorem dX11_key_65 : decode cX11_key 65 = .ok (.goto 4, 3) := dec_of da_X11_key_0 (k := 35) rfl
theorem dX11_key_68 : decode cX11_key 68 = .ok (.iconst (-1), 1) := dec_of da_X11_key_0 (k := 36) rfl
theorem dX11_key_69 : decode cX11_key 69 = .ok (.ireturn, 1) := dec_of da_X11_key_0 (k := 37) rfl
def dl_X11_delivered_0 : List (Nat × (Instr × Nat)) := [(0, (.iload_n 1, 1)), (1, (.invokestatic 127, 3)), (4, (.ifCond .eq 20, 3)), (7, (.aload_n 0, 1)), (8, (.getfield 11, 3)), (11, (.iload_n 1, 1)), (12, (.aaload, 1)), (13, (.getfield 269, 3)), (16, (.iload_n 2, 1)), (17, (.iload_n 3, 1)), (18, (.invokevirtual 287, 3)), (21, (.goto 4, 3)), (24, (.iconst (-1), 1)), (25, (.ireturn, 1))]
set_option maxRecDepth 100000 in
theorem da_X11_delivered_0 : dl_X11_delivered_0.all (fun q => decide (decode cX11_delivered q.1 = .ok q.2)) = true := by decide +kernel
theorem dX11_delivered_0 : decode cX11_delivered 0 = .ok (.iload_n 1, 1) := dec_of da_X11_delivered_0 (k := 0) rfl
theorem dX11_delivered_1 : decode cX11_delivered 1 = .ok (.invokestatic 127, 3) := dec_of da_X11_delivered_0 (k := 1) rfl
theorem dX11_delivered_4 : decode cX11_delivered 4 = .ok (.ifCond .eq 20, 3) := dec_of da_X11_delivered_0 (k := 2) rfl
theorem dX11_delivered_7 : decode cX11_delivered 7 = .ok (.aload_n 0, 1) := dec_of da_X11_delivered_0 (k := 3) rfl
theorem dX11_delivered_8 : decode cX11_delivered 8 = .ok (.getfield 11, 3) := dec_of da_X11_delivered_0 (k := 4) rfl
theorem dX11_delivered_11 : decode cX11_delivered 11 = .ok (.iload_n 1, 1) := dec_of da_X11_delivered_0 (k := 5) rfl
theorem dX11_delivered_12 : decode cX11_delivered 12 = .ok (.aaload, 1) := dec_of da_X11_delivered_0 (k := 6) rfl
theorem dX11_delivered_13 : decode cX11_delivered 13 = .ok (.getfield 269, 3) := dec_of da_X11_delivered_0 (k := 7) rfl
theorem dX11_delivered_16 : decode cX11_delivered 16 = .ok (.iload_n 2, 1) := dec_of da_X11_delivered_0 (k := 8) rfl
theorem dX11_delivered_17 : decode cX11_delivered 17 = .ok (.iload_n 3, 1) := dec_of da_X11_delivered_0 (k := 9) rfl
theorem dX11_delivered_18 : decode cX11_delivered 18 = .ok (.invokevirtual 287, 3) := dec_of da_X11_delivered_0 (k := 10) rfl
theorem dX11_delivered_21 : decode cX11_delivered 21 = .ok (.goto 4, 3) := dec_of da_X11_delivered_0 (k := 11) rfl
theorem dX11_delivered_24 : decode cX11_delivered 24 = .ok (.iconst (-1), 1) := dec_of da_X11_delivered_0 (k := 12) rfl
theorem dX11_delivered_25 : decode cX11_delivered 25 = .ok (.ireturn, 1) := dec_of da_X11_delivered_0 (k := 13) rfl
def dl_X11_air_0 : List (Nat × (Instr × Nat)) := [(0, (.aload_n 0, 1)), (1, (.getfield 27, 3)), (4, (.iload_n 1, 1)), (5, (.invokevirtual 99, 3)), (8, (.istore_n 3, 1)), (9, (.iload_n 3, 1)), (10, (.iconst (-1), 1)), (11, (.if_icmp .ne 7, 3)), (14, (.iconst (-1), 1)), (15, (.goto 12, 3)), (18, (.aload_n 0, 1)), (19, (.getfield 27, 3)), (22, (.iload_n 3, 1)), (23, (.iload_n 2, 1)), (24, (.invokevirtual 291, 3)), (27, (.ireturn, 1))]
set_option maxRecDepth 100000 in
theorem da_X11_air_0 : dl_X11_air_0.all (fun q => decide (decode cX11_air q.1 = .ok q.2)) = true := by decide +kernel
theorem dX11_air_0 : decode cX11_air 0 = .ok (.aload_n 0, 1) := dec_of da_X11_air_0 (k := 0) rfl
theorem dX11_air_1 : decode cX11_air 1 = .ok (.getfield 27, 3) := dec_of da_X11_air_0 (k := 1) rfl
theorem dX11_air_4 : decode cX11_air 4 = .ok (.iload_n 1, 1) := dec_of da_X11_air_0 (k := 2) rfl
theorem dX11_air_5 : decode cX11_air 5 = .ok (.invokevirtual 99, 3) := dec_of da_X11_air_0 (k := 3) rfl
theorem dX11_air_8 : decode cX11_air 8 = .ok (.istore_n 3, 1) := dec_of da_X11_air_0 (k := 4) rfl
theorem dX11_air_9 : decode cX11_air 9 = .ok (.iload_n 3, 1) := dec_of da_X11_air_0 (k := 5) rfl
theorem dX11_air_10 : decode cX11_air 10 = .ok (.iconst (-1), 1) := dec_of da_X11_air_0 (k := 6) rfl
theorem dX11_air_11 : decode cX11_air 11 = .ok (.if_icmp .ne 7, 3) := dec_of da_X11_air_0 (k := 7) rfl
theorem dX11_air_14 : decode cX11_air 14 = .ok (.iconst (-1), 1) := dec_of da_X11_air_0 (k := 8) rfl
theorem dX11_air_15 : decode cX11_air 15 = .ok (.goto 12, 3) := dec_of da_X11_air_0 (k := 9) rfl
theorem dX11_air_18 : decode cX11_air 18 = .ok (.aload_n 0, 1) := dec_of da_X11_air_0 (k := 10) rfl
theorem dX11_air_19 : decode cX11_air 19 = .ok (.getfield 27, 3) := dec_of da_X11_air_0 (k := 11) rfl
theorem dX11_air_22 : decode cX11_air 22 = .ok (.iload_n 3, 1) := dec_of da_X11_air_0 (k := 12) rfl
theorem dX11_air_23 : decode cX11_air 23 = .ok (.iload_n 2, 1) := dec_of da_X11_air_0 (k := 13) rfl
theorem dX11_air_24 : decode cX11_air 24 = .ok (.invokevirtual 291, 3) := dec_of da_X11_air_0 (k := 14) rfl
theorem dX11_air_27 : decode cX11_air 27 = .ok (.ireturn, 1) := dec_of da_X11_air_0 (k := 15) rfl
def dl_X11_count_0 : List (Nat × (Instr × Nat)) := [(0, (.iload_n 1, 1)), (1, (.tableswitch 114 0 8 #[51, 59, 67, 75, 83, 88, 93, 101, 106], 51)), (52, (.aload_n 0, 1)), (53, (.getfield 27, 3)), (56, (.getfield 139, 3)), (59, (.ireturn, 1)), (60, (.aload_n 0, 1)), (61, (.getfield 27, 3)), (64, (.getfield 205, 3)), (67, (.ireturn, 1)), (68, (.aload_n 0, 1)), (69, (.getfield 27, 3)), (72, (.getfield 292, 3)), (75, (.ireturn, 1)), (76, (.aload_n 0, 1)), (77, (.getfield 41, 3)), (80, (.getfield 136, 3)), (83, (.ireturn, 1)), (84, (.aload_n 0, 1)), (85, (.getfield 83, 3)), (88, (.ireturn, 1)), (89, (.aload_n 0, 1)), (90, (.getfield 166, 3)), (93, (.ireturn, 1)), (94, (.aload_n 0, 1)), (95, (.getfield 27, 3)), (98, (.getfield 295, 3)), (101, (.ireturn, 1)), (102, (.aload_n 0, 1)), (103, (.getfield 298, 3)), (106, (.ireturn, 1)), (107, (.aload_n 0, 1)), (108, (.getfield 34, 3)), (111, (.getfield 152, 3)), (114, (.ireturn, 1)), (115, (.iconst (-1), 1)), (116, (.ireturn, 1))]
set_option maxRecDepth 100000 in
theorem da_X11_count_0 : dl_X11_count_0.all (fun q => decide (decode cX11_count q.1 = .ok q.2)) = true := by decide +kernel
theorem dX11_count_0 : decode cX11_count 0 = .ok (.iload_n 1, 1) := dec_of da_X11_count_0 (k := 0) rfl
theorem dX11_count_1 : decode cX11_count 1 = .ok (.tableswitch 114 0 8 #[51, 59, 67, 75, 83, 88, 93, 101, 106], 51) := dec_of da_X11_count_0 (k := 1) rfl
theorem dX11_count_52 : decode cX11_count 52 = .ok (.aload_n 0, 1) := dec_of da_X11_count_0 (k := 2) rfl
theorem dX11_count_53 : decode cX11_count 53 = .ok (.getfield 27, 3) := dec_of da_X11_count_0 (k := 3) rfl
theorem dX11_count_56 : decode cX11_count 56 = .ok (.getfield 139, 3) := dec_of da_X11_count_0 (k := 4) rfl
theorem dX11_count_59 : decode cX11_count 59 = .ok (.ireturn, 1) := dec_of da_X11_count_0 (k := 5) rfl
theorem dX11_count_60 : decode cX11_count 60 = .ok (.aload_n 0, 1) := dec_of da_X11_count_0 (k := 6) rfl
theorem dX11_count_61 : decode cX11_count 61 = .ok (.getfield 27, 3) := dec_of da_X11_count_0 (k := 7) rfl
theorem dX11_count_64 : decode cX11_count 64 = .ok (.getfield 205, 3) := dec_of da_X11_count_0 (k := 8) rfl
theorem dX11_count_67 : decode cX11_count 67 = .ok (.ireturn, 1) := dec_of da_X11_count_0 (k := 9) rfl
theorem dX11_count_68 : decode cX11_count 68 = .ok (.aload_n 0, 1) := dec_of da_X11_count_0 (k := 10) rfl
theorem dX11_count_69 : decode cX11_count 69 = .ok (.getfield 27, 3) := dec_of da_X11_count_0 (k := 11) rfl
theorem dX11_count_72 : decode cX11_count 72 = .ok (.getfield 292, 3) := dec_of da_X11_count_0 (k := 12) rfl
theorem dX11_count_75 : decode cX11_count 75 = .ok (.ireturn, 1) := dec_of da_X11_count_0 (k := 13) rfl
theorem dX11_count_76 : decode cX11_count 76 = .ok (.aload_n 0, 1) := dec_of da_X11_count_0 (k := 14) rfl
theorem dX11_count_77 : decode cX11_count 77 = .ok (.getfield 41, 3) := dec_of da_X11_count_0 (k := 15) rfl
theorem dX11_count_80 : decode cX11_count 80 = .ok (.getfield 136, 3) := dec_of da_X11_count_0 (k := 16) rfl
theorem dX11_count_83 : decode cX11_count 83 = .ok (.ireturn, 1) := dec_of da_X11_count_0 (k := 17) rfl
theorem dX11_count_84 : decode cX11_count 84 = .ok (.aload_n 0, 1) := dec_of da_X11_count_0 (k := 18) rfl
theorem dX11_count_85 : decode cX11_count 85 = .ok (.getfield 83, 3) := dec_of da_X11_count_0 (k := 19) rfl
theorem dX11_count_88 : decode cX11_count 88 = .ok (.ireturn, 1) := dec_of da_X11_count_0 (k := 20) rfl
theorem dX11_count_89 : decode cX11_count 89 = .ok (.aload_n 0, 1) := dec_of da_X11_count_0 (k := 21) rfl
theorem dX11_count_90 : decode cX11_count 90 = .ok (.getfield 166, 3) := dec_of da_X11_count_0 (k := 22) rfl
theorem dX11_count_93 : decode cX11_count 93 = .ok (.ireturn, 1) := dec_of da_X11_count_0 (k := 23) rfl
theorem dX11_count_94 : decode cX11_count 94 = .ok (.aload_n 0, 1) := dec_of da_X11_count_0 (k := 24) rfl
theorem dX11_count_95 : decode cX11_count 95 = .ok (.getfield 27, 3) := dec_of da_X11_count_0 (k := 25) rfl
theorem dX11_count_98 : decode cX11_count 98 = .ok (.getfield 295, 3) := dec_of da_X11_count_0 (k := 26) rfl
theorem dX11_count_101 : decode cX11_count 101 = .ok (.ireturn, 1) := dec_of da_X11_count_0 (k := 27) rfl
theorem dX11_count_102 : decode cX11_count 102 = .ok (.aload_n 0, 1) := dec_of da_X11_count_0 (k := 28) rfl
theorem dX11_count_103 : decode cX11_count 103 = .ok (.getfield 298, 3) := dec_of da_X11_count_0 (k := 29) rfl
theorem dX11_count_106 : decode cX11_count 106 = .ok (.ireturn, 1) := dec_of da_X11_count_0 (k := 30) rfl
theorem dX11_count_107 : decode cX11_count 107 = .ok (.aload_n 0, 1) := dec_of da_X11_count_0 (k := 31) rfl
theorem dX11_count_108 : decode cX11_count 108 = .ok (.getfield 34, 3) := dec_of da_X11_count_0 (k := 32) rfl
theorem dX11_count_111 : decode cX11_count 111 = .ok (.getfield 152, 3) := dec_of da_X11_count_0 (k := 33) rfl
theorem dX11_count_114 : decode cX11_count 114 = .ok (.ireturn, 1) := dec_of da_X11_count_0 (k := 34) rfl
theorem dX11_count_115 : decode cX11_count 115 = .ok (.iconst (-1), 1) := dec_of da_X11_count_0 (k := 35) rfl
theorem dX11_count_116 : decode cX11_count 116 = .ok (.ireturn, 1) := dec_of da_X11_count_0 (k := 36) rfl
def dl_X11_isNode_0 : List (Nat × (Instr × Nat)) := [(0, (.iload_n 0, 1)), (1, (.ifCond .lt 13, 3)), (4, (.iload_n 0, 1)), (5, (.bipush 9, 2)), (7, (.if_icmp .ge 7, 3)), (10, (.iconst 1, 1)), (11, (.goto 4, 3)), (14, (.iconst 0, 1)), (15, (.ireturn, 1))]
set_option maxRecDepth 100000 in
theorem da_X11_isNode_0 : dl_X11_isNode_0.all (fun q => decide (decode cX11_isNode q.1 = .ok q.2)) = true := by decide +kernel
theorem dX11_isNode_0 : decode cX11_isNode 0 = .ok (.iload_n 0, 1) := dec_of da_X11_isNode_0 (k := 0) rfl
theorem dX11_isNode_1 : decode cX11_isNode 1 = .ok (.ifCond .lt 13, 3) := dec_of da_X11_isNode_0 (k := 1) rfl
theorem dX11_isNode_4 : decode cX11_isNode 4 = .ok (.iload_n 0, 1) := dec_of da_X11_isNode_0 (k := 2) rfl
theorem dX11_isNode_5 : decode cX11_isNode 5 = .ok (.bipush 9, 2) := dec_of da_X11_isNode_0 (k := 3) rfl
theorem dX11_isNode_7 : decode cX11_isNode 7 = .ok (.if_icmp .ge 7, 3) := dec_of da_X11_isNode_0 (k := 4) rfl
theorem dX11_isNode_10 : decode cX11_isNode 10 = .ok (.iconst 1, 1) := dec_of da_X11_isNode_0 (k := 5) rfl
theorem dX11_isNode_11 : decode cX11_isNode 11 = .ok (.goto 4, 3) := dec_of da_X11_isNode_0 (k := 6) rfl
theorem dX11_isNode_14 : decode cX11_isNode 14 = .ok (.iconst 0, 1) := dec_of da_X11_isNode_0 (k := 7) rfl
theorem dX11_isNode_15 : decode cX11_isNode 15 = .ok (.ireturn, 1) := dec_of da_X11_isNode_0 (k := 8) rfl
def dl_X11_isStation_0 : List (Nat × (Instr × Nat)) := [(0, (.iload_n 0, 1)), (1, (.ifCond .le 13, 3)), (4, (.iload_n 0, 1)), (5, (.bipush 9, 2)), (7, (.if_icmp .ge 7, 3)), (10, (.iconst 1, 1)), (11, (.goto 4, 3)), (14, (.iconst 0, 1)), (15, (.ireturn, 1))]
set_option maxRecDepth 100000 in
theorem da_X11_isStation_0 : dl_X11_isStation_0.all (fun q => decide (decode cX11_isStation q.1 = .ok q.2)) = true := by decide +kernel
theorem dX11_isStation_0 : decode cX11_isStation 0 = .ok (.iload_n 0, 1) := dec_of da_X11_isStation_0 (k := 0) rfl
theorem dX11_isStation_1 : decode cX11_isStation 1 = .ok (.ifCond .le 13, 3) := dec_of da_X11_isStation_0 (k := 1) rfl
theorem dX11_isStation_4 : decode cX11_isStation 4 = .ok (.iload_n 0, 1) := dec_of da_X11_isStation_0 (k := 2) rfl
theorem dX11_isStation_5 : decode cX11_isStation 5 = .ok (.bipush 9, 2) := dec_of da_X11_isStation_0 (k := 3) rfl
theorem dX11_isStation_7 : decode cX11_isStation 7 = .ok (.if_icmp .ge 7, 3) := dec_of da_X11_isStation_0 (k := 4) rfl
theorem dX11_isStation_10 : decode cX11_isStation 10 = .ok (.iconst 1, 1) := dec_of da_X11_isStation_0 (k := 5) rfl
theorem dX11_isStation_11 : decode cX11_isStation 11 = .ok (.goto 4, 3) := dec_of da_X11_isStation_0 (k := 6) rfl
theorem dX11_isStation_14 : decode cX11_isStation 14 = .ok (.iconst 0, 1) := dec_of da_X11_isStation_0 (k := 7) rfl
theorem dX11_isStation_15 : decode cX11_isStation 15 = .ok (.ireturn, 1) := dec_of da_X11_isStation_0 (k := 8) rfl
def dl_X11_linkOf_0 : List (Nat × (Instr × Nat)) := [(0, (.iload_n 1, 1)), (1, (.ifCond .ne 12, 3)), (4, (.aload_n 0, 1)), (5, (.getfield 21, 3)), (8, (.iload_n 2, 1)), (9, (.aaload, 1)), (10, (.goto 9, 3)), (13, (.aload_n 0, 1)), (14, (.getfield 17, 3)), (17, (.iload_n 1, 1)), (18, (.aaload, 1)), (19, (.areturn, 1))]
set_option maxRecDepth 100000 in
theorem da_X11_linkOf_0 : dl_X11_linkOf_0.all (fun q => decide (decode cX11_linkOf q.1 = .ok q.2)) = true := by decide +kernel
theorem dX11_linkOf_0 : decode cX11_linkOf 0 = .ok (.iload_n 1, 1) := dec_of da_X11_linkOf_0 (k := 0) rfl
theorem dX11_linkOf_1 : decode cX11_linkOf 1 = .ok (.ifCond .ne 12, 3) := dec_of da_X11_linkOf_0 (k := 1) rfl
theorem dX11_linkOf_4 : decode cX11_linkOf 4 = .ok (.aload_n 0, 1) := dec_of da_X11_linkOf_0 (k := 2) rfl
theorem dX11_linkOf_5 : decode cX11_linkOf 5 = .ok (.getfield 21, 3) := dec_of da_X11_linkOf_0 (k := 3) rfl
theorem dX11_linkOf_8 : decode cX11_linkOf 8 = .ok (.iload_n 2, 1) := dec_of da_X11_linkOf_0 (k := 4) rfl
theorem dX11_linkOf_9 : decode cX11_linkOf 9 = .ok (.aaload, 1) := dec_of da_X11_linkOf_0 (k := 5) rfl
theorem dX11_linkOf_10 : decode cX11_linkOf 10 = .ok (.goto 9, 3) := dec_of da_X11_linkOf_0 (k := 6) rfl
theorem dX11_linkOf_13 : decode cX11_linkOf 13 = .ok (.aload_n 0, 1) := dec_of da_X11_linkOf_0 (k := 7) rfl
theorem dX11_linkOf_14 : decode cX11_linkOf 14 = .ok (.getfield 17, 3) := dec_of da_X11_linkOf_0 (k := 8) rfl
theorem dX11_linkOf_17 : decode cX11_linkOf 17 = .ok (.iload_n 1, 1) := dec_of da_X11_linkOf_0 (k := 9) rfl
theorem dX11_linkOf_18 : decode cX11_linkOf 18 = .ok (.aaload, 1) := dec_of da_X11_linkOf_0 (k := 10) rfl
theorem dX11_linkOf_19 : decode cX11_linkOf 19 = .ok (.areturn, 1) := dec_of da_X11_linkOf_0 (k := 11) rfl
def dl_X11_openMessage_0 : List (Nat × (Instr × Nat)) := [(0, (.aload_n 0, 1)), (1, (.getfield 11, 3)), (4, (.iload_n 1, 1)), (5, (.aaload, 1)), (6, (.astore 4, 2)), (8, (.aload 4, 2)), (10, (.getfield 247, 3)), (13, (.getfield 251, 3)), (16, (.ifCond .ne 7, 3)), (19, (.iconst 1, 1)), (20, (.goto 4, 3)), (23, (.iconst 0, 1)), (24, (.istore 5, 2)), (26, (.aload 4, 2)), (28, (.getfield 247, 3)), (31, (.invokevirtual 301, 3)), (34, (.astore 6, 2)), (36, (.aload 6, 2)), (38, (.ifnonnull 5, 3)), (41, (.aconst_null, 1)), (42, (.areturn, 1)), (43, (.aload 6, 2)), (45, (.iload_n 3, 1)), (46, (.putfield 304, 3)), (49, (.aload 6, 2)), (51, (.iload_n 2, 1)), (52, (.putfield 307, 3)), (55, (.aload 6, 2)), (57, (.iconst 0, 1)), (58, (.putfield 189, 3)), (61, (.aload 6, 2)), (63, (.iconst 0, 1)), (64, (.putfield 184, 3)), (67, (.aload 6, 2)), (69, (.aload_n 0, 1)), (70, (.getfield 66, 3)), (73, (.putfield 310, 3)), (76, (.aload 6, 2)), (78, (.iconst (-1), 1)), (79, (.putfield 192, 3)), (82, (.aload 6, 2)), (84, (.iconst 0, 1)), (85, (.putfield 202, 3)), (88, (.iload 5, 2)), (90, (.ifCond .eq 21, 3)), (93, (.aload 4, 2)), (95, (.aload_n 0, 1)), (96, (.getfield 41, 3)), (99, (.invokevirtual 313, 3)), (102, (.aload 4, 2)), (104, (.getfield 257, 3)), (107, (.iand, 1)), (108, (.putfield 254, 3)), (111, (.aload 6, 2)), (113, (.areturn, 1))]
set_option maxRecDepth 100000 in
theorem da_X11_openMessage_0 : dl_X11_openMessage_0.all (fun q => decide (decode cX11_openMessage q.1 = .ok q.2)) = true := by decide +kernel
theorem dX11_openMessage_0 : decode cX11_openMessage 0 = .ok (.aload_n 0, 1) := dec_of da_X11_openMessage_0 (k := 0) rfl
theorem dX11_openMessage_1 : decode cX11_openMessage 1 = .ok (.getfield 11, 3) := dec_of da_X11_openMessage_0 (k := 1) rfl
theorem dX11_openMessage_4 : decode cX11_openMessage 4 = .ok (.iload_n 1, 1) := dec_of da_X11_openMessage_0 (k := 2) rfl
theorem dX11_openMessage_5 : decode cX11_openMessage 5 = .ok (.aaload, 1) := dec_of da_X11_openMessage_0 (k := 3) rfl
theorem dX11_openMessage_6 : decode cX11_openMessage 6 = .ok (.astore 4, 2) := dec_of da_X11_openMessage_0 (k := 4) rfl
theorem dX11_openMessage_8 : decode cX11_openMessage 8 = .ok (.aload 4, 2) := dec_of da_X11_openMessage_0 (k := 5) rfl
theorem dX11_openMessage_10 : decode cX11_openMessage 10 = .ok (.getfield 247, 3) := dec_of da_X11_openMessage_0 (k := 6) rfl
theorem dX11_openMessage_13 : decode cX11_openMessage 13 = .ok (.getfield 251, 3) := dec_of da_X11_openMessage_0 (k := 7) rfl
theorem dX11_openMessage_16 : decode cX11_openMessage 16 = .ok (.ifCond .ne 7, 3) := dec_of da_X11_openMessage_0 (k := 8) rfl
theorem dX11_openMessage_19 : decode cX11_openMessage 19 = .ok (.iconst 1, 1) := dec_of da_X11_openMessage_0 (k := 9) rfl
theorem dX11_openMessage_20 : decode cX11_openMessage 20 = .ok (.goto 4, 3) := dec_of da_X11_openMessage_0 (k := 10) rfl
theorem dX11_openMessage_23 : decode cX11_openMessage 23 = .ok (.iconst 0, 1) := dec_of da_X11_openMessage_0 (k := 11) rfl
theorem dX11_openMessage_24 : decode cX11_openMessage 24 = .ok (.istore 5, 2) := dec_of da_X11_openMessage_0 (k := 12) rfl
theorem dX11_openMessage_26 : decode cX11_openMessage 26 = .ok (.aload 4, 2) := dec_of da_X11_openMessage_0 (k := 13) rfl
theorem dX11_openMessage_28 : decode cX11_openMessage 28 = .ok (.getfield 247, 3) := dec_of da_X11_openMessage_0 (k := 14) rfl
theorem dX11_openMessage_31 : decode cX11_openMessage 31 = .ok (.invokevirtual 301, 3) := dec_of da_X11_openMessage_0 (k := 15) rfl
theorem dX11_openMessage_34 : decode cX11_openMessage 34 = .ok (.astore 6, 2) := dec_of da_X11_openMessage_0 (k := 16) rfl
theorem dX11_openMessage_36 : decode cX11_openMessage 36 = .ok (.aload 6, 2) := dec_of da_X11_openMessage_0 (k := 17) rfl
theorem dX11_openMessage_38 : decode cX11_openMessage 38 = .ok (.ifnonnull 5, 3) := dec_of da_X11_openMessage_0 (k := 18) rfl
theorem dX11_openMessage_41 : decode cX11_openMessage 41 = .ok (.aconst_null, 1) := dec_of da_X11_openMessage_0 (k := 19) rfl
theorem dX11_openMessage_42 : decode cX11_openMessage 42 = .ok (.areturn, 1) := dec_of da_X11_openMessage_0 (k := 20) rfl
theorem dX11_openMessage_43 : decode cX11_openMessage 43 = .ok (.aload 6, 2) := dec_of da_X11_openMessage_0 (k := 21) rfl
theorem dX11_openMessage_45 : decode cX11_openMessage 45 = .ok (.iload_n 3, 1) := dec_of da_X11_openMessage_0 (k := 22) rfl
theorem dX11_openMessage_46 : decode cX11_openMessage 46 = .ok (.putfield 304, 3) := dec_of da_X11_openMessage_0 (k := 23) rfl
theorem dX11_openMessage_49 : decode cX11_openMessage 49 = .ok (.aload 6, 2) := dec_of da_X11_openMessage_0 (k := 24) rfl
theorem dX11_openMessage_51 : decode cX11_openMessage 51 = .ok (.iload_n 2, 1) := dec_of da_X11_openMessage_0 (k := 25) rfl
theorem dX11_openMessage_52 : decode cX11_openMessage 52 = .ok (.putfield 307, 3) := dec_of da_X11_openMessage_0 (k := 26) rfl
theorem dX11_openMessage_55 : decode cX11_openMessage 55 = .ok (.aload 6, 2) := dec_of da_X11_openMessage_0 (k := 27) rfl
theorem dX11_openMessage_57 : decode cX11_openMessage 57 = .ok (.iconst 0, 1) := dec_of da_X11_openMessage_0 (k := 28) rfl
theorem dX11_openMessage_58 : decode cX11_openMessage 58 = .ok (.putfield 189, 3) := dec_of da_X11_openMessage_0 (k := 29) rfl
theorem dX11_openMessage_61 : decode cX11_openMessage 61 = .ok (.aload 6, 2) := dec_of da_X11_openMessage_0 (k := 30) rfl
theorem dX11_openMessage_63 : decode cX11_openMessage 63 = .ok (.iconst 0, 1) := dec_of da_X11_openMessage_0 (k := 31) rfl
theorem dX11_openMessage_64 : decode cX11_openMessage 64 = .ok (.putfield 184, 3) := dec_of da_X11_openMessage_0 (k := 32) rfl
theorem dX11_openMessage_67 : decode cX11_openMessage 67 = .ok (.aload 6, 2) := dec_of da_X11_openMessage_0 (k := 33) rfl
theorem dX11_openMessage_69 : decode cX11_openMessage 69 = .ok (.aload_n 0, 1) := dec_of da_X11_openMessage_0 (k := 34) rfl
theorem dX11_openMessage_70 : decode cX11_openMessage 70 = .ok (.getfield 66, 3) := dec_of da_X11_openMessage_0 (k := 35) rfl
theorem dX11_openMessage_73 : decode cX11_openMessage 73 = .ok (.putfield 310, 3) := dec_of da_X11_openMessage_0 (k := 36) rfl
theorem dX11_openMessage_76 : decode cX11_openMessage 76 = .ok (.aload 6, 2) := dec_of da_X11_openMessage_0 (k := 37) rfl
theorem dX11_openMessage_78 : decode cX11_openMessage 78 = .ok (.iconst (-1), 1) := dec_of da_X11_openMessage_0 (k := 38) rfl
theorem dX11_openMessage_79 : decode cX11_openMessage 79 = .ok (.putfield 192, 3) := dec_of da_X11_openMessage_0 (k := 39) rfl
theorem dX11_openMessage_82 : decode cX11_openMessage 82 = .ok (.aload 6, 2) := dec_of da_X11_openMessage_0 (k := 40) rfl
theorem dX11_openMessage_84 : decode cX11_openMessage 84 = .ok (.iconst 0, 1) := dec_of da_X11_openMessage_0 (k := 41) rfl
theorem dX11_openMessage_85 : decode cX11_openMessage 85 = .ok (.putfield 202, 3) := dec_of da_X11_openMessage_0 (k := 42) rfl
theorem dX11_openMessage_88 : decode cX11_openMessage 88 = .ok (.iload 5, 2) := dec_of da_X11_openMessage_0 (k := 43) rfl
theorem dX11_openMessage_90 : decode cX11_openMessage 90 = .ok (.ifCond .eq 21, 3) := dec_of da_X11_openMessage_0 (k := 44) rfl
theorem dX11_openMessage_93 : decode cX11_openMessage 93 = .ok (.aload 4, 2) := dec_of da_X11_openMessage_0 (k := 45) rfl
theorem dX11_openMessage_95 : decode cX11_openMessage 95 = .ok (.aload_n 0, 1) := dec_of da_X11_openMessage_0 (k := 46) rfl
theorem dX11_openMessage_96 : decode cX11_openMessage 96 = .ok (.getfield 41, 3) := dec_of da_X11_openMessage_0 (k := 47) rfl
theorem dX11_openMessage_99 : decode cX11_openMessage 99 = .ok (.invokevirtual 313, 3) := dec_of da_X11_openMessage_0 (k := 48) rfl
theorem dX11_openMessage_102 : decode cX11_openMessage 102 = .ok (.aload 4, 2) := dec_of da_X11_openMessage_0 (k := 49) rfl
theorem dX11_openMessage_104 : decode cX11_openMessage 104 = .ok (.getfield 257, 3) := dec_of da_X11_openMessage_0 (k := 50) rfl
theorem dX11_openMessage_107 : decode cX11_openMessage 107 = .ok (.iand, 1) := dec_of da_X11_openMessage_0 (k := 51) rfl
theorem dX11_openMessage_108 : decode cX11_openMessage 108 = .ok (.putfield 254, 3) := dec_of da_X11_openMessage_0 (k := 52) rfl
theorem dX11_openMessage_111 : decode cX11_openMessage 111 = .ok (.aload 6, 2) := dec_of da_X11_openMessage_0 (k := 53) rfl
theorem dX11_openMessage_113 : decode cX11_openMessage 113 = .ok (.areturn, 1) := dec_of da_X11_openMessage_0 (k := 54) rfl
def dl_X11_queueBody_0 : List (Nat × (Instr × Nat)) := [(0, (.aload_n 0, 1)), (1, (.iload_n 1, 1)), (2, (.iload_n 2, 1)), (3, (.iload_n 3, 1)), (4, (.invokevirtual 180, 3)), (7, (.astore 5, 2)), (9, (.aload 5, 2)), (11, (.ifnull 19, 3)), (14, (.aload 5, 2)), (16, (.aload 5, 2)), (18, (.getfield 195, 3)), (21, (.iload_n 3, 1)), (22, (.iload 4, 2)), (24, (.invokestatic 316, 3)), (27, (.putfield 202, 3)), (30, (.return_, 1))]
set_option maxRecDepth 100000 in
theorem da_X11_queueBody_0 : dl_X11_queueBody_0.all (fun q => decide (decode cX11_queueBody q.1 = .ok q.2)) = true := by decide +kernel
theorem dX11_queueBody_0 : decode cX11_queueBody 0 = .ok (.aload_n 0, 1) := dec_of da_X11_queueBody_0 (k := 0) rfl
theorem dX11_queueBody_1 : decode cX11_queueBody 1 = .ok (.iload_n 1, 1) := dec_of da_X11_queueBody_0 (k := 1) rfl
theorem dX11_queueBody_2 : decode cX11_queueBody 2 = .ok (.iload_n 2, 1) := dec_of da_X11_queueBody_0 (k := 2) rfl
theorem dX11_queueBody_3 : decode cX11_queueBody 3 = .ok (.iload_n 3, 1) := dec_of da_X11_queueBody_0 (k := 3) rfl
theorem dX11_queueBody_4 : decode cX11_queueBody 4 = .ok (.invokevirtual 180, 3) := dec_of da_X11_queueBody_0 (k := 4) rfl
theorem dX11_queueBody_7 : decode cX11_queueBody 7 = .ok (.astore 5, 2) := dec_of da_X11_queueBody_0 (k := 5) rfl
theorem dX11_queueBody_9 : decode cX11_queueBody 9 = .ok (.aload 5, 2) := dec_of da_X11_queueBody_0 (k := 6) rfl
theorem dX11_queueBody_11 : decode cX11_queueBody 11 = .ok (.ifnull 19, 3) := dec_of da_X11_queueBody_0 (k := 7) rfl
theorem dX11_queueBody_14 : decode cX11_queueBody 14 = .ok (.aload 5, 2) := dec_of da_X11_queueBody_0 (k := 8) rfl
theorem dX11_queueBody_16 : decode cX11_queueBody 16 = .ok (.aload 5, 2) := dec_of da_X11_queueBody_0 (k := 9) rfl
theorem dX11_queueBody_18 : decode cX11_queueBody 18 = .ok (.getfield 195, 3) := dec_of da_X11_queueBody_0 (k := 10) rfl
theorem dX11_queueBody_21 : decode cX11_queueBody 21 = .ok (.iload_n 3, 1) := dec_of da_X11_queueBody_0 (k := 11) rfl
theorem dX11_queueBody_22 : decode cX11_queueBody 22 = .ok (.iload 4, 2) := dec_of da_X11_queueBody_0 (k := 12) rfl
theorem dX11_queueBody_24 : decode cX11_queueBody 24 = .ok (.invokestatic 316, 3) := dec_of da_X11_queueBody_0 (k := 13) rfl
theorem dX11_queueBody_27 : decode cX11_queueBody 27 = .ok (.putfield 202, 3) := dec_of da_X11_queueBody_0 (k := 14) rfl
theorem dX11_queueBody_30 : decode cX11_queueBody 30 = .ok (.return_, 1) := dec_of da_X11_queueBody_0 (k := 15) rfl
def dl_X11_queueHand_0 : List (Nat × (Instr × Nat)) := [(0, (.aload_n 0, 1)), (1, (.iload_n 1, 1)), (2, (.iload_n 2, 1)), (3, (.bipush 8, 2)), (5, (.invokevirtual 180, 3)), (8, (.astore 5, 2)), (10, (.aload 5, 2)), (12, (.ifnonnull 4, 3)), (15, (.return_, 1)), (16, (.aload 5, 2)), (18, (.getfield 195, 3)), (21, (.astore 6, 2)), (23, (.aload 6, 2)), (25, (.sipush 136, 3)), (28, (.sipush 142, 3)), (31, (.invokestatic 198, 3)), (34, (.aload 6, 2)), (36, (.bipush 8, 2)), (38, (.iload_n 3, 1)), (39, (.iastore, 1)), (40, (.bipush 9, 2)), (42, (.istore 7, 2)), (44, (.iload_n 3, 1)), (45, (.iconst 4, 1)), (46, (.if_icmp .eq 25, 3)), (49, (.aload_n 0, 1)), (50, (.getfield 11, 3)), (53, (.iload_n 1, 1)), (54, (.aaload, 1)), (55, (.getfield 130, 3)), (58, (.iconst 0, 1)), (59, (.aload 6, 2)), (61, (.iload 7, 2)), (63, (.bipush 32, 2)), (65, (.invokestatic 110, 3)), (68, (.iinc 7 32, 3)), (71, (.iload_n 3, 1)), (72, (.iconst 1, 1)), (73, (.if_icmp .eq 43, 3)), (76, (.aload_n 0, 1)), (77, (.getfield 48, 3)), (80, (.aload 4, 2)), (82, (.bipush 16, 2)), (84, (.aload 6, 2)), (86, (.bipush 8, 2)), (88, (.iload 7, 2)), (90, (.bipush 8, 2)), (92, (.isub, 1)), (93, (.invokevirtual 320, 3)), (96, (.aload_n 0, 1)), (97, (.getfield 48, 3)), (100, (.getfield 324, 3)), (103, (.iconst 0, 1)), (104, (.aload 6, 2)), (106, (.iload 7, 2)), (108, (.bipush 16, 2)), (110, (.invokestatic 110, 3)), (113, (.iinc 7 16, 3)), (116, (.aload 5, 2)), (118, (.iload 7, 2))]
set_option maxRecDepth 100000 in
theorem da_X11_queueHand_0 : dl_X11_queueHand_0.all (fun q => decide (decode cX11_queueHand q.1 = .ok q.2)) = true := by decide +kernel
theorem dX11_queueHand_0 : decode cX11_queueHand 0 = .ok (.aload_n 0, 1) := dec_of da_X11_queueHand_0 (k := 0) rfl
theorem dX11_queueHand_1 : decode cX11_queueHand 1 = .ok (.iload_n 1, 1) := dec_of da_X11_queueHand_0 (k := 1) rfl
theorem dX11_queueHand_2 : decode cX11_queueHand 2 = .ok (.iload_n 2, 1) := dec_of da_X11_queueHand_0 (k := 2) rfl
theorem dX11_queueHand_3 : decode cX11_queueHand 3 = .ok (.bipush 8, 2) := dec_of da_X11_queueHand_0 (k := 3) rfl
theorem dX11_queueHand_5 : decode cX11_queueHand 5 = .ok (.invokevirtual 180, 3) := dec_of da_X11_queueHand_0 (k := 4) rfl
theorem dX11_queueHand_8 : decode cX11_queueHand 8 = .ok (.astore 5, 2) := dec_of da_X11_queueHand_0 (k := 5) rfl
theorem dX11_queueHand_10 : decode cX11_queueHand 10 = .ok (.aload 5, 2) := dec_of da_X11_queueHand_0 (k := 6) rfl
theorem dX11_queueHand_12 : decode cX11_queueHand 12 = .ok (.ifnonnull 4, 3) := dec_of da_X11_queueHand_0 (k := 7) rfl
theorem dX11_queueHand_15 : decode cX11_queueHand 15 = .ok (.return_, 1) := dec_of da_X11_queueHand_0 (k := 8) rfl
theorem dX11_queueHand_16 : decode cX11_queueHand 16 = .ok (.aload 5, 2) := dec_of da_X11_queueHand_0 (k := 9) rfl
theorem dX11_queueHand_18 : decode cX11_queueHand 18 = .ok (.getfield 195, 3) := dec_of da_X11_queueHand_0 (k := 10) rfl
theorem dX11_queueHand_21 : decode cX11_queueHand 21 = .ok (.astore 6, 2) := dec_of da_X11_queueHand_0 (k := 11) rfl
theorem dX11_queueHand_23 : decode cX11_queueHand 23 = .ok (.aload 6, 2) := dec_of da_X11_queueHand_0 (k := 12) rfl
theorem dX11_queueHand_25 : decode cX11_queueHand 25 = .ok (.sipush 136, 3) := dec_of da_X11_queueHand_0 (k := 13) rfl
theorem dX11_queueHand_28 : decode cX11_queueHand 28 = .ok (.sipush 142, 3) := dec_of da_X11_queueHand_0 (k := 14) rfl
theorem dX11_queueHand_31 : decode cX11_queueHand 31 = .ok (.invokestatic 198, 3) := dec_of da_X11_queueHand_0 (k := 15) rfl
theorem dX11_queueHand_34 : decode cX11_queueHand 34 = .ok (.aload 6, 2) := dec_of da_X11_queueHand_0 (k := 16) rfl
theorem dX11_queueHand_36 : decode cX11_queueHand 36 = .ok (.bipush 8, 2) := dec_of da_X11_queueHand_0 (k := 17) rfl
theorem dX11_queueHand_38 : decode cX11_queueHand 38 = .ok (.iload_n 3, 1) := dec_of da_X11_queueHand_0 (k := 18) rfl
theorem dX11_queueHand_39 : decode cX11_queueHand 39 = .ok (.iastore, 1) := dec_of da_X11_queueHand_0 (k := 19) rfl
theorem dX11_queueHand_40 : decode cX11_queueHand 40 = .ok (.bipush 9, 2) := dec_of da_X11_queueHand_0 (k := 20) rfl
theorem dX11_queueHand_42 : decode cX11_queueHand 42 = .ok (.istore 7, 2) := dec_of da_X11_queueHand_0 (k := 21) rfl
theorem dX11_queueHand_44 : decode cX11_queueHand 44 = .ok (.iload_n 3, 1) := dec_of da_X11_queueHand_0 (k := 22) rfl
theorem dX11_queueHand_45 : decode cX11_queueHand 45 = .ok (.iconst 4, 1) := dec_of da_X11_queueHand_0 (k := 23) rfl
theorem dX11_queueHand_46 : decode cX11_queueHand 46 = .ok (.if_icmp .eq 25, 3) := dec_of da_X11_queueHand_0 (k := 24) rfl
theorem dX11_queueHand_49 : decode cX11_queueHand 49 = .ok (.aload_n 0, 1) := dec_of da_X11_queueHand_0 (k := 25) rfl
theorem dX11_queueHand_50 : decode cX11_queueHand 50 = .ok (.getfield 11, 3) := dec_of da_X11_queueHand_0 (k := 26) rfl
theorem dX11_queueHand_53 : decode cX11_queueHand 53 = .ok (.iload_n 1, 1) := dec_of da_X11_queueHand_0 (k := 27) rfl
theorem dX11_queueHand_54 : decode cX11_queueHand 54 = .ok (.aaload, 1) := dec_of da_X11_queueHand_0 (k := 28) rfl
theorem dX11_queueHand_55 : decode cX11_queueHand 55 = .ok (.getfield 130, 3) := dec_of da_X11_queueHand_0 (k := 29) rfl
theorem dX11_queueHand_58 : decode cX11_queueHand 58 = .ok (.iconst 0, 1) := dec_of da_X11_queueHand_0 (k := 30) rfl
theorem dX11_queueHand_59 : decode cX11_queueHand 59 = .ok (.aload 6, 2) := dec_of da_X11_queueHand_0 (k := 31) rfl
theorem dX11_queueHand_61 : decode cX11_queueHand 61 = .ok (.iload 7, 2) := dec_of da_X11_queueHand_0 (k := 32) rfl
theorem dX11_queueHand_63 : decode cX11_queueHand 63 = .ok (.bipush 32, 2) := dec_of da_X11_queueHand_0 (k := 33) rfl
theorem dX11_queueHand_65 : decode cX11_queueHand 65 = .ok (.invokestatic 110, 3) := dec_of da_X11_queueHand_0 (k := 34) rfl
theorem dX11_queueHand_68 : decode cX11_queueHand 68 = .ok (.iinc 7 32, 3) := dec_of da_X11_queueHand_0 (k := 35) rfl
theorem dX11_queueHand_71 : decode cX11_queueHand 71 = .ok (.iload_n 3, 1) := dec_of da_X11_queueHand_0 (k := 36) rfl
theorem dX11_queueHand_72 : decode cX11_queueHand 72 = .ok (.iconst 1, 1) := dec_of da_X11_queueHand_0 (k := 37) rfl
theorem dX11_queueHand_73 : decode cX11_queueHand 73 = .ok (.if_icmp .eq 43, 3) := dec_of da_X11_queueHand_0 (k := 38) rfl
theorem dX11_queueHand_76 : decode cX11_queueHand 76 = .ok (.aload_n 0, 1) := dec_of da_X11_queueHand_0 (k := 39) rfl
theorem dX11_queueHand_77 : decode cX11_queueHand 77 = .ok (.getfield 48, 3) := dec_of da_X11_queueHand_0 (k := 40) rfl
theorem dX11_queueHand_80 : decode cX11_queueHand 80 = .ok (.aload 4, 2) := dec_of da_X11_queueHand_0 (k := 41) rfl
theorem dX11_queueHand_82 : decode cX11_queueHand 82 = .ok (.bipush 16, 2) := dec_of da_X11_queueHand_0 (k := 42) rfl
theorem dX11_queueHand_84 : decode cX11_queueHand 84 = .ok (.aload 6, 2) := dec_of da_X11_queueHand_0 (k := 43) rfl
theorem dX11_queueHand_86 : decode cX11_queueHand 86 = .ok (.bipush 8, 2) := dec_of da_X11_queueHand_0 (k := 44) rfl
theorem dX11_queueHand_88 : decode cX11_queueHand 88 = .ok (.iload 7, 2) := dec_of da_X11_queueHand_0 (k := 45) rfl
theorem dX11_queueHand_90 : decode cX11_queueHand 90 = .ok (.bipush 8, 2) := dec_of da_X11_queueHand_0 (k := 46) rfl
theorem dX11_queueHand_92 : decode cX11_queueHand 92 = .ok (.isub, 1) := dec_of da_X11_queueHand_0 (k := 47) rfl
theorem dX11_queueHand_93 : decode cX11_queueHand 93 = .ok (.invokevirtual 320, 3) := dec_of da_X11_queueHand_0 (k := 48) rfl
theorem dX11_queueHand_96 : decode cX11_queueHand 96 = .ok (.aload_n 0, 1) := dec_of da_X11_queueHand_0 (k := 49) rfl
theorem dX11_queueHand_97 : decode cX11_queueHand 97 = .ok (.getfield 48, 3) := dec_of da_X11_queueHand_0 (k := 50) rfl
theorem dX11_queueHand_100 : decode cX11_queueHand 100 = .ok (.getfield 324, 3) := dec_of da_X11_queueHand_0 (k := 51) rfl
theorem dX11_queueHand_103 : decode cX11_queueHand 103 = .ok (.iconst 0, 1) := dec_of da_X11_queueHand_0 (k := 52) rfl
theorem dX11_queueHand_104 : decode cX11_queueHand 104 = .ok (.aload 6, 2) := dec_of da_X11_queueHand_0 (k := 53) rfl
theorem dX11_queueHand_106 : decode cX11_queueHand 106 = .ok (.iload 7, 2) := dec_of da_X11_queueHand_0 (k := 54) rfl
theorem dX11_queueHand_108 : decode cX11_queueHand 108 = .ok (.bipush 16, 2) := dec_of da_X11_queueHand_0 (k := 55) rfl
theorem dX11_queueHand_110 : decode cX11_queueHand 110 = .ok (.invokestatic 110, 3) := dec_of da_X11_queueHand_0 (k := 56) rfl
theorem dX11_queueHand_113 : decode cX11_queueHand 113 = .ok (.iinc 7 16, 3) := dec_of da_X11_queueHand_0 (k := 57) rfl
theorem dX11_queueHand_116 : decode cX11_queueHand 116 = .ok (.aload 5, 2) := dec_of da_X11_queueHand_0 (k := 58) rfl
theorem dX11_queueHand_118 : decode cX11_queueHand 118 = .ok (.iload 7, 2) := dec_of da_X11_queueHand_0 (k := 59) rfl
def dl_X11_queueHand_1 : List (Nat × (Instr × Nat)) := [(120, (.putfield 202, 3)), (123, (.return_, 1))]
set_option maxRecDepth 100000 in
theorem da_X11_queueHand_1 : dl_X11_queueHand_1.all (fun q => decide (decode cX11_queueHand q.1 = .ok q.2)) = true := by decide +kernel
theorem dX11_queueHand_120 : decode cX11_queueHand 120 = .ok (.putfield 202, 3) := dec_of da_X11_queueHand_1 (k := 0) rfl
theorem dX11_queueHand_123 : decode cX11_queueHand 123 = .ok (.return_, 1) := dec_of da_X11_queueHand_1 (k := 1) rfl
def dl_X11_queueForward_0 : List (Nat × (Instr × Nat)) := [(0, (.aload_n 0, 1)), (1, (.iconst 0, 1)), (2, (.iload_n 1, 1)), (3, (.bipush 8, 2)), (5, (.invokevirtual 180, 3)), (8, (.astore 4, 2)), (10, (.aload 4, 2)), (12, (.ifnonnull 4, 3)), (15, (.return_, 1)), (16, (.aload 4, 2)), (18, (.iconst 1, 1)), (19, (.putfield 184, 3)), (22, (.aload 4, 2)), (24, (.iload_n 2, 1)), (25, (.putfield 189, 3)), (28, (.aload 4, 2)), (30, (.aload_n 3, 1)), (31, (.getfield 327, 3)), (34, (.putfield 202, 3)), (37, (.aload_n 3, 1)), (38, (.getfield 328, 3)), (41, (.iconst 0, 1)), (42, (.aload 4, 2)), (44, (.getfield 195, 3)), (47, (.iconst 0, 1)), (48, (.aload_n 3, 1)), (49, (.getfield 327, 3)), (52, (.invokestatic 110, 3)), (55, (.return_, 1))]
set_option maxRecDepth 100000 in
theorem da_X11_queueForward_0 : dl_X11_queueForward_0.all (fun q => decide (decode cX11_queueForward q.1 = .ok q.2)) = true := by decide +kernel
theorem dX11_queueForward_0 : decode cX11_queueForward 0 = .ok (.aload_n 0, 1) := dec_of da_X11_queueForward_0 (k := 0) rfl
theorem dX11_queueForward_1 : decode cX11_queueForward 1 = .ok (.iconst 0, 1) := dec_of da_X11_queueForward_0 (k := 1) rfl
theorem dX11_queueForward_2 : decode cX11_queueForward 2 = .ok (.iload_n 1, 1) := dec_of da_X11_queueForward_0 (k := 2) rfl
theorem dX11_queueForward_3 : decode cX11_queueForward 3 = .ok (.bipush 8, 2) := dec_of da_X11_queueForward_0 (k := 3) rfl
theorem dX11_queueForward_5 : decode cX11_queueForward 5 = .ok (.invokevirtual 180, 3) := dec_of da_X11_queueForward_0 (k := 4) rfl
theorem dX11_queueForward_8 : decode cX11_queueForward 8 = .ok (.astore 4, 2) := dec_of da_X11_queueForward_0 (k := 5) rfl
theorem dX11_queueForward_10 : decode cX11_queueForward 10 = .ok (.aload 4, 2) := dec_of da_X11_queueForward_0 (k := 6) rfl
theorem dX11_queueForward_12 : decode cX11_queueForward 12 = .ok (.ifnonnull 4, 3) := dec_of da_X11_queueForward_0 (k := 7) rfl
theorem dX11_queueForward_15 : decode cX11_queueForward 15 = .ok (.return_, 1) := dec_of da_X11_queueForward_0 (k := 8) rfl
theorem dX11_queueForward_16 : decode cX11_queueForward 16 = .ok (.aload 4, 2) := dec_of da_X11_queueForward_0 (k := 9) rfl
theorem dX11_queueForward_18 : decode cX11_queueForward 18 = .ok (.iconst 1, 1) := dec_of da_X11_queueForward_0 (k := 10) rfl
theorem dX11_queueForward_19 : decode cX11_queueForward 19 = .ok (.putfield 184, 3) := dec_of da_X11_queueForward_0 (k := 11) rfl
theorem dX11_queueForward_22 : decode cX11_queueForward 22 = .ok (.aload 4, 2) := dec_of da_X11_queueForward_0 (k := 12) rfl
theorem dX11_queueForward_24 : decode cX11_queueForward 24 = .ok (.iload_n 2, 1) := dec_of da_X11_queueForward_0 (k := 13) rfl
theorem dX11_queueForward_25 : decode cX11_queueForward 25 = .ok (.putfield 189, 3) := dec_of da_X11_queueForward_0 (k := 14) rfl
theorem dX11_queueForward_28 : decode cX11_queueForward 28 = .ok (.aload 4, 2) := dec_of da_X11_queueForward_0 (k := 15) rfl
theorem dX11_queueForward_30 : decode cX11_queueForward 30 = .ok (.aload_n 3, 1) := dec_of da_X11_queueForward_0 (k := 16) rfl
theorem dX11_queueForward_31 : decode cX11_queueForward 31 = .ok (.getfield 327, 3) := dec_of da_X11_queueForward_0 (k := 17) rfl
theorem dX11_queueForward_34 : decode cX11_queueForward 34 = .ok (.putfield 202, 3) := dec_of da_X11_queueForward_0 (k := 18) rfl
theorem dX11_queueForward_37 : decode cX11_queueForward 37 = .ok (.aload_n 3, 1) := dec_of da_X11_queueForward_0 (k := 19) rfl
theorem dX11_queueForward_38 : decode cX11_queueForward 38 = .ok (.getfield 328, 3) := dec_of da_X11_queueForward_0 (k := 20) rfl
theorem dX11_queueForward_41 : decode cX11_queueForward 41 = .ok (.iconst 0, 1) := dec_of da_X11_queueForward_0 (k := 21) rfl
theorem dX11_queueForward_42 : decode cX11_queueForward 42 = .ok (.aload 4, 2) := dec_of da_X11_queueForward_0 (k := 22) rfl
theorem dX11_queueForward_44 : decode cX11_queueForward 44 = .ok (.getfield 195, 3) := dec_of da_X11_queueForward_0 (k := 23) rfl
theorem dX11_queueForward_47 : decode cX11_queueForward 47 = .ok (.iconst 0, 1) := dec_of da_X11_queueForward_0 (k := 24) rfl
theorem dX11_queueForward_48 : decode cX11_queueForward 48 = .ok (.aload_n 3, 1) := dec_of da_X11_queueForward_0 (k := 25) rfl
theorem dX11_queueForward_49 : decode cX11_queueForward 49 = .ok (.getfield 327, 3) := dec_of da_X11_queueForward_0 (k := 26) rfl
theorem dX11_queueForward_52 : decode cX11_queueForward 52 = .ok (.invokestatic 110, 3) := dec_of da_X11_queueForward_0 (k := 27) rfl
theorem dX11_queueForward_55 : decode cX11_queueForward 55 = .ok (.return_, 1) := dec_of da_X11_queueForward_0 (k := 28) rfl
def dl_X11_finishFirst_0 : List (Nat × (Instr × Nat)) := [(0, (.aload_n 1, 1)), (1, (.getfield 247, 3)), (4, (.invokevirtual 329, 3)), (7, (.astore_n 3, 1)), (8, (.aload_n 3, 1)), (9, (.getfield 192, 3)), (12, (.iconst (-1), 1)), (13, (.if_icmp .eq 13, 3)), (16, (.aload_n 0, 1)), (17, (.getfield 63, 3)), (20, (.aload_n 3, 1)), (21, (.getfield 192, 3)), (24, (.iload_n 2, 1)), (25, (.iastore, 1)), (26, (.aload_n 1, 1)), (27, (.getfield 247, 3)), (30, (.invokevirtual 332, 3)), (33, (.aload_n 1, 1)), (34, (.iconst 0, 1)), (35, (.putfield 260, 3)), (38, (.aload_n 1, 1)), (39, (.bipush 7, 2)), (41, (.putfield 257, 3)), (44, (.aload_n 1, 1)), (45, (.iconst 0, 1)), (46, (.putfield 335, 3)), (49, (.aload_n 1, 1)), (50, (.iconst 0, 1)), (51, (.putfield 338, 3)), (54, (.aload_n 1, 1)), (55, (.getfield 247, 3)), (58, (.getfield 251, 3)), (61, (.ifCond .le 19, 3)), (64, (.aload_n 1, 1)), (65, (.aload_n 0, 1)), (66, (.getfield 41, 3)), (69, (.invokevirtual 313, 3)), (72, (.aload_n 1, 1)), (73, (.getfield 257, 3)), (76, (.iand, 1)), (77, (.putfield 254, 3)), (80, (.return_, 1))]
set_option maxRecDepth 100000 in
theorem da_X11_finishFirst_0 : dl_X11_finishFirst_0.all (fun q => decide (decode cX11_finishFirst q.1 = .ok q.2)) = true := by decide +kernel
theorem dX11_finishFirst_0 : decode cX11_finishFirst 0 = .ok (.aload_n 1, 1) := dec_of da_X11_finishFirst_0 (k := 0) rfl
theorem dX11_finishFirst_1 : decode cX11_finishFirst 1 = .ok (.getfield 247, 3) := dec_of da_X11_finishFirst_0 (k := 1) rfl
theorem dX11_finishFirst_4 : decode cX11_finishFirst 4 = .ok (.invokevirtual 329, 3) := dec_of da_X11_finishFirst_0 (k := 2) rfl
theorem dX11_finishFirst_7 : decode cX11_finishFirst 7 = .ok (.astore_n 3, 1) := dec_of da_X11_finishFirst_0 (k := 3) rfl
theorem dX11_finishFirst_8 : decode cX11_finishFirst 8 = .ok (.aload_n 3, 1) := dec_of da_X11_finishFirst_0 (k := 4) rfl
theorem dX11_finishFirst_9 : decode cX11_finishFirst 9 = .ok (.getfield 192, 3) := dec_of da_X11_finishFirst_0 (k := 5) rfl
theorem dX11_finishFirst_12 : decode cX11_finishFirst 12 = .ok (.iconst (-1), 1) := dec_of da_X11_finishFirst_0 (k := 6) rfl
theorem dX11_finishFirst_13 : decode cX11_finishFirst 13 = .ok (.if_icmp .eq 13, 3) := dec_of da_X11_finishFirst_0 (k := 7) rfl
theorem dX11_finishFirst_16 : decode cX11_finishFirst 16 = .ok (.aload_n 0, 1) := dec_of da_X11_finishFirst_0 (k := 8) rfl
theorem dX11_finishFirst_17 : decode cX11_finishFirst 17 = .ok (.getfield 63, 3) := dec_of da_X11_finishFirst_0 (k := 9) rfl
theorem dX11_finishFirst_20 : decode cX11_finishFirst 20 = .ok (.aload_n 3, 1) := dec_of da_X11_finishFirst_0 (k := 10) rfl
theorem dX11_finishFirst_21 : decode cX11_finishFirst 21 = .ok (.getfield 192, 3) := dec_of da_X11_finishFirst_0 (k := 11) rfl
theorem dX11_finishFirst_24 : decode cX11_finishFirst 24 = .ok (.iload_n 2, 1) := dec_of da_X11_finishFirst_0 (k := 12) rfl
theorem dX11_finishFirst_25 : decode cX11_finishFirst 25 = .ok (.iastore, 1) := dec_of da_X11_finishFirst_0 (k := 13) rfl
theorem dX11_finishFirst_26 : decode cX11_finishFirst 26 = .ok (.aload_n 1, 1) := dec_of da_X11_finishFirst_0 (k := 14) rfl
theorem dX11_finishFirst_27 : decode cX11_finishFirst 27 = .ok (.getfield 247, 3) := dec_of da_X11_finishFirst_0 (k := 15) rfl
theorem dX11_finishFirst_30 : decode cX11_finishFirst 30 = .ok (.invokevirtual 332, 3) := dec_of da_X11_finishFirst_0 (k := 16) rfl
theorem dX11_finishFirst_33 : decode cX11_finishFirst 33 = .ok (.aload_n 1, 1) := dec_of da_X11_finishFirst_0 (k := 17) rfl
theorem dX11_finishFirst_34 : decode cX11_finishFirst 34 = .ok (.iconst 0, 1) := dec_of da_X11_finishFirst_0 (k := 18) rfl
theorem dX11_finishFirst_35 : decode cX11_finishFirst 35 = .ok (.putfield 260, 3) := dec_of da_X11_finishFirst_0 (k := 19) rfl
theorem dX11_finishFirst_38 : decode cX11_finishFirst 38 = .ok (.aload_n 1, 1) := dec_of da_X11_finishFirst_0 (k := 20) rfl
theorem dX11_finishFirst_39 : decode cX11_finishFirst 39 = .ok (.bipush 7, 2) := dec_of da_X11_finishFirst_0 (k := 21) rfl
theorem dX11_finishFirst_41 : decode cX11_finishFirst 41 = .ok (.putfield 257, 3) := dec_of da_X11_finishFirst_0 (k := 22) rfl
theorem dX11_finishFirst_44 : decode cX11_finishFirst 44 = .ok (.aload_n 1, 1) := dec_of da_X11_finishFirst_0 (k := 23) rfl
theorem dX11_finishFirst_45 : decode cX11_finishFirst 45 = .ok (.iconst 0, 1) := dec_of da_X11_finishFirst_0 (k := 24) rfl
theorem dX11_finishFirst_46 : decode cX11_finishFirst 46 = .ok (.putfield 335, 3) := dec_of da_X11_finishFirst_0 (k := 25) rfl
theorem dX11_finishFirst_49 : decode cX11_finishFirst 49 = .ok (.aload_n 1, 1) := dec_of da_X11_finishFirst_0 (k := 26) rfl
theorem dX11_finishFirst_50 : decode cX11_finishFirst 50 = .ok (.iconst 0, 1) := dec_of da_X11_finishFirst_0 (k := 27) rfl
theorem dX11_finishFirst_51 : decode cX11_finishFirst 51 = .ok (.putfield 338, 3) := dec_of da_X11_finishFirst_0 (k := 28) rfl
theorem dX11_finishFirst_54 : decode cX11_finishFirst 54 = .ok (.aload_n 1, 1) := dec_of da_X11_finishFirst_0 (k := 29) rfl
theorem dX11_finishFirst_55 : decode cX11_finishFirst 55 = .ok (.getfield 247, 3) := dec_of da_X11_finishFirst_0 (k := 30) rfl
theorem dX11_finishFirst_58 : decode cX11_finishFirst 58 = .ok (.getfield 251, 3) := dec_of da_X11_finishFirst_0 (k := 31) rfl
theorem dX11_finishFirst_61 : decode cX11_finishFirst 61 = .ok (.ifCond .le 19, 3) := dec_of da_X11_finishFirst_0 (k := 32) rfl
theorem dX11_finishFirst_64 : decode cX11_finishFirst 64 = .ok (.aload_n 1, 1) := dec_of da_X11_finishFirst_0 (k := 33) rfl
theorem dX11_finishFirst_65 : decode cX11_finishFirst 65 = .ok (.aload_n 0, 1) := dec_of da_X11_finishFirst_0 (k := 34) rfl
theorem dX11_finishFirst_66 : decode cX11_finishFirst 66 = .ok (.getfield 41, 3) := dec_of da_X11_finishFirst_0 (k := 35) rfl
theorem dX11_finishFirst_69 : decode cX11_finishFirst 69 = .ok (.invokevirtual 313, 3) := dec_of da_X11_finishFirst_0 (k := 36) rfl
theorem dX11_finishFirst_72 : decode cX11_finishFirst 72 = .ok (.aload_n 1, 1) := dec_of da_X11_finishFirst_0 (k := 37) rfl
theorem dX11_finishFirst_73 : decode cX11_finishFirst 73 = .ok (.getfield 257, 3) := dec_of da_X11_finishFirst_0 (k := 38) rfl
theorem dX11_finishFirst_76 : decode cX11_finishFirst 76 = .ok (.iand, 1) := dec_of da_X11_finishFirst_0 (k := 39) rfl
theorem dX11_finishFirst_77 : decode cX11_finishFirst 77 = .ok (.putfield 254, 3) := dec_of da_X11_finishFirst_0 (k := 40) rfl
theorem dX11_finishFirst_80 : decode cX11_finishFirst 80 = .ok (.return_, 1) := dec_of da_X11_finishFirst_0 (k := 41) rfl
def dl_X11_idleSlots_0 : List (Nat × (Instr × Nat)) := [(0, (.aload_n 0, 1)), (1, (.getfield 27, 3)), (4, (.getfield 341, 3)), (7, (.ifCond .le 5, 3)), (10, (.iconst 0, 1)), (11, (.ireturn, 1)), (12, (.iconst 0, 1)), (13, (.istore_n 2, 1)), (14, (.iload_n 2, 1)), (15, (.bipush 9, 2)), (17, (.if_icmp .ge 39, 3)), (20, (.aload_n 0, 1)), (21, (.getfield 11, 3)), (24, (.iload_n 2, 1)), (25, (.aaload, 1)), (26, (.getfield 247, 3)), (29, (.getfield 251, 3)), (32, (.ifCond .gt 16, 3)), (35, (.aload_n 0, 1)), (36, (.getfield 11, 3)), (39, (.iload_n 2, 1)), (40, (.aaload, 1)), (41, (.getfield 344, 3)), (44, (.iconst (-1), 1)), (45, (.if_icmp .eq 5, 3)), (48, (.iconst 0, 1)), (49, (.ireturn, 1)), (50, (.iinc 2 1, 3)), (53, (.goto (-39), 3)), (56, (.aload_n 0, 1)), (57, (.getfield 34, 3)), (60, (.aload_n 0, 1)), (61, (.getfield 27, 3)), (64, (.getfield 139, 3)), (67, (.iload_n 1, 1)), (68, (.invokevirtual 347, 3)), (71, (.ireturn, 1))]
set_option maxRecDepth 100000 in
theorem da_X11_idleSlots_0 : dl_X11_idleSlots_0.all (fun q => decide (decode cX11_idleSlots q.1 = .ok q.2)) = true := by decide +kernel
theorem dX11_idleSlots_0 : decode cX11_idleSlots 0 = .ok (.aload_n 0, 1) := dec_of da_X11_idleSlots_0 (k := 0) rfl
theorem dX11_idleSlots_1 : decode cX11_idleSlots 1 = .ok (.getfield 27, 3) := dec_of da_X11_idleSlots_0 (k := 1) rfl
theorem dX11_idleSlots_4 : decode cX11_idleSlots 4 = .ok (.getfield 341, 3) := dec_of da_X11_idleSlots_0 (k := 2) rfl
theorem dX11_idleSlots_7 : decode cX11_idleSlots 7 = .ok (.ifCond .le 5, 3) := dec_of da_X11_idleSlots_0 (k := 3) rfl
theorem dX11_idleSlots_10 : decode cX11_idleSlots 10 = .ok (.iconst 0, 1) := dec_of da_X11_idleSlots_0 (k := 4) rfl
theorem dX11_idleSlots_11 : decode cX11_idleSlots 11 = .ok (.ireturn, 1) := dec_of da_X11_idleSlots_0 (k := 5) rfl
theorem dX11_idleSlots_12 : decode cX11_idleSlots 12 = .ok (.iconst 0, 1) := dec_of da_X11_idleSlots_0 (k := 6) rfl
theorem dX11_idleSlots_13 : decode cX11_idleSlots 13 = .ok (.istore_n 2, 1) := dec_of da_X11_idleSlots_0 (k := 7) rfl
theorem dX11_idleSlots_14 : decode cX11_idleSlots 14 = .ok (.iload_n 2, 1) := dec_of da_X11_idleSlots_0 (k := 8) rfl
theorem dX11_idleSlots_15 : decode cX11_idleSlots 15 = .ok (.bipush 9, 2) := dec_of da_X11_idleSlots_0 (k := 9) rfl
theorem dX11_idleSlots_17 : decode cX11_idleSlots 17 = .ok (.if_icmp .ge 39, 3) := dec_of da_X11_idleSlots_0 (k := 10) rfl
theorem dX11_idleSlots_20 : decode cX11_idleSlots 20 = .ok (.aload_n 0, 1) := dec_of da_X11_idleSlots_0 (k := 11) rfl
theorem dX11_idleSlots_21 : decode cX11_idleSlots 21 = .ok (.getfield 11, 3) := dec_of da_X11_idleSlots_0 (k := 12) rfl
theorem dX11_idleSlots_24 : decode cX11_idleSlots 24 = .ok (.iload_n 2, 1) := dec_of da_X11_idleSlots_0 (k := 13) rfl
theorem dX11_idleSlots_25 : decode cX11_idleSlots 25 = .ok (.aaload, 1) := dec_of da_X11_idleSlots_0 (k := 14) rfl
theorem dX11_idleSlots_26 : decode cX11_idleSlots 26 = .ok (.getfield 247, 3) := dec_of da_X11_idleSlots_0 (k := 15) rfl
theorem dX11_idleSlots_29 : decode cX11_idleSlots 29 = .ok (.getfield 251, 3) := dec_of da_X11_idleSlots_0 (k := 16) rfl
theorem dX11_idleSlots_32 : decode cX11_idleSlots 32 = .ok (.ifCond .gt 16, 3) := dec_of da_X11_idleSlots_0 (k := 17) rfl
theorem dX11_idleSlots_35 : decode cX11_idleSlots 35 = .ok (.aload_n 0, 1) := dec_of da_X11_idleSlots_0 (k := 18) rfl
theorem dX11_idleSlots_36 : decode cX11_idleSlots 36 = .ok (.getfield 11, 3) := dec_of da_X11_idleSlots_0 (k := 19) rfl
theorem dX11_idleSlots_39 : decode cX11_idleSlots 39 = .ok (.iload_n 2, 1) := dec_of da_X11_idleSlots_0 (k := 20) rfl
theorem dX11_idleSlots_40 : decode cX11_idleSlots 40 = .ok (.aaload, 1) := dec_of da_X11_idleSlots_0 (k := 21) rfl
theorem dX11_idleSlots_41 : decode cX11_idleSlots 41 = .ok (.getfield 344, 3) := dec_of da_X11_idleSlots_0 (k := 22) rfl
theorem dX11_idleSlots_44 : decode cX11_idleSlots 44 = .ok (.iconst (-1), 1) := dec_of da_X11_idleSlots_0 (k := 23) rfl
theorem dX11_idleSlots_45 : decode cX11_idleSlots 45 = .ok (.if_icmp .eq 5, 3) := dec_of da_X11_idleSlots_0 (k := 24) rfl
theorem dX11_idleSlots_48 : decode cX11_idleSlots 48 = .ok (.iconst 0, 1) := dec_of da_X11_idleSlots_0 (k := 25) rfl
theorem dX11_idleSlots_49 : decode cX11_idleSlots 49 = .ok (.ireturn, 1) := dec_of da_X11_idleSlots_0 (k := 26) rfl
theorem dX11_idleSlots_50 : decode cX11_idleSlots 50 = .ok (.iinc 2 1, 3) := dec_of da_X11_idleSlots_0 (k := 27) rfl
theorem dX11_idleSlots_53 : decode cX11_idleSlots 53 = .ok (.goto (-39), 3) := dec_of da_X11_idleSlots_0 (k := 28) rfl
theorem dX11_idleSlots_56 : decode cX11_idleSlots 56 = .ok (.aload_n 0, 1) := dec_of da_X11_idleSlots_0 (k := 29) rfl
theorem dX11_idleSlots_57 : decode cX11_idleSlots 57 = .ok (.getfield 34, 3) := dec_of da_X11_idleSlots_0 (k := 30) rfl
theorem dX11_idleSlots_60 : decode cX11_idleSlots 60 = .ok (.aload_n 0, 1) := dec_of da_X11_idleSlots_0 (k := 31) rfl
theorem dX11_idleSlots_61 : decode cX11_idleSlots 61 = .ok (.getfield 27, 3) := dec_of da_X11_idleSlots_0 (k := 32) rfl
theorem dX11_idleSlots_64 : decode cX11_idleSlots 64 = .ok (.getfield 139, 3) := dec_of da_X11_idleSlots_0 (k := 33) rfl
theorem dX11_idleSlots_67 : decode cX11_idleSlots 67 = .ok (.iload_n 1, 1) := dec_of da_X11_idleSlots_0 (k := 34) rfl
theorem dX11_idleSlots_68 : decode cX11_idleSlots 68 = .ok (.invokevirtual 347, 3) := dec_of da_X11_idleSlots_0 (k := 35) rfl
theorem dX11_idleSlots_71 : decode cX11_idleSlots 71 = .ok (.ireturn, 1) := dec_of da_X11_idleSlots_0 (k := 36) rfl
def dl_X11_beginNodes_0 : List (Nat × (Instr × Nat)) := [(0, (.aload_n 0, 1)), (1, (.getfield 27, 3)), (4, (.invokevirtual 350, 3)), (7, (.istore_n 1, 1)), (8, (.iconst 0, 1)), (9, (.istore_n 2, 1)), (10, (.iload_n 2, 1)), (11, (.bipush 9, 2)), (13, (.if_icmp .ge 88, 3)), (16, (.aload_n 0, 1)), (17, (.getfield 11, 3)), (20, (.iload_n 2, 1)), (21, (.aaload, 1)), (22, (.astore_n 3, 1)), (23, (.aload_n 3, 1)), (24, (.getfield 344, 3)), (27, (.aload_n 0, 1)), (28, (.getfield 27, 3)), (31, (.getfield 139, 3)), (34, (.if_icmp .ne 31, 3)), (37, (.aload_n 3, 1)), (38, (.iconst (-1), 1)), (39, (.putfield 344, 3)), (42, (.aload_n 3, 1)), (43, (.getfield 354, 3)), (46, (.ifCond .eq 11, 3)), (49, (.aload_n 0, 1)), (50, (.aload_n 3, 1)), (51, (.invokevirtual 357, 3)), (54, (.goto 41, 3)), (57, (.aload_n 0, 1)), (58, (.aload_n 3, 1)), (59, (.invokevirtual 361, 3)), (62, (.goto 33, 3)), (65, (.iload_n 1, 1)), (66, (.ifCond .eq 29, 3)), (69, (.aload_n 3, 1)), (70, (.getfield 254, 3)), (73, (.ifCond .ne 22, 3)), (76, (.aload_n 3, 1)), (77, (.aload_n 0, 1)), (78, (.getfield 27, 3)), (81, (.getfield 139, 3)), (84, (.invokevirtual 364, 3)), (87, (.ifCond .eq 8, 3)), (90, (.aload_n 0, 1)), (91, (.aload_n 3, 1)), (92, (.invokevirtual 361, 3)), (95, (.iinc 2 1, 3)), (98, (.goto (-88), 3)), (101, (.return_, 1))]
set_option maxRecDepth 100000 in
theorem da_X11_beginNodes_0 : dl_X11_beginNodes_0.all (fun q => decide (decode cX11_beginNodes q.1 = .ok q.2)) = true := by decide +kernel
theorem dX11_beginNodes_0 : decode cX11_beginNodes 0 = .ok (.aload_n 0, 1) := dec_of da_X11_beginNodes_0 (k := 0) rfl
theorem dX11_beginNodes_1 : decode cX11_beginNodes 1 = .ok (.getfield 27, 3) := dec_of da_X11_beginNodes_0 (k := 1) rfl
theorem dX11_beginNodes_4 : decode cX11_beginNodes 4 = .ok (.invokevirtual 350, 3) := dec_of da_X11_beginNodes_0 (k := 2) rfl
theorem dX11_beginNodes_7 : decode cX11_beginNodes 7 = .ok (.istore_n 1, 1) := dec_of da_X11_beginNodes_0 (k := 3) rfl
theorem dX11_beginNodes_8 : decode cX11_beginNodes 8 = .ok (.iconst 0, 1) := dec_of da_X11_beginNodes_0 (k := 4) rfl
theorem dX11_beginNodes_9 : decode cX11_beginNodes 9 = .ok (.istore_n 2, 1) := dec_of da_X11_beginNodes_0 (k := 5) rfl
theorem dX11_beginNodes_10 : decode cX11_beginNodes 10 = .ok (.iload_n 2, 1) := dec_of da_X11_beginNodes_0 (k := 6) rfl
theorem dX11_beginNodes_11 : decode cX11_beginNodes 11 = .ok (.bipush 9, 2) := dec_of da_X11_beginNodes_0 (k := 7) rfl
theorem dX11_beginNodes_13 : decode cX11_beginNodes 13 = .ok (.if_icmp .ge 88, 3) := dec_of da_X11_beginNodes_0 (k := 8) rfl
theorem dX11_beginNodes_16 : decode cX11_beginNodes 16 = .ok (.aload_n 0, 1) := dec_of da_X11_beginNodes_0 (k := 9) rfl
theorem dX11_beginNodes_17 : decode cX11_beginNodes 17 = .ok (.getfield 11, 3) := dec_of da_X11_beginNodes_0 (k := 10) rfl
theorem dX11_beginNodes_20 : decode cX11_beginNodes 20 = .ok (.iload_n 2, 1) := dec_of da_X11_beginNodes_0 (k := 11) rfl
theorem dX11_beginNodes_21 : decode cX11_beginNodes 21 = .ok (.aaload, 1) := dec_of da_X11_beginNodes_0 (k := 12) rfl
theorem dX11_beginNodes_22 : decode cX11_beginNodes 22 = .ok (.astore_n 3, 1) := dec_of da_X11_beginNodes_0 (k := 13) rfl
theorem dX11_beginNodes_23 : decode cX11_beginNodes 23 = .ok (.aload_n 3, 1) := dec_of da_X11_beginNodes_0 (k := 14) rfl
theorem dX11_beginNodes_24 : decode cX11_beginNodes 24 = .ok (.getfield 344, 3) := dec_of da_X11_beginNodes_0 (k := 15) rfl
theorem dX11_beginNodes_27 : decode cX11_beginNodes 27 = .ok (.aload_n 0, 1) := dec_of da_X11_beginNodes_0 (k := 16) rfl
theorem dX11_beginNodes_28 : decode cX11_beginNodes 28 = .ok (.getfield 27, 3) := dec_of da_X11_beginNodes_0 (k := 17) rfl
theorem dX11_beginNodes_31 : decode cX11_beginNodes 31 = .ok (.getfield 139, 3) := dec_of da_X11_beginNodes_0 (k := 18) rfl
theorem dX11_beginNodes_34 : decode cX11_beginNodes 34 = .ok (.if_icmp .ne 31, 3) := dec_of da_X11_beginNodes_0 (k := 19) rfl
theorem dX11_beginNodes_37 : decode cX11_beginNodes 37 = .ok (.aload_n 3, 1) := dec_of da_X11_beginNodes_0 (k := 20) rfl
theorem dX11_beginNodes_38 : decode cX11_beginNodes 38 = .ok (.iconst (-1), 1) := dec_of da_X11_beginNodes_0 (k := 21) rfl
theorem dX11_beginNodes_39 : decode cX11_beginNodes 39 = .ok (.putfield 344, 3) := dec_of da_X11_beginNodes_0 (k := 22) rfl
theorem dX11_beginNodes_42 : decode cX11_beginNodes 42 = .ok (.aload_n 3, 1) := dec_of da_X11_beginNodes_0 (k := 23) rfl
theorem dX11_beginNodes_43 : decode cX11_beginNodes 43 = .ok (.getfield 354, 3) := dec_of da_X11_beginNodes_0 (k := 24) rfl
theorem dX11_beginNodes_46 : decode cX11_beginNodes 46 = .ok (.ifCond .eq 11, 3) := dec_of da_X11_beginNodes_0 (k := 25) rfl
theorem dX11_beginNodes_49 : decode cX11_beginNodes 49 = .ok (.aload_n 0, 1) := dec_of da_X11_beginNodes_0 (k := 26) rfl
theorem dX11_beginNodes_50 : decode cX11_beginNodes 50 = .ok (.aload_n 3, 1) := dec_of da_X11_beginNodes_0 (k := 27) rfl
theorem dX11_beginNodes_51 : decode cX11_beginNodes 51 = .ok (.invokevirtual 357, 3) := dec_of da_X11_beginNodes_0 (k := 28) rfl
theorem dX11_beginNodes_54 : decode cX11_beginNodes 54 = .ok (.goto 41, 3) := dec_of da_X11_beginNodes_0 (k := 29) rfl
theorem dX11_beginNodes_57 : decode cX11_beginNodes 57 = .ok (.aload_n 0, 1) := dec_of da_X11_beginNodes_0 (k := 30) rfl
theorem dX11_beginNodes_58 : decode cX11_beginNodes 58 = .ok (.aload_n 3, 1) := dec_of da_X11_beginNodes_0 (k := 31) rfl
theorem dX11_beginNodes_59 : decode cX11_beginNodes 59 = .ok (.invokevirtual 361, 3) := dec_of da_X11_beginNodes_0 (k := 32) rfl
theorem dX11_beginNodes_62 : decode cX11_beginNodes 62 = .ok (.goto 33, 3) := dec_of da_X11_beginNodes_0 (k := 33) rfl
theorem dX11_beginNodes_65 : decode cX11_beginNodes 65 = .ok (.iload_n 1, 1) := dec_of da_X11_beginNodes_0 (k := 34) rfl
theorem dX11_beginNodes_66 : decode cX11_beginNodes 66 = .ok (.ifCond .eq 29, 3) := dec_of da_X11_beginNodes_0 (k := 35) rfl
theorem dX11_beginNodes_69 : decode cX11_beginNodes 69 = .ok (.aload_n 3, 1) := dec_of da_X11_beginNodes_0 (k := 36) rfl
theorem dX11_beginNodes_70 : decode cX11_beginNodes 70 = .ok (.getfield 254, 3) := dec_of da_X11_beginNodes_0 (k := 37) rfl
theorem dX11_beginNodes_73 : decode cX11_beginNodes 73 = .ok (.ifCond .ne 22, 3) := dec_of da_X11_beginNodes_0 (k := 38) rfl
theorem dX11_beginNodes_76 : decode cX11_beginNodes 76 = .ok (.aload_n 3, 1) := dec_of da_X11_beginNodes_0 (k := 39) rfl
theorem dX11_beginNodes_77 : decode cX11_beginNodes 77 = .ok (.aload_n 0, 1) := dec_of da_X11_beginNodes_0 (k := 40) rfl
theorem dX11_beginNodes_78 : decode cX11_beginNodes 78 = .ok (.getfield 27, 3) := dec_of da_X11_beginNodes_0 (k := 41) rfl
theorem dX11_beginNodes_81 : decode cX11_beginNodes 81 = .ok (.getfield 139, 3) := dec_of da_X11_beginNodes_0 (k := 42) rfl
theorem dX11_beginNodes_84 : decode cX11_beginNodes 84 = .ok (.invokevirtual 364, 3) := dec_of da_X11_beginNodes_0 (k := 43) rfl
theorem dX11_beginNodes_87 : decode cX11_beginNodes 87 = .ok (.ifCond .eq 8, 3) := dec_of da_X11_beginNodes_0 (k := 44) rfl
theorem dX11_beginNodes_90 : decode cX11_beginNodes 90 = .ok (.aload_n 0, 1) := dec_of da_X11_beginNodes_0 (k := 45) rfl
theorem dX11_beginNodes_91 : decode cX11_beginNodes 91 = .ok (.aload_n 3, 1) := dec_of da_X11_beginNodes_0 (k := 46) rfl
theorem dX11_beginNodes_92 : decode cX11_beginNodes 92 = .ok (.invokevirtual 361, 3) := dec_of da_X11_beginNodes_0 (k := 47) rfl
theorem dX11_beginNodes_95 : decode cX11_beginNodes 95 = .ok (.iinc 2 1, 3) := dec_of da_X11_beginNodes_0 (k := 48) rfl
theorem dX11_beginNodes_98 : decode cX11_beginNodes 98 = .ok (.goto (-88), 3) := dec_of da_X11_beginNodes_0 (k := 49) rfl
theorem dX11_beginNodes_101 : decode cX11_beginNodes 101 = .ok (.return_, 1) := dec_of da_X11_beginNodes_0 (k := 50) rfl
def dl_X11_beginAck_0 : List (Nat × (Instr × Nat)) := [(0, (.aload_n 0, 1)), (1, (.getfield 73, 3)), (4, (.iconst 0, 1)), (5, (.invokestatic 367, 3)), (8, (.aload_n 0, 1)), (9, (.getfield 73, 3)), (12, (.iconst 0, 1)), (13, (.sipush 212, 3)), (16, (.iastore, 1)), (17, (.aload_n 1, 1)), (18, (.getfield 372, 3)), (21, (.iconst 0, 1)), (22, (.aload_n 0, 1)), (23, (.getfield 73, 3)), (26, (.iconst 4, 1)), (27, (.aload_n 1, 1)), (28, (.getfield 372, 3)), (31, (.arraylength, 1)), (32, (.invokestatic 110, 3)), (35, (.aload_n 0, 1)), (36, (.getfield 73, 3)), (39, (.bipush 10, 2)), (41, (.invokestatic 95, 3)), (44, (.aload_n 1, 1)), (45, (.aload_n 0, 1)), (46, (.getfield 27, 3)), (49, (.aload_n 0, 1)), (50, (.getfield 73, 3)), (53, (.bipush 14, 2)), (55, (.aload_n 1, 1)), (56, (.getfield 375, 3)), (59, (.invokevirtual 378, 3)), (62, (.putfield 380, 3)), (65, (.aload_n 1, 1)), (66, (.iconst 1, 1)), (67, (.putfield 383, 3)), (70, (.return_, 1))]
set_option maxRecDepth 100000 in
theorem da_X11_beginAck_0 : dl_X11_beginAck_0.all (fun q => decide (decode cX11_beginAck q.1 = .ok q.2)) = true := by decide +kernel
theorem dX11_beginAck_0 : decode cX11_beginAck 0 = .ok (.aload_n 0, 1) := dec_of da_X11_beginAck_0 (k := 0) rfl
theorem dX11_beginAck_1 : decode cX11_beginAck 1 = .ok (.getfield 73, 3) := dec_of da_X11_beginAck_0 (k := 1) rfl
theorem dX11_beginAck_4 : decode cX11_beginAck 4 = .ok (.iconst 0, 1) := dec_of da_X11_beginAck_0 (k := 2) rfl
theorem dX11_beginAck_5 : decode cX11_beginAck 5 = .ok (.invokestatic 367, 3) := dec_of da_X11_beginAck_0 (k := 3) rfl
theorem dX11_beginAck_8 : decode cX11_beginAck 8 = .ok (.aload_n 0, 1) := dec_of da_X11_beginAck_0 (k := 4) rfl
theorem dX11_beginAck_9 : decode cX11_beginAck 9 = .ok (.getfield 73, 3) := dec_of da_X11_beginAck_0 (k := 5) rfl
theorem dX11_beginAck_12 : decode cX11_beginAck 12 = .ok (.iconst 0, 1) := dec_of da_X11_beginAck_0 (k := 6) rfl
theorem dX11_beginAck_13 : decode cX11_beginAck 13 = .ok (.sipush 212, 3) := dec_of da_X11_beginAck_0 (k := 7) rfl
theorem dX11_beginAck_16 : decode cX11_beginAck 16 = .ok (.iastore, 1) := dec_of da_X11_beginAck_0 (k := 8) rfl
theorem dX11_beginAck_17 : decode cX11_beginAck 17 = .ok (.aload_n 1, 1) := dec_of da_X11_beginAck_0 (k := 9) rfl
theorem dX11_beginAck_18 : decode cX11_beginAck 18 = .ok (.getfield 372, 3) := dec_of da_X11_beginAck_0 (k := 10) rfl
theorem dX11_beginAck_21 : decode cX11_beginAck 21 = .ok (.iconst 0, 1) := dec_of da_X11_beginAck_0 (k := 11) rfl
theorem dX11_beginAck_22 : decode cX11_beginAck 22 = .ok (.aload_n 0, 1) := dec_of da_X11_beginAck_0 (k := 12) rfl
theorem dX11_beginAck_23 : decode cX11_beginAck 23 = .ok (.getfield 73, 3) := dec_of da_X11_beginAck_0 (k := 13) rfl
theorem dX11_beginAck_26 : decode cX11_beginAck 26 = .ok (.iconst 4, 1) := dec_of da_X11_beginAck_0 (k := 14) rfl
theorem dX11_beginAck_27 : decode cX11_beginAck 27 = .ok (.aload_n 1, 1) := dec_of da_X11_beginAck_0 (k := 15) rfl
theorem dX11_beginAck_28 : decode cX11_beginAck 28 = .ok (.getfield 372, 3) := dec_of da_X11_beginAck_0 (k := 16) rfl
theorem dX11_beginAck_31 : decode cX11_beginAck 31 = .ok (.arraylength, 1) := dec_of da_X11_beginAck_0 (k := 17) rfl
theorem dX11_beginAck_32 : decode cX11_beginAck 32 = .ok (.invokestatic 110, 3) := dec_of da_X11_beginAck_0 (k := 18) rfl
theorem dX11_beginAck_35 : decode cX11_beginAck 35 = .ok (.aload_n 0, 1) := dec_of da_X11_beginAck_0 (k := 19) rfl
theorem dX11_beginAck_36 : decode cX11_beginAck 36 = .ok (.getfield 73, 3) := dec_of da_X11_beginAck_0 (k := 20) rfl
theorem dX11_beginAck_39 : decode cX11_beginAck 39 = .ok (.bipush 10, 2) := dec_of da_X11_beginAck_0 (k := 21) rfl
theorem dX11_beginAck_41 : decode cX11_beginAck 41 = .ok (.invokestatic 95, 3) := dec_of da_X11_beginAck_0 (k := 22) rfl
theorem dX11_beginAck_44 : decode cX11_beginAck 44 = .ok (.aload_n 1, 1) := dec_of da_X11_beginAck_0 (k := 23) rfl
theorem dX11_beginAck_45 : decode cX11_beginAck 45 = .ok (.aload_n 0, 1) := dec_of da_X11_beginAck_0 (k := 24) rfl
theorem dX11_beginAck_46 : decode cX11_beginAck 46 = .ok (.getfield 27, 3) := dec_of da_X11_beginAck_0 (k := 25) rfl
theorem dX11_beginAck_49 : decode cX11_beginAck 49 = .ok (.aload_n 0, 1) := dec_of da_X11_beginAck_0 (k := 26) rfl
theorem dX11_beginAck_50 : decode cX11_beginAck 50 = .ok (.getfield 73, 3) := dec_of da_X11_beginAck_0 (k := 27) rfl
theorem dX11_beginAck_53 : decode cX11_beginAck 53 = .ok (.bipush 14, 2) := dec_of da_X11_beginAck_0 (k := 28) rfl
theorem dX11_beginAck_55 : decode cX11_beginAck 55 = .ok (.aload_n 1, 1) := dec_of da_X11_beginAck_0 (k := 29) rfl
theorem dX11_beginAck_56 : decode cX11_beginAck 56 = .ok (.getfield 375, 3) := dec_of da_X11_beginAck_0 (k := 30) rfl
theorem dX11_beginAck_59 : decode cX11_beginAck 59 = .ok (.invokevirtual 378, 3) := dec_of da_X11_beginAck_0 (k := 31) rfl
theorem dX11_beginAck_62 : decode cX11_beginAck 62 = .ok (.putfield 380, 3) := dec_of da_X11_beginAck_0 (k := 32) rfl
theorem dX11_beginAck_65 : decode cX11_beginAck 65 = .ok (.aload_n 1, 1) := dec_of da_X11_beginAck_0 (k := 33) rfl
theorem dX11_beginAck_66 : decode cX11_beginAck 66 = .ok (.iconst 1, 1) := dec_of da_X11_beginAck_0 (k := 34) rfl
theorem dX11_beginAck_67 : decode cX11_beginAck 67 = .ok (.putfield 383, 3) := dec_of da_X11_beginAck_0 (k := 35) rfl
theorem dX11_beginAck_70 : decode cX11_beginAck 70 = .ok (.return_, 1) := dec_of da_X11_beginAck_0 (k := 36) rfl
def dl_X11_beginFrame_0 : List (Nat × (Instr × Nat)) := [(0, (.aload_n 1, 1)), (1, (.getfield 247, 3)), (4, (.getfield 251, 3)), (7, (.ifCond .ne 4, 3)), (10, (.return_, 1)), (11, (.aload_n 1, 1)), (12, (.getfield 338, 3)), (15, (.ifCond .ne 53, 3)), (18, (.aload_n 1, 1)), (19, (.getfield 247, 3)), (22, (.invokevirtual 329, 3)), (25, (.astore_n 2, 1)), (26, (.aload_n 0, 1)), (27, (.aload_n 1, 1)), (28, (.getfield 375, 3)), (31, (.aload_n 2, 1)), (32, (.getfield 307, 3)), (35, (.invokevirtual 173, 3)), (38, (.astore_n 3, 1)), (39, (.aload_n 2, 1)), (40, (.getfield 184, 3)), (43, (.ifCond .eq 18, 3)), (46, (.aload_n 3, 1)), (47, (.getfield 177, 3)), (50, (.iconst 4, 1)), (51, (.if_icmp .eq 10, 3)), (54, (.aload_n 0, 1)), (55, (.aload_n 1, 1)), (56, (.iconst 5, 1)), (57, (.invokevirtual 386, 3)), (60, (.return_, 1)), (61, (.aload_n 0, 1)), (62, (.aload_n 1, 1)), (63, (.aload_n 2, 1)), (64, (.aload_n 3, 1)), (65, (.invokevirtual 390, 3)), (68, (.aload_n 1, 1)), (69, (.aload_n 0, 1)), (70, (.getfield 27, 3)), (73, (.aload_n 1, 1)), (74, (.getfield 394, 3)), (77, (.aload_n 1, 1)), (78, (.getfield 338, 3)), (81, (.aload_n 1, 1)), (82, (.getfield 375, 3)), (85, (.invokevirtual 378, 3)), (88, (.putfield 380, 3)), (91, (.aload_n 1, 1)), (92, (.iconst 0, 1)), (93, (.putfield 383, 3)), (96, (.return_, 1))]
set_option maxRecDepth 100000 in
theorem da_X11_beginFrame_0 : dl_X11_beginFrame_0.all (fun q => decide (decode cX11_beginFrame q.1 = .ok q.2)) = true := by decide +kernel
theorem dX11_beginFrame_0 : decode cX11_beginFrame 0 = .ok (.aload_n 1, 1) := dec_of da_X11_beginFrame_0 (k := 0) rfl
theorem dX11_beginFrame_1 : decode cX11_beginFrame 1 = .ok (.getfield 247, 3) := dec_of da_X11_beginFrame_0 (k := 1) rfl
theorem dX11_beginFrame_4 : decode cX11_beginFrame 4 = .ok (.getfield 251, 3) := dec_of da_X11_beginFrame_0 (k := 2) rfl
theorem dX11_beginFrame_7 : decode cX11_beginFrame 7 = .ok (.ifCond .ne 4, 3) := dec_of da_X11_beginFrame_0 (k := 3) rfl
theorem dX11_beginFrame_10 : decode cX11_beginFrame 10 = .ok (.return_, 1) := dec_of da_X11_beginFrame_0 (k := 4) rfl
theorem dX11_beginFrame_11 : decode cX11_beginFrame 11 = .ok (.aload_n 1, 1) := dec_of da_X11_beginFrame_0 (k := 5) rfl
theorem dX11_beginFrame_12 : decode cX11_beginFrame 12 = .ok (.getfield 338, 3) := dec_of da_X11_beginFrame_0 (k := 6) rfl
theorem dX11_beginFrame_15 : decode cX11_beginFrame 15 = .ok (.ifCond .ne 53, 3) := dec_of da_X11_beginFrame_0 (k := 7) rfl
theorem dX11_beginFrame_18 : decode cX11_beginFrame 18 = .ok (.aload_n 1, 1) := dec_of da_X11_beginFrame_0 (k := 8) rfl
theorem dX11_beginFrame_19 : decode cX11_beginFrame 19 = .ok (.getfield 247, 3) := dec_of da_X11_beginFrame_0 (k := 9) rfl
theorem dX11_beginFrame_22 : decode cX11_beginFrame 22 = .ok (.invokevirtual 329, 3) := dec_of da_X11_beginFrame_0 (k := 10) rfl
theorem dX11_beginFrame_25 : decode cX11_beginFrame 25 = .ok (.astore_n 2, 1) := dec_of da_X11_beginFrame_0 (k := 11) rfl
theorem dX11_beginFrame_26 : decode cX11_beginFrame 26 = .ok (.aload_n 0, 1) := dec_of da_X11_beginFrame_0 (k := 12) rfl
theorem dX11_beginFrame_27 : decode cX11_beginFrame 27 = .ok (.aload_n 1, 1) := dec_of da_X11_beginFrame_0 (k := 13) rfl
theorem dX11_beginFrame_28 : decode cX11_beginFrame 28 = .ok (.getfield 375, 3) := dec_of da_X11_beginFrame_0 (k := 14) rfl
theorem dX11_beginFrame_31 : decode cX11_beginFrame 31 = .ok (.aload_n 2, 1) := dec_of da_X11_beginFrame_0 (k := 15) rfl
theorem dX11_beginFrame_32 : decode cX11_beginFrame 32 = .ok (.getfield 307, 3) := dec_of da_X11_beginFrame_0 (k := 16) rfl
theorem dX11_beginFrame_35 : decode cX11_beginFrame 35 = .ok (.invokevirtual 173, 3) := dec_of da_X11_beginFrame_0 (k := 17) rfl
theorem dX11_beginFrame_38 : decode cX11_beginFrame 38 = .ok (.astore_n 3, 1) := dec_of da_X11_beginFrame_0 (k := 18) rfl
theorem dX11_beginFrame_39 : decode cX11_beginFrame 39 = .ok (.aload_n 2, 1) := dec_of da_X11_beginFrame_0 (k := 19) rfl
theorem dX11_beginFrame_40 : decode cX11_beginFrame 40 = .ok (.getfield 184, 3) := dec_of da_X11_beginFrame_0 (k := 20) rfl
theorem dX11_beginFrame_43 : decode cX11_beginFrame 43 = .ok (.ifCond .eq 18, 3) := dec_of da_X11_beginFrame_0 (k := 21) rfl
theorem dX11_beginFrame_46 : decode cX11_beginFrame 46 = .ok (.aload_n 3, 1) := dec_of da_X11_beginFrame_0 (k := 22) rfl
theorem dX11_beginFrame_47 : decode cX11_beginFrame 47 = .ok (.getfield 177, 3) := dec_of da_X11_beginFrame_0 (k := 23) rfl
theorem dX11_beginFrame_50 : decode cX11_beginFrame 50 = .ok (.iconst 4, 1) := dec_of da_X11_beginFrame_0 (k := 24) rfl
theorem dX11_beginFrame_51 : decode cX11_beginFrame 51 = .ok (.if_icmp .eq 10, 3) := dec_of da_X11_beginFrame_0 (k := 25) rfl
theorem dX11_beginFrame_54 : decode cX11_beginFrame 54 = .ok (.aload_n 0, 1) := dec_of da_X11_beginFrame_0 (k := 26) rfl
theorem dX11_beginFrame_55 : decode cX11_beginFrame 55 = .ok (.aload_n 1, 1) := dec_of da_X11_beginFrame_0 (k := 27) rfl
theorem dX11_beginFrame_56 : decode cX11_beginFrame 56 = .ok (.iconst 5, 1) := dec_of da_X11_beginFrame_0 (k := 28) rfl
theorem dX11_beginFrame_57 : decode cX11_beginFrame 57 = .ok (.invokevirtual 386, 3) := dec_of da_X11_beginFrame_0 (k := 29) rfl
theorem dX11_beginFrame_60 : decode cX11_beginFrame 60 = .ok (.return_, 1) := dec_of da_X11_beginFrame_0 (k := 30) rfl
theorem dX11_beginFrame_61 : decode cX11_beginFrame 61 = .ok (.aload_n 0, 1) := dec_of da_X11_beginFrame_0 (k := 31) rfl
theorem dX11_beginFrame_62 : decode cX11_beginFrame 62 = .ok (.aload_n 1, 1) := dec_of da_X11_beginFrame_0 (k := 32) rfl
theorem dX11_beginFrame_63 : decode cX11_beginFrame 63 = .ok (.aload_n 2, 1) := dec_of da_X11_beginFrame_0 (k := 33) rfl
theorem dX11_beginFrame_64 : decode cX11_beginFrame 64 = .ok (.aload_n 3, 1) := dec_of da_X11_beginFrame_0 (k := 34) rfl
theorem dX11_beginFrame_65 : decode cX11_beginFrame 65 = .ok (.invokevirtual 390, 3) := dec_of da_X11_beginFrame_0 (k := 35) rfl
theorem dX11_beginFrame_68 : decode cX11_beginFrame 68 = .ok (.aload_n 1, 1) := dec_of da_X11_beginFrame_0 (k := 36) rfl
theorem dX11_beginFrame_69 : decode cX11_beginFrame 69 = .ok (.aload_n 0, 1) := dec_of da_X11_beginFrame_0 (k := 37) rfl
theorem dX11_beginFrame_70 : decode cX11_beginFrame 70 = .ok (.getfield 27, 3) := dec_of da_X11_beginFrame_0 (k := 38) rfl
theorem dX11_beginFrame_73 : decode cX11_beginFrame 73 = .ok (.aload_n 1, 1) := dec_of da_X11_beginFrame_0 (k := 39) rfl
theorem dX11_beginFrame_74 : decode cX11_beginFrame 74 = .ok (.getfield 394, 3) := dec_of da_X11_beginFrame_0 (k := 40) rfl
theorem dX11_beginFrame_77 : decode cX11_beginFrame 77 = .ok (.aload_n 1, 1) := dec_of da_X11_beginFrame_0 (k := 41) rfl
theorem dX11_beginFrame_78 : decode cX11_beginFrame 78 = .ok (.getfield 338, 3) := dec_of da_X11_beginFrame_0 (k := 42) rfl
theorem dX11_beginFrame_81 : decode cX11_beginFrame 81 = .ok (.aload_n 1, 1) := dec_of da_X11_beginFrame_0 (k := 43) rfl
theorem dX11_beginFrame_82 : decode cX11_beginFrame 82 = .ok (.getfield 375, 3) := dec_of da_X11_beginFrame_0 (k := 44) rfl
theorem dX11_beginFrame_85 : decode cX11_beginFrame 85 = .ok (.invokevirtual 378, 3) := dec_of da_X11_beginFrame_0 (k := 45) rfl
theorem dX11_beginFrame_88 : decode cX11_beginFrame 88 = .ok (.putfield 380, 3) := dec_of da_X11_beginFrame_0 (k := 46) rfl
theorem dX11_beginFrame_91 : decode cX11_beginFrame 91 = .ok (.aload_n 1, 1) := dec_of da_X11_beginFrame_0 (k := 47) rfl
theorem dX11_beginFrame_92 : decode cX11_beginFrame 92 = .ok (.iconst 0, 1) := dec_of da_X11_beginFrame_0 (k := 48) rfl
theorem dX11_beginFrame_93 : decode cX11_beginFrame 93 = .ok (.putfield 383, 3) := dec_of da_X11_beginFrame_0 (k := 49) rfl
theorem dX11_beginFrame_96 : decode cX11_beginFrame 96 = .ok (.return_, 1) := dec_of da_X11_beginFrame_0 (k := 50) rfl
def dl_X11_makeFrame_0 : List (Nat × (Instr × Nat)) := [(0, (.aload_n 1, 1)), (1, (.getfield 394, 3)), (4, (.astore 4, 2)), (6, (.aload_n 1, 1)), (7, (.getfield 335, 3)), (10, (.aload_n 2, 1)), (11, (.getfield 310, 3)), (14, (.imul, 1)), (15, (.istore 5, 2)), (17, (.aload_n 2, 1)), (18, (.getfield 310, 3)), (21, (.aload_n 2, 1)), (22, (.getfield 202, 3)), (25, (.iload 5, 2)), (27, (.isub, 1)), (28, (.invokestatic 397, 3)), (31, (.istore 6, 2)), (33, (.aload 4, 2)), (35, (.aload_n 2, 1)), (36, (.aload_n 1, 1)), (37, (.getfield 375, 3)), (40, (.aload_n 1, 1)), (41, (.getfield 335, 3)), (44, (.invokestatic 402, 3)), (47, (.bipush 24, 2)), (49, (.istore 7, 2)), (51, (.aload_n 2, 1)), (52, (.getfield 184, 3)), (55, (.ifCond .eq 26, 3)), (58, (.aload 4, 2)), (60, (.aload_n 3, 1)), (61, (.getfield 406, 3)), (64, (.invokestatic 410, 3)), (67, (.aload_n 3, 1)), (68, (.dup, 1)), (69, (.getfield 406, 3)), (72, (.lconst 1, 1)), (73, (.ladd, 1)), (74, (.putfield 406, 3)), (77, (.bipush 32, 2)), (79, (.istore 7, 2)), (81, (.aload_n 2, 1)), (82, (.getfield 195, 3)), (85, (.iload 5, 2)), (87, (.aload 4, 2)), (89, (.iload 7, 2)), (91, (.iload 6, 2)), (93, (.invokestatic 110, 3)), (96, (.iload 7, 2)), (98, (.iload 6, 2)), (100, (.iadd, 1)), (101, (.istore 7, 2)), (103, (.aload_n 2, 1)), (104, (.getfield 184, 3)), (107, (.ifCond .eq 21, 3)), (110, (.aload_n 0, 1)), (111, (.getfield 55, 3)), (114, (.aload 4, 2)), (116, (.iload 6, 2)), (118, (.aload_n 3, 1))]
set_option maxRecDepth 100000 in
theorem da_X11_makeFrame_0 : dl_X11_makeFrame_0.all (fun q => decide (decode cX11_makeFrame q.1 = .ok q.2)) = true := by decide +kernel
theorem dX11_makeFrame_0 : decode cX11_makeFrame 0 = .ok (.aload_n 1, 1) := dec_of da_X11_makeFrame_0 (k := 0) rfl
theorem dX11_makeFrame_1 : decode cX11_makeFrame 1 = .ok (.getfield 394, 3) := dec_of da_X11_makeFrame_0 (k := 1) rfl
theorem dX11_makeFrame_4 : decode cX11_makeFrame 4 = .ok (.astore 4, 2) := dec_of da_X11_makeFrame_0 (k := 2) rfl
theorem dX11_makeFrame_6 : decode cX11_makeFrame 6 = .ok (.aload_n 1, 1) := dec_of da_X11_makeFrame_0 (k := 3) rfl
theorem dX11_makeFrame_7 : decode cX11_makeFrame 7 = .ok (.getfield 335, 3) := dec_of da_X11_makeFrame_0 (k := 4) rfl
theorem dX11_makeFrame_10 : decode cX11_makeFrame 10 = .ok (.aload_n 2, 1) := dec_of da_X11_makeFrame_0 (k := 5) rfl
theorem dX11_makeFrame_11 : decode cX11_makeFrame 11 = .ok (.getfield 310, 3) := dec_of da_X11_makeFrame_0 (k := 6) rfl
theorem dX11_makeFrame_14 : decode cX11_makeFrame 14 = .ok (.imul, 1) := dec_of da_X11_makeFrame_0 (k := 7) rfl
theorem dX11_makeFrame_15 : decode cX11_makeFrame 15 = .ok (.istore 5, 2) := dec_of da_X11_makeFrame_0 (k := 8) rfl
theorem dX11_makeFrame_17 : decode cX11_makeFrame 17 = .ok (.aload_n 2, 1) := dec_of da_X11_makeFrame_0 (k := 9) rfl
theorem dX11_makeFrame_18 : decode cX11_makeFrame 18 = .ok (.getfield 310, 3) := dec_of da_X11_makeFrame_0 (k := 10) rfl
theorem dX11_makeFrame_21 : decode cX11_makeFrame 21 = .ok (.aload_n 2, 1) := dec_of da_X11_makeFrame_0 (k := 11) rfl
theorem dX11_makeFrame_22 : decode cX11_makeFrame 22 = .ok (.getfield 202, 3) := dec_of da_X11_makeFrame_0 (k := 12) rfl
theorem dX11_makeFrame_25 : decode cX11_makeFrame 25 = .ok (.iload 5, 2) := dec_of da_X11_makeFrame_0 (k := 13) rfl
theorem dX11_makeFrame_27 : decode cX11_makeFrame 27 = .ok (.isub, 1) := dec_of da_X11_makeFrame_0 (k := 14) rfl
theorem dX11_makeFrame_28 : decode cX11_makeFrame 28 = .ok (.invokestatic 397, 3) := dec_of da_X11_makeFrame_0 (k := 15) rfl
theorem dX11_makeFrame_31 : decode cX11_makeFrame 31 = .ok (.istore 6, 2) := dec_of da_X11_makeFrame_0 (k := 16) rfl
theorem dX11_makeFrame_33 : decode cX11_makeFrame 33 = .ok (.aload 4, 2) := dec_of da_X11_makeFrame_0 (k := 17) rfl
theorem dX11_makeFrame_35 : decode cX11_makeFrame 35 = .ok (.aload_n 2, 1) := dec_of da_X11_makeFrame_0 (k := 18) rfl
theorem dX11_makeFrame_36 : decode cX11_makeFrame 36 = .ok (.aload_n 1, 1) := dec_of da_X11_makeFrame_0 (k := 19) rfl
theorem dX11_makeFrame_37 : decode cX11_makeFrame 37 = .ok (.getfield 375, 3) := dec_of da_X11_makeFrame_0 (k := 20) rfl
theorem dX11_makeFrame_40 : decode cX11_makeFrame 40 = .ok (.aload_n 1, 1) := dec_of da_X11_makeFrame_0 (k := 21) rfl
theorem dX11_makeFrame_41 : decode cX11_makeFrame 41 = .ok (.getfield 335, 3) := dec_of da_X11_makeFrame_0 (k := 22) rfl
theorem dX11_makeFrame_44 : decode cX11_makeFrame 44 = .ok (.invokestatic 402, 3) := dec_of da_X11_makeFrame_0 (k := 23) rfl
theorem dX11_makeFrame_47 : decode cX11_makeFrame 47 = .ok (.bipush 24, 2) := dec_of da_X11_makeFrame_0 (k := 24) rfl
theorem dX11_makeFrame_49 : decode cX11_makeFrame 49 = .ok (.istore 7, 2) := dec_of da_X11_makeFrame_0 (k := 25) rfl
theorem dX11_makeFrame_51 : decode cX11_makeFrame 51 = .ok (.aload_n 2, 1) := dec_of da_X11_makeFrame_0 (k := 26) rfl
theorem dX11_makeFrame_52 : decode cX11_makeFrame 52 = .ok (.getfield 184, 3) := dec_of da_X11_makeFrame_0 (k := 27) rfl
theorem dX11_makeFrame_55 : decode cX11_makeFrame 55 = .ok (.ifCond .eq 26, 3) := dec_of da_X11_makeFrame_0 (k := 28) rfl
theorem dX11_makeFrame_58 : decode cX11_makeFrame 58 = .ok (.aload 4, 2) := dec_of da_X11_makeFrame_0 (k := 29) rfl
theorem dX11_makeFrame_60 : decode cX11_makeFrame 60 = .ok (.aload_n 3, 1) := dec_of da_X11_makeFrame_0 (k := 30) rfl
theorem dX11_makeFrame_61 : decode cX11_makeFrame 61 = .ok (.getfield 406, 3) := dec_of da_X11_makeFrame_0 (k := 31) rfl
theorem dX11_makeFrame_64 : decode cX11_makeFrame 64 = .ok (.invokestatic 410, 3) := dec_of da_X11_makeFrame_0 (k := 32) rfl
theorem dX11_makeFrame_67 : decode cX11_makeFrame 67 = .ok (.aload_n 3, 1) := dec_of da_X11_makeFrame_0 (k := 33) rfl
theorem dX11_makeFrame_68 : decode cX11_makeFrame 68 = .ok (.dup, 1) := dec_of da_X11_makeFrame_0 (k := 34) rfl
theorem dX11_makeFrame_69 : decode cX11_makeFrame 69 = .ok (.getfield 406, 3) := dec_of da_X11_makeFrame_0 (k := 35) rfl
theorem dX11_makeFrame_72 : decode cX11_makeFrame 72 = .ok (.lconst 1, 1) := dec_of da_X11_makeFrame_0 (k := 36) rfl
theorem dX11_makeFrame_73 : decode cX11_makeFrame 73 = .ok (.ladd, 1) := dec_of da_X11_makeFrame_0 (k := 37) rfl
theorem dX11_makeFrame_74 : decode cX11_makeFrame 74 = .ok (.putfield 406, 3) := dec_of da_X11_makeFrame_0 (k := 38) rfl
theorem dX11_makeFrame_77 : decode cX11_makeFrame 77 = .ok (.bipush 32, 2) := dec_of da_X11_makeFrame_0 (k := 39) rfl
theorem dX11_makeFrame_79 : decode cX11_makeFrame 79 = .ok (.istore 7, 2) := dec_of da_X11_makeFrame_0 (k := 40) rfl
theorem dX11_makeFrame_81 : decode cX11_makeFrame 81 = .ok (.aload_n 2, 1) := dec_of da_X11_makeFrame_0 (k := 41) rfl
theorem dX11_makeFrame_82 : decode cX11_makeFrame 82 = .ok (.getfield 195, 3) := dec_of da_X11_makeFrame_0 (k := 42) rfl
theorem dX11_makeFrame_85 : decode cX11_makeFrame 85 = .ok (.iload 5, 2) := dec_of da_X11_makeFrame_0 (k := 43) rfl
theorem dX11_makeFrame_87 : decode cX11_makeFrame 87 = .ok (.aload 4, 2) := dec_of da_X11_makeFrame_0 (k := 44) rfl
theorem dX11_makeFrame_89 : decode cX11_makeFrame 89 = .ok (.iload 7, 2) := dec_of da_X11_makeFrame_0 (k := 45) rfl
theorem dX11_makeFrame_91 : decode cX11_makeFrame 91 = .ok (.iload 6, 2) := dec_of da_X11_makeFrame_0 (k := 46) rfl
theorem dX11_makeFrame_93 : decode cX11_makeFrame 93 = .ok (.invokestatic 110, 3) := dec_of da_X11_makeFrame_0 (k := 47) rfl
theorem dX11_makeFrame_96 : decode cX11_makeFrame 96 = .ok (.iload 7, 2) := dec_of da_X11_makeFrame_0 (k := 48) rfl
theorem dX11_makeFrame_98 : decode cX11_makeFrame 98 = .ok (.iload 6, 2) := dec_of da_X11_makeFrame_0 (k := 49) rfl
theorem dX11_makeFrame_100 : decode cX11_makeFrame 100 = .ok (.iadd, 1) := dec_of da_X11_makeFrame_0 (k := 50) rfl
theorem dX11_makeFrame_101 : decode cX11_makeFrame 101 = .ok (.istore 7, 2) := dec_of da_X11_makeFrame_0 (k := 51) rfl
theorem dX11_makeFrame_103 : decode cX11_makeFrame 103 = .ok (.aload_n 2, 1) := dec_of da_X11_makeFrame_0 (k := 52) rfl
theorem dX11_makeFrame_104 : decode cX11_makeFrame 104 = .ok (.getfield 184, 3) := dec_of da_X11_makeFrame_0 (k := 53) rfl
theorem dX11_makeFrame_107 : decode cX11_makeFrame 107 = .ok (.ifCond .eq 21, 3) := dec_of da_X11_makeFrame_0 (k := 54) rfl
theorem dX11_makeFrame_110 : decode cX11_makeFrame 110 = .ok (.aload_n 0, 1) := dec_of da_X11_makeFrame_0 (k := 55) rfl
theorem dX11_makeFrame_111 : decode cX11_makeFrame 111 = .ok (.getfield 55, 3) := dec_of da_X11_makeFrame_0 (k := 56) rfl
theorem dX11_makeFrame_114 : decode cX11_makeFrame 114 = .ok (.aload 4, 2) := dec_of da_X11_makeFrame_0 (k := 57) rfl
theorem dX11_makeFrame_116 : decode cX11_makeFrame 116 = .ok (.iload 6, 2) := dec_of da_X11_makeFrame_0 (k := 58) rfl
theorem dX11_makeFrame_118 : decode cX11_makeFrame 118 = .ok (.aload_n 3, 1) := dec_of da_X11_makeFrame_0 (k := 59) rfl
def dl_X11_makeFrame_1 : List (Nat × (Instr × Nat)) := [(119, (.getfield 284, 3)), (122, (.invokevirtual 414, 3)), (125, (.iinc 7 8, 3)), (128, (.aload 4, 2)), (130, (.iload 7, 2)), (132, (.invokestatic 95, 3)), (135, (.aload_n 1, 1)), (136, (.iload 7, 2)), (138, (.iconst 4, 1)), (139, (.iadd, 1)), (140, (.putfield 338, 3)), (143, (.return_, 1))]
set_option maxRecDepth 100000 in
theorem da_X11_makeFrame_1 : dl_X11_makeFrame_1.all (fun q => decide (decode cX11_makeFrame q.1 = .ok q.2)) = true := by decide +kernel
theorem dX11_makeFrame_119 : decode cX11_makeFrame 119 = .ok (.getfield 284, 3) := dec_of da_X11_makeFrame_1 (k := 0) rfl
theorem dX11_makeFrame_122 : decode cX11_makeFrame 122 = .ok (.invokevirtual 414, 3) := dec_of da_X11_makeFrame_1 (k := 1) rfl
theorem dX11_makeFrame_125 : decode cX11_makeFrame 125 = .ok (.iinc 7 8, 3) := dec_of da_X11_makeFrame_1 (k := 2) rfl
theorem dX11_makeFrame_128 : decode cX11_makeFrame 128 = .ok (.aload 4, 2) := dec_of da_X11_makeFrame_1 (k := 3) rfl
theorem dX11_makeFrame_130 : decode cX11_makeFrame 130 = .ok (.iload 7, 2) := dec_of da_X11_makeFrame_1 (k := 4) rfl
theorem dX11_makeFrame_132 : decode cX11_makeFrame 132 = .ok (.invokestatic 95, 3) := dec_of da_X11_makeFrame_1 (k := 5) rfl
theorem dX11_makeFrame_135 : decode cX11_makeFrame 135 = .ok (.aload_n 1, 1) := dec_of da_X11_makeFrame_1 (k := 6) rfl
theorem dX11_makeFrame_136 : decode cX11_makeFrame 136 = .ok (.iload 7, 2) := dec_of da_X11_makeFrame_1 (k := 7) rfl
theorem dX11_makeFrame_138 : decode cX11_makeFrame 138 = .ok (.iconst 4, 1) := dec_of da_X11_makeFrame_1 (k := 8) rfl
theorem dX11_makeFrame_139 : decode cX11_makeFrame 139 = .ok (.iadd, 1) := dec_of da_X11_makeFrame_1 (k := 9) rfl
theorem dX11_makeFrame_140 : decode cX11_makeFrame 140 = .ok (.putfield 338, 3) := dec_of da_X11_makeFrame_1 (k := 10) rfl
theorem dX11_makeFrame_143 : decode cX11_makeFrame 143 = .ok (.return_, 1) := dec_of da_X11_makeFrame_1 (k := 11) rfl
def dl_X11_endFrames_0 : List (Nat × (Instr × Nat)) := [(0, (.iconst 0, 1)), (1, (.istore_n 1, 1)), (2, (.iload_n 1, 1)), (3, (.bipush 9, 2)), (5, (.if_icmp .ge 48, 3)), (8, (.aload_n 0, 1)), (9, (.getfield 11, 3)), (12, (.iload_n 1, 1)), (13, (.aaload, 1)), (14, (.astore_n 2, 1)), (15, (.aload_n 2, 1)), (16, (.getfield 380, 3)), (19, (.aload_n 0, 1)), (20, (.getfield 27, 3)), (23, (.getfield 139, 3)), (26, (.if_icmp .ne 21, 3)), (29, (.aload_n 2, 1)), (30, (.getfield 383, 3)), (33, (.ifCond .ne 14, 3)), (36, (.aload_n 2, 1)), (37, (.aload_n 0, 1)), (38, (.getfield 27, 3)), (41, (.getfield 139, 3)), (44, (.putfield 263, 3)), (47, (.iinc 1 1, 3)), (50, (.goto (-48), 3)), (53, (.aload_n 0, 1)), (54, (.getfield 27, 3)), (57, (.invokevirtual 418, 3)), (60, (.ifCond .eq 10, 3)), (63, (.aload_n 0, 1)), (64, (.invokevirtual 421, 3)), (67, (.goto 4, 3)), (70, (.iconst (-1), 1)), (71, (.ireturn, 1))]
set_option maxRecDepth 100000 in
theorem da_X11_endFrames_0 : dl_X11_endFrames_0.all (fun q => decide (decode cX11_endFrames q.1 = .ok q.2)) = true := by decide +kernel
theorem dX11_endFrames_0 : decode cX11_endFrames 0 = .ok (.iconst 0, 1) := dec_of da_X11_endFrames_0 (k := 0) rfl
theorem dX11_endFrames_1 : decode cX11_endFrames 1 = .ok (.istore_n 1, 1) := dec_of da_X11_endFrames_0 (k := 1) rfl
theorem dX11_endFrames_2 : decode cX11_endFrames 2 = .ok (.iload_n 1, 1) := dec_of da_X11_endFrames_0 (k := 2) rfl
theorem dX11_endFrames_3 : decode cX11_endFrames 3 = .ok (.bipush 9, 2) := dec_of da_X11_endFrames_0 (k := 3) rfl
theorem dX11_endFrames_5 : decode cX11_endFrames 5 = .ok (.if_icmp .ge 48, 3) := dec_of da_X11_endFrames_0 (k := 4) rfl
theorem dX11_endFrames_8 : decode cX11_endFrames 8 = .ok (.aload_n 0, 1) := dec_of da_X11_endFrames_0 (k := 5) rfl
theorem dX11_endFrames_9 : decode cX11_endFrames 9 = .ok (.getfield 11, 3) := dec_of da_X11_endFrames_0 (k := 6) rfl
theorem dX11_endFrames_12 : decode cX11_endFrames 12 = .ok (.iload_n 1, 1) := dec_of da_X11_endFrames_0 (k := 7) rfl
theorem dX11_endFrames_13 : decode cX11_endFrames 13 = .ok (.aaload, 1) := dec_of da_X11_endFrames_0 (k := 8) rfl
theorem dX11_endFrames_14 : decode cX11_endFrames 14 = .ok (.astore_n 2, 1) := dec_of da_X11_endFrames_0 (k := 9) rfl
theorem dX11_endFrames_15 : decode cX11_endFrames 15 = .ok (.aload_n 2, 1) := dec_of da_X11_endFrames_0 (k := 10) rfl
theorem dX11_endFrames_16 : decode cX11_endFrames 16 = .ok (.getfield 380, 3) := dec_of da_X11_endFrames_0 (k := 11) rfl
theorem dX11_endFrames_19 : decode cX11_endFrames 19 = .ok (.aload_n 0, 1) := dec_of da_X11_endFrames_0 (k := 12) rfl
theorem dX11_endFrames_20 : decode cX11_endFrames 20 = .ok (.getfield 27, 3) := dec_of da_X11_endFrames_0 (k := 13) rfl
theorem dX11_endFrames_23 : decode cX11_endFrames 23 = .ok (.getfield 139, 3) := dec_of da_X11_endFrames_0 (k := 14) rfl
theorem dX11_endFrames_26 : decode cX11_endFrames 26 = .ok (.if_icmp .ne 21, 3) := dec_of da_X11_endFrames_0 (k := 15) rfl
theorem dX11_endFrames_29 : decode cX11_endFrames 29 = .ok (.aload_n 2, 1) := dec_of da_X11_endFrames_0 (k := 16) rfl
theorem dX11_endFrames_30 : decode cX11_endFrames 30 = .ok (.getfield 383, 3) := dec_of da_X11_endFrames_0 (k := 17) rfl
theorem dX11_endFrames_33 : decode cX11_endFrames 33 = .ok (.ifCond .ne 14, 3) := dec_of da_X11_endFrames_0 (k := 18) rfl
theorem dX11_endFrames_36 : decode cX11_endFrames 36 = .ok (.aload_n 2, 1) := dec_of da_X11_endFrames_0 (k := 19) rfl
theorem dX11_endFrames_37 : decode cX11_endFrames 37 = .ok (.aload_n 0, 1) := dec_of da_X11_endFrames_0 (k := 20) rfl
theorem dX11_endFrames_38 : decode cX11_endFrames 38 = .ok (.getfield 27, 3) := dec_of da_X11_endFrames_0 (k := 21) rfl
theorem dX11_endFrames_41 : decode cX11_endFrames 41 = .ok (.getfield 139, 3) := dec_of da_X11_endFrames_0 (k := 22) rfl
theorem dX11_endFrames_44 : decode cX11_endFrames 44 = .ok (.putfield 263, 3) := dec_of da_X11_endFrames_0 (k := 23) rfl
theorem dX11_endFrames_47 : decode cX11_endFrames 47 = .ok (.iinc 1 1, 3) := dec_of da_X11_endFrames_0 (k := 24) rfl
theorem dX11_endFrames_50 : decode cX11_endFrames 50 = .ok (.goto (-48), 3) := dec_of da_X11_endFrames_0 (k := 25) rfl
theorem dX11_endFrames_53 : decode cX11_endFrames 53 = .ok (.aload_n 0, 1) := dec_of da_X11_endFrames_0 (k := 26) rfl
theorem dX11_endFrames_54 : decode cX11_endFrames 54 = .ok (.getfield 27, 3) := dec_of da_X11_endFrames_0 (k := 27) rfl
theorem dX11_endFrames_57 : decode cX11_endFrames 57 = .ok (.invokevirtual 418, 3) := dec_of da_X11_endFrames_0 (k := 28) rfl
theorem dX11_endFrames_60 : decode cX11_endFrames 60 = .ok (.ifCond .eq 10, 3) := dec_of da_X11_endFrames_0 (k := 29) rfl
theorem dX11_endFrames_63 : decode cX11_endFrames 63 = .ok (.aload_n 0, 1) := dec_of da_X11_endFrames_0 (k := 30) rfl
theorem dX11_endFrames_64 : decode cX11_endFrames 64 = .ok (.invokevirtual 421, 3) := dec_of da_X11_endFrames_0 (k := 31) rfl
theorem dX11_endFrames_67 : decode cX11_endFrames 67 = .ok (.goto 4, 3) := dec_of da_X11_endFrames_0 (k := 32) rfl
theorem dX11_endFrames_70 : decode cX11_endFrames 70 = .ok (.iconst (-1), 1) := dec_of da_X11_endFrames_0 (k := 33) rfl
theorem dX11_endFrames_71 : decode cX11_endFrames 71 = .ok (.ireturn, 1) := dec_of da_X11_endFrames_0 (k := 34) rfl
def dl_X11_takeFrame_0 : List (Nat × (Instr × Nat)) := [(0, (.aload_n 0, 1)), (1, (.getfield 27, 3)), (4, (.invokevirtual 228, 3)), (7, (.astore_n 1, 1)), (8, (.aload_n 1, 1)), (9, (.aload_n 0, 1)), (10, (.getfield 27, 3)), (13, (.invokevirtual 424, 3)), (16, (.invokestatic 427, 3)), (19, (.ifCond .ne 5, 3)), (22, (.iconst (-1), 1)), (23, (.ireturn, 1)), (24, (.aload_n 1, 1)), (25, (.iconst 4, 1)), (26, (.invokestatic 431, 3)), (29, (.istore_n 2, 1)), (30, (.iload_n 2, 1)), (31, (.iconst (-1), 1)), (32, (.if_icmp .eq 14, 3)), (35, (.iload_n 2, 1)), (36, (.aload_n 0, 1)), (37, (.getfield 27, 3)), (40, (.invokevirtual 435, 3)), (43, (.if_icmp .ne 5, 3)), (46, (.iconst (-1), 1)), (47, (.ireturn, 1)), (48, (.aload_n 0, 1)), (49, (.getfield 11, 3)), (52, (.iload_n 2, 1)), (53, (.aaload, 1)), (54, (.astore_n 3, 1)), (55, (.aload_n 1, 1)), (56, (.iconst 0, 1)), (57, (.iaload, 1)), (58, (.sipush 212, 3)), (61, (.if_icmp .ne 10, 3)), (64, (.aload_n 0, 1)), (65, (.aload_n 3, 1)), (66, (.invokevirtual 438, 3)), (69, (.iconst (-1), 1)), (70, (.ireturn, 1)), (71, (.aload_n 3, 1)), (72, (.aload_n 0, 1)), (73, (.getfield 27, 3)), (76, (.getfield 139, 3)), (79, (.iconst 2, 1)), (80, (.iadd, 1)), (81, (.putfield 344, 3)), (84, (.aload_n 3, 1)), (85, (.iconst 1, 1)), (86, (.putfield 354, 3)), (89, (.aload_n 1, 1)), (90, (.bipush 10, 2)), (92, (.aload_n 3, 1)), (93, (.getfield 372, 3)), (96, (.iconst 0, 1)), (97, (.aload_n 3, 1)), (98, (.getfield 372, 3)), (101, (.arraylength, 1)), (102, (.invokestatic 110, 3))]
set_option maxRecDepth 100000 in
theorem da_X11_takeFrame_0 : dl_X11_takeFrame_0.all (fun q => decide (decode cX11_takeFrame q.1 = .ok q.2)) = true := by decide +kernel
theorem dX11_takeFrame_0 : decode cX11_takeFrame 0 = .ok (.aload_n 0, 1) := dec_of da_X11_takeFrame_0 (k := 0) rfl
theorem dX11_takeFrame_1 : decode cX11_takeFrame 1 = .ok (.getfield 27, 3) := dec_of da_X11_takeFrame_0 (k := 1) rfl
theorem dX11_takeFrame_4 : decode cX11_takeFrame 4 = .ok (.invokevirtual 228, 3) := dec_of da_X11_takeFrame_0 (k := 2) rfl
theorem dX11_takeFrame_7 : decode cX11_takeFrame 7 = .ok (.astore_n 1, 1) := dec_of da_X11_takeFrame_0 (k := 3) rfl
theorem dX11_takeFrame_8 : decode cX11_takeFrame 8 = .ok (.aload_n 1, 1) := dec_of da_X11_takeFrame_0 (k := 4) rfl
theorem dX11_takeFrame_9 : decode cX11_takeFrame 9 = .ok (.aload_n 0, 1) := dec_of da_X11_takeFrame_0 (k := 5) rfl
theorem dX11_takeFrame_10 : decode cX11_takeFrame 10 = .ok (.getfield 27, 3) := dec_of da_X11_takeFrame_0 (k := 6) rfl
theorem dX11_takeFrame_13 : decode cX11_takeFrame 13 = .ok (.invokevirtual 424, 3) := dec_of da_X11_takeFrame_0 (k := 7) rfl
theorem dX11_takeFrame_16 : decode cX11_takeFrame 16 = .ok (.invokestatic 427, 3) := dec_of da_X11_takeFrame_0 (k := 8) rfl
theorem dX11_takeFrame_19 : decode cX11_takeFrame 19 = .ok (.ifCond .ne 5, 3) := dec_of da_X11_takeFrame_0 (k := 9) rfl
theorem dX11_takeFrame_22 : decode cX11_takeFrame 22 = .ok (.iconst (-1), 1) := dec_of da_X11_takeFrame_0 (k := 10) rfl
theorem dX11_takeFrame_23 : decode cX11_takeFrame 23 = .ok (.ireturn, 1) := dec_of da_X11_takeFrame_0 (k := 11) rfl
theorem dX11_takeFrame_24 : decode cX11_takeFrame 24 = .ok (.aload_n 1, 1) := dec_of da_X11_takeFrame_0 (k := 12) rfl
theorem dX11_takeFrame_25 : decode cX11_takeFrame 25 = .ok (.iconst 4, 1) := dec_of da_X11_takeFrame_0 (k := 13) rfl
theorem dX11_takeFrame_26 : decode cX11_takeFrame 26 = .ok (.invokestatic 431, 3) := dec_of da_X11_takeFrame_0 (k := 14) rfl
theorem dX11_takeFrame_29 : decode cX11_takeFrame 29 = .ok (.istore_n 2, 1) := dec_of da_X11_takeFrame_0 (k := 15) rfl
theorem dX11_takeFrame_30 : decode cX11_takeFrame 30 = .ok (.iload_n 2, 1) := dec_of da_X11_takeFrame_0 (k := 16) rfl
theorem dX11_takeFrame_31 : decode cX11_takeFrame 31 = .ok (.iconst (-1), 1) := dec_of da_X11_takeFrame_0 (k := 17) rfl
theorem dX11_takeFrame_32 : decode cX11_takeFrame 32 = .ok (.if_icmp .eq 14, 3) := dec_of da_X11_takeFrame_0 (k := 18) rfl
theorem dX11_takeFrame_35 : decode cX11_takeFrame 35 = .ok (.iload_n 2, 1) := dec_of da_X11_takeFrame_0 (k := 19) rfl
theorem dX11_takeFrame_36 : decode cX11_takeFrame 36 = .ok (.aload_n 0, 1) := dec_of da_X11_takeFrame_0 (k := 20) rfl
theorem dX11_takeFrame_37 : decode cX11_takeFrame 37 = .ok (.getfield 27, 3) := dec_of da_X11_takeFrame_0 (k := 21) rfl
theorem dX11_takeFrame_40 : decode cX11_takeFrame 40 = .ok (.invokevirtual 435, 3) := dec_of da_X11_takeFrame_0 (k := 22) rfl
theorem dX11_takeFrame_43 : decode cX11_takeFrame 43 = .ok (.if_icmp .ne 5, 3) := dec_of da_X11_takeFrame_0 (k := 23) rfl
theorem dX11_takeFrame_46 : decode cX11_takeFrame 46 = .ok (.iconst (-1), 1) := dec_of da_X11_takeFrame_0 (k := 24) rfl
theorem dX11_takeFrame_47 : decode cX11_takeFrame 47 = .ok (.ireturn, 1) := dec_of da_X11_takeFrame_0 (k := 25) rfl
theorem dX11_takeFrame_48 : decode cX11_takeFrame 48 = .ok (.aload_n 0, 1) := dec_of da_X11_takeFrame_0 (k := 26) rfl
theorem dX11_takeFrame_49 : decode cX11_takeFrame 49 = .ok (.getfield 11, 3) := dec_of da_X11_takeFrame_0 (k := 27) rfl
theorem dX11_takeFrame_52 : decode cX11_takeFrame 52 = .ok (.iload_n 2, 1) := dec_of da_X11_takeFrame_0 (k := 28) rfl
theorem dX11_takeFrame_53 : decode cX11_takeFrame 53 = .ok (.aaload, 1) := dec_of da_X11_takeFrame_0 (k := 29) rfl
theorem dX11_takeFrame_54 : decode cX11_takeFrame 54 = .ok (.astore_n 3, 1) := dec_of da_X11_takeFrame_0 (k := 30) rfl
theorem dX11_takeFrame_55 : decode cX11_takeFrame 55 = .ok (.aload_n 1, 1) := dec_of da_X11_takeFrame_0 (k := 31) rfl
theorem dX11_takeFrame_56 : decode cX11_takeFrame 56 = .ok (.iconst 0, 1) := dec_of da_X11_takeFrame_0 (k := 32) rfl
theorem dX11_takeFrame_57 : decode cX11_takeFrame 57 = .ok (.iaload, 1) := dec_of da_X11_takeFrame_0 (k := 33) rfl
theorem dX11_takeFrame_58 : decode cX11_takeFrame 58 = .ok (.sipush 212, 3) := dec_of da_X11_takeFrame_0 (k := 34) rfl
theorem dX11_takeFrame_61 : decode cX11_takeFrame 61 = .ok (.if_icmp .ne 10, 3) := dec_of da_X11_takeFrame_0 (k := 35) rfl
theorem dX11_takeFrame_64 : decode cX11_takeFrame 64 = .ok (.aload_n 0, 1) := dec_of da_X11_takeFrame_0 (k := 36) rfl
theorem dX11_takeFrame_65 : decode cX11_takeFrame 65 = .ok (.aload_n 3, 1) := dec_of da_X11_takeFrame_0 (k := 37) rfl
theorem dX11_takeFrame_66 : decode cX11_takeFrame 66 = .ok (.invokevirtual 438, 3) := dec_of da_X11_takeFrame_0 (k := 38) rfl
theorem dX11_takeFrame_69 : decode cX11_takeFrame 69 = .ok (.iconst (-1), 1) := dec_of da_X11_takeFrame_0 (k := 39) rfl
theorem dX11_takeFrame_70 : decode cX11_takeFrame 70 = .ok (.ireturn, 1) := dec_of da_X11_takeFrame_0 (k := 40) rfl
theorem dX11_takeFrame_71 : decode cX11_takeFrame 71 = .ok (.aload_n 3, 1) := dec_of da_X11_takeFrame_0 (k := 41) rfl
theorem dX11_takeFrame_72 : decode cX11_takeFrame 72 = .ok (.aload_n 0, 1) := dec_of da_X11_takeFrame_0 (k := 42) rfl
theorem dX11_takeFrame_73 : decode cX11_takeFrame 73 = .ok (.getfield 27, 3) := dec_of da_X11_takeFrame_0 (k := 43) rfl
theorem dX11_takeFrame_76 : decode cX11_takeFrame 76 = .ok (.getfield 139, 3) := dec_of da_X11_takeFrame_0 (k := 44) rfl
theorem dX11_takeFrame_79 : decode cX11_takeFrame 79 = .ok (.iconst 2, 1) := dec_of da_X11_takeFrame_0 (k := 45) rfl
theorem dX11_takeFrame_80 : decode cX11_takeFrame 80 = .ok (.iadd, 1) := dec_of da_X11_takeFrame_0 (k := 46) rfl
theorem dX11_takeFrame_81 : decode cX11_takeFrame 81 = .ok (.putfield 344, 3) := dec_of da_X11_takeFrame_0 (k := 47) rfl
theorem dX11_takeFrame_84 : decode cX11_takeFrame 84 = .ok (.aload_n 3, 1) := dec_of da_X11_takeFrame_0 (k := 48) rfl
theorem dX11_takeFrame_85 : decode cX11_takeFrame 85 = .ok (.iconst 1, 1) := dec_of da_X11_takeFrame_0 (k := 49) rfl
theorem dX11_takeFrame_86 : decode cX11_takeFrame 86 = .ok (.putfield 354, 3) := dec_of da_X11_takeFrame_0 (k := 50) rfl
theorem dX11_takeFrame_89 : decode cX11_takeFrame 89 = .ok (.aload_n 1, 1) := dec_of da_X11_takeFrame_0 (k := 51) rfl
theorem dX11_takeFrame_90 : decode cX11_takeFrame 90 = .ok (.bipush 10, 2) := dec_of da_X11_takeFrame_0 (k := 52) rfl
theorem dX11_takeFrame_92 : decode cX11_takeFrame 92 = .ok (.aload_n 3, 1) := dec_of da_X11_takeFrame_0 (k := 53) rfl
theorem dX11_takeFrame_93 : decode cX11_takeFrame 93 = .ok (.getfield 372, 3) := dec_of da_X11_takeFrame_0 (k := 54) rfl
theorem dX11_takeFrame_96 : decode cX11_takeFrame 96 = .ok (.iconst 0, 1) := dec_of da_X11_takeFrame_0 (k := 55) rfl
theorem dX11_takeFrame_97 : decode cX11_takeFrame 97 = .ok (.aload_n 3, 1) := dec_of da_X11_takeFrame_0 (k := 56) rfl
theorem dX11_takeFrame_98 : decode cX11_takeFrame 98 = .ok (.getfield 372, 3) := dec_of da_X11_takeFrame_0 (k := 57) rfl
theorem dX11_takeFrame_101 : decode cX11_takeFrame 101 = .ok (.arraylength, 1) := dec_of da_X11_takeFrame_0 (k := 58) rfl
theorem dX11_takeFrame_102 : decode cX11_takeFrame 102 = .ok (.invokestatic 110, 3) := dec_of da_X11_takeFrame_0 (k := 59) rfl
def dl_X11_takeFrame_1 : List (Nat × (Instr × Nat)) := [(105, (.aload_n 1, 1)), (106, (.bipush 10, 2)), (108, (.invokestatic 431, 3)), (111, (.istore 4, 2)), (113, (.iload 4, 2)), (115, (.iconst (-1), 1)), (116, (.if_icmp .eq 13, 3)), (119, (.aload_n 3, 1)), (120, (.aload_n 1, 1)), (121, (.iload 4, 2)), (123, (.invokevirtual 441, 3)), (126, (.ifCond .eq 5, 3)), (129, (.iconst (-1), 1)), (130, (.ireturn, 1)), (131, (.iload_n 2, 1)), (132, (.ifCond .ne 7, 3)), (135, (.iconst 1, 1)), (136, (.goto 4, 3)), (139, (.iconst 0, 1)), (140, (.iload 4, 2)), (142, (.ifCond .ne 7, 3)), (145, (.iconst 1, 1)), (146, (.goto 4, 3)), (149, (.iconst 0, 1)), (150, (.if_icmp .ne 7, 3)), (153, (.iconst (-1), 1)), (154, (.goto 4, 3)), (157, (.iload_n 2, 1)), (158, (.ireturn, 1))]
set_option maxRecDepth 100000 in
theorem da_X11_takeFrame_1 : dl_X11_takeFrame_1.all (fun q => decide (decode cX11_takeFrame q.1 = .ok q.2)) = true := by decide +kernel
theorem dX11_takeFrame_105 : decode cX11_takeFrame 105 = .ok (.aload_n 1, 1) := dec_of da_X11_takeFrame_1 (k := 0) rfl
theorem dX11_takeFrame_106 : decode cX11_takeFrame 106 = .ok (.bipush 10, 2) := dec_of da_X11_takeFrame_1 (k := 1) rfl
theorem dX11_takeFrame_108 : decode cX11_takeFrame 108 = .ok (.invokestatic 431, 3) := dec_of da_X11_takeFrame_1 (k := 2) rfl
theorem dX11_takeFrame_111 : decode cX11_takeFrame 111 = .ok (.istore 4, 2) := dec_of da_X11_takeFrame_1 (k := 3) rfl
theorem dX11_takeFrame_113 : decode cX11_takeFrame 113 = .ok (.iload 4, 2) := dec_of da_X11_takeFrame_1 (k := 4) rfl
theorem dX11_takeFrame_115 : decode cX11_takeFrame 115 = .ok (.iconst (-1), 1) := dec_of da_X11_takeFrame_1 (k := 5) rfl
theorem dX11_takeFrame_116 : decode cX11_takeFrame 116 = .ok (.if_icmp .eq 13, 3) := dec_of da_X11_takeFrame_1 (k := 6) rfl
theorem dX11_takeFrame_119 : decode cX11_takeFrame 119 = .ok (.aload_n 3, 1) := dec_of da_X11_takeFrame_1 (k := 7) rfl
theorem dX11_takeFrame_120 : decode cX11_takeFrame 120 = .ok (.aload_n 1, 1) := dec_of da_X11_takeFrame_1 (k := 8) rfl
theorem dX11_takeFrame_121 : decode cX11_takeFrame 121 = .ok (.iload 4, 2) := dec_of da_X11_takeFrame_1 (k := 9) rfl
theorem dX11_takeFrame_123 : decode cX11_takeFrame 123 = .ok (.invokevirtual 441, 3) := dec_of da_X11_takeFrame_1 (k := 10) rfl
theorem dX11_takeFrame_126 : decode cX11_takeFrame 126 = .ok (.ifCond .eq 5, 3) := dec_of da_X11_takeFrame_1 (k := 11) rfl
theorem dX11_takeFrame_129 : decode cX11_takeFrame 129 = .ok (.iconst (-1), 1) := dec_of da_X11_takeFrame_1 (k := 12) rfl
theorem dX11_takeFrame_130 : decode cX11_takeFrame 130 = .ok (.ireturn, 1) := dec_of da_X11_takeFrame_1 (k := 13) rfl
theorem dX11_takeFrame_131 : decode cX11_takeFrame 131 = .ok (.iload_n 2, 1) := dec_of da_X11_takeFrame_1 (k := 14) rfl
theorem dX11_takeFrame_132 : decode cX11_takeFrame 132 = .ok (.ifCond .ne 7, 3) := dec_of da_X11_takeFrame_1 (k := 15) rfl
theorem dX11_takeFrame_135 : decode cX11_takeFrame 135 = .ok (.iconst 1, 1) := dec_of da_X11_takeFrame_1 (k := 16) rfl
theorem dX11_takeFrame_136 : decode cX11_takeFrame 136 = .ok (.goto 4, 3) := dec_of da_X11_takeFrame_1 (k := 17) rfl
theorem dX11_takeFrame_139 : decode cX11_takeFrame 139 = .ok (.iconst 0, 1) := dec_of da_X11_takeFrame_1 (k := 18) rfl
theorem dX11_takeFrame_140 : decode cX11_takeFrame 140 = .ok (.iload 4, 2) := dec_of da_X11_takeFrame_1 (k := 19) rfl
theorem dX11_takeFrame_142 : decode cX11_takeFrame 142 = .ok (.ifCond .ne 7, 3) := dec_of da_X11_takeFrame_1 (k := 20) rfl
theorem dX11_takeFrame_145 : decode cX11_takeFrame 145 = .ok (.iconst 1, 1) := dec_of da_X11_takeFrame_1 (k := 21) rfl
theorem dX11_takeFrame_146 : decode cX11_takeFrame 146 = .ok (.goto 4, 3) := dec_of da_X11_takeFrame_1 (k := 22) rfl
theorem dX11_takeFrame_149 : decode cX11_takeFrame 149 = .ok (.iconst 0, 1) := dec_of da_X11_takeFrame_1 (k := 23) rfl
theorem dX11_takeFrame_150 : decode cX11_takeFrame 150 = .ok (.if_icmp .ne 7, 3) := dec_of da_X11_takeFrame_1 (k := 24) rfl
theorem dX11_takeFrame_153 : decode cX11_takeFrame 153 = .ok (.iconst (-1), 1) := dec_of da_X11_takeFrame_1 (k := 25) rfl
theorem dX11_takeFrame_154 : decode cX11_takeFrame 154 = .ok (.goto 4, 3) := dec_of da_X11_takeFrame_1 (k := 26) rfl
theorem dX11_takeFrame_157 : decode cX11_takeFrame 157 = .ok (.iload_n 2, 1) := dec_of da_X11_takeFrame_1 (k := 27) rfl
theorem dX11_takeFrame_158 : decode cX11_takeFrame 158 = .ok (.ireturn, 1) := dec_of da_X11_takeFrame_1 (k := 28) rfl
def dl_X11_takeAck_0 : List (Nat × (Instr × Nat)) := [(0, (.aload_n 1, 1)), (1, (.getfield 263, 3)), (4, (.iconst (-1), 1)), (5, (.if_icmp .eq 13, 3)), (8, (.aload_n 1, 1)), (9, (.getfield 247, 3)), (12, (.getfield 251, 3)), (15, (.ifCond .ne 4, 3)), (18, (.return_, 1)), (19, (.aload_n 1, 1)), (20, (.getfield 247, 3)), (23, (.invokevirtual 329, 3)), (26, (.astore_n 2, 1)), (27, (.aload_n 1, 1)), (28, (.iconst (-1), 1)), (29, (.putfield 263, 3)), (32, (.aload_n 1, 1)), (33, (.iconst 0, 1)), (34, (.putfield 260, 3)), (37, (.aload_n 1, 1)), (38, (.dup, 1)), (39, (.getfield 335, 3)), (42, (.iconst 1, 1)), (43, (.iadd, 1)), (44, (.putfield 335, 3)), (47, (.aload_n 1, 1)), (48, (.iconst 0, 1)), (49, (.putfield 338, 3)), (52, (.aload_n 1, 1)), (53, (.getfield 335, 3)), (56, (.aload_n 2, 1)), (57, (.getfield 310, 3)), (60, (.imul, 1)), (61, (.aload_n 2, 1)), (62, (.getfield 202, 3)), (65, (.if_icmp .ge 24, 3)), (68, (.aload_n 1, 1)), (69, (.aload_n 0, 1)), (70, (.getfield 27, 3)), (73, (.getfield 139, 3)), (76, (.iconst 2, 1)), (77, (.iadd, 1)), (78, (.putfield 344, 3)), (81, (.aload_n 1, 1)), (82, (.iconst 0, 1)), (83, (.putfield 354, 3)), (86, (.goto 9, 3)), (89, (.aload_n 0, 1)), (90, (.aload_n 1, 1)), (91, (.iconst 1, 1)), (92, (.invokevirtual 386, 3)), (95, (.return_, 1))]
set_option maxRecDepth 100000 in
theorem da_X11_takeAck_0 : dl_X11_takeAck_0.all (fun q => decide (decode cX11_takeAck q.1 = .ok q.2)) = true := by decide +kernel
theorem dX11_takeAck_0 : decode cX11_takeAck 0 = .ok (.aload_n 1, 1) := dec_of da_X11_takeAck_0 (k := 0) rfl
theorem dX11_takeAck_1 : decode cX11_takeAck 1 = .ok (.getfield 263, 3) := dec_of da_X11_takeAck_0 (k := 1) rfl
theorem dX11_takeAck_4 : decode cX11_takeAck 4 = .ok (.iconst (-1), 1) := dec_of da_X11_takeAck_0 (k := 2) rfl
theorem dX11_takeAck_5 : decode cX11_takeAck 5 = .ok (.if_icmp .eq 13, 3) := dec_of da_X11_takeAck_0 (k := 3) rfl
theorem dX11_takeAck_8 : decode cX11_takeAck 8 = .ok (.aload_n 1, 1) := dec_of da_X11_takeAck_0 (k := 4) rfl
theorem dX11_takeAck_9 : decode cX11_takeAck 9 = .ok (.getfield 247, 3) := dec_of da_X11_takeAck_0 (k := 5) rfl
theorem dX11_takeAck_12 : decode cX11_takeAck 12 = .ok (.getfield 251, 3) := dec_of da_X11_takeAck_0 (k := 6) rfl
theorem dX11_takeAck_15 : decode cX11_takeAck 15 = .ok (.ifCond .ne 4, 3) := dec_of da_X11_takeAck_0 (k := 7) rfl
theorem dX11_takeAck_18 : decode cX11_takeAck 18 = .ok (.return_, 1) := dec_of da_X11_takeAck_0 (k := 8) rfl
theorem dX11_takeAck_19 : decode cX11_takeAck 19 = .ok (.aload_n 1, 1) := dec_of da_X11_takeAck_0 (k := 9) rfl
theorem dX11_takeAck_20 : decode cX11_takeAck 20 = .ok (.getfield 247, 3) := dec_of da_X11_takeAck_0 (k := 10) rfl
theorem dX11_takeAck_23 : decode cX11_takeAck 23 = .ok (.invokevirtual 329, 3) := dec_of da_X11_takeAck_0 (k := 11) rfl
theorem dX11_takeAck_26 : decode cX11_takeAck 26 = .ok (.astore_n 2, 1) := dec_of da_X11_takeAck_0 (k := 12) rfl
theorem dX11_takeAck_27 : decode cX11_takeAck 27 = .ok (.aload_n 1, 1) := dec_of da_X11_takeAck_0 (k := 13) rfl
theorem dX11_takeAck_28 : decode cX11_takeAck 28 = .ok (.iconst (-1), 1) := dec_of da_X11_takeAck_0 (k := 14) rfl
theorem dX11_takeAck_29 : decode cX11_takeAck 29 = .ok (.putfield 263, 3) := dec_of da_X11_takeAck_0 (k := 15) rfl
theorem dX11_takeAck_32 : decode cX11_takeAck 32 = .ok (.aload_n 1, 1) := dec_of da_X11_takeAck_0 (k := 16) rfl
theorem dX11_takeAck_33 : decode cX11_takeAck 33 = .ok (.iconst 0, 1) := dec_of da_X11_takeAck_0 (k := 17) rfl
theorem dX11_takeAck_34 : decode cX11_takeAck 34 = .ok (.putfield 260, 3) := dec_of da_X11_takeAck_0 (k := 18) rfl
theorem dX11_takeAck_37 : decode cX11_takeAck 37 = .ok (.aload_n 1, 1) := dec_of da_X11_takeAck_0 (k := 19) rfl
theorem dX11_takeAck_38 : decode cX11_takeAck 38 = .ok (.dup, 1) := dec_of da_X11_takeAck_0 (k := 20) rfl
theorem dX11_takeAck_39 : decode cX11_takeAck 39 = .ok (.getfield 335, 3) := dec_of da_X11_takeAck_0 (k := 21) rfl
theorem dX11_takeAck_42 : decode cX11_takeAck 42 = .ok (.iconst 1, 1) := dec_of da_X11_takeAck_0 (k := 22) rfl
theorem dX11_takeAck_43 : decode cX11_takeAck 43 = .ok (.iadd, 1) := dec_of da_X11_takeAck_0 (k := 23) rfl
theorem dX11_takeAck_44 : decode cX11_takeAck 44 = .ok (.putfield 335, 3) := dec_of da_X11_takeAck_0 (k := 24) rfl
theorem dX11_takeAck_47 : decode cX11_takeAck 47 = .ok (.aload_n 1, 1) := dec_of da_X11_takeAck_0 (k := 25) rfl
theorem dX11_takeAck_48 : decode cX11_takeAck 48 = .ok (.iconst 0, 1) := dec_of da_X11_takeAck_0 (k := 26) rfl
theorem dX11_takeAck_49 : decode cX11_takeAck 49 = .ok (.putfield 338, 3) := dec_of da_X11_takeAck_0 (k := 27) rfl
theorem dX11_takeAck_52 : decode cX11_takeAck 52 = .ok (.aload_n 1, 1) := dec_of da_X11_takeAck_0 (k := 28) rfl
theorem dX11_takeAck_53 : decode cX11_takeAck 53 = .ok (.getfield 335, 3) := dec_of da_X11_takeAck_0 (k := 29) rfl
theorem dX11_takeAck_56 : decode cX11_takeAck 56 = .ok (.aload_n 2, 1) := dec_of da_X11_takeAck_0 (k := 30) rfl
theorem dX11_takeAck_57 : decode cX11_takeAck 57 = .ok (.getfield 310, 3) := dec_of da_X11_takeAck_0 (k := 31) rfl
theorem dX11_takeAck_60 : decode cX11_takeAck 60 = .ok (.imul, 1) := dec_of da_X11_takeAck_0 (k := 32) rfl
theorem dX11_takeAck_61 : decode cX11_takeAck 61 = .ok (.aload_n 2, 1) := dec_of da_X11_takeAck_0 (k := 33) rfl
theorem dX11_takeAck_62 : decode cX11_takeAck 62 = .ok (.getfield 202, 3) := dec_of da_X11_takeAck_0 (k := 34) rfl
theorem dX11_takeAck_65 : decode cX11_takeAck 65 = .ok (.if_icmp .ge 24, 3) := dec_of da_X11_takeAck_0 (k := 35) rfl
theorem dX11_takeAck_68 : decode cX11_takeAck 68 = .ok (.aload_n 1, 1) := dec_of da_X11_takeAck_0 (k := 36) rfl
theorem dX11_takeAck_69 : decode cX11_takeAck 69 = .ok (.aload_n 0, 1) := dec_of da_X11_takeAck_0 (k := 37) rfl
theorem dX11_takeAck_70 : decode cX11_takeAck 70 = .ok (.getfield 27, 3) := dec_of da_X11_takeAck_0 (k := 38) rfl
theorem dX11_takeAck_73 : decode cX11_takeAck 73 = .ok (.getfield 139, 3) := dec_of da_X11_takeAck_0 (k := 39) rfl
theorem dX11_takeAck_76 : decode cX11_takeAck 76 = .ok (.iconst 2, 1) := dec_of da_X11_takeAck_0 (k := 40) rfl
theorem dX11_takeAck_77 : decode cX11_takeAck 77 = .ok (.iadd, 1) := dec_of da_X11_takeAck_0 (k := 41) rfl
theorem dX11_takeAck_78 : decode cX11_takeAck 78 = .ok (.putfield 344, 3) := dec_of da_X11_takeAck_0 (k := 42) rfl
theorem dX11_takeAck_81 : decode cX11_takeAck 81 = .ok (.aload_n 1, 1) := dec_of da_X11_takeAck_0 (k := 43) rfl
theorem dX11_takeAck_82 : decode cX11_takeAck 82 = .ok (.iconst 0, 1) := dec_of da_X11_takeAck_0 (k := 44) rfl
theorem dX11_takeAck_83 : decode cX11_takeAck 83 = .ok (.putfield 354, 3) := dec_of da_X11_takeAck_0 (k := 45) rfl
theorem dX11_takeAck_86 : decode cX11_takeAck 86 = .ok (.goto 9, 3) := dec_of da_X11_takeAck_0 (k := 46) rfl
theorem dX11_takeAck_89 : decode cX11_takeAck 89 = .ok (.aload_n 0, 1) := dec_of da_X11_takeAck_0 (k := 47) rfl
theorem dX11_takeAck_90 : decode cX11_takeAck 90 = .ok (.aload_n 1, 1) := dec_of da_X11_takeAck_0 (k := 48) rfl
theorem dX11_takeAck_91 : decode cX11_takeAck 91 = .ok (.iconst 1, 1) := dec_of da_X11_takeAck_0 (k := 49) rfl
theorem dX11_takeAck_92 : decode cX11_takeAck 92 = .ok (.invokevirtual 386, 3) := dec_of da_X11_takeAck_0 (k := 50) rfl
theorem dX11_takeAck_95 : decode cX11_takeAck 95 = .ok (.return_, 1) := dec_of da_X11_takeAck_0 (k := 51) rfl
def dl_X11_failWaiters_0 : List (Nat × (Instr × Nat)) := [(0, (.iconst 0, 1)), (1, (.istore_n 1, 1)), (2, (.iload_n 1, 1)), (3, (.bipush 9, 2)), (5, (.if_icmp .ge 50, 3)), (8, (.aload_n 0, 1)), (9, (.getfield 11, 3)), (12, (.iload_n 1, 1)), (13, (.aaload, 1)), (14, (.astore_n 2, 1)), (15, (.aload_n 2, 1)), (16, (.getfield 263, 3)), (19, (.iconst (-1), 1)), (20, (.if_icmp .eq 29, 3)), (23, (.aload_n 0, 1)), (24, (.getfield 27, 3)), (27, (.getfield 139, 3)), (30, (.aload_n 2, 1)), (31, (.getfield 263, 3)), (34, (.isub, 1)), (35, (.iconst 4, 1)), (36, (.if_icmp .lt 13, 3)), (39, (.aload_n 2, 1)), (40, (.iconst (-1), 1)), (41, (.putfield 263, 3)), (44, (.aload_n 0, 1)), (45, (.aload_n 2, 1)), (46, (.invokevirtual 444, 3)), (49, (.iinc 1 1, 3)), (52, (.goto (-50), 3)), (55, (.return_, 1))]
set_option maxRecDepth 100000 in
theorem da_X11_failWaiters_0 : dl_X11_failWaiters_0.all (fun q => decide (decode cX11_failWaiters q.1 = .ok q.2)) = true := by decide +kernel
theorem dX11_failWaiters_0 : decode cX11_failWaiters 0 = .ok (.iconst 0, 1) := dec_of da_X11_failWaiters_0 (k := 0) rfl
theorem dX11_failWaiters_1 : decode cX11_failWaiters 1 = .ok (.istore_n 1, 1) := dec_of da_X11_failWaiters_0 (k := 1) rfl
theorem dX11_failWaiters_2 : decode cX11_failWaiters 2 = .ok (.iload_n 1, 1) := dec_of da_X11_failWaiters_0 (k := 2) rfl
theorem dX11_failWaiters_3 : decode cX11_failWaiters 3 = .ok (.bipush 9, 2) := dec_of da_X11_failWaiters_0 (k := 3) rfl
theorem dX11_failWaiters_5 : decode cX11_failWaiters 5 = .ok (.if_icmp .ge 50, 3) := dec_of da_X11_failWaiters_0 (k := 4) rfl
theorem dX11_failWaiters_8 : decode cX11_failWaiters 8 = .ok (.aload_n 0, 1) := dec_of da_X11_failWaiters_0 (k := 5) rfl
theorem dX11_failWaiters_9 : decode cX11_failWaiters 9 = .ok (.getfield 11, 3) := dec_of da_X11_failWaiters_0 (k := 6) rfl
theorem dX11_failWaiters_12 : decode cX11_failWaiters 12 = .ok (.iload_n 1, 1) := dec_of da_X11_failWaiters_0 (k := 7) rfl
theorem dX11_failWaiters_13 : decode cX11_failWaiters 13 = .ok (.aaload, 1) := dec_of da_X11_failWaiters_0 (k := 8) rfl
theorem dX11_failWaiters_14 : decode cX11_failWaiters 14 = .ok (.astore_n 2, 1) := dec_of da_X11_failWaiters_0 (k := 9) rfl
theorem dX11_failWaiters_15 : decode cX11_failWaiters 15 = .ok (.aload_n 2, 1) := dec_of da_X11_failWaiters_0 (k := 10) rfl
theorem dX11_failWaiters_16 : decode cX11_failWaiters 16 = .ok (.getfield 263, 3) := dec_of da_X11_failWaiters_0 (k := 11) rfl
theorem dX11_failWaiters_19 : decode cX11_failWaiters 19 = .ok (.iconst (-1), 1) := dec_of da_X11_failWaiters_0 (k := 12) rfl
theorem dX11_failWaiters_20 : decode cX11_failWaiters 20 = .ok (.if_icmp .eq 29, 3) := dec_of da_X11_failWaiters_0 (k := 13) rfl
theorem dX11_failWaiters_23 : decode cX11_failWaiters 23 = .ok (.aload_n 0, 1) := dec_of da_X11_failWaiters_0 (k := 14) rfl
theorem dX11_failWaiters_24 : decode cX11_failWaiters 24 = .ok (.getfield 27, 3) := dec_of da_X11_failWaiters_0 (k := 15) rfl
theorem dX11_failWaiters_27 : decode cX11_failWaiters 27 = .ok (.getfield 139, 3) := dec_of da_X11_failWaiters_0 (k := 16) rfl
theorem dX11_failWaiters_30 : decode cX11_failWaiters 30 = .ok (.aload_n 2, 1) := dec_of da_X11_failWaiters_0 (k := 17) rfl
theorem dX11_failWaiters_31 : decode cX11_failWaiters 31 = .ok (.getfield 263, 3) := dec_of da_X11_failWaiters_0 (k := 18) rfl
theorem dX11_failWaiters_34 : decode cX11_failWaiters 34 = .ok (.isub, 1) := dec_of da_X11_failWaiters_0 (k := 19) rfl
theorem dX11_failWaiters_35 : decode cX11_failWaiters 35 = .ok (.iconst 4, 1) := dec_of da_X11_failWaiters_0 (k := 20) rfl
theorem dX11_failWaiters_36 : decode cX11_failWaiters 36 = .ok (.if_icmp .lt 13, 3) := dec_of da_X11_failWaiters_0 (k := 21) rfl
theorem dX11_failWaiters_39 : decode cX11_failWaiters 39 = .ok (.aload_n 2, 1) := dec_of da_X11_failWaiters_0 (k := 22) rfl
theorem dX11_failWaiters_40 : decode cX11_failWaiters 40 = .ok (.iconst (-1), 1) := dec_of da_X11_failWaiters_0 (k := 23) rfl
theorem dX11_failWaiters_41 : decode cX11_failWaiters 41 = .ok (.putfield 263, 3) := dec_of da_X11_failWaiters_0 (k := 24) rfl
theorem dX11_failWaiters_44 : decode cX11_failWaiters 44 = .ok (.aload_n 0, 1) := dec_of da_X11_failWaiters_0 (k := 25) rfl
theorem dX11_failWaiters_45 : decode cX11_failWaiters 45 = .ok (.aload_n 2, 1) := dec_of da_X11_failWaiters_0 (k := 26) rfl
theorem dX11_failWaiters_46 : decode cX11_failWaiters 46 = .ok (.invokevirtual 444, 3) := dec_of da_X11_failWaiters_0 (k := 27) rfl
theorem dX11_failWaiters_49 : decode cX11_failWaiters 49 = .ok (.iinc 1 1, 3) := dec_of da_X11_failWaiters_0 (k := 28) rfl
theorem dX11_failWaiters_52 : decode cX11_failWaiters 52 = .ok (.goto (-50), 3) := dec_of da_X11_failWaiters_0 (k := 29) rfl
theorem dX11_failWaiters_55 : decode cX11_failWaiters 55 = .ok (.return_, 1) := dec_of da_X11_failWaiters_0 (k := 30) rfl
def dl_X11_fail_0 : List (Nat × (Instr × Nat)) := [(0, (.aload_n 0, 1)), (1, (.dup, 1)), (2, (.getfield 298, 3)), (5, (.iconst 1, 1)), (6, (.iadd, 1)), (7, (.putfield 298, 3)), (10, (.aload_n 1, 1)), (11, (.dup, 1)), (12, (.getfield 260, 3)), (15, (.iconst 1, 1)), (16, (.iadd, 1)), (17, (.putfield 260, 3)), (20, (.aload_n 1, 1)), (21, (.getfield 260, 3)), (24, (.aload_n 0, 1)), (25, (.getfield 70, 3)), (28, (.if_icmp .lt 10, 3)), (31, (.aload_n 0, 1)), (32, (.aload_n 1, 1)), (33, (.iconst 2, 1)), (34, (.invokevirtual 386, 3)), (37, (.return_, 1)), (38, (.aload_n 1, 1)), (39, (.iconst 2, 1)), (40, (.aload_n 1, 1)), (41, (.getfield 257, 3)), (44, (.imul, 1)), (45, (.iconst 1, 1)), (46, (.iadd, 1)), (47, (.bipush 127, 2)), (49, (.invokestatic 397, 3)), (52, (.putfield 257, 3)), (55, (.aload_n 1, 1)), (56, (.aload_n 0, 1)), (57, (.getfield 41, 3)), (60, (.invokevirtual 313, 3)), (63, (.aload_n 1, 1)), (64, (.getfield 257, 3)), (67, (.iand, 1)), (68, (.putfield 254, 3)), (71, (.aload_n 1, 1)), (72, (.getfield 338, 3)), (75, (.bipush 28, 2)), (77, (.if_icmp .lt 27, 3)), (80, (.aload_n 1, 1)), (81, (.getfield 394, 3)), (84, (.iconst 1, 1)), (85, (.dup2, 1)), (86, (.iaload, 1)), (87, (.bipush 8, 2)), (89, (.ior, 1)), (90, (.iastore, 1)), (91, (.aload_n 1, 1)), (92, (.getfield 394, 3)), (95, (.aload_n 1, 1)), (96, (.getfield 338, 3)), (99, (.iconst 4, 1)), (100, (.isub, 1)), (101, (.invokestatic 95, 3)), (104, (.return_, 1))]
set_option maxRecDepth 100000 in
theorem da_X11_fail_0 : dl_X11_fail_0.all (fun q => decide (decode cX11_fail q.1 = .ok q.2)) = true := by decide +kernel
theorem dX11_fail_0 : decode cX11_fail 0 = .ok (.aload_n 0, 1) := dec_of da_X11_fail_0 (k := 0) rfl
theorem dX11_fail_1 : decode cX11_fail 1 = .ok (.dup, 1) := dec_of da_X11_fail_0 (k := 1) rfl
theorem dX11_fail_2 : decode cX11_fail 2 = .ok (.getfield 298, 3) := dec_of da_X11_fail_0 (k := 2) rfl
theorem dX11_fail_5 : decode cX11_fail 5 = .ok (.iconst 1, 1) := dec_of da_X11_fail_0 (k := 3) rfl
theorem dX11_fail_6 : decode cX11_fail 6 = .ok (.iadd, 1) := dec_of da_X11_fail_0 (k := 4) rfl
theorem dX11_fail_7 : decode cX11_fail 7 = .ok (.putfield 298, 3) := dec_of da_X11_fail_0 (k := 5) rfl
theorem dX11_fail_10 : decode cX11_fail 10 = .ok (.aload_n 1, 1) := dec_of da_X11_fail_0 (k := 6) rfl
theorem dX11_fail_11 : decode cX11_fail 11 = .ok (.dup, 1) := dec_of da_X11_fail_0 (k := 7) rfl
theorem dX11_fail_12 : decode cX11_fail 12 = .ok (.getfield 260, 3) := dec_of da_X11_fail_0 (k := 8) rfl
theorem dX11_fail_15 : decode cX11_fail 15 = .ok (.iconst 1, 1) := dec_of da_X11_fail_0 (k := 9) rfl
theorem dX11_fail_16 : decode cX11_fail 16 = .ok (.iadd, 1) := dec_of da_X11_fail_0 (k := 10) rfl
theorem dX11_fail_17 : decode cX11_fail 17 = .ok (.putfield 260, 3) := dec_of da_X11_fail_0 (k := 11) rfl
theorem dX11_fail_20 : decode cX11_fail 20 = .ok (.aload_n 1, 1) := dec_of da_X11_fail_0 (k := 12) rfl
theorem dX11_fail_21 : decode cX11_fail 21 = .ok (.getfield 260, 3) := dec_of da_X11_fail_0 (k := 13) rfl
theorem dX11_fail_24 : decode cX11_fail 24 = .ok (.aload_n 0, 1) := dec_of da_X11_fail_0 (k := 14) rfl
theorem dX11_fail_25 : decode cX11_fail 25 = .ok (.getfield 70, 3) := dec_of da_X11_fail_0 (k := 15) rfl
theorem dX11_fail_28 : decode cX11_fail 28 = .ok (.if_icmp .lt 10, 3) := dec_of da_X11_fail_0 (k := 16) rfl
theorem dX11_fail_31 : decode cX11_fail 31 = .ok (.aload_n 0, 1) := dec_of da_X11_fail_0 (k := 17) rfl
theorem dX11_fail_32 : decode cX11_fail 32 = .ok (.aload_n 1, 1) := dec_of da_X11_fail_0 (k := 18) rfl
theorem dX11_fail_33 : decode cX11_fail 33 = .ok (.iconst 2, 1) := dec_of da_X11_fail_0 (k := 19) rfl
theorem dX11_fail_34 : decode cX11_fail 34 = .ok (.invokevirtual 386, 3) := dec_of da_X11_fail_0 (k := 20) rfl
theorem dX11_fail_37 : decode cX11_fail 37 = .ok (.return_, 1) := dec_of da_X11_fail_0 (k := 21) rfl
theorem dX11_fail_38 : decode cX11_fail 38 = .ok (.aload_n 1, 1) := dec_of da_X11_fail_0 (k := 22) rfl
theorem dX11_fail_39 : decode cX11_fail 39 = .ok (.iconst 2, 1) := dec_of da_X11_fail_0 (k := 23) rfl
theorem dX11_fail_40 : decode cX11_fail 40 = .ok (.aload_n 1, 1) := dec_of da_X11_fail_0 (k := 24) rfl
theorem dX11_fail_41 : decode cX11_fail 41 = .ok (.getfield 257, 3) := dec_of da_X11_fail_0 (k := 25) rfl
theorem dX11_fail_44 : decode cX11_fail 44 = .ok (.imul, 1) := dec_of da_X11_fail_0 (k := 26) rfl
theorem dX11_fail_45 : decode cX11_fail 45 = .ok (.iconst 1, 1) := dec_of da_X11_fail_0 (k := 27) rfl
theorem dX11_fail_46 : decode cX11_fail 46 = .ok (.iadd, 1) := dec_of da_X11_fail_0 (k := 28) rfl
theorem dX11_fail_47 : decode cX11_fail 47 = .ok (.bipush 127, 2) := dec_of da_X11_fail_0 (k := 29) rfl
theorem dX11_fail_49 : decode cX11_fail 49 = .ok (.invokestatic 397, 3) := dec_of da_X11_fail_0 (k := 30) rfl
theorem dX11_fail_52 : decode cX11_fail 52 = .ok (.putfield 257, 3) := dec_of da_X11_fail_0 (k := 31) rfl
theorem dX11_fail_55 : decode cX11_fail 55 = .ok (.aload_n 1, 1) := dec_of da_X11_fail_0 (k := 32) rfl
theorem dX11_fail_56 : decode cX11_fail 56 = .ok (.aload_n 0, 1) := dec_of da_X11_fail_0 (k := 33) rfl
theorem dX11_fail_57 : decode cX11_fail 57 = .ok (.getfield 41, 3) := dec_of da_X11_fail_0 (k := 34) rfl
theorem dX11_fail_60 : decode cX11_fail 60 = .ok (.invokevirtual 313, 3) := dec_of da_X11_fail_0 (k := 35) rfl
theorem dX11_fail_63 : decode cX11_fail 63 = .ok (.aload_n 1, 1) := dec_of da_X11_fail_0 (k := 36) rfl
theorem dX11_fail_64 : decode cX11_fail 64 = .ok (.getfield 257, 3) := dec_of da_X11_fail_0 (k := 37) rfl
theorem dX11_fail_67 : decode cX11_fail 67 = .ok (.iand, 1) := dec_of da_X11_fail_0 (k := 38) rfl
theorem dX11_fail_68 : decode cX11_fail 68 = .ok (.putfield 254, 3) := dec_of da_X11_fail_0 (k := 39) rfl
theorem dX11_fail_71 : decode cX11_fail 71 = .ok (.aload_n 1, 1) := dec_of da_X11_fail_0 (k := 40) rfl
theorem dX11_fail_72 : decode cX11_fail 72 = .ok (.getfield 338, 3) := dec_of da_X11_fail_0 (k := 41) rfl
theorem dX11_fail_75 : decode cX11_fail 75 = .ok (.bipush 28, 2) := dec_of da_X11_fail_0 (k := 42) rfl
theorem dX11_fail_77 : decode cX11_fail 77 = .ok (.if_icmp .lt 27, 3) := dec_of da_X11_fail_0 (k := 43) rfl
theorem dX11_fail_80 : decode cX11_fail 80 = .ok (.aload_n 1, 1) := dec_of da_X11_fail_0 (k := 44) rfl
theorem dX11_fail_81 : decode cX11_fail 81 = .ok (.getfield 394, 3) := dec_of da_X11_fail_0 (k := 45) rfl
theorem dX11_fail_84 : decode cX11_fail 84 = .ok (.iconst 1, 1) := dec_of da_X11_fail_0 (k := 46) rfl
theorem dX11_fail_85 : decode cX11_fail 85 = .ok (.dup2, 1) := dec_of da_X11_fail_0 (k := 47) rfl
theorem dX11_fail_86 : decode cX11_fail 86 = .ok (.iaload, 1) := dec_of da_X11_fail_0 (k := 48) rfl
theorem dX11_fail_87 : decode cX11_fail 87 = .ok (.bipush 8, 2) := dec_of da_X11_fail_0 (k := 49) rfl
theorem dX11_fail_89 : decode cX11_fail 89 = .ok (.ior, 1) := dec_of da_X11_fail_0 (k := 50) rfl
theorem dX11_fail_90 : decode cX11_fail 90 = .ok (.iastore, 1) := dec_of da_X11_fail_0 (k := 51) rfl
theorem dX11_fail_91 : decode cX11_fail 91 = .ok (.aload_n 1, 1) := dec_of da_X11_fail_0 (k := 52) rfl
theorem dX11_fail_92 : decode cX11_fail 92 = .ok (.getfield 394, 3) := dec_of da_X11_fail_0 (k := 53) rfl
theorem dX11_fail_95 : decode cX11_fail 95 = .ok (.aload_n 1, 1) := dec_of da_X11_fail_0 (k := 54) rfl
theorem dX11_fail_96 : decode cX11_fail 96 = .ok (.getfield 338, 3) := dec_of da_X11_fail_0 (k := 55) rfl
theorem dX11_fail_99 : decode cX11_fail 99 = .ok (.iconst 4, 1) := dec_of da_X11_fail_0 (k := 56) rfl
theorem dX11_fail_100 : decode cX11_fail 100 = .ok (.isub, 1) := dec_of da_X11_fail_0 (k := 57) rfl
theorem dX11_fail_101 : decode cX11_fail 101 = .ok (.invokestatic 95, 3) := dec_of da_X11_fail_0 (k := 58) rfl
theorem dX11_fail_104 : decode cX11_fail 104 = .ok (.return_, 1) := dec_of da_X11_fail_0 (k := 59) rfl
def dl_X11_countDown_0 : List (Nat × (Instr × Nat)) := [(0, (.aload_n 0, 1)), (1, (.getfield 27, 3)), (4, (.invokevirtual 350, 3)), (7, (.ifCond .ne 4, 3)), (10, (.return_, 1)), (11, (.iconst 0, 1)), (12, (.istore_n 1, 1)), (13, (.iload_n 1, 1)), (14, (.bipush 9, 2)), (16, (.if_icmp .ge 55, 3)), (19, (.aload_n 0, 1)), (20, (.getfield 11, 3)), (23, (.iload_n 1, 1)), (24, (.aaload, 1)), (25, (.getfield 254, 3)), (28, (.ifCond .le 37, 3)), (31, (.aload_n 0, 1)), (32, (.getfield 11, 3)), (35, (.iload_n 1, 1)), (36, (.aaload, 1)), (37, (.aload_n 0, 1)), (38, (.getfield 27, 3)), (41, (.getfield 139, 3)), (44, (.invokevirtual 364, 3)), (47, (.ifCond .eq 18, 3)), (50, (.aload_n 0, 1)), (51, (.getfield 11, 3)), (54, (.iload_n 1, 1)), (55, (.aaload, 1)), (56, (.dup, 1)), (57, (.getfield 254, 3)), (60, (.iconst 1, 1)), (61, (.isub, 1)), (62, (.putfield 254, 3)), (65, (.iinc 1 1, 3)), (68, (.goto (-55), 3)), (71, (.return_, 1))]
set_option maxRecDepth 100000 in
theorem da_X11_countDown_0 : dl_X11_countDown_0.all (fun q => decide (decode cX11_countDown q.1 = .ok q.2)) = true := by decide +kernel
theorem dX11_countDown_0 : decode cX11_countDown 0 = .ok (.aload_n 0, 1) := dec_of da_X11_countDown_0 (k := 0) rfl
theorem dX11_countDown_1 : decode cX11_countDown 1 = .ok (.getfield 27, 3) := dec_of da_X11_countDown_0 (k := 1) rfl
theorem dX11_countDown_4 : decode cX11_countDown 4 = .ok (.invokevirtual 350, 3) := dec_of da_X11_countDown_0 (k := 2) rfl
theorem dX11_countDown_7 : decode cX11_countDown 7 = .ok (.ifCond .ne 4, 3) := dec_of da_X11_countDown_0 (k := 3) rfl
theorem dX11_countDown_10 : decode cX11_countDown 10 = .ok (.return_, 1) := dec_of da_X11_countDown_0 (k := 4) rfl
theorem dX11_countDown_11 : decode cX11_countDown 11 = .ok (.iconst 0, 1) := dec_of da_X11_countDown_0 (k := 5) rfl
theorem dX11_countDown_12 : decode cX11_countDown 12 = .ok (.istore_n 1, 1) := dec_of da_X11_countDown_0 (k := 6) rfl
theorem dX11_countDown_13 : decode cX11_countDown 13 = .ok (.iload_n 1, 1) := dec_of da_X11_countDown_0 (k := 7) rfl
theorem dX11_countDown_14 : decode cX11_countDown 14 = .ok (.bipush 9, 2) := dec_of da_X11_countDown_0 (k := 8) rfl
theorem dX11_countDown_16 : decode cX11_countDown 16 = .ok (.if_icmp .ge 55, 3) := dec_of da_X11_countDown_0 (k := 9) rfl
theorem dX11_countDown_19 : decode cX11_countDown 19 = .ok (.aload_n 0, 1) := dec_of da_X11_countDown_0 (k := 10) rfl
theorem dX11_countDown_20 : decode cX11_countDown 20 = .ok (.getfield 11, 3) := dec_of da_X11_countDown_0 (k := 11) rfl
theorem dX11_countDown_23 : decode cX11_countDown 23 = .ok (.iload_n 1, 1) := dec_of da_X11_countDown_0 (k := 12) rfl
theorem dX11_countDown_24 : decode cX11_countDown 24 = .ok (.aaload, 1) := dec_of da_X11_countDown_0 (k := 13) rfl
theorem dX11_countDown_25 : decode cX11_countDown 25 = .ok (.getfield 254, 3) := dec_of da_X11_countDown_0 (k := 14) rfl
theorem dX11_countDown_28 : decode cX11_countDown 28 = .ok (.ifCond .le 37, 3) := dec_of da_X11_countDown_0 (k := 15) rfl
theorem dX11_countDown_31 : decode cX11_countDown 31 = .ok (.aload_n 0, 1) := dec_of da_X11_countDown_0 (k := 16) rfl
theorem dX11_countDown_32 : decode cX11_countDown 32 = .ok (.getfield 11, 3) := dec_of da_X11_countDown_0 (k := 17) rfl
theorem dX11_countDown_35 : decode cX11_countDown 35 = .ok (.iload_n 1, 1) := dec_of da_X11_countDown_0 (k := 18) rfl
theorem dX11_countDown_36 : decode cX11_countDown 36 = .ok (.aaload, 1) := dec_of da_X11_countDown_0 (k := 19) rfl
theorem dX11_countDown_37 : decode cX11_countDown 37 = .ok (.aload_n 0, 1) := dec_of da_X11_countDown_0 (k := 20) rfl
theorem dX11_countDown_38 : decode cX11_countDown 38 = .ok (.getfield 27, 3) := dec_of da_X11_countDown_0 (k := 21) rfl
theorem dX11_countDown_41 : decode cX11_countDown 41 = .ok (.getfield 139, 3) := dec_of da_X11_countDown_0 (k := 22) rfl
theorem dX11_countDown_44 : decode cX11_countDown 44 = .ok (.invokevirtual 364, 3) := dec_of da_X11_countDown_0 (k := 23) rfl
theorem dX11_countDown_47 : decode cX11_countDown 47 = .ok (.ifCond .eq 18, 3) := dec_of da_X11_countDown_0 (k := 24) rfl
theorem dX11_countDown_50 : decode cX11_countDown 50 = .ok (.aload_n 0, 1) := dec_of da_X11_countDown_0 (k := 25) rfl
theorem dX11_countDown_51 : decode cX11_countDown 51 = .ok (.getfield 11, 3) := dec_of da_X11_countDown_0 (k := 26) rfl
theorem dX11_countDown_54 : decode cX11_countDown 54 = .ok (.iload_n 1, 1) := dec_of da_X11_countDown_0 (k := 27) rfl
theorem dX11_countDown_55 : decode cX11_countDown 55 = .ok (.aaload, 1) := dec_of da_X11_countDown_0 (k := 28) rfl
theorem dX11_countDown_56 : decode cX11_countDown 56 = .ok (.dup, 1) := dec_of da_X11_countDown_0 (k := 29) rfl
theorem dX11_countDown_57 : decode cX11_countDown 57 = .ok (.getfield 254, 3) := dec_of da_X11_countDown_0 (k := 30) rfl
theorem dX11_countDown_60 : decode cX11_countDown 60 = .ok (.iconst 1, 1) := dec_of da_X11_countDown_0 (k := 31) rfl
theorem dX11_countDown_61 : decode cX11_countDown 61 = .ok (.isub, 1) := dec_of da_X11_countDown_0 (k := 32) rfl
theorem dX11_countDown_62 : decode cX11_countDown 62 = .ok (.putfield 254, 3) := dec_of da_X11_countDown_0 (k := 33) rfl
theorem dX11_countDown_65 : decode cX11_countDown 65 = .ok (.iinc 1 1, 3) := dec_of da_X11_countDown_0 (k := 34) rfl
theorem dX11_countDown_68 : decode cX11_countDown 68 = .ok (.goto (-55), 3) := dec_of da_X11_countDown_0 (k := 35) rfl
theorem dX11_countDown_71 : decode cX11_countDown 71 = .ok (.return_, 1) := dec_of da_X11_countDown_0 (k := 36) rfl
def dl_X11_takeManagement_0 : List (Nat × (Instr × Nat)) := [(0, (.aload_n 0, 1)), (1, (.getfield 27, 3)), (4, (.invokevirtual 228, 3)), (7, (.astore_n 2, 1)), (8, (.iload_n 1, 1)), (9, (.ifCond .ne 12, 3)), (12, (.aload_n 2, 1)), (13, (.bipush 10, 2)), (15, (.invokestatic 431, 3)), (18, (.goto 4, 3)), (21, (.iload_n 1, 1)), (22, (.istore_n 3, 1)), (23, (.iload_n 3, 1)), (24, (.invokestatic 116, 3)), (27, (.ifCond .ne 4, 3)), (30, (.return_, 1)), (31, (.iload_n 1, 1)), (32, (.ifCond .ne 12, 3)), (35, (.aload_n 0, 1)), (36, (.iload_n 3, 1)), (37, (.aload_n 2, 1)), (38, (.invokevirtual 447, 3)), (41, (.goto 9, 3)), (44, (.aload_n 0, 1)), (45, (.iload_n 3, 1)), (46, (.aload_n 2, 1)), (47, (.invokevirtual 451, 3)), (50, (.return_, 1))]
set_option maxRecDepth 100000 in
theorem da_X11_takeManagement_0 : dl_X11_takeManagement_0.all (fun q => decide (decode cX11_takeManagement q.1 = .ok q.2)) = true := by decide +kernel
theorem dX11_takeManagement_0 : decode cX11_takeManagement 0 = .ok (.aload_n 0, 1) := dec_of da_X11_takeManagement_0 (k := 0) rfl
theorem dX11_takeManagement_1 : decode cX11_takeManagement 1 = .ok (.getfield 27, 3) := dec_of da_X11_takeManagement_0 (k := 1) rfl
theorem dX11_takeManagement_4 : decode cX11_takeManagement 4 = .ok (.invokevirtual 228, 3) := dec_of da_X11_takeManagement_0 (k := 2) rfl
theorem dX11_takeManagement_7 : decode cX11_takeManagement 7 = .ok (.astore_n 2, 1) := dec_of da_X11_takeManagement_0 (k := 3) rfl
theorem dX11_takeManagement_8 : decode cX11_takeManagement 8 = .ok (.iload_n 1, 1) := dec_of da_X11_takeManagement_0 (k := 4) rfl
theorem dX11_takeManagement_9 : decode cX11_takeManagement 9 = .ok (.ifCond .ne 12, 3) := dec_of da_X11_takeManagement_0 (k := 5) rfl
theorem dX11_takeManagement_12 : decode cX11_takeManagement 12 = .ok (.aload_n 2, 1) := dec_of da_X11_takeManagement_0 (k := 6) rfl
theorem dX11_takeManagement_13 : decode cX11_takeManagement 13 = .ok (.bipush 10, 2) := dec_of da_X11_takeManagement_0 (k := 7) rfl
theorem dX11_takeManagement_15 : decode cX11_takeManagement 15 = .ok (.invokestatic 431, 3) := dec_of da_X11_takeManagement_0 (k := 8) rfl
theorem dX11_takeManagement_18 : decode cX11_takeManagement 18 = .ok (.goto 4, 3) := dec_of da_X11_takeManagement_0 (k := 9) rfl
theorem dX11_takeManagement_21 : decode cX11_takeManagement 21 = .ok (.iload_n 1, 1) := dec_of da_X11_takeManagement_0 (k := 10) rfl
theorem dX11_takeManagement_22 : decode cX11_takeManagement 22 = .ok (.istore_n 3, 1) := dec_of da_X11_takeManagement_0 (k := 11) rfl
theorem dX11_takeManagement_23 : decode cX11_takeManagement 23 = .ok (.iload_n 3, 1) := dec_of da_X11_takeManagement_0 (k := 12) rfl
theorem dX11_takeManagement_24 : decode cX11_takeManagement 24 = .ok (.invokestatic 116, 3) := dec_of da_X11_takeManagement_0 (k := 13) rfl
theorem dX11_takeManagement_27 : decode cX11_takeManagement 27 = .ok (.ifCond .ne 4, 3) := dec_of da_X11_takeManagement_0 (k := 14) rfl
theorem dX11_takeManagement_30 : decode cX11_takeManagement 30 = .ok (.return_, 1) := dec_of da_X11_takeManagement_0 (k := 15) rfl
theorem dX11_takeManagement_31 : decode cX11_takeManagement 31 = .ok (.iload_n 1, 1) := dec_of da_X11_takeManagement_0 (k := 16) rfl
theorem dX11_takeManagement_32 : decode cX11_takeManagement 32 = .ok (.ifCond .ne 12, 3) := dec_of da_X11_takeManagement_0 (k := 17) rfl
theorem dX11_takeManagement_35 : decode cX11_takeManagement 35 = .ok (.aload_n 0, 1) := dec_of da_X11_takeManagement_0 (k := 18) rfl
theorem dX11_takeManagement_36 : decode cX11_takeManagement 36 = .ok (.iload_n 3, 1) := dec_of da_X11_takeManagement_0 (k := 19) rfl
theorem dX11_takeManagement_37 : decode cX11_takeManagement 37 = .ok (.aload_n 2, 1) := dec_of da_X11_takeManagement_0 (k := 20) rfl
theorem dX11_takeManagement_38 : decode cX11_takeManagement 38 = .ok (.invokevirtual 447, 3) := dec_of da_X11_takeManagement_0 (k := 21) rfl
theorem dX11_takeManagement_41 : decode cX11_takeManagement 41 = .ok (.goto 9, 3) := dec_of da_X11_takeManagement_0 (k := 22) rfl
theorem dX11_takeManagement_44 : decode cX11_takeManagement 44 = .ok (.aload_n 0, 1) := dec_of da_X11_takeManagement_0 (k := 23) rfl
theorem dX11_takeManagement_45 : decode cX11_takeManagement 45 = .ok (.iload_n 3, 1) := dec_of da_X11_takeManagement_0 (k := 24) rfl
theorem dX11_takeManagement_46 : decode cX11_takeManagement 46 = .ok (.aload_n 2, 1) := dec_of da_X11_takeManagement_0 (k := 25) rfl
theorem dX11_takeManagement_47 : decode cX11_takeManagement 47 = .ok (.invokevirtual 451, 3) := dec_of da_X11_takeManagement_0 (k := 26) rfl
theorem dX11_takeManagement_50 : decode cX11_takeManagement 50 = .ok (.return_, 1) := dec_of da_X11_takeManagement_0 (k := 27) rfl
def dl_X11_actAtAp_0 : List (Nat × (Instr × Nat)) := [(0, (.aload_n 0, 1)), (1, (.getfield 21, 3)), (4, (.iload_n 1, 1)), (5, (.aaload, 1)), (6, (.astore_n 3, 1)), (7, (.aload_n 0, 1)), (8, (.sipush 176, 3)), (11, (.iconst 1, 1)), (12, (.invokevirtual 454, 3)), (15, (.ifCond .eq 21, 3)), (18, (.aload_n 3, 1)), (19, (.iconst 2, 1)), (20, (.invokevirtual 155, 3)), (23, (.aload_n 0, 1)), (24, (.iconst 0, 1)), (25, (.iload_n 1, 1)), (26, (.sipush 176, 3)), (29, (.iconst 2, 1)), (30, (.invokevirtual 162, 3)), (33, (.goto 90, 3)), (36, (.aload_n 0, 1)), (37, (.iconst 0, 1)), (38, (.iconst 0, 1)), (39, (.invokevirtual 454, 3)), (42, (.ifCond .eq 39, 3)), (45, (.aload_n 3, 1)), (46, (.getfield 177, 3)), (49, (.iconst 2, 1)), (50, (.if_icmp .lt 31, 3)), (53, (.aload_n 3, 1)), (54, (.iconst 3, 1)), (55, (.invokevirtual 155, 3)), (58, (.aload_n 0, 1)), (59, (.iconst 0, 1)), (60, (.iload_n 1, 1)), (61, (.bipush 16, 2)), (63, (.iload_n 1, 1)), (64, (.invokevirtual 162, 3)), (67, (.aload_n 0, 1)), (68, (.iconst 0, 1)), (69, (.iload_n 1, 1)), (70, (.iconst 1, 1)), (71, (.aload_n 3, 1)), (72, (.getfield 457, 3)), (75, (.invokevirtual 460, 3)), (78, (.goto 45, 3)), (81, (.aload_n 0, 1)), (82, (.iconst 0, 1)), (83, (.iconst 0, 1)), (84, (.invokevirtual 454, 3)), (87, (.ifCond .eq 17, 3)), (90, (.aload_n 0, 1)), (91, (.iconst 0, 1)), (92, (.iload_n 1, 1)), (93, (.sipush 192, 3)), (96, (.bipush 6, 2)), (98, (.invokevirtual 162, 3)), (101, (.goto 22, 3)), (104, (.aload_n 0, 1)), (105, (.sipush 192, 3))]
set_option maxRecDepth 100000 in
theorem da_X11_actAtAp_0 : dl_X11_actAtAp_0.all (fun q => decide (decode cX11_actAtAp q.1 = .ok q.2)) = true := by decide +kernel
theorem dX11_actAtAp_0 : decode cX11_actAtAp 0 = .ok (.aload_n 0, 1) := dec_of da_X11_actAtAp_0 (k := 0) rfl
theorem dX11_actAtAp_1 : decode cX11_actAtAp 1 = .ok (.getfield 21, 3) := dec_of da_X11_actAtAp_0 (k := 1) rfl
theorem dX11_actAtAp_4 : decode cX11_actAtAp 4 = .ok (.iload_n 1, 1) := dec_of da_X11_actAtAp_0 (k := 2) rfl
theorem dX11_actAtAp_5 : decode cX11_actAtAp 5 = .ok (.aaload, 1) := dec_of da_X11_actAtAp_0 (k := 3) rfl
theorem dX11_actAtAp_6 : decode cX11_actAtAp 6 = .ok (.astore_n 3, 1) := dec_of da_X11_actAtAp_0 (k := 4) rfl
theorem dX11_actAtAp_7 : decode cX11_actAtAp 7 = .ok (.aload_n 0, 1) := dec_of da_X11_actAtAp_0 (k := 5) rfl
theorem dX11_actAtAp_8 : decode cX11_actAtAp 8 = .ok (.sipush 176, 3) := dec_of da_X11_actAtAp_0 (k := 6) rfl
theorem dX11_actAtAp_11 : decode cX11_actAtAp 11 = .ok (.iconst 1, 1) := dec_of da_X11_actAtAp_0 (k := 7) rfl
theorem dX11_actAtAp_12 : decode cX11_actAtAp 12 = .ok (.invokevirtual 454, 3) := dec_of da_X11_actAtAp_0 (k := 8) rfl
theorem dX11_actAtAp_15 : decode cX11_actAtAp 15 = .ok (.ifCond .eq 21, 3) := dec_of da_X11_actAtAp_0 (k := 9) rfl
theorem dX11_actAtAp_18 : decode cX11_actAtAp 18 = .ok (.aload_n 3, 1) := dec_of da_X11_actAtAp_0 (k := 10) rfl
theorem dX11_actAtAp_19 : decode cX11_actAtAp 19 = .ok (.iconst 2, 1) := dec_of da_X11_actAtAp_0 (k := 11) rfl
theorem dX11_actAtAp_20 : decode cX11_actAtAp 20 = .ok (.invokevirtual 155, 3) := dec_of da_X11_actAtAp_0 (k := 12) rfl
theorem dX11_actAtAp_23 : decode cX11_actAtAp 23 = .ok (.aload_n 0, 1) := dec_of da_X11_actAtAp_0 (k := 13) rfl
theorem dX11_actAtAp_24 : decode cX11_actAtAp 24 = .ok (.iconst 0, 1) := dec_of da_X11_actAtAp_0 (k := 14) rfl
theorem dX11_actAtAp_25 : decode cX11_actAtAp 25 = .ok (.iload_n 1, 1) := dec_of da_X11_actAtAp_0 (k := 15) rfl
theorem dX11_actAtAp_26 : decode cX11_actAtAp 26 = .ok (.sipush 176, 3) := dec_of da_X11_actAtAp_0 (k := 16) rfl
theorem dX11_actAtAp_29 : decode cX11_actAtAp 29 = .ok (.iconst 2, 1) := dec_of da_X11_actAtAp_0 (k := 17) rfl
theorem dX11_actAtAp_30 : decode cX11_actAtAp 30 = .ok (.invokevirtual 162, 3) := dec_of da_X11_actAtAp_0 (k := 18) rfl
theorem dX11_actAtAp_33 : decode cX11_actAtAp 33 = .ok (.goto 90, 3) := dec_of da_X11_actAtAp_0 (k := 19) rfl
theorem dX11_actAtAp_36 : decode cX11_actAtAp 36 = .ok (.aload_n 0, 1) := dec_of da_X11_actAtAp_0 (k := 20) rfl
theorem dX11_actAtAp_37 : decode cX11_actAtAp 37 = .ok (.iconst 0, 1) := dec_of da_X11_actAtAp_0 (k := 21) rfl
theorem dX11_actAtAp_38 : decode cX11_actAtAp 38 = .ok (.iconst 0, 1) := dec_of da_X11_actAtAp_0 (k := 22) rfl
theorem dX11_actAtAp_39 : decode cX11_actAtAp 39 = .ok (.invokevirtual 454, 3) := dec_of da_X11_actAtAp_0 (k := 23) rfl
theorem dX11_actAtAp_42 : decode cX11_actAtAp 42 = .ok (.ifCond .eq 39, 3) := dec_of da_X11_actAtAp_0 (k := 24) rfl
theorem dX11_actAtAp_45 : decode cX11_actAtAp 45 = .ok (.aload_n 3, 1) := dec_of da_X11_actAtAp_0 (k := 25) rfl
theorem dX11_actAtAp_46 : decode cX11_actAtAp 46 = .ok (.getfield 177, 3) := dec_of da_X11_actAtAp_0 (k := 26) rfl
theorem dX11_actAtAp_49 : decode cX11_actAtAp 49 = .ok (.iconst 2, 1) := dec_of da_X11_actAtAp_0 (k := 27) rfl
theorem dX11_actAtAp_50 : decode cX11_actAtAp 50 = .ok (.if_icmp .lt 31, 3) := dec_of da_X11_actAtAp_0 (k := 28) rfl
theorem dX11_actAtAp_53 : decode cX11_actAtAp 53 = .ok (.aload_n 3, 1) := dec_of da_X11_actAtAp_0 (k := 29) rfl
theorem dX11_actAtAp_54 : decode cX11_actAtAp 54 = .ok (.iconst 3, 1) := dec_of da_X11_actAtAp_0 (k := 30) rfl
theorem dX11_actAtAp_55 : decode cX11_actAtAp 55 = .ok (.invokevirtual 155, 3) := dec_of da_X11_actAtAp_0 (k := 31) rfl
theorem dX11_actAtAp_58 : decode cX11_actAtAp 58 = .ok (.aload_n 0, 1) := dec_of da_X11_actAtAp_0 (k := 32) rfl
theorem dX11_actAtAp_59 : decode cX11_actAtAp 59 = .ok (.iconst 0, 1) := dec_of da_X11_actAtAp_0 (k := 33) rfl
theorem dX11_actAtAp_60 : decode cX11_actAtAp 60 = .ok (.iload_n 1, 1) := dec_of da_X11_actAtAp_0 (k := 34) rfl
theorem dX11_actAtAp_61 : decode cX11_actAtAp 61 = .ok (.bipush 16, 2) := dec_of da_X11_actAtAp_0 (k := 35) rfl
theorem dX11_actAtAp_63 : decode cX11_actAtAp 63 = .ok (.iload_n 1, 1) := dec_of da_X11_actAtAp_0 (k := 36) rfl
theorem dX11_actAtAp_64 : decode cX11_actAtAp 64 = .ok (.invokevirtual 162, 3) := dec_of da_X11_actAtAp_0 (k := 37) rfl
theorem dX11_actAtAp_67 : decode cX11_actAtAp 67 = .ok (.aload_n 0, 1) := dec_of da_X11_actAtAp_0 (k := 38) rfl
theorem dX11_actAtAp_68 : decode cX11_actAtAp 68 = .ok (.iconst 0, 1) := dec_of da_X11_actAtAp_0 (k := 39) rfl
theorem dX11_actAtAp_69 : decode cX11_actAtAp 69 = .ok (.iload_n 1, 1) := dec_of da_X11_actAtAp_0 (k := 40) rfl
theorem dX11_actAtAp_70 : decode cX11_actAtAp 70 = .ok (.iconst 1, 1) := dec_of da_X11_actAtAp_0 (k := 41) rfl
theorem dX11_actAtAp_71 : decode cX11_actAtAp 71 = .ok (.aload_n 3, 1) := dec_of da_X11_actAtAp_0 (k := 42) rfl
theorem dX11_actAtAp_72 : decode cX11_actAtAp 72 = .ok (.getfield 457, 3) := dec_of da_X11_actAtAp_0 (k := 43) rfl
theorem dX11_actAtAp_75 : decode cX11_actAtAp 75 = .ok (.invokevirtual 460, 3) := dec_of da_X11_actAtAp_0 (k := 44) rfl
theorem dX11_actAtAp_78 : decode cX11_actAtAp 78 = .ok (.goto 45, 3) := dec_of da_X11_actAtAp_0 (k := 45) rfl
theorem dX11_actAtAp_81 : decode cX11_actAtAp 81 = .ok (.aload_n 0, 1) := dec_of da_X11_actAtAp_0 (k := 46) rfl
theorem dX11_actAtAp_82 : decode cX11_actAtAp 82 = .ok (.iconst 0, 1) := dec_of da_X11_actAtAp_0 (k := 47) rfl
theorem dX11_actAtAp_83 : decode cX11_actAtAp 83 = .ok (.iconst 0, 1) := dec_of da_X11_actAtAp_0 (k := 48) rfl
theorem dX11_actAtAp_84 : decode cX11_actAtAp 84 = .ok (.invokevirtual 454, 3) := dec_of da_X11_actAtAp_0 (k := 49) rfl
theorem dX11_actAtAp_87 : decode cX11_actAtAp 87 = .ok (.ifCond .eq 17, 3) := dec_of da_X11_actAtAp_0 (k := 50) rfl
theorem dX11_actAtAp_90 : decode cX11_actAtAp 90 = .ok (.aload_n 0, 1) := dec_of da_X11_actAtAp_0 (k := 51) rfl
theorem dX11_actAtAp_91 : decode cX11_actAtAp 91 = .ok (.iconst 0, 1) := dec_of da_X11_actAtAp_0 (k := 52) rfl
theorem dX11_actAtAp_92 : decode cX11_actAtAp 92 = .ok (.iload_n 1, 1) := dec_of da_X11_actAtAp_0 (k := 53) rfl
theorem dX11_actAtAp_93 : decode cX11_actAtAp 93 = .ok (.sipush 192, 3) := dec_of da_X11_actAtAp_0 (k := 54) rfl
theorem dX11_actAtAp_96 : decode cX11_actAtAp 96 = .ok (.bipush 6, 2) := dec_of da_X11_actAtAp_0 (k := 55) rfl
theorem dX11_actAtAp_98 : decode cX11_actAtAp 98 = .ok (.invokevirtual 162, 3) := dec_of da_X11_actAtAp_0 (k := 56) rfl
theorem dX11_actAtAp_101 : decode cX11_actAtAp 101 = .ok (.goto 22, 3) := dec_of da_X11_actAtAp_0 (k := 57) rfl
theorem dX11_actAtAp_104 : decode cX11_actAtAp 104 = .ok (.aload_n 0, 1) := dec_of da_X11_actAtAp_0 (k := 58) rfl
theorem dX11_actAtAp_105 : decode cX11_actAtAp 105 = .ok (.sipush 192, 3) := dec_of da_X11_actAtAp_0 (k := 59) rfl
def dl_X11_actAtAp_1 : List (Nat × (Instr × Nat)) := [(108, (.aload_n 2, 1)), (109, (.bipush 24, 2)), (111, (.iaload, 1)), (112, (.invokevirtual 454, 3)), (115, (.ifCond .eq 8, 3)), (118, (.aload_n 3, 1)), (119, (.iconst 1, 1)), (120, (.invokevirtual 155, 3)), (123, (.return_, 1))]
set_option maxRecDepth 100000 in
theorem da_X11_actAtAp_1 : dl_X11_actAtAp_1.all (fun q => decide (decode cX11_actAtAp q.1 = .ok q.2)) = true := by decide +kernel
theorem dX11_actAtAp_108 : decode cX11_actAtAp 108 = .ok (.aload_n 2, 1) := dec_of da_X11_actAtAp_1 (k := 0) rfl
theorem dX11_actAtAp_109 : decode cX11_actAtAp 109 = .ok (.bipush 24, 2) := dec_of da_X11_actAtAp_1 (k := 1) rfl
theorem dX11_actAtAp_111 : decode cX11_actAtAp 111 = .ok (.iaload, 1) := dec_of da_X11_actAtAp_1 (k := 2) rfl
theorem dX11_actAtAp_112 : decode cX11_actAtAp 112 = .ok (.invokevirtual 454, 3) := dec_of da_X11_actAtAp_1 (k := 3) rfl
theorem dX11_actAtAp_115 : decode cX11_actAtAp 115 = .ok (.ifCond .eq 8, 3) := dec_of da_X11_actAtAp_1 (k := 4) rfl
theorem dX11_actAtAp_118 : decode cX11_actAtAp 118 = .ok (.aload_n 3, 1) := dec_of da_X11_actAtAp_1 (k := 5) rfl
theorem dX11_actAtAp_119 : decode cX11_actAtAp 119 = .ok (.iconst 1, 1) := dec_of da_X11_actAtAp_1 (k := 6) rfl
theorem dX11_actAtAp_120 : decode cX11_actAtAp 120 = .ok (.invokevirtual 155, 3) := dec_of da_X11_actAtAp_1 (k := 7) rfl
theorem dX11_actAtAp_123 : decode cX11_actAtAp 123 = .ok (.return_, 1) := dec_of da_X11_actAtAp_1 (k := 8) rfl
def dl_X11_actAtStation_0 : List (Nat × (Instr × Nat)) := [(0, (.aload_n 0, 1)), (1, (.getfield 17, 3)), (4, (.iload_n 1, 1)), (5, (.aaload, 1)), (6, (.astore_n 3, 1)), (7, (.aload_n 0, 1)), (8, (.sipush 176, 3)), (11, (.iconst 2, 1)), (12, (.invokevirtual 454, 3)), (15, (.ifCond .eq 34, 3)), (18, (.aload_n 3, 1)), (19, (.getfield 158, 3)), (22, (.ifCond .eq 72, 3)), (25, (.aload_n 3, 1)), (26, (.getfield 177, 3)), (29, (.iconst 1, 1)), (30, (.if_icmp .ne 64, 3)), (33, (.aload_n 3, 1)), (34, (.iconst 2, 1)), (35, (.putfield 177, 3)), (38, (.aload_n 0, 1)), (39, (.iload_n 1, 1)), (40, (.iconst 0, 1)), (41, (.iconst 0, 1)), (42, (.iconst 0, 1)), (43, (.invokevirtual 162, 3)), (46, (.goto 48, 3)), (49, (.aload_n 0, 1)), (50, (.bipush 16, 2)), (52, (.iload_n 1, 1)), (53, (.invokevirtual 454, 3)), (56, (.ifCond .eq 19, 3)), (59, (.aload_n 3, 1)), (60, (.getfield 177, 3)), (63, (.iconst 2, 1)), (64, (.if_icmp .ne 30, 3)), (67, (.aload_n 3, 1)), (68, (.iconst 3, 1)), (69, (.putfield 177, 3)), (72, (.goto 22, 3)), (75, (.aload_n 0, 1)), (76, (.sipush 192, 3)), (79, (.aload_n 2, 1)), (80, (.bipush 24, 2)), (82, (.iaload, 1)), (83, (.invokevirtual 454, 3)), (86, (.ifCond .eq 8, 3)), (89, (.aload_n 3, 1)), (90, (.iconst 1, 1)), (91, (.invokevirtual 155, 3)), (94, (.return_, 1))]
set_option maxRecDepth 100000 in
theorem da_X11_actAtStation_0 : dl_X11_actAtStation_0.all (fun q => decide (decode cX11_actAtStation q.1 = .ok q.2)) = true := by decide +kernel
theorem dX11_actAtStation_0 : decode cX11_actAtStation 0 = .ok (.aload_n 0, 1) := dec_of da_X11_actAtStation_0 (k := 0) rfl
theorem dX11_actAtStation_1 : decode cX11_actAtStation 1 = .ok (.getfield 17, 3) := dec_of da_X11_actAtStation_0 (k := 1) rfl
theorem dX11_actAtStation_4 : decode cX11_actAtStation 4 = .ok (.iload_n 1, 1) := dec_of da_X11_actAtStation_0 (k := 2) rfl
theorem dX11_actAtStation_5 : decode cX11_actAtStation 5 = .ok (.aaload, 1) := dec_of da_X11_actAtStation_0 (k := 3) rfl
theorem dX11_actAtStation_6 : decode cX11_actAtStation 6 = .ok (.astore_n 3, 1) := dec_of da_X11_actAtStation_0 (k := 4) rfl
theorem dX11_actAtStation_7 : decode cX11_actAtStation 7 = .ok (.aload_n 0, 1) := dec_of da_X11_actAtStation_0 (k := 5) rfl
theorem dX11_actAtStation_8 : decode cX11_actAtStation 8 = .ok (.sipush 176, 3) := dec_of da_X11_actAtStation_0 (k := 6) rfl
theorem dX11_actAtStation_11 : decode cX11_actAtStation 11 = .ok (.iconst 2, 1) := dec_of da_X11_actAtStation_0 (k := 7) rfl
theorem dX11_actAtStation_12 : decode cX11_actAtStation 12 = .ok (.invokevirtual 454, 3) := dec_of da_X11_actAtStation_0 (k := 8) rfl
theorem dX11_actAtStation_15 : decode cX11_actAtStation 15 = .ok (.ifCond .eq 34, 3) := dec_of da_X11_actAtStation_0 (k := 9) rfl
theorem dX11_actAtStation_18 : decode cX11_actAtStation 18 = .ok (.aload_n 3, 1) := dec_of da_X11_actAtStation_0 (k := 10) rfl
theorem dX11_actAtStation_19 : decode cX11_actAtStation 19 = .ok (.getfield 158, 3) := dec_of da_X11_actAtStation_0 (k := 11) rfl
theorem dX11_actAtStation_22 : decode cX11_actAtStation 22 = .ok (.ifCond .eq 72, 3) := dec_of da_X11_actAtStation_0 (k := 12) rfl
theorem dX11_actAtStation_25 : decode cX11_actAtStation 25 = .ok (.aload_n 3, 1) := dec_of da_X11_actAtStation_0 (k := 13) rfl
theorem dX11_actAtStation_26 : decode cX11_actAtStation 26 = .ok (.getfield 177, 3) := dec_of da_X11_actAtStation_0 (k := 14) rfl
theorem dX11_actAtStation_29 : decode cX11_actAtStation 29 = .ok (.iconst 1, 1) := dec_of da_X11_actAtStation_0 (k := 15) rfl
theorem dX11_actAtStation_30 : decode cX11_actAtStation 30 = .ok (.if_icmp .ne 64, 3) := dec_of da_X11_actAtStation_0 (k := 16) rfl
theorem dX11_actAtStation_33 : decode cX11_actAtStation 33 = .ok (.aload_n 3, 1) := dec_of da_X11_actAtStation_0 (k := 17) rfl
theorem dX11_actAtStation_34 : decode cX11_actAtStation 34 = .ok (.iconst 2, 1) := dec_of da_X11_actAtStation_0 (k := 18) rfl
theorem dX11_actAtStation_35 : decode cX11_actAtStation 35 = .ok (.putfield 177, 3) := dec_of da_X11_actAtStation_0 (k := 19) rfl
theorem dX11_actAtStation_38 : decode cX11_actAtStation 38 = .ok (.aload_n 0, 1) := dec_of da_X11_actAtStation_0 (k := 20) rfl
theorem dX11_actAtStation_39 : decode cX11_actAtStation 39 = .ok (.iload_n 1, 1) := dec_of da_X11_actAtStation_0 (k := 21) rfl
theorem dX11_actAtStation_40 : decode cX11_actAtStation 40 = .ok (.iconst 0, 1) := dec_of da_X11_actAtStation_0 (k := 22) rfl
theorem dX11_actAtStation_41 : decode cX11_actAtStation 41 = .ok (.iconst 0, 1) := dec_of da_X11_actAtStation_0 (k := 23) rfl
theorem dX11_actAtStation_42 : decode cX11_actAtStation 42 = .ok (.iconst 0, 1) := dec_of da_X11_actAtStation_0 (k := 24) rfl
theorem dX11_actAtStation_43 : decode cX11_actAtStation 43 = .ok (.invokevirtual 162, 3) := dec_of da_X11_actAtStation_0 (k := 25) rfl
theorem dX11_actAtStation_46 : decode cX11_actAtStation 46 = .ok (.goto 48, 3) := dec_of da_X11_actAtStation_0 (k := 26) rfl
theorem dX11_actAtStation_49 : decode cX11_actAtStation 49 = .ok (.aload_n 0, 1) := dec_of da_X11_actAtStation_0 (k := 27) rfl
theorem dX11_actAtStation_50 : decode cX11_actAtStation 50 = .ok (.bipush 16, 2) := dec_of da_X11_actAtStation_0 (k := 28) rfl
theorem dX11_actAtStation_52 : decode cX11_actAtStation 52 = .ok (.iload_n 1, 1) := dec_of da_X11_actAtStation_0 (k := 29) rfl
theorem dX11_actAtStation_53 : decode cX11_actAtStation 53 = .ok (.invokevirtual 454, 3) := dec_of da_X11_actAtStation_0 (k := 30) rfl
theorem dX11_actAtStation_56 : decode cX11_actAtStation 56 = .ok (.ifCond .eq 19, 3) := dec_of da_X11_actAtStation_0 (k := 31) rfl
theorem dX11_actAtStation_59 : decode cX11_actAtStation 59 = .ok (.aload_n 3, 1) := dec_of da_X11_actAtStation_0 (k := 32) rfl
theorem dX11_actAtStation_60 : decode cX11_actAtStation 60 = .ok (.getfield 177, 3) := dec_of da_X11_actAtStation_0 (k := 33) rfl
theorem dX11_actAtStation_63 : decode cX11_actAtStation 63 = .ok (.iconst 2, 1) := dec_of da_X11_actAtStation_0 (k := 34) rfl
theorem dX11_actAtStation_64 : decode cX11_actAtStation 64 = .ok (.if_icmp .ne 30, 3) := dec_of da_X11_actAtStation_0 (k := 35) rfl
theorem dX11_actAtStation_67 : decode cX11_actAtStation 67 = .ok (.aload_n 3, 1) := dec_of da_X11_actAtStation_0 (k := 36) rfl
theorem dX11_actAtStation_68 : decode cX11_actAtStation 68 = .ok (.iconst 3, 1) := dec_of da_X11_actAtStation_0 (k := 37) rfl
theorem dX11_actAtStation_69 : decode cX11_actAtStation 69 = .ok (.putfield 177, 3) := dec_of da_X11_actAtStation_0 (k := 38) rfl
theorem dX11_actAtStation_72 : decode cX11_actAtStation 72 = .ok (.goto 22, 3) := dec_of da_X11_actAtStation_0 (k := 39) rfl
theorem dX11_actAtStation_75 : decode cX11_actAtStation 75 = .ok (.aload_n 0, 1) := dec_of da_X11_actAtStation_0 (k := 40) rfl
theorem dX11_actAtStation_76 : decode cX11_actAtStation 76 = .ok (.sipush 192, 3) := dec_of da_X11_actAtStation_0 (k := 41) rfl
theorem dX11_actAtStation_79 : decode cX11_actAtStation 79 = .ok (.aload_n 2, 1) := dec_of da_X11_actAtStation_0 (k := 42) rfl
theorem dX11_actAtStation_80 : decode cX11_actAtStation 80 = .ok (.bipush 24, 2) := dec_of da_X11_actAtStation_0 (k := 43) rfl
theorem dX11_actAtStation_82 : decode cX11_actAtStation 82 = .ok (.iaload, 1) := dec_of da_X11_actAtStation_0 (k := 44) rfl
theorem dX11_actAtStation_83 : decode cX11_actAtStation 83 = .ok (.invokevirtual 454, 3) := dec_of da_X11_actAtStation_0 (k := 45) rfl
theorem dX11_actAtStation_86 : decode cX11_actAtStation 86 = .ok (.ifCond .eq 8, 3) := dec_of da_X11_actAtStation_0 (k := 46) rfl
theorem dX11_actAtStation_89 : decode cX11_actAtStation 89 = .ok (.aload_n 3, 1) := dec_of da_X11_actAtStation_0 (k := 47) rfl
theorem dX11_actAtStation_90 : decode cX11_actAtStation 90 = .ok (.iconst 1, 1) := dec_of da_X11_actAtStation_0 (k := 48) rfl
theorem dX11_actAtStation_91 : decode cX11_actAtStation 91 = .ok (.invokevirtual 155, 3) := dec_of da_X11_actAtStation_0 (k := 49) rfl
theorem dX11_actAtStation_94 : decode cX11_actAtStation 94 = .ok (.return_, 1) := dec_of da_X11_actAtStation_0 (k := 50) rfl
def dl_X11_hasBody_0 : List (Nat × (Instr × Nat)) := [(0, (.aload_n 0, 1)), (1, (.getfield 27, 3)), (4, (.invokevirtual 228, 3)), (7, (.astore_n 3, 1)), (8, (.aload_n 0, 1)), (9, (.getfield 27, 3)), (12, (.invokevirtual 424, 3)), (15, (.bipush 28, 2)), (17, (.isub, 1)), (18, (.istore 4, 2)), (20, (.aload_n 3, 1)), (21, (.iconst 0, 1)), (22, (.iaload, 1)), (23, (.iload_n 1, 1)), (24, (.if_icmp .ne 17, 3)), (27, (.iload 4, 2)), (29, (.aload_n 0, 1)), (30, (.getfield 76, 3)), (33, (.iload_n 1, 1)), (34, (.iload_n 2, 1)), (35, (.invokestatic 316, 3)), (38, (.if_icmp .eq 5, 3)), (41, (.iconst 0, 1)), (42, (.ireturn, 1)), (43, (.aload_n 3, 1)), (44, (.bipush 24, 2)), (46, (.aload_n 0, 1)), (47, (.getfield 76, 3)), (50, (.iconst 0, 1)), (51, (.iload 4, 2)), (53, (.invokestatic 464, 3)), (56, (.ireturn, 1))]
set_option maxRecDepth 100000 in
theorem da_X11_hasBody_0 : dl_X11_hasBody_0.all (fun q => decide (decode cX11_hasBody q.1 = .ok q.2)) = true := by decide +kernel
theorem dX11_hasBody_0 : decode cX11_hasBody 0 = .ok (.aload_n 0, 1) := dec_of da_X11_hasBody_0 (k := 0) rfl
theorem dX11_hasBody_1 : decode cX11_hasBody 1 = .ok (.getfield 27, 3) := dec_of da_X11_hasBody_0 (k := 1) rfl
theorem dX11_hasBody_4 : decode cX11_hasBody 4 = .ok (.invokevirtual 228, 3) := dec_of da_X11_hasBody_0 (k := 2) rfl
theorem dX11_hasBody_7 : decode cX11_hasBody 7 = .ok (.astore_n 3, 1) := dec_of da_X11_hasBody_0 (k := 3) rfl
theorem dX11_hasBody_8 : decode cX11_hasBody 8 = .ok (.aload_n 0, 1) := dec_of da_X11_hasBody_0 (k := 4) rfl
theorem dX11_hasBody_9 : decode cX11_hasBody 9 = .ok (.getfield 27, 3) := dec_of da_X11_hasBody_0 (k := 5) rfl
theorem dX11_hasBody_12 : decode cX11_hasBody 12 = .ok (.invokevirtual 424, 3) := dec_of da_X11_hasBody_0 (k := 6) rfl
theorem dX11_hasBody_15 : decode cX11_hasBody 15 = .ok (.bipush 28, 2) := dec_of da_X11_hasBody_0 (k := 7) rfl
theorem dX11_hasBody_17 : decode cX11_hasBody 17 = .ok (.isub, 1) := dec_of da_X11_hasBody_0 (k := 8) rfl
theorem dX11_hasBody_18 : decode cX11_hasBody 18 = .ok (.istore 4, 2) := dec_of da_X11_hasBody_0 (k := 9) rfl
theorem dX11_hasBody_20 : decode cX11_hasBody 20 = .ok (.aload_n 3, 1) := dec_of da_X11_hasBody_0 (k := 10) rfl
theorem dX11_hasBody_21 : decode cX11_hasBody 21 = .ok (.iconst 0, 1) := dec_of da_X11_hasBody_0 (k := 11) rfl
theorem dX11_hasBody_22 : decode cX11_hasBody 22 = .ok (.iaload, 1) := dec_of da_X11_hasBody_0 (k := 12) rfl
theorem dX11_hasBody_23 : decode cX11_hasBody 23 = .ok (.iload_n 1, 1) := dec_of da_X11_hasBody_0 (k := 13) rfl
theorem dX11_hasBody_24 : decode cX11_hasBody 24 = .ok (.if_icmp .ne 17, 3) := dec_of da_X11_hasBody_0 (k := 14) rfl
theorem dX11_hasBody_27 : decode cX11_hasBody 27 = .ok (.iload 4, 2) := dec_of da_X11_hasBody_0 (k := 15) rfl
theorem dX11_hasBody_29 : decode cX11_hasBody 29 = .ok (.aload_n 0, 1) := dec_of da_X11_hasBody_0 (k := 16) rfl
theorem dX11_hasBody_30 : decode cX11_hasBody 30 = .ok (.getfield 76, 3) := dec_of da_X11_hasBody_0 (k := 17) rfl
theorem dX11_hasBody_33 : decode cX11_hasBody 33 = .ok (.iload_n 1, 1) := dec_of da_X11_hasBody_0 (k := 18) rfl
theorem dX11_hasBody_34 : decode cX11_hasBody 34 = .ok (.iload_n 2, 1) := dec_of da_X11_hasBody_0 (k := 19) rfl
theorem dX11_hasBody_35 : decode cX11_hasBody 35 = .ok (.invokestatic 316, 3) := dec_of da_X11_hasBody_0 (k := 20) rfl
theorem dX11_hasBody_38 : decode cX11_hasBody 38 = .ok (.if_icmp .eq 5, 3) := dec_of da_X11_hasBody_0 (k := 21) rfl
theorem dX11_hasBody_41 : decode cX11_hasBody 41 = .ok (.iconst 0, 1) := dec_of da_X11_hasBody_0 (k := 22) rfl
theorem dX11_hasBody_42 : decode cX11_hasBody 42 = .ok (.ireturn, 1) := dec_of da_X11_hasBody_0 (k := 23) rfl
theorem dX11_hasBody_43 : decode cX11_hasBody 43 = .ok (.aload_n 3, 1) := dec_of da_X11_hasBody_0 (k := 24) rfl
theorem dX11_hasBody_44 : decode cX11_hasBody 44 = .ok (.bipush 24, 2) := dec_of da_X11_hasBody_0 (k := 25) rfl
theorem dX11_hasBody_46 : decode cX11_hasBody 46 = .ok (.aload_n 0, 1) := dec_of da_X11_hasBody_0 (k := 26) rfl
theorem dX11_hasBody_47 : decode cX11_hasBody 47 = .ok (.getfield 76, 3) := dec_of da_X11_hasBody_0 (k := 27) rfl
theorem dX11_hasBody_50 : decode cX11_hasBody 50 = .ok (.iconst 0, 1) := dec_of da_X11_hasBody_0 (k := 28) rfl
theorem dX11_hasBody_51 : decode cX11_hasBody 51 = .ok (.iload 4, 2) := dec_of da_X11_hasBody_0 (k := 29) rfl
theorem dX11_hasBody_53 : decode cX11_hasBody 53 = .ok (.invokestatic 464, 3) := dec_of da_X11_hasBody_0 (k := 30) rfl
theorem dX11_hasBody_56 : decode cX11_hasBody 56 = .ok (.ireturn, 1) := dec_of da_X11_hasBody_0 (k := 31) rfl
def dl_X11_takeData_0 : List (Nat × (Instr × Nat)) := [(0, (.aload_n 0, 1)), (1, (.getfield 27, 3)), (4, (.invokevirtual 228, 3)), (7, (.astore_n 2, 1)), (8, (.aload_n 2, 1)), (9, (.iconst 1, 1)), (10, (.iaload, 1)), (11, (.iconst 3, 1)), (12, (.iand, 1)), (13, (.istore_n 3, 1)), (14, (.iload_n 1, 1)), (15, (.ifCond .ne 12, 3)), (18, (.aload_n 2, 1)), (19, (.bipush 10, 2)), (21, (.invokestatic 431, 3)), (24, (.goto 4, 3)), (27, (.iload_n 1, 1)), (28, (.istore 4, 2)), (30, (.iload_n 3, 1)), (31, (.iload_n 1, 1)), (32, (.ifCond .ne 7, 3)), (35, (.iconst 1, 1)), (36, (.goto 4, 3)), (39, (.iconst 2, 1)), (40, (.if_icmp .ne 11, 3)), (43, (.iload 4, 2)), (45, (.invokestatic 116, 3)), (48, (.ifCond .ne 4, 3)), (51, (.return_, 1)), (52, (.iload_n 1, 1)), (53, (.ifCond .ne 13, 3)), (56, (.aload_n 0, 1)), (57, (.getfield 21, 3)), (60, (.iload 4, 2)), (62, (.aaload, 1)), (63, (.goto 10, 3)), (66, (.aload_n 0, 1)), (67, (.getfield 17, 3)), (70, (.iload 4, 2)), (72, (.aaload, 1)), (73, (.astore 5, 2)), (75, (.aload_n 2, 1)), (76, (.iconst 1, 1)), (77, (.iaload, 1)), (78, (.bipush 64, 2)), (80, (.iand, 1)), (81, (.ifCond .eq 7, 3)), (84, (.iconst 1, 1)), (85, (.goto 4, 3)), (88, (.iconst 0, 1)), (89, (.istore 6, 2)), (91, (.iload 6, 2)), (93, (.ifCond .eq 46, 3)), (96, (.aload 5, 2)), (98, (.getfield 177, 3)), (101, (.iconst 4, 1)), (102, (.if_icmp .ne 37, 3)), (105, (.aload_n 0, 1)), (106, (.aload_n 0, 1)), (107, (.getfield 11, 3))]
set_option maxRecDepth 100000 in
theorem da_X11_takeData_0 : dl_X11_takeData_0.all (fun q => decide (decode cX11_takeData q.1 = .ok q.2)) = true := by decide +kernel
theorem dX11_takeData_0 : decode cX11_takeData 0 = .ok (.aload_n 0, 1) := dec_of da_X11_takeData_0 (k := 0) rfl
theorem dX11_takeData_1 : decode cX11_takeData 1 = .ok (.getfield 27, 3) := dec_of da_X11_takeData_0 (k := 1) rfl
theorem dX11_takeData_4 : decode cX11_takeData 4 = .ok (.invokevirtual 228, 3) := dec_of da_X11_takeData_0 (k := 2) rfl
theorem dX11_takeData_7 : decode cX11_takeData 7 = .ok (.astore_n 2, 1) := dec_of da_X11_takeData_0 (k := 3) rfl
theorem dX11_takeData_8 : decode cX11_takeData 8 = .ok (.aload_n 2, 1) := dec_of da_X11_takeData_0 (k := 4) rfl
theorem dX11_takeData_9 : decode cX11_takeData 9 = .ok (.iconst 1, 1) := dec_of da_X11_takeData_0 (k := 5) rfl
theorem dX11_takeData_10 : decode cX11_takeData 10 = .ok (.iaload, 1) := dec_of da_X11_takeData_0 (k := 6) rfl
theorem dX11_takeData_11 : decode cX11_takeData 11 = .ok (.iconst 3, 1) := dec_of da_X11_takeData_0 (k := 7) rfl
theorem dX11_takeData_12 : decode cX11_takeData 12 = .ok (.iand, 1) := dec_of da_X11_takeData_0 (k := 8) rfl
theorem dX11_takeData_13 : decode cX11_takeData 13 = .ok (.istore_n 3, 1) := dec_of da_X11_takeData_0 (k := 9) rfl
theorem dX11_takeData_14 : decode cX11_takeData 14 = .ok (.iload_n 1, 1) := dec_of da_X11_takeData_0 (k := 10) rfl
theorem dX11_takeData_15 : decode cX11_takeData 15 = .ok (.ifCond .ne 12, 3) := dec_of da_X11_takeData_0 (k := 11) rfl
theorem dX11_takeData_18 : decode cX11_takeData 18 = .ok (.aload_n 2, 1) := dec_of da_X11_takeData_0 (k := 12) rfl
theorem dX11_takeData_19 : decode cX11_takeData 19 = .ok (.bipush 10, 2) := dec_of da_X11_takeData_0 (k := 13) rfl
theorem dX11_takeData_21 : decode cX11_takeData 21 = .ok (.invokestatic 431, 3) := dec_of da_X11_takeData_0 (k := 14) rfl
theorem dX11_takeData_24 : decode cX11_takeData 24 = .ok (.goto 4, 3) := dec_of da_X11_takeData_0 (k := 15) rfl
theorem dX11_takeData_27 : decode cX11_takeData 27 = .ok (.iload_n 1, 1) := dec_of da_X11_takeData_0 (k := 16) rfl
theorem dX11_takeData_28 : decode cX11_takeData 28 = .ok (.istore 4, 2) := dec_of da_X11_takeData_0 (k := 17) rfl
theorem dX11_takeData_30 : decode cX11_takeData 30 = .ok (.iload_n 3, 1) := dec_of da_X11_takeData_0 (k := 18) rfl
theorem dX11_takeData_31 : decode cX11_takeData 31 = .ok (.iload_n 1, 1) := dec_of da_X11_takeData_0 (k := 19) rfl
theorem dX11_takeData_32 : decode cX11_takeData 32 = .ok (.ifCond .ne 7, 3) := dec_of da_X11_takeData_0 (k := 20) rfl
theorem dX11_takeData_35 : decode cX11_takeData 35 = .ok (.iconst 1, 1) := dec_of da_X11_takeData_0 (k := 21) rfl
theorem dX11_takeData_36 : decode cX11_takeData 36 = .ok (.goto 4, 3) := dec_of da_X11_takeData_0 (k := 22) rfl
theorem dX11_takeData_39 : decode cX11_takeData 39 = .ok (.iconst 2, 1) := dec_of da_X11_takeData_0 (k := 23) rfl
theorem dX11_takeData_40 : decode cX11_takeData 40 = .ok (.if_icmp .ne 11, 3) := dec_of da_X11_takeData_0 (k := 24) rfl
theorem dX11_takeData_43 : decode cX11_takeData 43 = .ok (.iload 4, 2) := dec_of da_X11_takeData_0 (k := 25) rfl
theorem dX11_takeData_45 : decode cX11_takeData 45 = .ok (.invokestatic 116, 3) := dec_of da_X11_takeData_0 (k := 26) rfl
theorem dX11_takeData_48 : decode cX11_takeData 48 = .ok (.ifCond .ne 4, 3) := dec_of da_X11_takeData_0 (k := 27) rfl
theorem dX11_takeData_51 : decode cX11_takeData 51 = .ok (.return_, 1) := dec_of da_X11_takeData_0 (k := 28) rfl
theorem dX11_takeData_52 : decode cX11_takeData 52 = .ok (.iload_n 1, 1) := dec_of da_X11_takeData_0 (k := 29) rfl
theorem dX11_takeData_53 : decode cX11_takeData 53 = .ok (.ifCond .ne 13, 3) := dec_of da_X11_takeData_0 (k := 30) rfl
theorem dX11_takeData_56 : decode cX11_takeData 56 = .ok (.aload_n 0, 1) := dec_of da_X11_takeData_0 (k := 31) rfl
theorem dX11_takeData_57 : decode cX11_takeData 57 = .ok (.getfield 21, 3) := dec_of da_X11_takeData_0 (k := 32) rfl
theorem dX11_takeData_60 : decode cX11_takeData 60 = .ok (.iload 4, 2) := dec_of da_X11_takeData_0 (k := 33) rfl
theorem dX11_takeData_62 : decode cX11_takeData 62 = .ok (.aaload, 1) := dec_of da_X11_takeData_0 (k := 34) rfl
theorem dX11_takeData_63 : decode cX11_takeData 63 = .ok (.goto 10, 3) := dec_of da_X11_takeData_0 (k := 35) rfl
theorem dX11_takeData_66 : decode cX11_takeData 66 = .ok (.aload_n 0, 1) := dec_of da_X11_takeData_0 (k := 36) rfl
theorem dX11_takeData_67 : decode cX11_takeData 67 = .ok (.getfield 17, 3) := dec_of da_X11_takeData_0 (k := 37) rfl
theorem dX11_takeData_70 : decode cX11_takeData 70 = .ok (.iload 4, 2) := dec_of da_X11_takeData_0 (k := 38) rfl
theorem dX11_takeData_72 : decode cX11_takeData 72 = .ok (.aaload, 1) := dec_of da_X11_takeData_0 (k := 39) rfl
theorem dX11_takeData_73 : decode cX11_takeData 73 = .ok (.astore 5, 2) := dec_of da_X11_takeData_0 (k := 40) rfl
theorem dX11_takeData_75 : decode cX11_takeData 75 = .ok (.aload_n 2, 1) := dec_of da_X11_takeData_0 (k := 41) rfl
theorem dX11_takeData_76 : decode cX11_takeData 76 = .ok (.iconst 1, 1) := dec_of da_X11_takeData_0 (k := 42) rfl
theorem dX11_takeData_77 : decode cX11_takeData 77 = .ok (.iaload, 1) := dec_of da_X11_takeData_0 (k := 43) rfl
theorem dX11_takeData_78 : decode cX11_takeData 78 = .ok (.bipush 64, 2) := dec_of da_X11_takeData_0 (k := 44) rfl
theorem dX11_takeData_80 : decode cX11_takeData 80 = .ok (.iand, 1) := dec_of da_X11_takeData_0 (k := 45) rfl
theorem dX11_takeData_81 : decode cX11_takeData 81 = .ok (.ifCond .eq 7, 3) := dec_of da_X11_takeData_0 (k := 46) rfl
theorem dX11_takeData_84 : decode cX11_takeData 84 = .ok (.iconst 1, 1) := dec_of da_X11_takeData_0 (k := 47) rfl
theorem dX11_takeData_85 : decode cX11_takeData 85 = .ok (.goto 4, 3) := dec_of da_X11_takeData_0 (k := 48) rfl
theorem dX11_takeData_88 : decode cX11_takeData 88 = .ok (.iconst 0, 1) := dec_of da_X11_takeData_0 (k := 49) rfl
theorem dX11_takeData_89 : decode cX11_takeData 89 = .ok (.istore 6, 2) := dec_of da_X11_takeData_0 (k := 50) rfl
theorem dX11_takeData_91 : decode cX11_takeData 91 = .ok (.iload 6, 2) := dec_of da_X11_takeData_0 (k := 51) rfl
theorem dX11_takeData_93 : decode cX11_takeData 93 = .ok (.ifCond .eq 46, 3) := dec_of da_X11_takeData_0 (k := 52) rfl
theorem dX11_takeData_96 : decode cX11_takeData 96 = .ok (.aload 5, 2) := dec_of da_X11_takeData_0 (k := 53) rfl
theorem dX11_takeData_98 : decode cX11_takeData 98 = .ok (.getfield 177, 3) := dec_of da_X11_takeData_0 (k := 54) rfl
theorem dX11_takeData_101 : decode cX11_takeData 101 = .ok (.iconst 4, 1) := dec_of da_X11_takeData_0 (k := 55) rfl
theorem dX11_takeData_102 : decode cX11_takeData 102 = .ok (.if_icmp .ne 37, 3) := dec_of da_X11_takeData_0 (k := 56) rfl
theorem dX11_takeData_105 : decode cX11_takeData 105 = .ok (.aload_n 0, 1) := dec_of da_X11_takeData_0 (k := 57) rfl
theorem dX11_takeData_106 : decode cX11_takeData 106 = .ok (.aload_n 0, 1) := dec_of da_X11_takeData_0 (k := 58) rfl
theorem dX11_takeData_107 : decode cX11_takeData 107 = .ok (.getfield 11, 3) := dec_of da_X11_takeData_0 (k := 59) rfl
def dl_X11_takeData_1 : List (Nat × (Instr × Nat)) := [(110, (.iload_n 1, 1)), (111, (.aaload, 1)), (112, (.aload 5, 2)), (114, (.aload_n 2, 1)), (115, (.invokevirtual 468, 3)), (118, (.ifCond .eq 84, 3)), (121, (.aload_n 0, 1)), (122, (.iload_n 1, 1)), (123, (.iload 4, 2)), (125, (.aload 5, 2)), (127, (.aload_n 2, 1)), (128, (.bipush 16, 2)), (130, (.invokestatic 431, 3)), (133, (.invokevirtual 472, 3)), (136, (.goto 66, 3)), (139, (.iload 6, 2)), (141, (.ifCond .eq 22, 3)), (144, (.iload_n 1, 1)), (145, (.ifCond .ne 18, 3)), (148, (.aload_n 0, 1)), (149, (.iconst 0, 1)), (150, (.iload 4, 2)), (152, (.sipush 192, 3)), (155, (.bipush 7, 2)), (157, (.invokevirtual 162, 3)), (160, (.goto 42, 3)), (163, (.iload 6, 2)), (165, (.ifCond .ne 37, 3)), (168, (.aload 5, 2)), (170, (.getfield 177, 3)), (173, (.iconst 3, 1)), (174, (.if_icmp .lt 28, 3)), (177, (.iload_n 1, 1)), (178, (.ifCond .ne 15, 3)), (181, (.aload_n 0, 1)), (182, (.iload 4, 2)), (184, (.aload 5, 2)), (186, (.aload_n 2, 1)), (187, (.invokevirtual 476, 3)), (190, (.goto 12, 3)), (193, (.aload_n 0, 1)), (194, (.iload 4, 2)), (196, (.aload 5, 2)), (198, (.aload_n 2, 1)), (199, (.invokevirtual 480, 3)), (202, (.return_, 1))]
set_option maxRecDepth 100000 in
theorem da_X11_takeData_1 : dl_X11_takeData_1.all (fun q => decide (decode cX11_takeData q.1 = .ok q.2)) = true := by decide +kernel
theorem dX11_takeData_110 : decode cX11_takeData 110 = .ok (.iload_n 1, 1) := dec_of da_X11_takeData_1 (k := 0) rfl
theorem dX11_takeData_111 : decode cX11_takeData 111 = .ok (.aaload, 1) := dec_of da_X11_takeData_1 (k := 1) rfl
theorem dX11_takeData_112 : decode cX11_takeData 112 = .ok (.aload 5, 2) := dec_of da_X11_takeData_1 (k := 2) rfl
theorem dX11_takeData_114 : decode cX11_takeData 114 = .ok (.aload_n 2, 1) := dec_of da_X11_takeData_1 (k := 3) rfl
theorem dX11_takeData_115 : decode cX11_takeData 115 = .ok (.invokevirtual 468, 3) := dec_of da_X11_takeData_1 (k := 4) rfl
theorem dX11_takeData_118 : decode cX11_takeData 118 = .ok (.ifCond .eq 84, 3) := dec_of da_X11_takeData_1 (k := 5) rfl
theorem dX11_takeData_121 : decode cX11_takeData 121 = .ok (.aload_n 0, 1) := dec_of da_X11_takeData_1 (k := 6) rfl
theorem dX11_takeData_122 : decode cX11_takeData 122 = .ok (.iload_n 1, 1) := dec_of da_X11_takeData_1 (k := 7) rfl
theorem dX11_takeData_123 : decode cX11_takeData 123 = .ok (.iload 4, 2) := dec_of da_X11_takeData_1 (k := 8) rfl
theorem dX11_takeData_125 : decode cX11_takeData 125 = .ok (.aload 5, 2) := dec_of da_X11_takeData_1 (k := 9) rfl
theorem dX11_takeData_127 : decode cX11_takeData 127 = .ok (.aload_n 2, 1) := dec_of da_X11_takeData_1 (k := 10) rfl
theorem dX11_takeData_128 : decode cX11_takeData 128 = .ok (.bipush 16, 2) := dec_of da_X11_takeData_1 (k := 11) rfl
theorem dX11_takeData_130 : decode cX11_takeData 130 = .ok (.invokestatic 431, 3) := dec_of da_X11_takeData_1 (k := 12) rfl
theorem dX11_takeData_133 : decode cX11_takeData 133 = .ok (.invokevirtual 472, 3) := dec_of da_X11_takeData_1 (k := 13) rfl
theorem dX11_takeData_136 : decode cX11_takeData 136 = .ok (.goto 66, 3) := dec_of da_X11_takeData_1 (k := 14) rfl
theorem dX11_takeData_139 : decode cX11_takeData 139 = .ok (.iload 6, 2) := dec_of da_X11_takeData_1 (k := 15) rfl
theorem dX11_takeData_141 : decode cX11_takeData 141 = .ok (.ifCond .eq 22, 3) := dec_of da_X11_takeData_1 (k := 16) rfl
theorem dX11_takeData_144 : decode cX11_takeData 144 = .ok (.iload_n 1, 1) := dec_of da_X11_takeData_1 (k := 17) rfl
theorem dX11_takeData_145 : decode cX11_takeData 145 = .ok (.ifCond .ne 18, 3) := dec_of da_X11_takeData_1 (k := 18) rfl
theorem dX11_takeData_148 : decode cX11_takeData 148 = .ok (.aload_n 0, 1) := dec_of da_X11_takeData_1 (k := 19) rfl
theorem dX11_takeData_149 : decode cX11_takeData 149 = .ok (.iconst 0, 1) := dec_of da_X11_takeData_1 (k := 20) rfl
theorem dX11_takeData_150 : decode cX11_takeData 150 = .ok (.iload 4, 2) := dec_of da_X11_takeData_1 (k := 21) rfl
theorem dX11_takeData_152 : decode cX11_takeData 152 = .ok (.sipush 192, 3) := dec_of da_X11_takeData_1 (k := 22) rfl
theorem dX11_takeData_155 : decode cX11_takeData 155 = .ok (.bipush 7, 2) := dec_of da_X11_takeData_1 (k := 23) rfl
theorem dX11_takeData_157 : decode cX11_takeData 157 = .ok (.invokevirtual 162, 3) := dec_of da_X11_takeData_1 (k := 24) rfl
theorem dX11_takeData_160 : decode cX11_takeData 160 = .ok (.goto 42, 3) := dec_of da_X11_takeData_1 (k := 25) rfl
theorem dX11_takeData_163 : decode cX11_takeData 163 = .ok (.iload 6, 2) := dec_of da_X11_takeData_1 (k := 26) rfl
theorem dX11_takeData_165 : decode cX11_takeData 165 = .ok (.ifCond .ne 37, 3) := dec_of da_X11_takeData_1 (k := 27) rfl
theorem dX11_takeData_168 : decode cX11_takeData 168 = .ok (.aload 5, 2) := dec_of da_X11_takeData_1 (k := 28) rfl
theorem dX11_takeData_170 : decode cX11_takeData 170 = .ok (.getfield 177, 3) := dec_of da_X11_takeData_1 (k := 29) rfl
theorem dX11_takeData_173 : decode cX11_takeData 173 = .ok (.iconst 3, 1) := dec_of da_X11_takeData_1 (k := 30) rfl
theorem dX11_takeData_174 : decode cX11_takeData 174 = .ok (.if_icmp .lt 28, 3) := dec_of da_X11_takeData_1 (k := 31) rfl
theorem dX11_takeData_177 : decode cX11_takeData 177 = .ok (.iload_n 1, 1) := dec_of da_X11_takeData_1 (k := 32) rfl
theorem dX11_takeData_178 : decode cX11_takeData 178 = .ok (.ifCond .ne 15, 3) := dec_of da_X11_takeData_1 (k := 33) rfl
theorem dX11_takeData_181 : decode cX11_takeData 181 = .ok (.aload_n 0, 1) := dec_of da_X11_takeData_1 (k := 34) rfl
theorem dX11_takeData_182 : decode cX11_takeData 182 = .ok (.iload 4, 2) := dec_of da_X11_takeData_1 (k := 35) rfl
theorem dX11_takeData_184 : decode cX11_takeData 184 = .ok (.aload 5, 2) := dec_of da_X11_takeData_1 (k := 36) rfl
theorem dX11_takeData_186 : decode cX11_takeData 186 = .ok (.aload_n 2, 1) := dec_of da_X11_takeData_1 (k := 37) rfl
theorem dX11_takeData_187 : decode cX11_takeData 187 = .ok (.invokevirtual 476, 3) := dec_of da_X11_takeData_1 (k := 38) rfl
theorem dX11_takeData_190 : decode cX11_takeData 190 = .ok (.goto 12, 3) := dec_of da_X11_takeData_1 (k := 39) rfl
theorem dX11_takeData_193 : decode cX11_takeData 193 = .ok (.aload_n 0, 1) := dec_of da_X11_takeData_1 (k := 40) rfl
theorem dX11_takeData_194 : decode cX11_takeData 194 = .ok (.iload 4, 2) := dec_of da_X11_takeData_1 (k := 41) rfl
theorem dX11_takeData_196 : decode cX11_takeData 196 = .ok (.aload 5, 2) := dec_of da_X11_takeData_1 (k := 42) rfl
theorem dX11_takeData_198 : decode cX11_takeData 198 = .ok (.aload_n 2, 1) := dec_of da_X11_takeData_1 (k := 43) rfl
theorem dX11_takeData_199 : decode cX11_takeData 199 = .ok (.invokevirtual 480, 3) := dec_of da_X11_takeData_1 (k := 44) rfl
theorem dX11_takeData_202 : decode cX11_takeData 202 = .ok (.return_, 1) := dec_of da_X11_takeData_1 (k := 45) rfl
def dl_X11_passOn_0 : List (Nat × (Instr × Nat)) := [(0, (.iload_n 1, 1)), (1, (.ifCond .eq 34, 3)), (4, (.iload 4, 2)), (6, (.iconst (-1), 1)), (7, (.if_icmp .eq 91, 3)), (10, (.aload_n 0, 1)), (11, (.getfield 11, 3)), (14, (.iload_n 1, 1)), (15, (.aaload, 1)), (16, (.getfield 269, 3)), (19, (.iload 4, 2)), (21, (.aload_n 3, 1)), (22, (.getfield 328, 3)), (25, (.aload_n 3, 1)), (26, (.getfield 327, 3)), (29, (.invokevirtual 483, 3)), (32, (.goto 66, 3)), (35, (.iload 4, 2)), (37, (.ifCond .ne 27, 3)), (40, (.aload_n 0, 1)), (41, (.getfield 11, 3)), (44, (.iconst 0, 1)), (45, (.aaload, 1)), (46, (.getfield 269, 3)), (49, (.iload_n 2, 1)), (50, (.aload_n 3, 1)), (51, (.getfield 328, 3)), (54, (.aload_n 3, 1)), (55, (.getfield 327, 3)), (58, (.invokevirtual 483, 3)), (61, (.goto 37, 3)), (64, (.iload 4, 2)), (66, (.iconst (-1), 1)), (67, (.if_icmp .eq 31, 3)), (70, (.iload 4, 2)), (72, (.iload_n 2, 1)), (73, (.if_icmp .eq 25, 3)), (76, (.aload_n 0, 1)), (77, (.getfield 21, 3)), (80, (.iload 4, 2)), (82, (.aaload, 1)), (83, (.getfield 177, 3)), (86, (.iconst 4, 1)), (87, (.if_icmp .ne 11, 3)), (90, (.aload_n 0, 1)), (91, (.iload 4, 2)), (93, (.iload_n 2, 1)), (94, (.aload_n 3, 1)), (95, (.invokevirtual 486, 3)), (98, (.return_, 1))]
set_option maxRecDepth 100000 in
theorem da_X11_passOn_0 : dl_X11_passOn_0.all (fun q => decide (decode cX11_passOn q.1 = .ok q.2)) = true := by decide +kernel
theorem dX11_passOn_0 : decode cX11_passOn 0 = .ok (.iload_n 1, 1) := dec_of da_X11_passOn_0 (k := 0) rfl
theorem dX11_passOn_1 : decode cX11_passOn 1 = .ok (.ifCond .eq 34, 3) := dec_of da_X11_passOn_0 (k := 1) rfl
theorem dX11_passOn_4 : decode cX11_passOn 4 = .ok (.iload 4, 2) := dec_of da_X11_passOn_0 (k := 2) rfl
theorem dX11_passOn_6 : decode cX11_passOn 6 = .ok (.iconst (-1), 1) := dec_of da_X11_passOn_0 (k := 3) rfl
theorem dX11_passOn_7 : decode cX11_passOn 7 = .ok (.if_icmp .eq 91, 3) := dec_of da_X11_passOn_0 (k := 4) rfl
theorem dX11_passOn_10 : decode cX11_passOn 10 = .ok (.aload_n 0, 1) := dec_of da_X11_passOn_0 (k := 5) rfl
theorem dX11_passOn_11 : decode cX11_passOn 11 = .ok (.getfield 11, 3) := dec_of da_X11_passOn_0 (k := 6) rfl
theorem dX11_passOn_14 : decode cX11_passOn 14 = .ok (.iload_n 1, 1) := dec_of da_X11_passOn_0 (k := 7) rfl
theorem dX11_passOn_15 : decode cX11_passOn 15 = .ok (.aaload, 1) := dec_of da_X11_passOn_0 (k := 8) rfl
theorem dX11_passOn_16 : decode cX11_passOn 16 = .ok (.getfield 269, 3) := dec_of da_X11_passOn_0 (k := 9) rfl
theorem dX11_passOn_19 : decode cX11_passOn 19 = .ok (.iload 4, 2) := dec_of da_X11_passOn_0 (k := 10) rfl
theorem dX11_passOn_21 : decode cX11_passOn 21 = .ok (.aload_n 3, 1) := dec_of da_X11_passOn_0 (k := 11) rfl
theorem dX11_passOn_22 : decode cX11_passOn 22 = .ok (.getfield 328, 3) := dec_of da_X11_passOn_0 (k := 12) rfl
theorem dX11_passOn_25 : decode cX11_passOn 25 = .ok (.aload_n 3, 1) := dec_of da_X11_passOn_0 (k := 13) rfl
theorem dX11_passOn_26 : decode cX11_passOn 26 = .ok (.getfield 327, 3) := dec_of da_X11_passOn_0 (k := 14) rfl
theorem dX11_passOn_29 : decode cX11_passOn 29 = .ok (.invokevirtual 483, 3) := dec_of da_X11_passOn_0 (k := 15) rfl
theorem dX11_passOn_32 : decode cX11_passOn 32 = .ok (.goto 66, 3) := dec_of da_X11_passOn_0 (k := 16) rfl
theorem dX11_passOn_35 : decode cX11_passOn 35 = .ok (.iload 4, 2) := dec_of da_X11_passOn_0 (k := 17) rfl
theorem dX11_passOn_37 : decode cX11_passOn 37 = .ok (.ifCond .ne 27, 3) := dec_of da_X11_passOn_0 (k := 18) rfl
theorem dX11_passOn_40 : decode cX11_passOn 40 = .ok (.aload_n 0, 1) := dec_of da_X11_passOn_0 (k := 19) rfl
theorem dX11_passOn_41 : decode cX11_passOn 41 = .ok (.getfield 11, 3) := dec_of da_X11_passOn_0 (k := 20) rfl
theorem dX11_passOn_44 : decode cX11_passOn 44 = .ok (.iconst 0, 1) := dec_of da_X11_passOn_0 (k := 21) rfl
theorem dX11_passOn_45 : decode cX11_passOn 45 = .ok (.aaload, 1) := dec_of da_X11_passOn_0 (k := 22) rfl
theorem dX11_passOn_46 : decode cX11_passOn 46 = .ok (.getfield 269, 3) := dec_of da_X11_passOn_0 (k := 23) rfl
theorem dX11_passOn_49 : decode cX11_passOn 49 = .ok (.iload_n 2, 1) := dec_of da_X11_passOn_0 (k := 24) rfl
theorem dX11_passOn_50 : decode cX11_passOn 50 = .ok (.aload_n 3, 1) := dec_of da_X11_passOn_0 (k := 25) rfl
theorem dX11_passOn_51 : decode cX11_passOn 51 = .ok (.getfield 328, 3) := dec_of da_X11_passOn_0 (k := 26) rfl
theorem dX11_passOn_54 : decode cX11_passOn 54 = .ok (.aload_n 3, 1) := dec_of da_X11_passOn_0 (k := 27) rfl
theorem dX11_passOn_55 : decode cX11_passOn 55 = .ok (.getfield 327, 3) := dec_of da_X11_passOn_0 (k := 28) rfl
theorem dX11_passOn_58 : decode cX11_passOn 58 = .ok (.invokevirtual 483, 3) := dec_of da_X11_passOn_0 (k := 29) rfl
theorem dX11_passOn_61 : decode cX11_passOn 61 = .ok (.goto 37, 3) := dec_of da_X11_passOn_0 (k := 30) rfl
theorem dX11_passOn_64 : decode cX11_passOn 64 = .ok (.iload 4, 2) := dec_of da_X11_passOn_0 (k := 31) rfl
theorem dX11_passOn_66 : decode cX11_passOn 66 = .ok (.iconst (-1), 1) := dec_of da_X11_passOn_0 (k := 32) rfl
theorem dX11_passOn_67 : decode cX11_passOn 67 = .ok (.if_icmp .eq 31, 3) := dec_of da_X11_passOn_0 (k := 33) rfl
theorem dX11_passOn_70 : decode cX11_passOn 70 = .ok (.iload 4, 2) := dec_of da_X11_passOn_0 (k := 34) rfl
theorem dX11_passOn_72 : decode cX11_passOn 72 = .ok (.iload_n 2, 1) := dec_of da_X11_passOn_0 (k := 35) rfl
theorem dX11_passOn_73 : decode cX11_passOn 73 = .ok (.if_icmp .eq 25, 3) := dec_of da_X11_passOn_0 (k := 36) rfl
theorem dX11_passOn_76 : decode cX11_passOn 76 = .ok (.aload_n 0, 1) := dec_of da_X11_passOn_0 (k := 37) rfl
theorem dX11_passOn_77 : decode cX11_passOn 77 = .ok (.getfield 21, 3) := dec_of da_X11_passOn_0 (k := 38) rfl
theorem dX11_passOn_80 : decode cX11_passOn 80 = .ok (.iload 4, 2) := dec_of da_X11_passOn_0 (k := 39) rfl
theorem dX11_passOn_82 : decode cX11_passOn 82 = .ok (.aaload, 1) := dec_of da_X11_passOn_0 (k := 40) rfl
theorem dX11_passOn_83 : decode cX11_passOn 83 = .ok (.getfield 177, 3) := dec_of da_X11_passOn_0 (k := 41) rfl
theorem dX11_passOn_86 : decode cX11_passOn 86 = .ok (.iconst 4, 1) := dec_of da_X11_passOn_0 (k := 42) rfl
theorem dX11_passOn_87 : decode cX11_passOn 87 = .ok (.if_icmp .ne 11, 3) := dec_of da_X11_passOn_0 (k := 43) rfl
theorem dX11_passOn_90 : decode cX11_passOn 90 = .ok (.aload_n 0, 1) := dec_of da_X11_passOn_0 (k := 44) rfl
theorem dX11_passOn_91 : decode cX11_passOn 91 = .ok (.iload 4, 2) := dec_of da_X11_passOn_0 (k := 45) rfl
theorem dX11_passOn_93 : decode cX11_passOn 93 = .ok (.iload_n 2, 1) := dec_of da_X11_passOn_0 (k := 46) rfl
theorem dX11_passOn_94 : decode cX11_passOn 94 = .ok (.aload_n 3, 1) := dec_of da_X11_passOn_0 (k := 47) rfl
theorem dX11_passOn_95 : decode cX11_passOn 95 = .ok (.invokevirtual 486, 3) := dec_of da_X11_passOn_0 (k := 48) rfl
theorem dX11_passOn_98 : decode cX11_passOn 98 = .ok (.return_, 1) := dec_of da_X11_passOn_0 (k := 49) rfl
def dl_X11_takeHandAtAp_0 : List (Nat × (Instr × Nat)) := [(0, (.aload_n 3, 1)), (1, (.aload_n 0, 1)), (2, (.getfield 27, 3)), (5, (.invokevirtual 424, 3)), (8, (.invokestatic 490, 3)), (11, (.istore 4, 2)), (13, (.iload 4, 2)), (15, (.iconst 2, 1)), (16, (.if_icmp .ne 69, 3)), (19, (.aload_n 0, 1)), (20, (.getfield 48, 3)), (23, (.aload_n 2, 1)), (24, (.getfield 120, 3)), (27, (.iload_n 1, 1)), (28, (.aload_n 0, 1)), (29, (.getfield 11, 3)), (32, (.iconst 0, 1)), (33, (.aaload, 1)), (34, (.getfield 130, 3)), (37, (.aload_n 3, 1)), (38, (.bipush 33, 2)), (40, (.invokevirtual 493, 3)), (43, (.aload_n 0, 1)), (44, (.aload_n 3, 1)), (45, (.bipush 65, 2)), (47, (.aload_n 0, 1)), (48, (.getfield 48, 3)), (51, (.getfield 497, 3)), (54, (.invokevirtual 500, 3)), (57, (.ifCond .eq 59, 3)), (60, (.aload_n 2, 1)), (61, (.aload_n 0, 1)), (62, (.getfield 48, 3)), (65, (.getfield 497, 3)), (68, (.invokevirtual 504, 3)), (71, (.aload_n 0, 1)), (72, (.iconst 0, 1)), (73, (.iload_n 1, 1)), (74, (.iconst 3, 1)), (75, (.aload_n 2, 1)), (76, (.getfield 457, 3)), (79, (.invokevirtual 460, 3)), (82, (.goto 34, 3)), (85, (.iload 4, 2)), (87, (.iconst 4, 1)), (88, (.if_icmp .ne 28, 3)), (91, (.aload_n 2, 1)), (92, (.getfield 508, 3)), (95, (.ifCond .eq 21, 3)), (98, (.aload_n 0, 1)), (99, (.aload_n 3, 1)), (100, (.bipush 33, 2)), (102, (.aload_n 2, 1)), (103, (.getfield 457, 3)), (106, (.invokevirtual 500, 3)), (109, (.ifCond .eq 7, 3)), (112, (.aload_n 2, 1)), (113, (.invokevirtual 511, 3)), (116, (.return_, 1))]
set_option maxRecDepth 100000 in
theorem da_X11_takeHandAtAp_0 : dl_X11_takeHandAtAp_0.all (fun q => decide (decode cX11_takeHandAtAp q.1 = .ok q.2)) = true := by decide +kernel
theorem dX11_takeHandAtAp_0 : decode cX11_takeHandAtAp 0 = .ok (.aload_n 3, 1) := dec_of da_X11_takeHandAtAp_0 (k := 0) rfl
theorem dX11_takeHandAtAp_1 : decode cX11_takeHandAtAp 1 = .ok (.aload_n 0, 1) := dec_of da_X11_takeHandAtAp_0 (k := 1) rfl
theorem dX11_takeHandAtAp_2 : decode cX11_takeHandAtAp 2 = .ok (.getfield 27, 3) := dec_of da_X11_takeHandAtAp_0 (k := 2) rfl
theorem dX11_takeHandAtAp_5 : decode cX11_takeHandAtAp 5 = .ok (.invokevirtual 424, 3) := dec_of da_X11_takeHandAtAp_0 (k := 3) rfl
theorem dX11_takeHandAtAp_8 : decode cX11_takeHandAtAp 8 = .ok (.invokestatic 490, 3) := dec_of da_X11_takeHandAtAp_0 (k := 4) rfl
theorem dX11_takeHandAtAp_11 : decode cX11_takeHandAtAp 11 = .ok (.istore 4, 2) := dec_of da_X11_takeHandAtAp_0 (k := 5) rfl
theorem dX11_takeHandAtAp_13 : decode cX11_takeHandAtAp 13 = .ok (.iload 4, 2) := dec_of da_X11_takeHandAtAp_0 (k := 6) rfl
theorem dX11_takeHandAtAp_15 : decode cX11_takeHandAtAp 15 = .ok (.iconst 2, 1) := dec_of da_X11_takeHandAtAp_0 (k := 7) rfl
theorem dX11_takeHandAtAp_16 : decode cX11_takeHandAtAp 16 = .ok (.if_icmp .ne 69, 3) := dec_of da_X11_takeHandAtAp_0 (k := 8) rfl
theorem dX11_takeHandAtAp_19 : decode cX11_takeHandAtAp 19 = .ok (.aload_n 0, 1) := dec_of da_X11_takeHandAtAp_0 (k := 9) rfl
theorem dX11_takeHandAtAp_20 : decode cX11_takeHandAtAp 20 = .ok (.getfield 48, 3) := dec_of da_X11_takeHandAtAp_0 (k := 10) rfl
theorem dX11_takeHandAtAp_23 : decode cX11_takeHandAtAp 23 = .ok (.aload_n 2, 1) := dec_of da_X11_takeHandAtAp_0 (k := 11) rfl
theorem dX11_takeHandAtAp_24 : decode cX11_takeHandAtAp 24 = .ok (.getfield 120, 3) := dec_of da_X11_takeHandAtAp_0 (k := 12) rfl
theorem dX11_takeHandAtAp_27 : decode cX11_takeHandAtAp 27 = .ok (.iload_n 1, 1) := dec_of da_X11_takeHandAtAp_0 (k := 13) rfl
theorem dX11_takeHandAtAp_28 : decode cX11_takeHandAtAp 28 = .ok (.aload_n 0, 1) := dec_of da_X11_takeHandAtAp_0 (k := 14) rfl
theorem dX11_takeHandAtAp_29 : decode cX11_takeHandAtAp 29 = .ok (.getfield 11, 3) := dec_of da_X11_takeHandAtAp_0 (k := 15) rfl
theorem dX11_takeHandAtAp_32 : decode cX11_takeHandAtAp 32 = .ok (.iconst 0, 1) := dec_of da_X11_takeHandAtAp_0 (k := 16) rfl
theorem dX11_takeHandAtAp_33 : decode cX11_takeHandAtAp 33 = .ok (.aaload, 1) := dec_of da_X11_takeHandAtAp_0 (k := 17) rfl
theorem dX11_takeHandAtAp_34 : decode cX11_takeHandAtAp 34 = .ok (.getfield 130, 3) := dec_of da_X11_takeHandAtAp_0 (k := 18) rfl
theorem dX11_takeHandAtAp_37 : decode cX11_takeHandAtAp 37 = .ok (.aload_n 3, 1) := dec_of da_X11_takeHandAtAp_0 (k := 19) rfl
theorem dX11_takeHandAtAp_38 : decode cX11_takeHandAtAp 38 = .ok (.bipush 33, 2) := dec_of da_X11_takeHandAtAp_0 (k := 20) rfl
theorem dX11_takeHandAtAp_40 : decode cX11_takeHandAtAp 40 = .ok (.invokevirtual 493, 3) := dec_of da_X11_takeHandAtAp_0 (k := 21) rfl
theorem dX11_takeHandAtAp_43 : decode cX11_takeHandAtAp 43 = .ok (.aload_n 0, 1) := dec_of da_X11_takeHandAtAp_0 (k := 22) rfl
theorem dX11_takeHandAtAp_44 : decode cX11_takeHandAtAp 44 = .ok (.aload_n 3, 1) := dec_of da_X11_takeHandAtAp_0 (k := 23) rfl
theorem dX11_takeHandAtAp_45 : decode cX11_takeHandAtAp 45 = .ok (.bipush 65, 2) := dec_of da_X11_takeHandAtAp_0 (k := 24) rfl
theorem dX11_takeHandAtAp_47 : decode cX11_takeHandAtAp 47 = .ok (.aload_n 0, 1) := dec_of da_X11_takeHandAtAp_0 (k := 25) rfl
theorem dX11_takeHandAtAp_48 : decode cX11_takeHandAtAp 48 = .ok (.getfield 48, 3) := dec_of da_X11_takeHandAtAp_0 (k := 26) rfl
theorem dX11_takeHandAtAp_51 : decode cX11_takeHandAtAp 51 = .ok (.getfield 497, 3) := dec_of da_X11_takeHandAtAp_0 (k := 27) rfl
theorem dX11_takeHandAtAp_54 : decode cX11_takeHandAtAp 54 = .ok (.invokevirtual 500, 3) := dec_of da_X11_takeHandAtAp_0 (k := 28) rfl
theorem dX11_takeHandAtAp_57 : decode cX11_takeHandAtAp 57 = .ok (.ifCond .eq 59, 3) := dec_of da_X11_takeHandAtAp_0 (k := 29) rfl
theorem dX11_takeHandAtAp_60 : decode cX11_takeHandAtAp 60 = .ok (.aload_n 2, 1) := dec_of da_X11_takeHandAtAp_0 (k := 30) rfl
theorem dX11_takeHandAtAp_61 : decode cX11_takeHandAtAp 61 = .ok (.aload_n 0, 1) := dec_of da_X11_takeHandAtAp_0 (k := 31) rfl
theorem dX11_takeHandAtAp_62 : decode cX11_takeHandAtAp 62 = .ok (.getfield 48, 3) := dec_of da_X11_takeHandAtAp_0 (k := 32) rfl
theorem dX11_takeHandAtAp_65 : decode cX11_takeHandAtAp 65 = .ok (.getfield 497, 3) := dec_of da_X11_takeHandAtAp_0 (k := 33) rfl
theorem dX11_takeHandAtAp_68 : decode cX11_takeHandAtAp 68 = .ok (.invokevirtual 504, 3) := dec_of da_X11_takeHandAtAp_0 (k := 34) rfl
theorem dX11_takeHandAtAp_71 : decode cX11_takeHandAtAp 71 = .ok (.aload_n 0, 1) := dec_of da_X11_takeHandAtAp_0 (k := 35) rfl
theorem dX11_takeHandAtAp_72 : decode cX11_takeHandAtAp 72 = .ok (.iconst 0, 1) := dec_of da_X11_takeHandAtAp_0 (k := 36) rfl
theorem dX11_takeHandAtAp_73 : decode cX11_takeHandAtAp 73 = .ok (.iload_n 1, 1) := dec_of da_X11_takeHandAtAp_0 (k := 37) rfl
theorem dX11_takeHandAtAp_74 : decode cX11_takeHandAtAp 74 = .ok (.iconst 3, 1) := dec_of da_X11_takeHandAtAp_0 (k := 38) rfl
theorem dX11_takeHandAtAp_75 : decode cX11_takeHandAtAp 75 = .ok (.aload_n 2, 1) := dec_of da_X11_takeHandAtAp_0 (k := 39) rfl
theorem dX11_takeHandAtAp_76 : decode cX11_takeHandAtAp 76 = .ok (.getfield 457, 3) := dec_of da_X11_takeHandAtAp_0 (k := 40) rfl
theorem dX11_takeHandAtAp_79 : decode cX11_takeHandAtAp 79 = .ok (.invokevirtual 460, 3) := dec_of da_X11_takeHandAtAp_0 (k := 41) rfl
theorem dX11_takeHandAtAp_82 : decode cX11_takeHandAtAp 82 = .ok (.goto 34, 3) := dec_of da_X11_takeHandAtAp_0 (k := 42) rfl
theorem dX11_takeHandAtAp_85 : decode cX11_takeHandAtAp 85 = .ok (.iload 4, 2) := dec_of da_X11_takeHandAtAp_0 (k := 43) rfl
theorem dX11_takeHandAtAp_87 : decode cX11_takeHandAtAp 87 = .ok (.iconst 4, 1) := dec_of da_X11_takeHandAtAp_0 (k := 44) rfl
theorem dX11_takeHandAtAp_88 : decode cX11_takeHandAtAp 88 = .ok (.if_icmp .ne 28, 3) := dec_of da_X11_takeHandAtAp_0 (k := 45) rfl
theorem dX11_takeHandAtAp_91 : decode cX11_takeHandAtAp 91 = .ok (.aload_n 2, 1) := dec_of da_X11_takeHandAtAp_0 (k := 46) rfl
theorem dX11_takeHandAtAp_92 : decode cX11_takeHandAtAp 92 = .ok (.getfield 508, 3) := dec_of da_X11_takeHandAtAp_0 (k := 47) rfl
theorem dX11_takeHandAtAp_95 : decode cX11_takeHandAtAp 95 = .ok (.ifCond .eq 21, 3) := dec_of da_X11_takeHandAtAp_0 (k := 48) rfl
theorem dX11_takeHandAtAp_98 : decode cX11_takeHandAtAp 98 = .ok (.aload_n 0, 1) := dec_of da_X11_takeHandAtAp_0 (k := 49) rfl
theorem dX11_takeHandAtAp_99 : decode cX11_takeHandAtAp 99 = .ok (.aload_n 3, 1) := dec_of da_X11_takeHandAtAp_0 (k := 50) rfl
theorem dX11_takeHandAtAp_100 : decode cX11_takeHandAtAp 100 = .ok (.bipush 33, 2) := dec_of da_X11_takeHandAtAp_0 (k := 51) rfl
theorem dX11_takeHandAtAp_102 : decode cX11_takeHandAtAp 102 = .ok (.aload_n 2, 1) := dec_of da_X11_takeHandAtAp_0 (k := 52) rfl
theorem dX11_takeHandAtAp_103 : decode cX11_takeHandAtAp 103 = .ok (.getfield 457, 3) := dec_of da_X11_takeHandAtAp_0 (k := 53) rfl
theorem dX11_takeHandAtAp_106 : decode cX11_takeHandAtAp 106 = .ok (.invokevirtual 500, 3) := dec_of da_X11_takeHandAtAp_0 (k := 54) rfl
theorem dX11_takeHandAtAp_109 : decode cX11_takeHandAtAp 109 = .ok (.ifCond .eq 7, 3) := dec_of da_X11_takeHandAtAp_0 (k := 55) rfl
theorem dX11_takeHandAtAp_112 : decode cX11_takeHandAtAp 112 = .ok (.aload_n 2, 1) := dec_of da_X11_takeHandAtAp_0 (k := 56) rfl
theorem dX11_takeHandAtAp_113 : decode cX11_takeHandAtAp 113 = .ok (.invokevirtual 511, 3) := dec_of da_X11_takeHandAtAp_0 (k := 57) rfl
theorem dX11_takeHandAtAp_116 : decode cX11_takeHandAtAp 116 = .ok (.return_, 1) := dec_of da_X11_takeHandAtAp_0 (k := 58) rfl
def dl_X11_takeHandAtStation_0 : List (Nat × (Instr × Nat)) := [(0, (.aload_n 3, 1)), (1, (.aload_n 0, 1)), (2, (.getfield 27, 3)), (5, (.invokevirtual 424, 3)), (8, (.invokestatic 490, 3)), (11, (.istore 4, 2)), (13, (.iload 4, 2)), (15, (.iconst 1, 1)), (16, (.if_icmp .ne 67, 3)), (19, (.aload_n 3, 1)), (20, (.bipush 33, 2)), (22, (.aload_n 2, 1)), (23, (.getfield 514, 3)), (26, (.iconst 0, 1)), (27, (.bipush 32, 2)), (29, (.invokestatic 110, 3)), (32, (.aload_n 0, 1)), (33, (.getfield 48, 3)), (36, (.aload_n 2, 1)), (37, (.getfield 120, 3)), (40, (.iload_n 1, 1)), (41, (.aload_n 2, 1)), (42, (.getfield 514, 3)), (45, (.aload_n 0, 1)), (46, (.getfield 11, 3)), (49, (.iload_n 1, 1)), (50, (.aaload, 1)), (51, (.getfield 130, 3)), (54, (.iconst 0, 1)), (55, (.invokevirtual 493, 3)), (58, (.aload_n 2, 1)), (59, (.aload_n 0, 1)), (60, (.getfield 48, 3)), (63, (.getfield 497, 3)), (66, (.invokevirtual 504, 3)), (69, (.aload_n 0, 1)), (70, (.iload_n 1, 1)), (71, (.iconst 0, 1)), (72, (.iconst 2, 1)), (73, (.aload_n 2, 1)), (74, (.getfield 457, 3)), (77, (.invokevirtual 460, 3)), (80, (.goto 61, 3)), (83, (.iload 4, 2)), (85, (.iconst 3, 1)), (86, (.if_icmp .ne 55, 3)), (89, (.aload_n 2, 1)), (90, (.getfield 508, 3)), (93, (.ifCond .eq 48, 3)), (96, (.aload_n 3, 1)), (97, (.bipush 33, 2)), (99, (.aload_n 2, 1)), (100, (.getfield 514, 3)), (103, (.iconst 0, 1)), (104, (.bipush 32, 2)), (106, (.invokestatic 464, 3)), (109, (.ifCond .eq 32, 3)), (112, (.aload_n 0, 1)), (113, (.aload_n 3, 1)), (114, (.bipush 65, 2))]
set_option maxRecDepth 100000 in
theorem da_X11_takeHandAtStation_0 : dl_X11_takeHandAtStation_0.all (fun q => decide (decode cX11_takeHandAtStation q.1 = .ok q.2)) = true := by decide +kernel
theorem dX11_takeHandAtStation_0 : decode cX11_takeHandAtStation 0 = .ok (.aload_n 3, 1) := dec_of da_X11_takeHandAtStation_0 (k := 0) rfl
theorem dX11_takeHandAtStation_1 : decode cX11_takeHandAtStation 1 = .ok (.aload_n 0, 1) := dec_of da_X11_takeHandAtStation_0 (k := 1) rfl
theorem dX11_takeHandAtStation_2 : decode cX11_takeHandAtStation 2 = .ok (.getfield 27, 3) := dec_of da_X11_takeHandAtStation_0 (k := 2) rfl
theorem dX11_takeHandAtStation_5 : decode cX11_takeHandAtStation 5 = .ok (.invokevirtual 424, 3) := dec_of da_X11_takeHandAtStation_0 (k := 3) rfl
theorem dX11_takeHandAtStation_8 : decode cX11_takeHandAtStation 8 = .ok (.invokestatic 490, 3) := dec_of da_X11_takeHandAtStation_0 (k := 4) rfl
theorem dX11_takeHandAtStation_11 : decode cX11_takeHandAtStation 11 = .ok (.istore 4, 2) := dec_of da_X11_takeHandAtStation_0 (k := 5) rfl
theorem dX11_takeHandAtStation_13 : decode cX11_takeHandAtStation 13 = .ok (.iload 4, 2) := dec_of da_X11_takeHandAtStation_0 (k := 6) rfl
theorem dX11_takeHandAtStation_15 : decode cX11_takeHandAtStation 15 = .ok (.iconst 1, 1) := dec_of da_X11_takeHandAtStation_0 (k := 7) rfl
theorem dX11_takeHandAtStation_16 : decode cX11_takeHandAtStation 16 = .ok (.if_icmp .ne 67, 3) := dec_of da_X11_takeHandAtStation_0 (k := 8) rfl
theorem dX11_takeHandAtStation_19 : decode cX11_takeHandAtStation 19 = .ok (.aload_n 3, 1) := dec_of da_X11_takeHandAtStation_0 (k := 9) rfl
theorem dX11_takeHandAtStation_20 : decode cX11_takeHandAtStation 20 = .ok (.bipush 33, 2) := dec_of da_X11_takeHandAtStation_0 (k := 10) rfl
theorem dX11_takeHandAtStation_22 : decode cX11_takeHandAtStation 22 = .ok (.aload_n 2, 1) := dec_of da_X11_takeHandAtStation_0 (k := 11) rfl
theorem dX11_takeHandAtStation_23 : decode cX11_takeHandAtStation 23 = .ok (.getfield 514, 3) := dec_of da_X11_takeHandAtStation_0 (k := 12) rfl
theorem dX11_takeHandAtStation_26 : decode cX11_takeHandAtStation 26 = .ok (.iconst 0, 1) := dec_of da_X11_takeHandAtStation_0 (k := 13) rfl
theorem dX11_takeHandAtStation_27 : decode cX11_takeHandAtStation 27 = .ok (.bipush 32, 2) := dec_of da_X11_takeHandAtStation_0 (k := 14) rfl
theorem dX11_takeHandAtStation_29 : decode cX11_takeHandAtStation 29 = .ok (.invokestatic 110, 3) := dec_of da_X11_takeHandAtStation_0 (k := 15) rfl
theorem dX11_takeHandAtStation_32 : decode cX11_takeHandAtStation 32 = .ok (.aload_n 0, 1) := dec_of da_X11_takeHandAtStation_0 (k := 16) rfl
theorem dX11_takeHandAtStation_33 : decode cX11_takeHandAtStation 33 = .ok (.getfield 48, 3) := dec_of da_X11_takeHandAtStation_0 (k := 17) rfl
theorem dX11_takeHandAtStation_36 : decode cX11_takeHandAtStation 36 = .ok (.aload_n 2, 1) := dec_of da_X11_takeHandAtStation_0 (k := 18) rfl
theorem dX11_takeHandAtStation_37 : decode cX11_takeHandAtStation 37 = .ok (.getfield 120, 3) := dec_of da_X11_takeHandAtStation_0 (k := 19) rfl
theorem dX11_takeHandAtStation_40 : decode cX11_takeHandAtStation 40 = .ok (.iload_n 1, 1) := dec_of da_X11_takeHandAtStation_0 (k := 20) rfl
theorem dX11_takeHandAtStation_41 : decode cX11_takeHandAtStation 41 = .ok (.aload_n 2, 1) := dec_of da_X11_takeHandAtStation_0 (k := 21) rfl
theorem dX11_takeHandAtStation_42 : decode cX11_takeHandAtStation 42 = .ok (.getfield 514, 3) := dec_of da_X11_takeHandAtStation_0 (k := 22) rfl
theorem dX11_takeHandAtStation_45 : decode cX11_takeHandAtStation 45 = .ok (.aload_n 0, 1) := dec_of da_X11_takeHandAtStation_0 (k := 23) rfl
theorem dX11_takeHandAtStation_46 : decode cX11_takeHandAtStation 46 = .ok (.getfield 11, 3) := dec_of da_X11_takeHandAtStation_0 (k := 24) rfl
theorem dX11_takeHandAtStation_49 : decode cX11_takeHandAtStation 49 = .ok (.iload_n 1, 1) := dec_of da_X11_takeHandAtStation_0 (k := 25) rfl
theorem dX11_takeHandAtStation_50 : decode cX11_takeHandAtStation 50 = .ok (.aaload, 1) := dec_of da_X11_takeHandAtStation_0 (k := 26) rfl
theorem dX11_takeHandAtStation_51 : decode cX11_takeHandAtStation 51 = .ok (.getfield 130, 3) := dec_of da_X11_takeHandAtStation_0 (k := 27) rfl
theorem dX11_takeHandAtStation_54 : decode cX11_takeHandAtStation 54 = .ok (.iconst 0, 1) := dec_of da_X11_takeHandAtStation_0 (k := 28) rfl
theorem dX11_takeHandAtStation_55 : decode cX11_takeHandAtStation 55 = .ok (.invokevirtual 493, 3) := dec_of da_X11_takeHandAtStation_0 (k := 29) rfl
theorem dX11_takeHandAtStation_58 : decode cX11_takeHandAtStation 58 = .ok (.aload_n 2, 1) := dec_of da_X11_takeHandAtStation_0 (k := 30) rfl
theorem dX11_takeHandAtStation_59 : decode cX11_takeHandAtStation 59 = .ok (.aload_n 0, 1) := dec_of da_X11_takeHandAtStation_0 (k := 31) rfl
theorem dX11_takeHandAtStation_60 : decode cX11_takeHandAtStation 60 = .ok (.getfield 48, 3) := dec_of da_X11_takeHandAtStation_0 (k := 32) rfl
theorem dX11_takeHandAtStation_63 : decode cX11_takeHandAtStation 63 = .ok (.getfield 497, 3) := dec_of da_X11_takeHandAtStation_0 (k := 33) rfl
theorem dX11_takeHandAtStation_66 : decode cX11_takeHandAtStation 66 = .ok (.invokevirtual 504, 3) := dec_of da_X11_takeHandAtStation_0 (k := 34) rfl
theorem dX11_takeHandAtStation_69 : decode cX11_takeHandAtStation 69 = .ok (.aload_n 0, 1) := dec_of da_X11_takeHandAtStation_0 (k := 35) rfl
theorem dX11_takeHandAtStation_70 : decode cX11_takeHandAtStation 70 = .ok (.iload_n 1, 1) := dec_of da_X11_takeHandAtStation_0 (k := 36) rfl
theorem dX11_takeHandAtStation_71 : decode cX11_takeHandAtStation 71 = .ok (.iconst 0, 1) := dec_of da_X11_takeHandAtStation_0 (k := 37) rfl
theorem dX11_takeHandAtStation_72 : decode cX11_takeHandAtStation 72 = .ok (.iconst 2, 1) := dec_of da_X11_takeHandAtStation_0 (k := 38) rfl
theorem dX11_takeHandAtStation_73 : decode cX11_takeHandAtStation 73 = .ok (.aload_n 2, 1) := dec_of da_X11_takeHandAtStation_0 (k := 39) rfl
theorem dX11_takeHandAtStation_74 : decode cX11_takeHandAtStation 74 = .ok (.getfield 457, 3) := dec_of da_X11_takeHandAtStation_0 (k := 40) rfl
theorem dX11_takeHandAtStation_77 : decode cX11_takeHandAtStation 77 = .ok (.invokevirtual 460, 3) := dec_of da_X11_takeHandAtStation_0 (k := 41) rfl
theorem dX11_takeHandAtStation_80 : decode cX11_takeHandAtStation 80 = .ok (.goto 61, 3) := dec_of da_X11_takeHandAtStation_0 (k := 42) rfl
theorem dX11_takeHandAtStation_83 : decode cX11_takeHandAtStation 83 = .ok (.iload 4, 2) := dec_of da_X11_takeHandAtStation_0 (k := 43) rfl
theorem dX11_takeHandAtStation_85 : decode cX11_takeHandAtStation 85 = .ok (.iconst 3, 1) := dec_of da_X11_takeHandAtStation_0 (k := 44) rfl
theorem dX11_takeHandAtStation_86 : decode cX11_takeHandAtStation 86 = .ok (.if_icmp .ne 55, 3) := dec_of da_X11_takeHandAtStation_0 (k := 45) rfl
theorem dX11_takeHandAtStation_89 : decode cX11_takeHandAtStation 89 = .ok (.aload_n 2, 1) := dec_of da_X11_takeHandAtStation_0 (k := 46) rfl
theorem dX11_takeHandAtStation_90 : decode cX11_takeHandAtStation 90 = .ok (.getfield 508, 3) := dec_of da_X11_takeHandAtStation_0 (k := 47) rfl
theorem dX11_takeHandAtStation_93 : decode cX11_takeHandAtStation 93 = .ok (.ifCond .eq 48, 3) := dec_of da_X11_takeHandAtStation_0 (k := 48) rfl
theorem dX11_takeHandAtStation_96 : decode cX11_takeHandAtStation 96 = .ok (.aload_n 3, 1) := dec_of da_X11_takeHandAtStation_0 (k := 49) rfl
theorem dX11_takeHandAtStation_97 : decode cX11_takeHandAtStation 97 = .ok (.bipush 33, 2) := dec_of da_X11_takeHandAtStation_0 (k := 50) rfl
theorem dX11_takeHandAtStation_99 : decode cX11_takeHandAtStation 99 = .ok (.aload_n 2, 1) := dec_of da_X11_takeHandAtStation_0 (k := 51) rfl
theorem dX11_takeHandAtStation_100 : decode cX11_takeHandAtStation 100 = .ok (.getfield 514, 3) := dec_of da_X11_takeHandAtStation_0 (k := 52) rfl
theorem dX11_takeHandAtStation_103 : decode cX11_takeHandAtStation 103 = .ok (.iconst 0, 1) := dec_of da_X11_takeHandAtStation_0 (k := 53) rfl
theorem dX11_takeHandAtStation_104 : decode cX11_takeHandAtStation 104 = .ok (.bipush 32, 2) := dec_of da_X11_takeHandAtStation_0 (k := 54) rfl
theorem dX11_takeHandAtStation_106 : decode cX11_takeHandAtStation 106 = .ok (.invokestatic 464, 3) := dec_of da_X11_takeHandAtStation_0 (k := 55) rfl
theorem dX11_takeHandAtStation_109 : decode cX11_takeHandAtStation 109 = .ok (.ifCond .eq 32, 3) := dec_of da_X11_takeHandAtStation_0 (k := 56) rfl
theorem dX11_takeHandAtStation_112 : decode cX11_takeHandAtStation 112 = .ok (.aload_n 0, 1) := dec_of da_X11_takeHandAtStation_0 (k := 57) rfl
theorem dX11_takeHandAtStation_113 : decode cX11_takeHandAtStation 113 = .ok (.aload_n 3, 1) := dec_of da_X11_takeHandAtStation_0 (k := 58) rfl
theorem dX11_takeHandAtStation_114 : decode cX11_takeHandAtStation 114 = .ok (.bipush 65, 2) := dec_of da_X11_takeHandAtStation_0 (k := 59) rfl
def dl_X11_takeHandAtStation_1 : List (Nat × (Instr × Nat)) := [(116, (.aload_n 2, 1)), (117, (.getfield 457, 3)), (120, (.invokevirtual 500, 3)), (123, (.ifCond .eq 18, 3)), (126, (.aload_n 2, 1)), (127, (.invokevirtual 511, 3)), (130, (.aload_n 0, 1)), (131, (.iload_n 1, 1)), (132, (.iconst 0, 1)), (133, (.iconst 4, 1)), (134, (.aload_n 2, 1)), (135, (.getfield 457, 3)), (138, (.invokevirtual 460, 3)), (141, (.return_, 1))]
set_option maxRecDepth 100000 in
theorem da_X11_takeHandAtStation_1 : dl_X11_takeHandAtStation_1.all (fun q => decide (decode cX11_takeHandAtStation q.1 = .ok q.2)) = true := by decide +kernel
theorem dX11_takeHandAtStation_116 : decode cX11_takeHandAtStation 116 = .ok (.aload_n 2, 1) := dec_of da_X11_takeHandAtStation_1 (k := 0) rfl
theorem dX11_takeHandAtStation_117 : decode cX11_takeHandAtStation 117 = .ok (.getfield 457, 3) := dec_of da_X11_takeHandAtStation_1 (k := 1) rfl
theorem dX11_takeHandAtStation_120 : decode cX11_takeHandAtStation 120 = .ok (.invokevirtual 500, 3) := dec_of da_X11_takeHandAtStation_1 (k := 2) rfl
theorem dX11_takeHandAtStation_123 : decode cX11_takeHandAtStation 123 = .ok (.ifCond .eq 18, 3) := dec_of da_X11_takeHandAtStation_1 (k := 3) rfl
theorem dX11_takeHandAtStation_126 : decode cX11_takeHandAtStation 126 = .ok (.aload_n 2, 1) := dec_of da_X11_takeHandAtStation_1 (k := 4) rfl
theorem dX11_takeHandAtStation_127 : decode cX11_takeHandAtStation 127 = .ok (.invokevirtual 511, 3) := dec_of da_X11_takeHandAtStation_1 (k := 5) rfl
theorem dX11_takeHandAtStation_130 : decode cX11_takeHandAtStation 130 = .ok (.aload_n 0, 1) := dec_of da_X11_takeHandAtStation_1 (k := 6) rfl
theorem dX11_takeHandAtStation_131 : decode cX11_takeHandAtStation 131 = .ok (.iload_n 1, 1) := dec_of da_X11_takeHandAtStation_1 (k := 7) rfl
theorem dX11_takeHandAtStation_132 : decode cX11_takeHandAtStation 132 = .ok (.iconst 0, 1) := dec_of da_X11_takeHandAtStation_1 (k := 8) rfl
theorem dX11_takeHandAtStation_133 : decode cX11_takeHandAtStation 133 = .ok (.iconst 4, 1) := dec_of da_X11_takeHandAtStation_1 (k := 9) rfl
theorem dX11_takeHandAtStation_134 : decode cX11_takeHandAtStation 134 = .ok (.aload_n 2, 1) := dec_of da_X11_takeHandAtStation_1 (k := 10) rfl
theorem dX11_takeHandAtStation_135 : decode cX11_takeHandAtStation 135 = .ok (.getfield 457, 3) := dec_of da_X11_takeHandAtStation_1 (k := 11) rfl
theorem dX11_takeHandAtStation_138 : decode cX11_takeHandAtStation 138 = .ok (.invokevirtual 460, 3) := dec_of da_X11_takeHandAtStation_1 (k := 12) rfl
theorem dX11_takeHandAtStation_141 : decode cX11_takeHandAtStation 141 = .ok (.return_, 1) := dec_of da_X11_takeHandAtStation_1 (k := 13) rfl
def dl_X11_hasRightMic_0 : List (Nat × (Instr × Nat)) := [(0, (.aload_n 0, 1)), (1, (.getfield 48, 3)), (4, (.aload_n 3, 1)), (5, (.bipush 16, 2)), (7, (.aload_n 1, 1)), (8, (.bipush 32, 2)), (10, (.iload_n 2, 1)), (11, (.bipush 32, 2)), (13, (.isub, 1)), (14, (.invokevirtual 320, 3)), (17, (.aload_n 1, 1)), (18, (.iload_n 2, 1)), (19, (.aload_n 0, 1)), (20, (.getfield 48, 3)), (23, (.getfield 324, 3)), (26, (.iconst 0, 1)), (27, (.bipush 16, 2)), (29, (.invokestatic 464, 3)), (32, (.ireturn, 1))]
set_option maxRecDepth 100000 in
theorem da_X11_hasRightMic_0 : dl_X11_hasRightMic_0.all (fun q => decide (decode cX11_hasRightMic q.1 = .ok q.2)) = true := by decide +kernel
theorem dX11_hasRightMic_0 : decode cX11_hasRightMic 0 = .ok (.aload_n 0, 1) := dec_of da_X11_hasRightMic_0 (k := 0) rfl
theorem dX11_hasRightMic_1 : decode cX11_hasRightMic 1 = .ok (.getfield 48, 3) := dec_of da_X11_hasRightMic_0 (k := 1) rfl
theorem dX11_hasRightMic_4 : decode cX11_hasRightMic 4 = .ok (.aload_n 3, 1) := dec_of da_X11_hasRightMic_0 (k := 2) rfl
theorem dX11_hasRightMic_5 : decode cX11_hasRightMic 5 = .ok (.bipush 16, 2) := dec_of da_X11_hasRightMic_0 (k := 3) rfl
theorem dX11_hasRightMic_7 : decode cX11_hasRightMic 7 = .ok (.aload_n 1, 1) := dec_of da_X11_hasRightMic_0 (k := 4) rfl
theorem dX11_hasRightMic_8 : decode cX11_hasRightMic 8 = .ok (.bipush 32, 2) := dec_of da_X11_hasRightMic_0 (k := 5) rfl
theorem dX11_hasRightMic_10 : decode cX11_hasRightMic 10 = .ok (.iload_n 2, 1) := dec_of da_X11_hasRightMic_0 (k := 6) rfl
theorem dX11_hasRightMic_11 : decode cX11_hasRightMic 11 = .ok (.bipush 32, 2) := dec_of da_X11_hasRightMic_0 (k := 7) rfl
theorem dX11_hasRightMic_13 : decode cX11_hasRightMic 13 = .ok (.isub, 1) := dec_of da_X11_hasRightMic_0 (k := 8) rfl
theorem dX11_hasRightMic_14 : decode cX11_hasRightMic 14 = .ok (.invokevirtual 320, 3) := dec_of da_X11_hasRightMic_0 (k := 9) rfl
theorem dX11_hasRightMic_17 : decode cX11_hasRightMic 17 = .ok (.aload_n 1, 1) := dec_of da_X11_hasRightMic_0 (k := 10) rfl
theorem dX11_hasRightMic_18 : decode cX11_hasRightMic 18 = .ok (.iload_n 2, 1) := dec_of da_X11_hasRightMic_0 (k := 11) rfl
theorem dX11_hasRightMic_19 : decode cX11_hasRightMic 19 = .ok (.aload_n 0, 1) := dec_of da_X11_hasRightMic_0 (k := 12) rfl
theorem dX11_hasRightMic_20 : decode cX11_hasRightMic 20 = .ok (.getfield 48, 3) := dec_of da_X11_hasRightMic_0 (k := 13) rfl
theorem dX11_hasRightMic_23 : decode cX11_hasRightMic 23 = .ok (.getfield 324, 3) := dec_of da_X11_hasRightMic_0 (k := 14) rfl
theorem dX11_hasRightMic_26 : decode cX11_hasRightMic 26 = .ok (.iconst 0, 1) := dec_of da_X11_hasRightMic_0 (k := 15) rfl
theorem dX11_hasRightMic_27 : decode cX11_hasRightMic 27 = .ok (.bipush 16, 2) := dec_of da_X11_hasRightMic_0 (k := 16) rfl
theorem dX11_hasRightMic_29 : decode cX11_hasRightMic 29 = .ok (.invokestatic 464, 3) := dec_of da_X11_hasRightMic_0 (k := 17) rfl
theorem dX11_hasRightMic_32 : decode cX11_hasRightMic 32 = .ok (.ireturn, 1) := dec_of da_X11_hasRightMic_0 (k := 18) rfl
def dl_X11_takeSealed_0 : List (Nat × (Instr × Nat)) := [(0, (.aload_n 0, 1)), (1, (.getfield 27, 3)), (4, (.invokevirtual 424, 3)), (7, (.bipush 28, 2)), (9, (.isub, 1)), (10, (.bipush 16, 2)), (12, (.isub, 1)), (13, (.istore 4, 2)), (15, (.iload 4, 2)), (17, (.ifCond .lt 19, 3)), (20, (.aload_n 3, 1)), (21, (.bipush 26, 2)), (23, (.iaload, 1)), (24, (.ifCond .ne 12, 3)), (27, (.aload_n 3, 1)), (28, (.bipush 27, 2)), (30, (.iaload, 1)), (31, (.bipush 32, 2)), (33, (.if_icmp .eq 15, 3)), (36, (.aload_n 1, 1)), (37, (.dup, 1)), (38, (.getfield 281, 3)), (41, (.iconst 1, 1)), (42, (.iadd, 1)), (43, (.putfield 281, 3)), (46, (.iconst 0, 1)), (47, (.ireturn, 1)), (48, (.aload_n 3, 1)), (49, (.invokestatic 517, 3)), (52, (.lstore 5, 2)), (54, (.lload 5, 2)), (56, (.aload_n 2, 1)), (57, (.getfield 521, 3)), (60, (.lcmp, 1)), (61, (.ifCond .le 20, 3)), (64, (.aload_n 0, 1)), (65, (.getfield 55, 3)), (68, (.aload_n 3, 1)), (69, (.iload 4, 2)), (71, (.aload_n 2, 1)), (72, (.getfield 284, 3)), (75, (.invokevirtual 524, 3)), (78, (.ifCond .ne 15, 3)), (81, (.aload_n 1, 1)), (82, (.dup, 1)), (83, (.getfield 281, 3)), (86, (.iconst 1, 1)), (87, (.iadd, 1)), (88, (.putfield 281, 3)), (91, (.iconst 0, 1)), (92, (.ireturn, 1)), (93, (.aload_n 2, 1)), (94, (.lload 5, 2)), (96, (.putfield 521, 3)), (99, (.aload_n 2, 1)), (100, (.aload_n 3, 1)), (101, (.aload_n 0, 1)), (102, (.getfield 55, 3)), (105, (.getfield 527, 3)), (108, (.iload 4, 2))]
set_option maxRecDepth 100000 in
theorem da_X11_takeSealed_0 : dl_X11_takeSealed_0.all (fun q => decide (decode cX11_takeSealed q.1 = .ok q.2)) = true := by decide +kernel
theorem dX11_takeSealed_0 : decode cX11_takeSealed 0 = .ok (.aload_n 0, 1) := dec_of da_X11_takeSealed_0 (k := 0) rfl
theorem dX11_takeSealed_1 : decode cX11_takeSealed 1 = .ok (.getfield 27, 3) := dec_of da_X11_takeSealed_0 (k := 1) rfl
theorem dX11_takeSealed_4 : decode cX11_takeSealed 4 = .ok (.invokevirtual 424, 3) := dec_of da_X11_takeSealed_0 (k := 2) rfl
theorem dX11_takeSealed_7 : decode cX11_takeSealed 7 = .ok (.bipush 28, 2) := dec_of da_X11_takeSealed_0 (k := 3) rfl
theorem dX11_takeSealed_9 : decode cX11_takeSealed 9 = .ok (.isub, 1) := dec_of da_X11_takeSealed_0 (k := 4) rfl
theorem dX11_takeSealed_10 : decode cX11_takeSealed 10 = .ok (.bipush 16, 2) := dec_of da_X11_takeSealed_0 (k := 5) rfl
theorem dX11_takeSealed_12 : decode cX11_takeSealed 12 = .ok (.isub, 1) := dec_of da_X11_takeSealed_0 (k := 6) rfl
theorem dX11_takeSealed_13 : decode cX11_takeSealed 13 = .ok (.istore 4, 2) := dec_of da_X11_takeSealed_0 (k := 7) rfl
theorem dX11_takeSealed_15 : decode cX11_takeSealed 15 = .ok (.iload 4, 2) := dec_of da_X11_takeSealed_0 (k := 8) rfl
theorem dX11_takeSealed_17 : decode cX11_takeSealed 17 = .ok (.ifCond .lt 19, 3) := dec_of da_X11_takeSealed_0 (k := 9) rfl
theorem dX11_takeSealed_20 : decode cX11_takeSealed 20 = .ok (.aload_n 3, 1) := dec_of da_X11_takeSealed_0 (k := 10) rfl
theorem dX11_takeSealed_21 : decode cX11_takeSealed 21 = .ok (.bipush 26, 2) := dec_of da_X11_takeSealed_0 (k := 11) rfl
theorem dX11_takeSealed_23 : decode cX11_takeSealed 23 = .ok (.iaload, 1) := dec_of da_X11_takeSealed_0 (k := 12) rfl
theorem dX11_takeSealed_24 : decode cX11_takeSealed 24 = .ok (.ifCond .ne 12, 3) := dec_of da_X11_takeSealed_0 (k := 13) rfl
theorem dX11_takeSealed_27 : decode cX11_takeSealed 27 = .ok (.aload_n 3, 1) := dec_of da_X11_takeSealed_0 (k := 14) rfl
theorem dX11_takeSealed_28 : decode cX11_takeSealed 28 = .ok (.bipush 27, 2) := dec_of da_X11_takeSealed_0 (k := 15) rfl
theorem dX11_takeSealed_30 : decode cX11_takeSealed 30 = .ok (.iaload, 1) := dec_of da_X11_takeSealed_0 (k := 16) rfl
theorem dX11_takeSealed_31 : decode cX11_takeSealed 31 = .ok (.bipush 32, 2) := dec_of da_X11_takeSealed_0 (k := 17) rfl
theorem dX11_takeSealed_33 : decode cX11_takeSealed 33 = .ok (.if_icmp .eq 15, 3) := dec_of da_X11_takeSealed_0 (k := 18) rfl
theorem dX11_takeSealed_36 : decode cX11_takeSealed 36 = .ok (.aload_n 1, 1) := dec_of da_X11_takeSealed_0 (k := 19) rfl
theorem dX11_takeSealed_37 : decode cX11_takeSealed 37 = .ok (.dup, 1) := dec_of da_X11_takeSealed_0 (k := 20) rfl
theorem dX11_takeSealed_38 : decode cX11_takeSealed 38 = .ok (.getfield 281, 3) := dec_of da_X11_takeSealed_0 (k := 21) rfl
theorem dX11_takeSealed_41 : decode cX11_takeSealed 41 = .ok (.iconst 1, 1) := dec_of da_X11_takeSealed_0 (k := 22) rfl
theorem dX11_takeSealed_42 : decode cX11_takeSealed 42 = .ok (.iadd, 1) := dec_of da_X11_takeSealed_0 (k := 23) rfl
theorem dX11_takeSealed_43 : decode cX11_takeSealed 43 = .ok (.putfield 281, 3) := dec_of da_X11_takeSealed_0 (k := 24) rfl
theorem dX11_takeSealed_46 : decode cX11_takeSealed 46 = .ok (.iconst 0, 1) := dec_of da_X11_takeSealed_0 (k := 25) rfl
theorem dX11_takeSealed_47 : decode cX11_takeSealed 47 = .ok (.ireturn, 1) := dec_of da_X11_takeSealed_0 (k := 26) rfl
theorem dX11_takeSealed_48 : decode cX11_takeSealed 48 = .ok (.aload_n 3, 1) := dec_of da_X11_takeSealed_0 (k := 27) rfl
theorem dX11_takeSealed_49 : decode cX11_takeSealed 49 = .ok (.invokestatic 517, 3) := dec_of da_X11_takeSealed_0 (k := 28) rfl
theorem dX11_takeSealed_52 : decode cX11_takeSealed 52 = .ok (.lstore 5, 2) := dec_of da_X11_takeSealed_0 (k := 29) rfl
theorem dX11_takeSealed_54 : decode cX11_takeSealed 54 = .ok (.lload 5, 2) := dec_of da_X11_takeSealed_0 (k := 30) rfl
theorem dX11_takeSealed_56 : decode cX11_takeSealed 56 = .ok (.aload_n 2, 1) := dec_of da_X11_takeSealed_0 (k := 31) rfl
theorem dX11_takeSealed_57 : decode cX11_takeSealed 57 = .ok (.getfield 521, 3) := dec_of da_X11_takeSealed_0 (k := 32) rfl
theorem dX11_takeSealed_60 : decode cX11_takeSealed 60 = .ok (.lcmp, 1) := dec_of da_X11_takeSealed_0 (k := 33) rfl
theorem dX11_takeSealed_61 : decode cX11_takeSealed 61 = .ok (.ifCond .le 20, 3) := dec_of da_X11_takeSealed_0 (k := 34) rfl
theorem dX11_takeSealed_64 : decode cX11_takeSealed 64 = .ok (.aload_n 0, 1) := dec_of da_X11_takeSealed_0 (k := 35) rfl
theorem dX11_takeSealed_65 : decode cX11_takeSealed 65 = .ok (.getfield 55, 3) := dec_of da_X11_takeSealed_0 (k := 36) rfl
theorem dX11_takeSealed_68 : decode cX11_takeSealed 68 = .ok (.aload_n 3, 1) := dec_of da_X11_takeSealed_0 (k := 37) rfl
theorem dX11_takeSealed_69 : decode cX11_takeSealed 69 = .ok (.iload 4, 2) := dec_of da_X11_takeSealed_0 (k := 38) rfl
theorem dX11_takeSealed_71 : decode cX11_takeSealed 71 = .ok (.aload_n 2, 1) := dec_of da_X11_takeSealed_0 (k := 39) rfl
theorem dX11_takeSealed_72 : decode cX11_takeSealed 72 = .ok (.getfield 284, 3) := dec_of da_X11_takeSealed_0 (k := 40) rfl
theorem dX11_takeSealed_75 : decode cX11_takeSealed 75 = .ok (.invokevirtual 524, 3) := dec_of da_X11_takeSealed_0 (k := 41) rfl
theorem dX11_takeSealed_78 : decode cX11_takeSealed 78 = .ok (.ifCond .ne 15, 3) := dec_of da_X11_takeSealed_0 (k := 42) rfl
theorem dX11_takeSealed_81 : decode cX11_takeSealed 81 = .ok (.aload_n 1, 1) := dec_of da_X11_takeSealed_0 (k := 43) rfl
theorem dX11_takeSealed_82 : decode cX11_takeSealed 82 = .ok (.dup, 1) := dec_of da_X11_takeSealed_0 (k := 44) rfl
theorem dX11_takeSealed_83 : decode cX11_takeSealed 83 = .ok (.getfield 281, 3) := dec_of da_X11_takeSealed_0 (k := 45) rfl
theorem dX11_takeSealed_86 : decode cX11_takeSealed 86 = .ok (.iconst 1, 1) := dec_of da_X11_takeSealed_0 (k := 46) rfl
theorem dX11_takeSealed_87 : decode cX11_takeSealed 87 = .ok (.iadd, 1) := dec_of da_X11_takeSealed_0 (k := 47) rfl
theorem dX11_takeSealed_88 : decode cX11_takeSealed 88 = .ok (.putfield 281, 3) := dec_of da_X11_takeSealed_0 (k := 48) rfl
theorem dX11_takeSealed_91 : decode cX11_takeSealed 91 = .ok (.iconst 0, 1) := dec_of da_X11_takeSealed_0 (k := 49) rfl
theorem dX11_takeSealed_92 : decode cX11_takeSealed 92 = .ok (.ireturn, 1) := dec_of da_X11_takeSealed_0 (k := 50) rfl
theorem dX11_takeSealed_93 : decode cX11_takeSealed 93 = .ok (.aload_n 2, 1) := dec_of da_X11_takeSealed_0 (k := 51) rfl
theorem dX11_takeSealed_94 : decode cX11_takeSealed 94 = .ok (.lload 5, 2) := dec_of da_X11_takeSealed_0 (k := 52) rfl
theorem dX11_takeSealed_96 : decode cX11_takeSealed 96 = .ok (.putfield 521, 3) := dec_of da_X11_takeSealed_0 (k := 53) rfl
theorem dX11_takeSealed_99 : decode cX11_takeSealed 99 = .ok (.aload_n 2, 1) := dec_of da_X11_takeSealed_0 (k := 54) rfl
theorem dX11_takeSealed_100 : decode cX11_takeSealed 100 = .ok (.aload_n 3, 1) := dec_of da_X11_takeSealed_0 (k := 55) rfl
theorem dX11_takeSealed_101 : decode cX11_takeSealed 101 = .ok (.aload_n 0, 1) := dec_of da_X11_takeSealed_0 (k := 56) rfl
theorem dX11_takeSealed_102 : decode cX11_takeSealed 102 = .ok (.getfield 55, 3) := dec_of da_X11_takeSealed_0 (k := 57) rfl
theorem dX11_takeSealed_105 : decode cX11_takeSealed 105 = .ok (.getfield 527, 3) := dec_of da_X11_takeSealed_0 (k := 58) rfl
theorem dX11_takeSealed_108 : decode cX11_takeSealed 108 = .ok (.iload 4, 2) := dec_of da_X11_takeSealed_0 (k := 59) rfl
def dl_X11_takeSealed_1 : List (Nat × (Instr × Nat)) := [(110, (.invokevirtual 530, 3)), (113, (.ifCond .ne 15, 3)), (116, (.aload_n 1, 1)), (117, (.dup, 1)), (118, (.getfield 281, 3)), (121, (.iconst 1, 1)), (122, (.iadd, 1)), (123, (.putfield 281, 3)), (126, (.iconst 0, 1)), (127, (.ireturn, 1)), (128, (.aload_n 3, 1)), (129, (.iconst 1, 1)), (130, (.iaload, 1)), (131, (.iconst 4, 1)), (132, (.iand, 1)), (133, (.ifCond .eq 5, 3)), (136, (.iconst 0, 1)), (137, (.ireturn, 1)), (138, (.aload_n 2, 1)), (139, (.iconst 0, 1)), (140, (.putfield 534, 3)), (143, (.aload_n 2, 1)), (144, (.getfield 327, 3)), (147, (.bipush 8, 2)), (149, (.if_icmp .lt 21, 3)), (152, (.aload_n 2, 1)), (153, (.getfield 328, 3)), (156, (.iconst 0, 1)), (157, (.bipush 8, 2)), (159, (.iconst 0, 1)), (160, (.invokestatic 537, 3)), (163, (.ifCond .eq 7, 3)), (166, (.iconst 1, 1)), (167, (.goto 4, 3)), (170, (.iconst 0, 1)), (171, (.ireturn, 1))]
set_option maxRecDepth 100000 in
theorem da_X11_takeSealed_1 : dl_X11_takeSealed_1.all (fun q => decide (decode cX11_takeSealed q.1 = .ok q.2)) = true := by decide +kernel
theorem dX11_takeSealed_110 : decode cX11_takeSealed 110 = .ok (.invokevirtual 530, 3) := dec_of da_X11_takeSealed_1 (k := 0) rfl
theorem dX11_takeSealed_113 : decode cX11_takeSealed 113 = .ok (.ifCond .ne 15, 3) := dec_of da_X11_takeSealed_1 (k := 1) rfl
theorem dX11_takeSealed_116 : decode cX11_takeSealed 116 = .ok (.aload_n 1, 1) := dec_of da_X11_takeSealed_1 (k := 2) rfl
theorem dX11_takeSealed_117 : decode cX11_takeSealed 117 = .ok (.dup, 1) := dec_of da_X11_takeSealed_1 (k := 3) rfl
theorem dX11_takeSealed_118 : decode cX11_takeSealed 118 = .ok (.getfield 281, 3) := dec_of da_X11_takeSealed_1 (k := 4) rfl
theorem dX11_takeSealed_121 : decode cX11_takeSealed 121 = .ok (.iconst 1, 1) := dec_of da_X11_takeSealed_1 (k := 5) rfl
theorem dX11_takeSealed_122 : decode cX11_takeSealed 122 = .ok (.iadd, 1) := dec_of da_X11_takeSealed_1 (k := 6) rfl
theorem dX11_takeSealed_123 : decode cX11_takeSealed 123 = .ok (.putfield 281, 3) := dec_of da_X11_takeSealed_1 (k := 7) rfl
theorem dX11_takeSealed_126 : decode cX11_takeSealed 126 = .ok (.iconst 0, 1) := dec_of da_X11_takeSealed_1 (k := 8) rfl
theorem dX11_takeSealed_127 : decode cX11_takeSealed 127 = .ok (.ireturn, 1) := dec_of da_X11_takeSealed_1 (k := 9) rfl
theorem dX11_takeSealed_128 : decode cX11_takeSealed 128 = .ok (.aload_n 3, 1) := dec_of da_X11_takeSealed_1 (k := 10) rfl
theorem dX11_takeSealed_129 : decode cX11_takeSealed 129 = .ok (.iconst 1, 1) := dec_of da_X11_takeSealed_1 (k := 11) rfl
theorem dX11_takeSealed_130 : decode cX11_takeSealed 130 = .ok (.iaload, 1) := dec_of da_X11_takeSealed_1 (k := 12) rfl
theorem dX11_takeSealed_131 : decode cX11_takeSealed 131 = .ok (.iconst 4, 1) := dec_of da_X11_takeSealed_1 (k := 13) rfl
theorem dX11_takeSealed_132 : decode cX11_takeSealed 132 = .ok (.iand, 1) := dec_of da_X11_takeSealed_1 (k := 14) rfl
theorem dX11_takeSealed_133 : decode cX11_takeSealed 133 = .ok (.ifCond .eq 5, 3) := dec_of da_X11_takeSealed_1 (k := 15) rfl
theorem dX11_takeSealed_136 : decode cX11_takeSealed 136 = .ok (.iconst 0, 1) := dec_of da_X11_takeSealed_1 (k := 16) rfl
theorem dX11_takeSealed_137 : decode cX11_takeSealed 137 = .ok (.ireturn, 1) := dec_of da_X11_takeSealed_1 (k := 17) rfl
theorem dX11_takeSealed_138 : decode cX11_takeSealed 138 = .ok (.aload_n 2, 1) := dec_of da_X11_takeSealed_1 (k := 18) rfl
theorem dX11_takeSealed_139 : decode cX11_takeSealed 139 = .ok (.iconst 0, 1) := dec_of da_X11_takeSealed_1 (k := 19) rfl
theorem dX11_takeSealed_140 : decode cX11_takeSealed 140 = .ok (.putfield 534, 3) := dec_of da_X11_takeSealed_1 (k := 20) rfl
theorem dX11_takeSealed_143 : decode cX11_takeSealed 143 = .ok (.aload_n 2, 1) := dec_of da_X11_takeSealed_1 (k := 21) rfl
theorem dX11_takeSealed_144 : decode cX11_takeSealed 144 = .ok (.getfield 327, 3) := dec_of da_X11_takeSealed_1 (k := 22) rfl
theorem dX11_takeSealed_147 : decode cX11_takeSealed 147 = .ok (.bipush 8, 2) := dec_of da_X11_takeSealed_1 (k := 23) rfl
theorem dX11_takeSealed_149 : decode cX11_takeSealed 149 = .ok (.if_icmp .lt 21, 3) := dec_of da_X11_takeSealed_1 (k := 24) rfl
theorem dX11_takeSealed_152 : decode cX11_takeSealed 152 = .ok (.aload_n 2, 1) := dec_of da_X11_takeSealed_1 (k := 25) rfl
theorem dX11_takeSealed_153 : decode cX11_takeSealed 153 = .ok (.getfield 328, 3) := dec_of da_X11_takeSealed_1 (k := 26) rfl
theorem dX11_takeSealed_156 : decode cX11_takeSealed 156 = .ok (.iconst 0, 1) := dec_of da_X11_takeSealed_1 (k := 27) rfl
theorem dX11_takeSealed_157 : decode cX11_takeSealed 157 = .ok (.bipush 8, 2) := dec_of da_X11_takeSealed_1 (k := 28) rfl
theorem dX11_takeSealed_159 : decode cX11_takeSealed 159 = .ok (.iconst 0, 1) := dec_of da_X11_takeSealed_1 (k := 29) rfl
theorem dX11_takeSealed_160 : decode cX11_takeSealed 160 = .ok (.invokestatic 537, 3) := dec_of da_X11_takeSealed_1 (k := 30) rfl
theorem dX11_takeSealed_163 : decode cX11_takeSealed 163 = .ok (.ifCond .eq 7, 3) := dec_of da_X11_takeSealed_1 (k := 31) rfl
theorem dX11_takeSealed_166 : decode cX11_takeSealed 166 = .ok (.iconst 1, 1) := dec_of da_X11_takeSealed_1 (k := 32) rfl
theorem dX11_takeSealed_167 : decode cX11_takeSealed 167 = .ok (.goto 4, 3) := dec_of da_X11_takeSealed_1 (k := 33) rfl
theorem dX11_takeSealed_170 : decode cX11_takeSealed 170 = .ok (.iconst 0, 1) := dec_of da_X11_takeSealed_1 (k := 34) rfl
theorem dX11_takeSealed_171 : decode cX11_takeSealed 171 = .ok (.ireturn, 1) := dec_of da_X11_takeSealed_1 (k := 35) rfl
def dl_X12_init_0 : List (Nat × (Instr × Nat)) := [(0, (.aload_n 0, 1)), (1, (.invokespecial 1, 3)), (4, (.aload_n 0, 1)), (5, (.iconst 5, 1)), (6, (.newarray .int, 2)), (8, (.putfield 7, 3)), (11, (.aload_n 0, 1)), (12, (.bipush 80, 2)), (14, (.newarray .int, 2)), (16, (.putfield 13, 3)), (19, (.aload_n 0, 1)), (20, (.bipush 64, 2)), (22, (.newarray .int, 2)), (24, (.putfield 16, 3)), (27, (.aload_n 0, 1)), (28, (.bipush 20, 2)), (30, (.newarray .int, 2)), (32, (.putfield 19, 3)), (35, (.aload_n 0, 1)), (36, (.bipush 64, 2)), (38, (.newarray .int, 2)), (40, (.putfield 22, 3)), (43, (.aload_n 0, 1)), (44, (.bipush 20, 2)), (46, (.newarray .int, 2)), (48, (.putfield 25, 3)), (51, (.aload_n 0, 1)), (52, (.sipush 256, 3)), (55, (.newarray .int, 2)), (57, (.putfield 28, 3)), (60, (.aload_n 0, 1)), (61, (.sipush 176, 3)), (64, (.newarray .int, 2)), (66, (.putfield 31, 3)), (69, (.aload_n 0, 1)), (70, (.bipush 16, 2)), (72, (.newarray .int, 2)), (74, (.putfield 34, 3)), (77, (.aload_n 0, 1)), (78, (.bipush 16, 2)), (80, (.newarray .int, 2)), (82, (.putfield 37, 3)), (85, (.aload_n 0, 1)), (86, (.bipush 13, 2)), (88, (.newarray .int, 2)), (90, (.putfield 40, 3)), (93, (.aload_n 0, 1)), (94, (.bipush 16, 2)), (96, (.newarray .int, 2)), (98, (.putfield 43, 3)), (101, (.aload_n 0, 1)), (102, (.bipush 16, 2)), (104, (.newarray .int, 2)), (106, (.putfield 46, 3)), (109, (.aload_n 0, 1)), (110, (.bipush 8, 2)), (112, (.newarray .int, 2)), (114, (.putfield 49, 3)), (117, (.aload_n 0, 1)), (118, (.sipush 300, 3))]
set_option maxRecDepth 100000 in
theorem da_X12_init_0 : dl_X12_init_0.all (fun q => decide (decode cX12_init q.1 = .ok q.2)) = true := by decide +kernel
theorem dX12_init_0 : decode cX12_init 0 = .ok (.aload_n 0, 1) := dec_of da_X12_init_0 (k := 0) rfl
theorem dX12_init_1 : decode cX12_init 1 = .ok (.invokespecial 1, 3) := dec_of da_X12_init_0 (k := 1) rfl
theorem dX12_init_4 : decode cX12_init 4 = .ok (.aload_n 0, 1) := dec_of da_X12_init_0 (k := 2) rfl
theorem dX12_init_5 : decode cX12_init 5 = .ok (.iconst 5, 1) := dec_of da_X12_init_0 (k := 3) rfl
theorem dX12_init_6 : decode cX12_init 6 = .ok (.newarray .int, 2) := dec_of da_X12_init_0 (k := 4) rfl
theorem dX12_init_8 : decode cX12_init 8 = .ok (.putfield 7, 3) := dec_of da_X12_init_0 (k := 5) rfl
theorem dX12_init_11 : decode cX12_init 11 = .ok (.aload_n 0, 1) := dec_of da_X12_init_0 (k := 6) rfl
theorem dX12_init_12 : decode cX12_init 12 = .ok (.bipush 80, 2) := dec_of da_X12_init_0 (k := 7) rfl
theorem dX12_init_14 : decode cX12_init 14 = .ok (.newarray .int, 2) := dec_of da_X12_init_0 (k := 8) rfl
theorem dX12_init_16 : decode cX12_init 16 = .ok (.putfield 13, 3) := dec_of da_X12_init_0 (k := 9) rfl
theorem dX12_init_19 : decode cX12_init 19 = .ok (.aload_n 0, 1) := dec_of da_X12_init_0 (k := 10) rfl
theorem dX12_init_20 : decode cX12_init 20 = .ok (.bipush 64, 2) := dec_of da_X12_init_0 (k := 11) rfl
theorem dX12_init_22 : decode cX12_init 22 = .ok (.newarray .int, 2) := dec_of da_X12_init_0 (k := 12) rfl
theorem dX12_init_24 : decode cX12_init 24 = .ok (.putfield 16, 3) := dec_of da_X12_init_0 (k := 13) rfl
theorem dX12_init_27 : decode cX12_init 27 = .ok (.aload_n 0, 1) := dec_of da_X12_init_0 (k := 14) rfl
theorem dX12_init_28 : decode cX12_init 28 = .ok (.bipush 20, 2) := dec_of da_X12_init_0 (k := 15) rfl
theorem dX12_init_30 : decode cX12_init 30 = .ok (.newarray .int, 2) := dec_of da_X12_init_0 (k := 16) rfl
theorem dX12_init_32 : decode cX12_init 32 = .ok (.putfield 19, 3) := dec_of da_X12_init_0 (k := 17) rfl
theorem dX12_init_35 : decode cX12_init 35 = .ok (.aload_n 0, 1) := dec_of da_X12_init_0 (k := 18) rfl
theorem dX12_init_36 : decode cX12_init 36 = .ok (.bipush 64, 2) := dec_of da_X12_init_0 (k := 19) rfl
theorem dX12_init_38 : decode cX12_init 38 = .ok (.newarray .int, 2) := dec_of da_X12_init_0 (k := 20) rfl
theorem dX12_init_40 : decode cX12_init 40 = .ok (.putfield 22, 3) := dec_of da_X12_init_0 (k := 21) rfl
theorem dX12_init_43 : decode cX12_init 43 = .ok (.aload_n 0, 1) := dec_of da_X12_init_0 (k := 22) rfl
theorem dX12_init_44 : decode cX12_init 44 = .ok (.bipush 20, 2) := dec_of da_X12_init_0 (k := 23) rfl
theorem dX12_init_46 : decode cX12_init 46 = .ok (.newarray .int, 2) := dec_of da_X12_init_0 (k := 24) rfl
theorem dX12_init_48 : decode cX12_init 48 = .ok (.putfield 25, 3) := dec_of da_X12_init_0 (k := 25) rfl
theorem dX12_init_51 : decode cX12_init 51 = .ok (.aload_n 0, 1) := dec_of da_X12_init_0 (k := 26) rfl
theorem dX12_init_52 : decode cX12_init 52 = .ok (.sipush 256, 3) := dec_of da_X12_init_0 (k := 27) rfl
theorem dX12_init_55 : decode cX12_init 55 = .ok (.newarray .int, 2) := dec_of da_X12_init_0 (k := 28) rfl
theorem dX12_init_57 : decode cX12_init 57 = .ok (.putfield 28, 3) := dec_of da_X12_init_0 (k := 29) rfl
theorem dX12_init_60 : decode cX12_init 60 = .ok (.aload_n 0, 1) := dec_of da_X12_init_0 (k := 30) rfl
theorem dX12_init_61 : decode cX12_init 61 = .ok (.sipush 176, 3) := dec_of da_X12_init_0 (k := 31) rfl
theorem dX12_init_64 : decode cX12_init 64 = .ok (.newarray .int, 2) := dec_of da_X12_init_0 (k := 32) rfl
theorem dX12_init_66 : decode cX12_init 66 = .ok (.putfield 31, 3) := dec_of da_X12_init_0 (k := 33) rfl
theorem dX12_init_69 : decode cX12_init 69 = .ok (.aload_n 0, 1) := dec_of da_X12_init_0 (k := 34) rfl
theorem dX12_init_70 : decode cX12_init 70 = .ok (.bipush 16, 2) := dec_of da_X12_init_0 (k := 35) rfl
theorem dX12_init_72 : decode cX12_init 72 = .ok (.newarray .int, 2) := dec_of da_X12_init_0 (k := 36) rfl
theorem dX12_init_74 : decode cX12_init 74 = .ok (.putfield 34, 3) := dec_of da_X12_init_0 (k := 37) rfl
theorem dX12_init_77 : decode cX12_init 77 = .ok (.aload_n 0, 1) := dec_of da_X12_init_0 (k := 38) rfl
theorem dX12_init_78 : decode cX12_init 78 = .ok (.bipush 16, 2) := dec_of da_X12_init_0 (k := 39) rfl
theorem dX12_init_80 : decode cX12_init 80 = .ok (.newarray .int, 2) := dec_of da_X12_init_0 (k := 40) rfl
theorem dX12_init_82 : decode cX12_init 82 = .ok (.putfield 37, 3) := dec_of da_X12_init_0 (k := 41) rfl
theorem dX12_init_85 : decode cX12_init 85 = .ok (.aload_n 0, 1) := dec_of da_X12_init_0 (k := 42) rfl
theorem dX12_init_86 : decode cX12_init 86 = .ok (.bipush 13, 2) := dec_of da_X12_init_0 (k := 43) rfl
theorem dX12_init_88 : decode cX12_init 88 = .ok (.newarray .int, 2) := dec_of da_X12_init_0 (k := 44) rfl
theorem dX12_init_90 : decode cX12_init 90 = .ok (.putfield 40, 3) := dec_of da_X12_init_0 (k := 45) rfl
theorem dX12_init_93 : decode cX12_init 93 = .ok (.aload_n 0, 1) := dec_of da_X12_init_0 (k := 46) rfl
theorem dX12_init_94 : decode cX12_init 94 = .ok (.bipush 16, 2) := dec_of da_X12_init_0 (k := 47) rfl
theorem dX12_init_96 : decode cX12_init 96 = .ok (.newarray .int, 2) := dec_of da_X12_init_0 (k := 48) rfl
theorem dX12_init_98 : decode cX12_init 98 = .ok (.putfield 43, 3) := dec_of da_X12_init_0 (k := 49) rfl
theorem dX12_init_101 : decode cX12_init 101 = .ok (.aload_n 0, 1) := dec_of da_X12_init_0 (k := 50) rfl
theorem dX12_init_102 : decode cX12_init 102 = .ok (.bipush 16, 2) := dec_of da_X12_init_0 (k := 51) rfl
theorem dX12_init_104 : decode cX12_init 104 = .ok (.newarray .int, 2) := dec_of da_X12_init_0 (k := 52) rfl
theorem dX12_init_106 : decode cX12_init 106 = .ok (.putfield 46, 3) := dec_of da_X12_init_0 (k := 53) rfl
theorem dX12_init_109 : decode cX12_init 109 = .ok (.aload_n 0, 1) := dec_of da_X12_init_0 (k := 54) rfl
theorem dX12_init_110 : decode cX12_init 110 = .ok (.bipush 8, 2) := dec_of da_X12_init_0 (k := 55) rfl
theorem dX12_init_112 : decode cX12_init 112 = .ok (.newarray .int, 2) := dec_of da_X12_init_0 (k := 56) rfl
theorem dX12_init_114 : decode cX12_init 114 = .ok (.putfield 49, 3) := dec_of da_X12_init_0 (k := 57) rfl
theorem dX12_init_117 : decode cX12_init 117 = .ok (.aload_n 0, 1) := dec_of da_X12_init_0 (k := 58) rfl
theorem dX12_init_118 : decode cX12_init 118 = .ok (.sipush 300, 3) := dec_of da_X12_init_0 (k := 59) rfl
def dl_X12_init_1 : List (Nat × (Instr × Nat)) := [(121, (.newarray .int, 2)), (123, (.putfield 52, 3)), (126, (.aload_n 0, 1)), (127, (.sipush 576, 3)), (130, (.newarray .int, 2)), (132, (.putfield 55, 3)), (135, (.aload_n 0, 1)), (136, (.sipush 288, 3)), (139, (.newarray .int, 2)), (141, (.putfield 58, 3)), (144, (.aload_n 0, 1)), (145, (.bipush 9, 2)), (147, (.newarray .int, 2)), (149, (.putfield 61, 3)), (152, (.aload_n 0, 1)), (153, (.bipush 9, 2)), (155, (.newarray .int, 2)), (157, (.putfield 64, 3)), (160, (.aload_n 0, 1)), (161, (.bipush 9, 2)), (163, (.newarray .boolean, 2)), (165, (.putfield 67, 3)), (168, (.aload_n 0, 1)), (169, (.sipush 288, 3)), (172, (.newarray .int, 2)), (174, (.putfield 71, 3)), (177, (.aload_n 0, 1)), (178, (.bipush 18, 2)), (180, (.newarray .boolean, 2)), (182, (.putfield 74, 3)), (185, (.aload_n 0, 1)), (186, (.sipush 864, 3)), (189, (.newarray .int, 2)), (191, (.putfield 77, 3)), (194, (.aload_n 0, 1)), (195, (.bipush 18, 2)), (197, (.newarray .boolean, 2)), (199, (.putfield 80, 3)), (202, (.aload_n 0, 1)), (203, (.sipush 288, 3)), (206, (.newarray .int, 2)), (208, (.putfield 83, 3)), (211, (.aload_n 0, 1)), (212, (.bipush 18, 2)), (214, (.newarray .long, 2)), (216, (.putfield 86, 3)), (219, (.aload_n 0, 1)), (220, (.bipush 18, 2)), (222, (.newarray .long, 2)), (224, (.putfield 90, 3)), (227, (.aload_n 0, 1)), (228, (.bipush 18, 2)), (230, (.newarray .boolean, 2)), (232, (.putfield 93, 3)), (235, (.aload_n 0, 1)), (236, (.bipush 18, 2)), (238, (.newarray .int, 2)), (240, (.putfield 96, 3)), (243, (.aload_n 0, 1)), (244, (.bipush 18, 2))]
set_option maxRecDepth 100000 in
theorem da_X12_init_1 : dl_X12_init_1.all (fun q => decide (decode cX12_init q.1 = .ok q.2)) = true := by decide +kernel
theorem dX12_init_121 : decode cX12_init 121 = .ok (.newarray .int, 2) := dec_of da_X12_init_1 (k := 0) rfl
theorem dX12_init_123 : decode cX12_init 123 = .ok (.putfield 52, 3) := dec_of da_X12_init_1 (k := 1) rfl
theorem dX12_init_126 : decode cX12_init 126 = .ok (.aload_n 0, 1) := dec_of da_X12_init_1 (k := 2) rfl
theorem dX12_init_127 : decode cX12_init 127 = .ok (.sipush 576, 3) := dec_of da_X12_init_1 (k := 3) rfl
theorem dX12_init_130 : decode cX12_init 130 = .ok (.newarray .int, 2) := dec_of da_X12_init_1 (k := 4) rfl
theorem dX12_init_132 : decode cX12_init 132 = .ok (.putfield 55, 3) := dec_of da_X12_init_1 (k := 5) rfl
theorem dX12_init_135 : decode cX12_init 135 = .ok (.aload_n 0, 1) := dec_of da_X12_init_1 (k := 6) rfl
theorem dX12_init_136 : decode cX12_init 136 = .ok (.sipush 288, 3) := dec_of da_X12_init_1 (k := 7) rfl
theorem dX12_init_139 : decode cX12_init 139 = .ok (.newarray .int, 2) := dec_of da_X12_init_1 (k := 8) rfl
theorem dX12_init_141 : decode cX12_init 141 = .ok (.putfield 58, 3) := dec_of da_X12_init_1 (k := 9) rfl
theorem dX12_init_144 : decode cX12_init 144 = .ok (.aload_n 0, 1) := dec_of da_X12_init_1 (k := 10) rfl
theorem dX12_init_145 : decode cX12_init 145 = .ok (.bipush 9, 2) := dec_of da_X12_init_1 (k := 11) rfl
theorem dX12_init_147 : decode cX12_init 147 = .ok (.newarray .int, 2) := dec_of da_X12_init_1 (k := 12) rfl
theorem dX12_init_149 : decode cX12_init 149 = .ok (.putfield 61, 3) := dec_of da_X12_init_1 (k := 13) rfl
theorem dX12_init_152 : decode cX12_init 152 = .ok (.aload_n 0, 1) := dec_of da_X12_init_1 (k := 14) rfl
theorem dX12_init_153 : decode cX12_init 153 = .ok (.bipush 9, 2) := dec_of da_X12_init_1 (k := 15) rfl
theorem dX12_init_155 : decode cX12_init 155 = .ok (.newarray .int, 2) := dec_of da_X12_init_1 (k := 16) rfl
theorem dX12_init_157 : decode cX12_init 157 = .ok (.putfield 64, 3) := dec_of da_X12_init_1 (k := 17) rfl
theorem dX12_init_160 : decode cX12_init 160 = .ok (.aload_n 0, 1) := dec_of da_X12_init_1 (k := 18) rfl
theorem dX12_init_161 : decode cX12_init 161 = .ok (.bipush 9, 2) := dec_of da_X12_init_1 (k := 19) rfl
theorem dX12_init_163 : decode cX12_init 163 = .ok (.newarray .boolean, 2) := dec_of da_X12_init_1 (k := 20) rfl
theorem dX12_init_165 : decode cX12_init 165 = .ok (.putfield 67, 3) := dec_of da_X12_init_1 (k := 21) rfl
theorem dX12_init_168 : decode cX12_init 168 = .ok (.aload_n 0, 1) := dec_of da_X12_init_1 (k := 22) rfl
theorem dX12_init_169 : decode cX12_init 169 = .ok (.sipush 288, 3) := dec_of da_X12_init_1 (k := 23) rfl
theorem dX12_init_172 : decode cX12_init 172 = .ok (.newarray .int, 2) := dec_of da_X12_init_1 (k := 24) rfl
theorem dX12_init_174 : decode cX12_init 174 = .ok (.putfield 71, 3) := dec_of da_X12_init_1 (k := 25) rfl
theorem dX12_init_177 : decode cX12_init 177 = .ok (.aload_n 0, 1) := dec_of da_X12_init_1 (k := 26) rfl
theorem dX12_init_178 : decode cX12_init 178 = .ok (.bipush 18, 2) := dec_of da_X12_init_1 (k := 27) rfl
theorem dX12_init_180 : decode cX12_init 180 = .ok (.newarray .boolean, 2) := dec_of da_X12_init_1 (k := 28) rfl
theorem dX12_init_182 : decode cX12_init 182 = .ok (.putfield 74, 3) := dec_of da_X12_init_1 (k := 29) rfl
theorem dX12_init_185 : decode cX12_init 185 = .ok (.aload_n 0, 1) := dec_of da_X12_init_1 (k := 30) rfl
theorem dX12_init_186 : decode cX12_init 186 = .ok (.sipush 864, 3) := dec_of da_X12_init_1 (k := 31) rfl
theorem dX12_init_189 : decode cX12_init 189 = .ok (.newarray .int, 2) := dec_of da_X12_init_1 (k := 32) rfl
theorem dX12_init_191 : decode cX12_init 191 = .ok (.putfield 77, 3) := dec_of da_X12_init_1 (k := 33) rfl
theorem dX12_init_194 : decode cX12_init 194 = .ok (.aload_n 0, 1) := dec_of da_X12_init_1 (k := 34) rfl
theorem dX12_init_195 : decode cX12_init 195 = .ok (.bipush 18, 2) := dec_of da_X12_init_1 (k := 35) rfl
theorem dX12_init_197 : decode cX12_init 197 = .ok (.newarray .boolean, 2) := dec_of da_X12_init_1 (k := 36) rfl
theorem dX12_init_199 : decode cX12_init 199 = .ok (.putfield 80, 3) := dec_of da_X12_init_1 (k := 37) rfl
theorem dX12_init_202 : decode cX12_init 202 = .ok (.aload_n 0, 1) := dec_of da_X12_init_1 (k := 38) rfl
theorem dX12_init_203 : decode cX12_init 203 = .ok (.sipush 288, 3) := dec_of da_X12_init_1 (k := 39) rfl
theorem dX12_init_206 : decode cX12_init 206 = .ok (.newarray .int, 2) := dec_of da_X12_init_1 (k := 40) rfl
theorem dX12_init_208 : decode cX12_init 208 = .ok (.putfield 83, 3) := dec_of da_X12_init_1 (k := 41) rfl
theorem dX12_init_211 : decode cX12_init 211 = .ok (.aload_n 0, 1) := dec_of da_X12_init_1 (k := 42) rfl
theorem dX12_init_212 : decode cX12_init 212 = .ok (.bipush 18, 2) := dec_of da_X12_init_1 (k := 43) rfl
theorem dX12_init_214 : decode cX12_init 214 = .ok (.newarray .long, 2) := dec_of da_X12_init_1 (k := 44) rfl
theorem dX12_init_216 : decode cX12_init 216 = .ok (.putfield 86, 3) := dec_of da_X12_init_1 (k := 45) rfl
theorem dX12_init_219 : decode cX12_init 219 = .ok (.aload_n 0, 1) := dec_of da_X12_init_1 (k := 46) rfl
theorem dX12_init_220 : decode cX12_init 220 = .ok (.bipush 18, 2) := dec_of da_X12_init_1 (k := 47) rfl
theorem dX12_init_222 : decode cX12_init 222 = .ok (.newarray .long, 2) := dec_of da_X12_init_1 (k := 48) rfl
theorem dX12_init_224 : decode cX12_init 224 = .ok (.putfield 90, 3) := dec_of da_X12_init_1 (k := 49) rfl
theorem dX12_init_227 : decode cX12_init 227 = .ok (.aload_n 0, 1) := dec_of da_X12_init_1 (k := 50) rfl
theorem dX12_init_228 : decode cX12_init 228 = .ok (.bipush 18, 2) := dec_of da_X12_init_1 (k := 51) rfl
theorem dX12_init_230 : decode cX12_init 230 = .ok (.newarray .boolean, 2) := dec_of da_X12_init_1 (k := 52) rfl
theorem dX12_init_232 : decode cX12_init 232 = .ok (.putfield 93, 3) := dec_of da_X12_init_1 (k := 53) rfl
theorem dX12_init_235 : decode cX12_init 235 = .ok (.aload_n 0, 1) := dec_of da_X12_init_1 (k := 54) rfl
theorem dX12_init_236 : decode cX12_init 236 = .ok (.bipush 18, 2) := dec_of da_X12_init_1 (k := 55) rfl
theorem dX12_init_238 : decode cX12_init 238 = .ok (.newarray .int, 2) := dec_of da_X12_init_1 (k := 56) rfl
theorem dX12_init_240 : decode cX12_init 240 = .ok (.putfield 96, 3) := dec_of da_X12_init_1 (k := 57) rfl
theorem dX12_init_243 : decode cX12_init 243 = .ok (.aload_n 0, 1) := dec_of da_X12_init_1 (k := 58) rfl
theorem dX12_init_244 : decode cX12_init 244 = .ok (.bipush 18, 2) := dec_of da_X12_init_1 (k := 59) rfl
def dl_X12_init_2 : List (Nat × (Instr × Nat)) := [(246, (.newarray .int, 2)), (248, (.putfield 99, 3)), (251, (.aload_n 0, 1)), (252, (.bipush 18, 2)), (254, (.newarray .int, 2)), (256, (.putfield 102, 3)), (259, (.aload_n 0, 1)), (260, (.sipush 3744, 3)), (263, (.newarray .int, 2)), (265, (.putfield 105, 3)), (268, (.aload_n 0, 1)), (269, (.bipush 48, 2)), (271, (.newarray .int, 2)), (273, (.putfield 108, 3)), (276, (.aload_n 0, 1)), (277, (.bipush 9, 2)), (279, (.newarray .int, 2)), (281, (.putfield 111, 3)), (284, (.aload_n 0, 1)), (285, (.bipush 108, 2)), (287, (.newarray .int, 2)), (289, (.putfield 114, 3)), (292, (.aload_n 0, 1)), (293, (.bipush 108, 2)), (295, (.newarray .int, 2)), (297, (.putfield 117, 3)), (300, (.aload_n 0, 1)), (301, (.bipush 108, 2)), (303, (.newarray .int, 2)), (305, (.putfield 120, 3)), (308, (.aload_n 0, 1)), (309, (.bipush 108, 2)), (311, (.newarray .int, 2)), (313, (.putfield 123, 3)), (316, (.aload_n 0, 1)), (317, (.bipush 108, 2)), (319, (.newarray .int, 2)), (321, (.putfield 126, 3)), (324, (.aload_n 0, 1)), (325, (.bipush 108, 2)), (327, (.newarray .int, 2)), (329, (.putfield 129, 3)), (332, (.aload_n 0, 1)), (333, (.bipush 108, 2)), (335, (.newarray .int, 2)), (337, (.putfield 132, 3)), (340, (.aload_n 0, 1)), (341, (.sipush 22464, 3)), (344, (.newarray .int, 2)), (346, (.putfield 135, 3)), (349, (.aload_n 0, 1)), (350, (.bipush 9, 2)), (352, (.newarray .int, 2)), (354, (.putfield 138, 3)), (357, (.aload_n 0, 1)), (358, (.bipush 9, 2)), (360, (.newarray .boolean, 2)), (362, (.putfield 141, 3)), (365, (.aload_n 0, 1)), (366, (.sipush 2700, 3))]
set_option maxRecDepth 100000 in
theorem da_X12_init_2 : dl_X12_init_2.all (fun q => decide (decode cX12_init q.1 = .ok q.2)) = true := by decide +kernel
theorem dX12_init_246 : decode cX12_init 246 = .ok (.newarray .int, 2) := dec_of da_X12_init_2 (k := 0) rfl
theorem dX12_init_248 : decode cX12_init 248 = .ok (.putfield 99, 3) := dec_of da_X12_init_2 (k := 1) rfl
theorem dX12_init_251 : decode cX12_init 251 = .ok (.aload_n 0, 1) := dec_of da_X12_init_2 (k := 2) rfl
theorem dX12_init_252 : decode cX12_init 252 = .ok (.bipush 18, 2) := dec_of da_X12_init_2 (k := 3) rfl
theorem dX12_init_254 : decode cX12_init 254 = .ok (.newarray .int, 2) := dec_of da_X12_init_2 (k := 4) rfl
theorem dX12_init_256 : decode cX12_init 256 = .ok (.putfield 102, 3) := dec_of da_X12_init_2 (k := 5) rfl
theorem dX12_init_259 : decode cX12_init 259 = .ok (.aload_n 0, 1) := dec_of da_X12_init_2 (k := 6) rfl
theorem dX12_init_260 : decode cX12_init 260 = .ok (.sipush 3744, 3) := dec_of da_X12_init_2 (k := 7) rfl
theorem dX12_init_263 : decode cX12_init 263 = .ok (.newarray .int, 2) := dec_of da_X12_init_2 (k := 8) rfl
theorem dX12_init_265 : decode cX12_init 265 = .ok (.putfield 105, 3) := dec_of da_X12_init_2 (k := 9) rfl
theorem dX12_init_268 : decode cX12_init 268 = .ok (.aload_n 0, 1) := dec_of da_X12_init_2 (k := 10) rfl
theorem dX12_init_269 : decode cX12_init 269 = .ok (.bipush 48, 2) := dec_of da_X12_init_2 (k := 11) rfl
theorem dX12_init_271 : decode cX12_init 271 = .ok (.newarray .int, 2) := dec_of da_X12_init_2 (k := 12) rfl
theorem dX12_init_273 : decode cX12_init 273 = .ok (.putfield 108, 3) := dec_of da_X12_init_2 (k := 13) rfl
theorem dX12_init_276 : decode cX12_init 276 = .ok (.aload_n 0, 1) := dec_of da_X12_init_2 (k := 14) rfl
theorem dX12_init_277 : decode cX12_init 277 = .ok (.bipush 9, 2) := dec_of da_X12_init_2 (k := 15) rfl
theorem dX12_init_279 : decode cX12_init 279 = .ok (.newarray .int, 2) := dec_of da_X12_init_2 (k := 16) rfl
theorem dX12_init_281 : decode cX12_init 281 = .ok (.putfield 111, 3) := dec_of da_X12_init_2 (k := 17) rfl
theorem dX12_init_284 : decode cX12_init 284 = .ok (.aload_n 0, 1) := dec_of da_X12_init_2 (k := 18) rfl
theorem dX12_init_285 : decode cX12_init 285 = .ok (.bipush 108, 2) := dec_of da_X12_init_2 (k := 19) rfl
theorem dX12_init_287 : decode cX12_init 287 = .ok (.newarray .int, 2) := dec_of da_X12_init_2 (k := 20) rfl
theorem dX12_init_289 : decode cX12_init 289 = .ok (.putfield 114, 3) := dec_of da_X12_init_2 (k := 21) rfl
theorem dX12_init_292 : decode cX12_init 292 = .ok (.aload_n 0, 1) := dec_of da_X12_init_2 (k := 22) rfl
theorem dX12_init_293 : decode cX12_init 293 = .ok (.bipush 108, 2) := dec_of da_X12_init_2 (k := 23) rfl
theorem dX12_init_295 : decode cX12_init 295 = .ok (.newarray .int, 2) := dec_of da_X12_init_2 (k := 24) rfl
theorem dX12_init_297 : decode cX12_init 297 = .ok (.putfield 117, 3) := dec_of da_X12_init_2 (k := 25) rfl
theorem dX12_init_300 : decode cX12_init 300 = .ok (.aload_n 0, 1) := dec_of da_X12_init_2 (k := 26) rfl
theorem dX12_init_301 : decode cX12_init 301 = .ok (.bipush 108, 2) := dec_of da_X12_init_2 (k := 27) rfl
theorem dX12_init_303 : decode cX12_init 303 = .ok (.newarray .int, 2) := dec_of da_X12_init_2 (k := 28) rfl
theorem dX12_init_305 : decode cX12_init 305 = .ok (.putfield 120, 3) := dec_of da_X12_init_2 (k := 29) rfl
theorem dX12_init_308 : decode cX12_init 308 = .ok (.aload_n 0, 1) := dec_of da_X12_init_2 (k := 30) rfl
theorem dX12_init_309 : decode cX12_init 309 = .ok (.bipush 108, 2) := dec_of da_X12_init_2 (k := 31) rfl
theorem dX12_init_311 : decode cX12_init 311 = .ok (.newarray .int, 2) := dec_of da_X12_init_2 (k := 32) rfl
theorem dX12_init_313 : decode cX12_init 313 = .ok (.putfield 123, 3) := dec_of da_X12_init_2 (k := 33) rfl
theorem dX12_init_316 : decode cX12_init 316 = .ok (.aload_n 0, 1) := dec_of da_X12_init_2 (k := 34) rfl
theorem dX12_init_317 : decode cX12_init 317 = .ok (.bipush 108, 2) := dec_of da_X12_init_2 (k := 35) rfl
theorem dX12_init_319 : decode cX12_init 319 = .ok (.newarray .int, 2) := dec_of da_X12_init_2 (k := 36) rfl
theorem dX12_init_321 : decode cX12_init 321 = .ok (.putfield 126, 3) := dec_of da_X12_init_2 (k := 37) rfl
theorem dX12_init_324 : decode cX12_init 324 = .ok (.aload_n 0, 1) := dec_of da_X12_init_2 (k := 38) rfl
theorem dX12_init_325 : decode cX12_init 325 = .ok (.bipush 108, 2) := dec_of da_X12_init_2 (k := 39) rfl
theorem dX12_init_327 : decode cX12_init 327 = .ok (.newarray .int, 2) := dec_of da_X12_init_2 (k := 40) rfl
theorem dX12_init_329 : decode cX12_init 329 = .ok (.putfield 129, 3) := dec_of da_X12_init_2 (k := 41) rfl
theorem dX12_init_332 : decode cX12_init 332 = .ok (.aload_n 0, 1) := dec_of da_X12_init_2 (k := 42) rfl
theorem dX12_init_333 : decode cX12_init 333 = .ok (.bipush 108, 2) := dec_of da_X12_init_2 (k := 43) rfl
theorem dX12_init_335 : decode cX12_init 335 = .ok (.newarray .int, 2) := dec_of da_X12_init_2 (k := 44) rfl
theorem dX12_init_337 : decode cX12_init 337 = .ok (.putfield 132, 3) := dec_of da_X12_init_2 (k := 45) rfl
theorem dX12_init_340 : decode cX12_init 340 = .ok (.aload_n 0, 1) := dec_of da_X12_init_2 (k := 46) rfl
theorem dX12_init_341 : decode cX12_init 341 = .ok (.sipush 22464, 3) := dec_of da_X12_init_2 (k := 47) rfl
theorem dX12_init_344 : decode cX12_init 344 = .ok (.newarray .int, 2) := dec_of da_X12_init_2 (k := 48) rfl
theorem dX12_init_346 : decode cX12_init 346 = .ok (.putfield 135, 3) := dec_of da_X12_init_2 (k := 49) rfl
theorem dX12_init_349 : decode cX12_init 349 = .ok (.aload_n 0, 1) := dec_of da_X12_init_2 (k := 50) rfl
theorem dX12_init_350 : decode cX12_init 350 = .ok (.bipush 9, 2) := dec_of da_X12_init_2 (k := 51) rfl
theorem dX12_init_352 : decode cX12_init 352 = .ok (.newarray .int, 2) := dec_of da_X12_init_2 (k := 52) rfl
theorem dX12_init_354 : decode cX12_init 354 = .ok (.putfield 138, 3) := dec_of da_X12_init_2 (k := 53) rfl
theorem dX12_init_357 : decode cX12_init 357 = .ok (.aload_n 0, 1) := dec_of da_X12_init_2 (k := 54) rfl
theorem dX12_init_358 : decode cX12_init 358 = .ok (.bipush 9, 2) := dec_of da_X12_init_2 (k := 55) rfl
theorem dX12_init_360 : decode cX12_init 360 = .ok (.newarray .boolean, 2) := dec_of da_X12_init_2 (k := 56) rfl
theorem dX12_init_362 : decode cX12_init 362 = .ok (.putfield 141, 3) := dec_of da_X12_init_2 (k := 57) rfl
theorem dX12_init_365 : decode cX12_init 365 = .ok (.aload_n 0, 1) := dec_of da_X12_init_2 (k := 58) rfl
theorem dX12_init_366 : decode cX12_init 366 = .ok (.sipush 2700, 3) := dec_of da_X12_init_2 (k := 59) rfl
def dl_X12_init_3 : List (Nat × (Instr × Nat)) := [(369, (.newarray .int, 2)), (371, (.putfield 144, 3)), (374, (.aload_n 0, 1)), (375, (.bipush 9, 2)), (377, (.newarray .int, 2)), (379, (.putfield 147, 3)), (382, (.aload_n 0, 1)), (383, (.bipush 9, 2)), (385, (.newarray .int, 2)), (387, (.putfield 150, 3)), (390, (.aload_n 0, 1)), (391, (.bipush 9, 2)), (393, (.newarray .int, 2)), (395, (.putfield 153, 3)), (398, (.aload_n 0, 1)), (399, (.bipush 9, 2)), (401, (.newarray .int, 2)), (403, (.putfield 156, 3)), (406, (.aload_n 0, 1)), (407, (.bipush 9, 2)), (409, (.newarray .int, 2)), (411, (.putfield 159, 3)), (414, (.aload_n 0, 1)), (415, (.sipush 255, 3)), (418, (.putfield 162, 3)), (421, (.aload_n 0, 1)), (422, (.iconst 4, 1)), (423, (.putfield 166, 3)), (426, (.aload_n 0, 1)), (427, (.sipush 200, 3)), (430, (.newarray .int, 2)), (432, (.putfield 169, 3)), (435, (.aload_n 0, 1)), (436, (.sipush 200, 3)), (439, (.newarray .int, 2)), (441, (.putfield 172, 3)), (444, (.aload_n 0, 1)), (445, (.sipush 208, 3)), (448, (.newarray .int, 2)), (450, (.putfield 175, 3)), (453, (.aload_n 0, 1)), (454, (.iconst 3, 1)), (455, (.putfield 178, 3)), (458, (.aload_n 0, 1)), (459, (.bipush 9, 2)), (461, (.newarray .int, 2)), (463, (.putfield 181, 3)), (466, (.aload_n 0, 1)), (467, (.bipush 9, 2)), (469, (.newarray .boolean, 2)), (471, (.putfield 184, 3)), (474, (.aload_n 0, 1)), (475, (.bipush 9, 2)), (477, (.newarray .int, 2)), (479, (.putfield 187, 3)), (482, (.aload_n 0, 1)), (483, (.bipush 9, 2)), (485, (.newarray .int, 2)), (487, (.putfield 190, 3)), (490, (.aload_n 0, 1))]
set_option maxRecDepth 100000 in
theorem da_X12_init_3 : dl_X12_init_3.all (fun q => decide (decode cX12_init q.1 = .ok q.2)) = true := by decide +kernel
theorem dX12_init_369 : decode cX12_init 369 = .ok (.newarray .int, 2) := dec_of da_X12_init_3 (k := 0) rfl
theorem dX12_init_371 : decode cX12_init 371 = .ok (.putfield 144, 3) := dec_of da_X12_init_3 (k := 1) rfl
theorem dX12_init_374 : decode cX12_init 374 = .ok (.aload_n 0, 1) := dec_of da_X12_init_3 (k := 2) rfl
theorem dX12_init_375 : decode cX12_init 375 = .ok (.bipush 9, 2) := dec_of da_X12_init_3 (k := 3) rfl
theorem dX12_init_377 : decode cX12_init 377 = .ok (.newarray .int, 2) := dec_of da_X12_init_3 (k := 4) rfl
theorem dX12_init_379 : decode cX12_init 379 = .ok (.putfield 147, 3) := dec_of da_X12_init_3 (k := 5) rfl
theorem dX12_init_382 : decode cX12_init 382 = .ok (.aload_n 0, 1) := dec_of da_X12_init_3 (k := 6) rfl
theorem dX12_init_383 : decode cX12_init 383 = .ok (.bipush 9, 2) := dec_of da_X12_init_3 (k := 7) rfl
theorem dX12_init_385 : decode cX12_init 385 = .ok (.newarray .int, 2) := dec_of da_X12_init_3 (k := 8) rfl
theorem dX12_init_387 : decode cX12_init 387 = .ok (.putfield 150, 3) := dec_of da_X12_init_3 (k := 9) rfl
theorem dX12_init_390 : decode cX12_init 390 = .ok (.aload_n 0, 1) := dec_of da_X12_init_3 (k := 10) rfl
theorem dX12_init_391 : decode cX12_init 391 = .ok (.bipush 9, 2) := dec_of da_X12_init_3 (k := 11) rfl
theorem dX12_init_393 : decode cX12_init 393 = .ok (.newarray .int, 2) := dec_of da_X12_init_3 (k := 12) rfl
theorem dX12_init_395 : decode cX12_init 395 = .ok (.putfield 153, 3) := dec_of da_X12_init_3 (k := 13) rfl
theorem dX12_init_398 : decode cX12_init 398 = .ok (.aload_n 0, 1) := dec_of da_X12_init_3 (k := 14) rfl
theorem dX12_init_399 : decode cX12_init 399 = .ok (.bipush 9, 2) := dec_of da_X12_init_3 (k := 15) rfl
theorem dX12_init_401 : decode cX12_init 401 = .ok (.newarray .int, 2) := dec_of da_X12_init_3 (k := 16) rfl
theorem dX12_init_403 : decode cX12_init 403 = .ok (.putfield 156, 3) := dec_of da_X12_init_3 (k := 17) rfl
theorem dX12_init_406 : decode cX12_init 406 = .ok (.aload_n 0, 1) := dec_of da_X12_init_3 (k := 18) rfl
theorem dX12_init_407 : decode cX12_init 407 = .ok (.bipush 9, 2) := dec_of da_X12_init_3 (k := 19) rfl
theorem dX12_init_409 : decode cX12_init 409 = .ok (.newarray .int, 2) := dec_of da_X12_init_3 (k := 20) rfl
theorem dX12_init_411 : decode cX12_init 411 = .ok (.putfield 159, 3) := dec_of da_X12_init_3 (k := 21) rfl
theorem dX12_init_414 : decode cX12_init 414 = .ok (.aload_n 0, 1) := dec_of da_X12_init_3 (k := 22) rfl
theorem dX12_init_415 : decode cX12_init 415 = .ok (.sipush 255, 3) := dec_of da_X12_init_3 (k := 23) rfl
theorem dX12_init_418 : decode cX12_init 418 = .ok (.putfield 162, 3) := dec_of da_X12_init_3 (k := 24) rfl
theorem dX12_init_421 : decode cX12_init 421 = .ok (.aload_n 0, 1) := dec_of da_X12_init_3 (k := 25) rfl
theorem dX12_init_422 : decode cX12_init 422 = .ok (.iconst 4, 1) := dec_of da_X12_init_3 (k := 26) rfl
theorem dX12_init_423 : decode cX12_init 423 = .ok (.putfield 166, 3) := dec_of da_X12_init_3 (k := 27) rfl
theorem dX12_init_426 : decode cX12_init 426 = .ok (.aload_n 0, 1) := dec_of da_X12_init_3 (k := 28) rfl
theorem dX12_init_427 : decode cX12_init 427 = .ok (.sipush 200, 3) := dec_of da_X12_init_3 (k := 29) rfl
theorem dX12_init_430 : decode cX12_init 430 = .ok (.newarray .int, 2) := dec_of da_X12_init_3 (k := 30) rfl
theorem dX12_init_432 : decode cX12_init 432 = .ok (.putfield 169, 3) := dec_of da_X12_init_3 (k := 31) rfl
theorem dX12_init_435 : decode cX12_init 435 = .ok (.aload_n 0, 1) := dec_of da_X12_init_3 (k := 32) rfl
theorem dX12_init_436 : decode cX12_init 436 = .ok (.sipush 200, 3) := dec_of da_X12_init_3 (k := 33) rfl
theorem dX12_init_439 : decode cX12_init 439 = .ok (.newarray .int, 2) := dec_of da_X12_init_3 (k := 34) rfl
theorem dX12_init_441 : decode cX12_init 441 = .ok (.putfield 172, 3) := dec_of da_X12_init_3 (k := 35) rfl
theorem dX12_init_444 : decode cX12_init 444 = .ok (.aload_n 0, 1) := dec_of da_X12_init_3 (k := 36) rfl
theorem dX12_init_445 : decode cX12_init 445 = .ok (.sipush 208, 3) := dec_of da_X12_init_3 (k := 37) rfl
theorem dX12_init_448 : decode cX12_init 448 = .ok (.newarray .int, 2) := dec_of da_X12_init_3 (k := 38) rfl
theorem dX12_init_450 : decode cX12_init 450 = .ok (.putfield 175, 3) := dec_of da_X12_init_3 (k := 39) rfl
theorem dX12_init_453 : decode cX12_init 453 = .ok (.aload_n 0, 1) := dec_of da_X12_init_3 (k := 40) rfl
theorem dX12_init_454 : decode cX12_init 454 = .ok (.iconst 3, 1) := dec_of da_X12_init_3 (k := 41) rfl
theorem dX12_init_455 : decode cX12_init 455 = .ok (.putfield 178, 3) := dec_of da_X12_init_3 (k := 42) rfl
theorem dX12_init_458 : decode cX12_init 458 = .ok (.aload_n 0, 1) := dec_of da_X12_init_3 (k := 43) rfl
theorem dX12_init_459 : decode cX12_init 459 = .ok (.bipush 9, 2) := dec_of da_X12_init_3 (k := 44) rfl
theorem dX12_init_461 : decode cX12_init 461 = .ok (.newarray .int, 2) := dec_of da_X12_init_3 (k := 45) rfl
theorem dX12_init_463 : decode cX12_init 463 = .ok (.putfield 181, 3) := dec_of da_X12_init_3 (k := 46) rfl
theorem dX12_init_466 : decode cX12_init 466 = .ok (.aload_n 0, 1) := dec_of da_X12_init_3 (k := 47) rfl
theorem dX12_init_467 : decode cX12_init 467 = .ok (.bipush 9, 2) := dec_of da_X12_init_3 (k := 48) rfl
theorem dX12_init_469 : decode cX12_init 469 = .ok (.newarray .boolean, 2) := dec_of da_X12_init_3 (k := 49) rfl
theorem dX12_init_471 : decode cX12_init 471 = .ok (.putfield 184, 3) := dec_of da_X12_init_3 (k := 50) rfl
theorem dX12_init_474 : decode cX12_init 474 = .ok (.aload_n 0, 1) := dec_of da_X12_init_3 (k := 51) rfl
theorem dX12_init_475 : decode cX12_init 475 = .ok (.bipush 9, 2) := dec_of da_X12_init_3 (k := 52) rfl
theorem dX12_init_477 : decode cX12_init 477 = .ok (.newarray .int, 2) := dec_of da_X12_init_3 (k := 53) rfl
theorem dX12_init_479 : decode cX12_init 479 = .ok (.putfield 187, 3) := dec_of da_X12_init_3 (k := 54) rfl
theorem dX12_init_482 : decode cX12_init 482 = .ok (.aload_n 0, 1) := dec_of da_X12_init_3 (k := 55) rfl
theorem dX12_init_483 : decode cX12_init 483 = .ok (.bipush 9, 2) := dec_of da_X12_init_3 (k := 56) rfl
theorem dX12_init_485 : decode cX12_init 485 = .ok (.newarray .int, 2) := dec_of da_X12_init_3 (k := 57) rfl
theorem dX12_init_487 : decode cX12_init 487 = .ok (.putfield 190, 3) := dec_of da_X12_init_3 (k := 58) rfl
theorem dX12_init_490 : decode cX12_init 490 = .ok (.aload_n 0, 1) := dec_of da_X12_init_3 (k := 59) rfl
def dl_X12_init_4 : List (Nat × (Instr × Nat)) := [(491, (.bipush 9, 2)), (493, (.newarray .int, 2)), (495, (.putfield 193, 3)), (498, (.aload_n 0, 1)), (499, (.bipush 9, 2)), (501, (.newarray .long, 2)), (503, (.putfield 196, 3)), (506, (.aload_n 0, 1)), (507, (.sipush 300, 3)), (510, (.newarray .int, 2)), (512, (.putfield 199, 3)), (515, (.aload_n 0, 1)), (516, (.sipush 300, 3)), (519, (.newarray .int, 2)), (521, (.putfield 202, 3)), (524, (.aload_n 0, 1)), (525, (.sipush 300, 3)), (528, (.newarray .int, 2)), (530, (.putfield 205, 3)), (533, (.aload_n 0, 1)), (534, (.sipush 300, 3)), (537, (.newarray .boolean, 2)), (539, (.putfield 208, 3)), (542, (.aload_n 0, 1)), (543, (.sipush 300, 3)), (546, (.newarray .int, 2)), (548, (.putfield 211, 3)), (551, (.aload_n 0, 1)), (552, (.ldc 214, 2)), (554, (.newarray .int, 2)), (556, (.putfield 215, 3)), (559, (.aload_n 0, 1)), (560, (.bipush 40, 2)), (562, (.newarray .int, 2)), (564, (.putfield 218, 3)), (567, (.aload_n 0, 1)), (568, (.bipush 40, 2)), (570, (.newarray .int, 2)), (572, (.putfield 221, 3)), (575, (.aload_n 0, 1)), (576, (.bipush 40, 2)), (578, (.newarray .int, 2)), (580, (.putfield 224, 3)), (583, (.aload_n 0, 1)), (584, (.bipush 40, 2)), (586, (.newarray .int, 2)), (588, (.putfield 227, 3)), (591, (.aload_n 0, 1)), (592, (.bipush 40, 2)), (594, (.newarray .int, 2)), (596, (.putfield 230, 3)), (599, (.aload_n 0, 1)), (600, (.sipush 12000, 3)), (603, (.newarray .int, 2)), (605, (.putfield 233, 3)), (608, (.aload_n 0, 1)), (609, (.bipush 30, 2)), (611, (.newarray .int, 2)), (613, (.putfield 236, 3)), (616, (.aload_n 0, 1))]
set_option maxRecDepth 100000 in
theorem da_X12_init_4 : dl_X12_init_4.all (fun q => decide (decode cX12_init q.1 = .ok q.2)) = true := by decide +kernel
theorem dX12_init_491 : decode cX12_init 491 = .ok (.bipush 9, 2) := dec_of da_X12_init_4 (k := 0) rfl
theorem dX12_init_493 : decode cX12_init 493 = .ok (.newarray .int, 2) := dec_of da_X12_init_4 (k := 1) rfl
theorem dX12_init_495 : decode cX12_init 495 = .ok (.putfield 193, 3) := dec_of da_X12_init_4 (k := 2) rfl
theorem dX12_init_498 : decode cX12_init 498 = .ok (.aload_n 0, 1) := dec_of da_X12_init_4 (k := 3) rfl
theorem dX12_init_499 : decode cX12_init 499 = .ok (.bipush 9, 2) := dec_of da_X12_init_4 (k := 4) rfl
theorem dX12_init_501 : decode cX12_init 501 = .ok (.newarray .long, 2) := dec_of da_X12_init_4 (k := 5) rfl
theorem dX12_init_503 : decode cX12_init 503 = .ok (.putfield 196, 3) := dec_of da_X12_init_4 (k := 6) rfl
theorem dX12_init_506 : decode cX12_init 506 = .ok (.aload_n 0, 1) := dec_of da_X12_init_4 (k := 7) rfl
theorem dX12_init_507 : decode cX12_init 507 = .ok (.sipush 300, 3) := dec_of da_X12_init_4 (k := 8) rfl
theorem dX12_init_510 : decode cX12_init 510 = .ok (.newarray .int, 2) := dec_of da_X12_init_4 (k := 9) rfl
theorem dX12_init_512 : decode cX12_init 512 = .ok (.putfield 199, 3) := dec_of da_X12_init_4 (k := 10) rfl
theorem dX12_init_515 : decode cX12_init 515 = .ok (.aload_n 0, 1) := dec_of da_X12_init_4 (k := 11) rfl
theorem dX12_init_516 : decode cX12_init 516 = .ok (.sipush 300, 3) := dec_of da_X12_init_4 (k := 12) rfl
theorem dX12_init_519 : decode cX12_init 519 = .ok (.newarray .int, 2) := dec_of da_X12_init_4 (k := 13) rfl
theorem dX12_init_521 : decode cX12_init 521 = .ok (.putfield 202, 3) := dec_of da_X12_init_4 (k := 14) rfl
theorem dX12_init_524 : decode cX12_init 524 = .ok (.aload_n 0, 1) := dec_of da_X12_init_4 (k := 15) rfl
theorem dX12_init_525 : decode cX12_init 525 = .ok (.sipush 300, 3) := dec_of da_X12_init_4 (k := 16) rfl
theorem dX12_init_528 : decode cX12_init 528 = .ok (.newarray .int, 2) := dec_of da_X12_init_4 (k := 17) rfl
theorem dX12_init_530 : decode cX12_init 530 = .ok (.putfield 205, 3) := dec_of da_X12_init_4 (k := 18) rfl
theorem dX12_init_533 : decode cX12_init 533 = .ok (.aload_n 0, 1) := dec_of da_X12_init_4 (k := 19) rfl
theorem dX12_init_534 : decode cX12_init 534 = .ok (.sipush 300, 3) := dec_of da_X12_init_4 (k := 20) rfl
theorem dX12_init_537 : decode cX12_init 537 = .ok (.newarray .boolean, 2) := dec_of da_X12_init_4 (k := 21) rfl
theorem dX12_init_539 : decode cX12_init 539 = .ok (.putfield 208, 3) := dec_of da_X12_init_4 (k := 22) rfl
theorem dX12_init_542 : decode cX12_init 542 = .ok (.aload_n 0, 1) := dec_of da_X12_init_4 (k := 23) rfl
theorem dX12_init_543 : decode cX12_init 543 = .ok (.sipush 300, 3) := dec_of da_X12_init_4 (k := 24) rfl
theorem dX12_init_546 : decode cX12_init 546 = .ok (.newarray .int, 2) := dec_of da_X12_init_4 (k := 25) rfl
theorem dX12_init_548 : decode cX12_init 548 = .ok (.putfield 211, 3) := dec_of da_X12_init_4 (k := 26) rfl
theorem dX12_init_551 : decode cX12_init 551 = .ok (.aload_n 0, 1) := dec_of da_X12_init_4 (k := 27) rfl
theorem dX12_init_552 : decode cX12_init 552 = .ok (.ldc 214, 2) := dec_of da_X12_init_4 (k := 28) rfl
theorem dX12_init_554 : decode cX12_init 554 = .ok (.newarray .int, 2) := dec_of da_X12_init_4 (k := 29) rfl
theorem dX12_init_556 : decode cX12_init 556 = .ok (.putfield 215, 3) := dec_of da_X12_init_4 (k := 30) rfl
theorem dX12_init_559 : decode cX12_init 559 = .ok (.aload_n 0, 1) := dec_of da_X12_init_4 (k := 31) rfl
theorem dX12_init_560 : decode cX12_init 560 = .ok (.bipush 40, 2) := dec_of da_X12_init_4 (k := 32) rfl
theorem dX12_init_562 : decode cX12_init 562 = .ok (.newarray .int, 2) := dec_of da_X12_init_4 (k := 33) rfl
theorem dX12_init_564 : decode cX12_init 564 = .ok (.putfield 218, 3) := dec_of da_X12_init_4 (k := 34) rfl
theorem dX12_init_567 : decode cX12_init 567 = .ok (.aload_n 0, 1) := dec_of da_X12_init_4 (k := 35) rfl
theorem dX12_init_568 : decode cX12_init 568 = .ok (.bipush 40, 2) := dec_of da_X12_init_4 (k := 36) rfl
theorem dX12_init_570 : decode cX12_init 570 = .ok (.newarray .int, 2) := dec_of da_X12_init_4 (k := 37) rfl
theorem dX12_init_572 : decode cX12_init 572 = .ok (.putfield 221, 3) := dec_of da_X12_init_4 (k := 38) rfl
theorem dX12_init_575 : decode cX12_init 575 = .ok (.aload_n 0, 1) := dec_of da_X12_init_4 (k := 39) rfl
theorem dX12_init_576 : decode cX12_init 576 = .ok (.bipush 40, 2) := dec_of da_X12_init_4 (k := 40) rfl
theorem dX12_init_578 : decode cX12_init 578 = .ok (.newarray .int, 2) := dec_of da_X12_init_4 (k := 41) rfl
theorem dX12_init_580 : decode cX12_init 580 = .ok (.putfield 224, 3) := dec_of da_X12_init_4 (k := 42) rfl
theorem dX12_init_583 : decode cX12_init 583 = .ok (.aload_n 0, 1) := dec_of da_X12_init_4 (k := 43) rfl
theorem dX12_init_584 : decode cX12_init 584 = .ok (.bipush 40, 2) := dec_of da_X12_init_4 (k := 44) rfl
theorem dX12_init_586 : decode cX12_init 586 = .ok (.newarray .int, 2) := dec_of da_X12_init_4 (k := 45) rfl
theorem dX12_init_588 : decode cX12_init 588 = .ok (.putfield 227, 3) := dec_of da_X12_init_4 (k := 46) rfl
theorem dX12_init_591 : decode cX12_init 591 = .ok (.aload_n 0, 1) := dec_of da_X12_init_4 (k := 47) rfl
theorem dX12_init_592 : decode cX12_init 592 = .ok (.bipush 40, 2) := dec_of da_X12_init_4 (k := 48) rfl
theorem dX12_init_594 : decode cX12_init 594 = .ok (.newarray .int, 2) := dec_of da_X12_init_4 (k := 49) rfl
theorem dX12_init_596 : decode cX12_init 596 = .ok (.putfield 230, 3) := dec_of da_X12_init_4 (k := 50) rfl
theorem dX12_init_599 : decode cX12_init 599 = .ok (.aload_n 0, 1) := dec_of da_X12_init_4 (k := 51) rfl
theorem dX12_init_600 : decode cX12_init 600 = .ok (.sipush 12000, 3) := dec_of da_X12_init_4 (k := 52) rfl
theorem dX12_init_603 : decode cX12_init 603 = .ok (.newarray .int, 2) := dec_of da_X12_init_4 (k := 53) rfl
theorem dX12_init_605 : decode cX12_init 605 = .ok (.putfield 233, 3) := dec_of da_X12_init_4 (k := 54) rfl
theorem dX12_init_608 : decode cX12_init 608 = .ok (.aload_n 0, 1) := dec_of da_X12_init_4 (k := 55) rfl
theorem dX12_init_609 : decode cX12_init 609 = .ok (.bipush 30, 2) := dec_of da_X12_init_4 (k := 56) rfl
theorem dX12_init_611 : decode cX12_init 611 = .ok (.newarray .int, 2) := dec_of da_X12_init_4 (k := 57) rfl
theorem dX12_init_613 : decode cX12_init 613 = .ok (.putfield 236, 3) := dec_of da_X12_init_4 (k := 58) rfl
theorem dX12_init_616 : decode cX12_init 616 = .ok (.aload_n 0, 1) := dec_of da_X12_init_4 (k := 59) rfl
def dl_X12_init_5 : List (Nat × (Instr × Nat)) := [(617, (.bipush 30, 2)), (619, (.newarray .int, 2)), (621, (.putfield 239, 3)), (624, (.aload_n 0, 1)), (625, (.bipush 20, 2)), (627, (.newarray .int, 2)), (629, (.putfield 242, 3)), (632, (.aload_n 0, 1)), (633, (.bipush 20, 2)), (635, (.newarray .int, 2)), (637, (.putfield 245, 3)), (640, (.aload_n 0, 1)), (641, (.sipush 6000, 3)), (644, (.newarray .int, 2)), (646, (.putfield 248, 3)), (649, (.aload_n 0, 1)), (650, (.bipush 14, 2)), (652, (.newarray .int, 2)), (654, (.putfield 251, 3)), (657, (.aload_n 0, 1)), (658, (.sipush 300, 3)), (661, (.newarray .int, 2)), (663, (.putfield 254, 3)), (666, (.aload_n 0, 1)), (667, (.bipush 81, 2)), (669, (.newarray .int, 2)), (671, (.putfield 257, 3)), (674, (.aload_n 0, 1)), (675, (.bipush 81, 2)), (677, (.newarray .boolean, 2)), (679, (.putfield 260, 3)), (682, (.aload_n 0, 1)), (683, (.bipush 9, 2)), (685, (.newarray .int, 2)), (687, (.putfield 263, 3)), (690, (.aload_n 0, 1)), (691, (.bipush 9, 2)), (693, (.newarray .int, 2)), (695, (.putfield 266, 3)), (698, (.aload_n 0, 1)), (699, (.sipush 300, 3)), (702, (.newarray .int, 2)), (704, (.putfield 269, 3)), (707, (.aload_n 0, 1)), (708, (.bipush 9, 2)), (710, (.newarray .int, 2)), (712, (.putfield 272, 3)), (715, (.aload_n 0, 1)), (716, (.bipush 108, 2)), (718, (.newarray .int, 2)), (720, (.putfield 275, 3)), (723, (.aload_n 0, 1)), (724, (.bipush 108, 2)), (726, (.newarray .int, 2)), (728, (.putfield 278, 3)), (731, (.aload_n 0, 1)), (732, (.sipush 21600, 3)), (735, (.newarray .int, 2)), (737, (.putfield 281, 3)), (740, (.aload_n 0, 1))]
set_option maxRecDepth 100000 in
theorem da_X12_init_5 : dl_X12_init_5.all (fun q => decide (decode cX12_init q.1 = .ok q.2)) = true := by decide +kernel
theorem dX12_init_617 : decode cX12_init 617 = .ok (.bipush 30, 2) := dec_of da_X12_init_5 (k := 0) rfl
theorem dX12_init_619 : decode cX12_init 619 = .ok (.newarray .int, 2) := dec_of da_X12_init_5 (k := 1) rfl
theorem dX12_init_621 : decode cX12_init 621 = .ok (.putfield 239, 3) := dec_of da_X12_init_5 (k := 2) rfl
theorem dX12_init_624 : decode cX12_init 624 = .ok (.aload_n 0, 1) := dec_of da_X12_init_5 (k := 3) rfl
theorem dX12_init_625 : decode cX12_init 625 = .ok (.bipush 20, 2) := dec_of da_X12_init_5 (k := 4) rfl
theorem dX12_init_627 : decode cX12_init 627 = .ok (.newarray .int, 2) := dec_of da_X12_init_5 (k := 5) rfl
theorem dX12_init_629 : decode cX12_init 629 = .ok (.putfield 242, 3) := dec_of da_X12_init_5 (k := 6) rfl
theorem dX12_init_632 : decode cX12_init 632 = .ok (.aload_n 0, 1) := dec_of da_X12_init_5 (k := 7) rfl
theorem dX12_init_633 : decode cX12_init 633 = .ok (.bipush 20, 2) := dec_of da_X12_init_5 (k := 8) rfl
theorem dX12_init_635 : decode cX12_init 635 = .ok (.newarray .int, 2) := dec_of da_X12_init_5 (k := 9) rfl
theorem dX12_init_637 : decode cX12_init 637 = .ok (.putfield 245, 3) := dec_of da_X12_init_5 (k := 10) rfl
theorem dX12_init_640 : decode cX12_init 640 = .ok (.aload_n 0, 1) := dec_of da_X12_init_5 (k := 11) rfl
theorem dX12_init_641 : decode cX12_init 641 = .ok (.sipush 6000, 3) := dec_of da_X12_init_5 (k := 12) rfl
theorem dX12_init_644 : decode cX12_init 644 = .ok (.newarray .int, 2) := dec_of da_X12_init_5 (k := 13) rfl
theorem dX12_init_646 : decode cX12_init 646 = .ok (.putfield 248, 3) := dec_of da_X12_init_5 (k := 14) rfl
theorem dX12_init_649 : decode cX12_init 649 = .ok (.aload_n 0, 1) := dec_of da_X12_init_5 (k := 15) rfl
theorem dX12_init_650 : decode cX12_init 650 = .ok (.bipush 14, 2) := dec_of da_X12_init_5 (k := 16) rfl
theorem dX12_init_652 : decode cX12_init 652 = .ok (.newarray .int, 2) := dec_of da_X12_init_5 (k := 17) rfl
theorem dX12_init_654 : decode cX12_init 654 = .ok (.putfield 251, 3) := dec_of da_X12_init_5 (k := 18) rfl
theorem dX12_init_657 : decode cX12_init 657 = .ok (.aload_n 0, 1) := dec_of da_X12_init_5 (k := 19) rfl
theorem dX12_init_658 : decode cX12_init 658 = .ok (.sipush 300, 3) := dec_of da_X12_init_5 (k := 20) rfl
theorem dX12_init_661 : decode cX12_init 661 = .ok (.newarray .int, 2) := dec_of da_X12_init_5 (k := 21) rfl
theorem dX12_init_663 : decode cX12_init 663 = .ok (.putfield 254, 3) := dec_of da_X12_init_5 (k := 22) rfl
theorem dX12_init_666 : decode cX12_init 666 = .ok (.aload_n 0, 1) := dec_of da_X12_init_5 (k := 23) rfl
theorem dX12_init_667 : decode cX12_init 667 = .ok (.bipush 81, 2) := dec_of da_X12_init_5 (k := 24) rfl
theorem dX12_init_669 : decode cX12_init 669 = .ok (.newarray .int, 2) := dec_of da_X12_init_5 (k := 25) rfl
theorem dX12_init_671 : decode cX12_init 671 = .ok (.putfield 257, 3) := dec_of da_X12_init_5 (k := 26) rfl
theorem dX12_init_674 : decode cX12_init 674 = .ok (.aload_n 0, 1) := dec_of da_X12_init_5 (k := 27) rfl
theorem dX12_init_675 : decode cX12_init 675 = .ok (.bipush 81, 2) := dec_of da_X12_init_5 (k := 28) rfl
theorem dX12_init_677 : decode cX12_init 677 = .ok (.newarray .boolean, 2) := dec_of da_X12_init_5 (k := 29) rfl
theorem dX12_init_679 : decode cX12_init 679 = .ok (.putfield 260, 3) := dec_of da_X12_init_5 (k := 30) rfl
theorem dX12_init_682 : decode cX12_init 682 = .ok (.aload_n 0, 1) := dec_of da_X12_init_5 (k := 31) rfl
theorem dX12_init_683 : decode cX12_init 683 = .ok (.bipush 9, 2) := dec_of da_X12_init_5 (k := 32) rfl
theorem dX12_init_685 : decode cX12_init 685 = .ok (.newarray .int, 2) := dec_of da_X12_init_5 (k := 33) rfl
theorem dX12_init_687 : decode cX12_init 687 = .ok (.putfield 263, 3) := dec_of da_X12_init_5 (k := 34) rfl
theorem dX12_init_690 : decode cX12_init 690 = .ok (.aload_n 0, 1) := dec_of da_X12_init_5 (k := 35) rfl
theorem dX12_init_691 : decode cX12_init 691 = .ok (.bipush 9, 2) := dec_of da_X12_init_5 (k := 36) rfl
theorem dX12_init_693 : decode cX12_init 693 = .ok (.newarray .int, 2) := dec_of da_X12_init_5 (k := 37) rfl
theorem dX12_init_695 : decode cX12_init 695 = .ok (.putfield 266, 3) := dec_of da_X12_init_5 (k := 38) rfl
theorem dX12_init_698 : decode cX12_init 698 = .ok (.aload_n 0, 1) := dec_of da_X12_init_5 (k := 39) rfl
theorem dX12_init_699 : decode cX12_init 699 = .ok (.sipush 300, 3) := dec_of da_X12_init_5 (k := 40) rfl
theorem dX12_init_702 : decode cX12_init 702 = .ok (.newarray .int, 2) := dec_of da_X12_init_5 (k := 41) rfl
theorem dX12_init_704 : decode cX12_init 704 = .ok (.putfield 269, 3) := dec_of da_X12_init_5 (k := 42) rfl
theorem dX12_init_707 : decode cX12_init 707 = .ok (.aload_n 0, 1) := dec_of da_X12_init_5 (k := 43) rfl
theorem dX12_init_708 : decode cX12_init 708 = .ok (.bipush 9, 2) := dec_of da_X12_init_5 (k := 44) rfl
theorem dX12_init_710 : decode cX12_init 710 = .ok (.newarray .int, 2) := dec_of da_X12_init_5 (k := 45) rfl
theorem dX12_init_712 : decode cX12_init 712 = .ok (.putfield 272, 3) := dec_of da_X12_init_5 (k := 46) rfl
theorem dX12_init_715 : decode cX12_init 715 = .ok (.aload_n 0, 1) := dec_of da_X12_init_5 (k := 47) rfl
theorem dX12_init_716 : decode cX12_init 716 = .ok (.bipush 108, 2) := dec_of da_X12_init_5 (k := 48) rfl
theorem dX12_init_718 : decode cX12_init 718 = .ok (.newarray .int, 2) := dec_of da_X12_init_5 (k := 49) rfl
theorem dX12_init_720 : decode cX12_init 720 = .ok (.putfield 275, 3) := dec_of da_X12_init_5 (k := 50) rfl
theorem dX12_init_723 : decode cX12_init 723 = .ok (.aload_n 0, 1) := dec_of da_X12_init_5 (k := 51) rfl
theorem dX12_init_724 : decode cX12_init 724 = .ok (.bipush 108, 2) := dec_of da_X12_init_5 (k := 52) rfl
theorem dX12_init_726 : decode cX12_init 726 = .ok (.newarray .int, 2) := dec_of da_X12_init_5 (k := 53) rfl
theorem dX12_init_728 : decode cX12_init 728 = .ok (.putfield 278, 3) := dec_of da_X12_init_5 (k := 54) rfl
theorem dX12_init_731 : decode cX12_init 731 = .ok (.aload_n 0, 1) := dec_of da_X12_init_5 (k := 55) rfl
theorem dX12_init_732 : decode cX12_init 732 = .ok (.sipush 21600, 3) := dec_of da_X12_init_5 (k := 56) rfl
theorem dX12_init_735 : decode cX12_init 735 = .ok (.newarray .int, 2) := dec_of da_X12_init_5 (k := 57) rfl
theorem dX12_init_737 : decode cX12_init 737 = .ok (.putfield 281, 3) := dec_of da_X12_init_5 (k := 58) rfl
theorem dX12_init_740 : decode cX12_init 740 = .ok (.aload_n 0, 1) := dec_of da_X12_init_5 (k := 59) rfl
def dl_X12_init_6 : List (Nat × (Instr × Nat)) := [(741, (.invokevirtual 284, 3)), (744, (.iconst 0, 1)), (745, (.istore_n 1, 1)), (746, (.iload_n 1, 1)), (747, (.bipush 9, 2)), (749, (.if_icmp .ge 38, 3)), (752, (.aload_n 0, 1)), (753, (.getfield 61, 3)), (756, (.iload_n 1, 1)), (757, (.iconst 1, 1)), (758, (.iastore, 1)), (759, (.aload_n 0, 1)), (760, (.getfield 64, 3)), (763, (.iload_n 1, 1)), (764, (.iconst 1, 1)), (765, (.iastore, 1)), (766, (.aload_n 0, 1)), (767, (.getfield 156, 3)), (770, (.iload_n 1, 1)), (771, (.bipush 7, 2)), (773, (.iastore, 1)), (774, (.aload_n 0, 1)), (775, (.getfield 181, 3)), (778, (.iload_n 1, 1)), (779, (.iconst (-1), 1)), (780, (.iastore, 1)), (781, (.iinc 1 1, 3)), (784, (.goto (-38), 3)), (787, (.return_, 1))]
set_option maxRecDepth 100000 in
theorem da_X12_init_6 : dl_X12_init_6.all (fun q => decide (decode cX12_init q.1 = .ok q.2)) = true := by decide +kernel
theorem dX12_init_741 : decode cX12_init 741 = .ok (.invokevirtual 284, 3) := dec_of da_X12_init_6 (k := 0) rfl
theorem dX12_init_744 : decode cX12_init 744 = .ok (.iconst 0, 1) := dec_of da_X12_init_6 (k := 1) rfl
theorem dX12_init_745 : decode cX12_init 745 = .ok (.istore_n 1, 1) := dec_of da_X12_init_6 (k := 2) rfl
theorem dX12_init_746 : decode cX12_init 746 = .ok (.iload_n 1, 1) := dec_of da_X12_init_6 (k := 3) rfl
theorem dX12_init_747 : decode cX12_init 747 = .ok (.bipush 9, 2) := dec_of da_X12_init_6 (k := 4) rfl
theorem dX12_init_749 : decode cX12_init 749 = .ok (.if_icmp .ge 38, 3) := dec_of da_X12_init_6 (k := 5) rfl
theorem dX12_init_752 : decode cX12_init 752 = .ok (.aload_n 0, 1) := dec_of da_X12_init_6 (k := 6) rfl
theorem dX12_init_753 : decode cX12_init 753 = .ok (.getfield 61, 3) := dec_of da_X12_init_6 (k := 7) rfl
theorem dX12_init_756 : decode cX12_init 756 = .ok (.iload_n 1, 1) := dec_of da_X12_init_6 (k := 8) rfl
theorem dX12_init_757 : decode cX12_init 757 = .ok (.iconst 1, 1) := dec_of da_X12_init_6 (k := 9) rfl
theorem dX12_init_758 : decode cX12_init 758 = .ok (.iastore, 1) := dec_of da_X12_init_6 (k := 10) rfl
theorem dX12_init_759 : decode cX12_init 759 = .ok (.aload_n 0, 1) := dec_of da_X12_init_6 (k := 11) rfl
theorem dX12_init_760 : decode cX12_init 760 = .ok (.getfield 64, 3) := dec_of da_X12_init_6 (k := 12) rfl
theorem dX12_init_763 : decode cX12_init 763 = .ok (.iload_n 1, 1) := dec_of da_X12_init_6 (k := 13) rfl
theorem dX12_init_764 : decode cX12_init 764 = .ok (.iconst 1, 1) := dec_of da_X12_init_6 (k := 14) rfl
theorem dX12_init_765 : decode cX12_init 765 = .ok (.iastore, 1) := dec_of da_X12_init_6 (k := 15) rfl
theorem dX12_init_766 : decode cX12_init 766 = .ok (.aload_n 0, 1) := dec_of da_X12_init_6 (k := 16) rfl
theorem dX12_init_767 : decode cX12_init 767 = .ok (.getfield 156, 3) := dec_of da_X12_init_6 (k := 17) rfl
theorem dX12_init_770 : decode cX12_init 770 = .ok (.iload_n 1, 1) := dec_of da_X12_init_6 (k := 18) rfl
theorem dX12_init_771 : decode cX12_init 771 = .ok (.bipush 7, 2) := dec_of da_X12_init_6 (k := 19) rfl
theorem dX12_init_773 : decode cX12_init 773 = .ok (.iastore, 1) := dec_of da_X12_init_6 (k := 20) rfl
theorem dX12_init_774 : decode cX12_init 774 = .ok (.aload_n 0, 1) := dec_of da_X12_init_6 (k := 21) rfl
theorem dX12_init_775 : decode cX12_init 775 = .ok (.getfield 181, 3) := dec_of da_X12_init_6 (k := 22) rfl
theorem dX12_init_778 : decode cX12_init 778 = .ok (.iload_n 1, 1) := dec_of da_X12_init_6 (k := 23) rfl
theorem dX12_init_779 : decode cX12_init 779 = .ok (.iconst (-1), 1) := dec_of da_X12_init_6 (k := 24) rfl
theorem dX12_init_780 : decode cX12_init 780 = .ok (.iastore, 1) := dec_of da_X12_init_6 (k := 25) rfl
theorem dX12_init_781 : decode cX12_init 781 = .ok (.iinc 1 1, 3) := dec_of da_X12_init_6 (k := 26) rfl
theorem dX12_init_784 : decode cX12_init 784 = .ok (.goto (-38), 3) := dec_of da_X12_init_6 (k := 27) rfl
theorem dX12_init_787 : decode cX12_init 787 = .ok (.return_, 1) := dec_of da_X12_init_6 (k := 28) rfl
def dl_X12_in_0 : List (Nat × (Instr × Nat)) := [(0, (.lload_n 0, 1)), (1, (.lload_n 2, 1)), (2, (.lcmp, 1)), (3, (.ifCond .lt 14, 3)), (6, (.lload_n 0, 1)), (7, (.lload 4, 2)), (9, (.lcmp, 1)), (10, (.ifCond .gt 7, 3)), (13, (.iconst 1, 1)), (14, (.goto 4, 3)), (17, (.iconst 0, 1)), (18, (.ireturn, 1))]
set_option maxRecDepth 100000 in
theorem da_X12_in_0 : dl_X12_in_0.all (fun q => decide (decode cX12_in q.1 = .ok q.2)) = true := by decide +kernel
theorem dX12_in_0 : decode cX12_in 0 = .ok (.lload_n 0, 1) := dec_of da_X12_in_0 (k := 0) rfl
theorem dX12_in_1 : decode cX12_in 1 = .ok (.lload_n 2, 1) := dec_of da_X12_in_0 (k := 1) rfl
theorem dX12_in_2 : decode cX12_in 2 = .ok (.lcmp, 1) := dec_of da_X12_in_0 (k := 2) rfl
theorem dX12_in_3 : decode cX12_in 3 = .ok (.ifCond .lt 14, 3) := dec_of da_X12_in_0 (k := 3) rfl
theorem dX12_in_6 : decode cX12_in 6 = .ok (.lload_n 0, 1) := dec_of da_X12_in_0 (k := 4) rfl
theorem dX12_in_7 : decode cX12_in 7 = .ok (.lload 4, 2) := dec_of da_X12_in_0 (k := 5) rfl
theorem dX12_in_9 : decode cX12_in 9 = .ok (.lcmp, 1) := dec_of da_X12_in_0 (k := 6) rfl
theorem dX12_in_10 : decode cX12_in 10 = .ok (.ifCond .gt 7, 3) := dec_of da_X12_in_0 (k := 7) rfl
theorem dX12_in_13 : decode cX12_in 13 = .ok (.iconst 1, 1) := dec_of da_X12_in_0 (k := 8) rfl
theorem dX12_in_14 : decode cX12_in 14 = .ok (.goto 4, 3) := dec_of da_X12_in_0 (k := 9) rfl
theorem dX12_in_17 : decode cX12_in 17 = .ok (.iconst 0, 1) := dec_of da_X12_in_0 (k := 10) rfl
theorem dX12_in_18 : decode cX12_in 18 = .ok (.ireturn, 1) := dec_of da_X12_in_0 (k := 11) rfl
def dl_X12_hashBegin_0 : List (Nat × (Instr × Nat)) := [(0, (.aload_n 0, 1)), (1, (.getfield 7, 3)), (4, (.iconst 0, 1)), (5, (.ldc_w 290, 3)), (8, (.iastore, 1)), (9, (.aload_n 0, 1)), (10, (.getfield 7, 3)), (13, (.iconst 1, 1)), (14, (.ldc_w 291, 3)), (17, (.iastore, 1)), (18, (.aload_n 0, 1)), (19, (.getfield 7, 3)), (22, (.iconst 2, 1)), (23, (.ldc_w 292, 3)), (26, (.iastore, 1)), (27, (.aload_n 0, 1)), (28, (.getfield 7, 3)), (31, (.iconst 3, 1)), (32, (.ldc_w 293, 3)), (35, (.iastore, 1)), (36, (.aload_n 0, 1)), (37, (.getfield 7, 3)), (40, (.iconst 4, 1)), (41, (.ldc_w 294, 3)), (44, (.iastore, 1)), (45, (.aload_n 0, 1)), (46, (.iconst 0, 1)), (47, (.putfield 295, 3)), (50, (.aload_n 0, 1)), (51, (.lconst 0, 1)), (52, (.putfield 298, 3)), (55, (.return_, 1))]
set_option maxRecDepth 100000 in
theorem da_X12_hashBegin_0 : dl_X12_hashBegin_0.all (fun q => decide (decode cX12_hashBegin q.1 = .ok q.2)) = true := by decide +kernel
theorem dX12_hashBegin_0 : decode cX12_hashBegin 0 = .ok (.aload_n 0, 1) := dec_of da_X12_hashBegin_0 (k := 0) rfl
theorem dX12_hashBegin_1 : decode cX12_hashBegin 1 = .ok (.getfield 7, 3) := dec_of da_X12_hashBegin_0 (k := 1) rfl
theorem dX12_hashBegin_4 : decode cX12_hashBegin 4 = .ok (.iconst 0, 1) := dec_of da_X12_hashBegin_0 (k := 2) rfl
theorem dX12_hashBegin_5 : decode cX12_hashBegin 5 = .ok (.ldc_w 290, 3) := dec_of da_X12_hashBegin_0 (k := 3) rfl
theorem dX12_hashBegin_8 : decode cX12_hashBegin 8 = .ok (.iastore, 1) := dec_of da_X12_hashBegin_0 (k := 4) rfl
theorem dX12_hashBegin_9 : decode cX12_hashBegin 9 = .ok (.aload_n 0, 1) := dec_of da_X12_hashBegin_0 (k := 5) rfl
theorem dX12_hashBegin_10 : decode cX12_hashBegin 10 = .ok (.getfield 7, 3) := dec_of da_X12_hashBegin_0 (k := 6) rfl
theorem dX12_hashBegin_13 : decode cX12_hashBegin 13 = .ok (.iconst 1, 1) := dec_of da_X12_hashBegin_0 (k := 7) rfl
theorem dX12_hashBegin_14 : decode cX12_hashBegin 14 = .ok (.ldc_w 291, 3) := dec_of da_X12_hashBegin_0 (k := 8) rfl
theorem dX12_hashBegin_17 : decode cX12_hashBegin 17 = .ok (.iastore, 1) := dec_of da_X12_hashBegin_0 (k := 9) rfl
theorem dX12_hashBegin_18 : decode cX12_hashBegin 18 = .ok (.aload_n 0, 1) := dec_of da_X12_hashBegin_0 (k := 10) rfl
theorem dX12_hashBegin_19 : decode cX12_hashBegin 19 = .ok (.getfield 7, 3) := dec_of da_X12_hashBegin_0 (k := 11) rfl
theorem dX12_hashBegin_22 : decode cX12_hashBegin 22 = .ok (.iconst 2, 1) := dec_of da_X12_hashBegin_0 (k := 12) rfl
theorem dX12_hashBegin_23 : decode cX12_hashBegin 23 = .ok (.ldc_w 292, 3) := dec_of da_X12_hashBegin_0 (k := 13) rfl
theorem dX12_hashBegin_26 : decode cX12_hashBegin 26 = .ok (.iastore, 1) := dec_of da_X12_hashBegin_0 (k := 14) rfl
theorem dX12_hashBegin_27 : decode cX12_hashBegin 27 = .ok (.aload_n 0, 1) := dec_of da_X12_hashBegin_0 (k := 15) rfl
theorem dX12_hashBegin_28 : decode cX12_hashBegin 28 = .ok (.getfield 7, 3) := dec_of da_X12_hashBegin_0 (k := 16) rfl
theorem dX12_hashBegin_31 : decode cX12_hashBegin 31 = .ok (.iconst 3, 1) := dec_of da_X12_hashBegin_0 (k := 17) rfl
theorem dX12_hashBegin_32 : decode cX12_hashBegin 32 = .ok (.ldc_w 293, 3) := dec_of da_X12_hashBegin_0 (k := 18) rfl
theorem dX12_hashBegin_35 : decode cX12_hashBegin 35 = .ok (.iastore, 1) := dec_of da_X12_hashBegin_0 (k := 19) rfl
theorem dX12_hashBegin_36 : decode cX12_hashBegin 36 = .ok (.aload_n 0, 1) := dec_of da_X12_hashBegin_0 (k := 20) rfl
theorem dX12_hashBegin_37 : decode cX12_hashBegin 37 = .ok (.getfield 7, 3) := dec_of da_X12_hashBegin_0 (k := 21) rfl
theorem dX12_hashBegin_40 : decode cX12_hashBegin 40 = .ok (.iconst 4, 1) := dec_of da_X12_hashBegin_0 (k := 22) rfl
theorem dX12_hashBegin_41 : decode cX12_hashBegin 41 = .ok (.ldc_w 294, 3) := dec_of da_X12_hashBegin_0 (k := 23) rfl
theorem dX12_hashBegin_44 : decode cX12_hashBegin 44 = .ok (.iastore, 1) := dec_of da_X12_hashBegin_0 (k := 24) rfl
theorem dX12_hashBegin_45 : decode cX12_hashBegin 45 = .ok (.aload_n 0, 1) := dec_of da_X12_hashBegin_0 (k := 25) rfl
theorem dX12_hashBegin_46 : decode cX12_hashBegin 46 = .ok (.iconst 0, 1) := dec_of da_X12_hashBegin_0 (k := 26) rfl
theorem dX12_hashBegin_47 : decode cX12_hashBegin 47 = .ok (.putfield 295, 3) := dec_of da_X12_hashBegin_0 (k := 27) rfl
theorem dX12_hashBegin_50 : decode cX12_hashBegin 50 = .ok (.aload_n 0, 1) := dec_of da_X12_hashBegin_0 (k := 28) rfl
theorem dX12_hashBegin_51 : decode cX12_hashBegin 51 = .ok (.lconst 0, 1) := dec_of da_X12_hashBegin_0 (k := 29) rfl
theorem dX12_hashBegin_52 : decode cX12_hashBegin 52 = .ok (.putfield 298, 3) := dec_of da_X12_hashBegin_0 (k := 30) rfl
theorem dX12_hashBegin_55 : decode cX12_hashBegin 55 = .ok (.return_, 1) := dec_of da_X12_hashBegin_0 (k := 31) rfl
def dl_X12_left_0 : List (Nat × (Instr × Nat)) := [(0, (.iload_n 0, 1)), (1, (.iload_n 1, 1)), (2, (.ishl, 1)), (3, (.iload_n 0, 1)), (4, (.bipush 32, 2)), (6, (.iload_n 1, 1)), (7, (.isub, 1)), (8, (.iushr, 1)), (9, (.ior, 1)), (10, (.ireturn, 1))]
set_option maxRecDepth 100000 in
theorem da_X12_left_0 : dl_X12_left_0.all (fun q => decide (decode cX12_left q.1 = .ok q.2)) = true := by decide +kernel
theorem dX12_left_0 : decode cX12_left 0 = .ok (.iload_n 0, 1) := dec_of da_X12_left_0 (k := 0) rfl
theorem dX12_left_1 : decode cX12_left 1 = .ok (.iload_n 1, 1) := dec_of da_X12_left_0 (k := 1) rfl
theorem dX12_left_2 : decode cX12_left 2 = .ok (.ishl, 1) := dec_of da_X12_left_0 (k := 2) rfl
theorem dX12_left_3 : decode cX12_left 3 = .ok (.iload_n 0, 1) := dec_of da_X12_left_0 (k := 3) rfl
theorem dX12_left_4 : decode cX12_left 4 = .ok (.bipush 32, 2) := dec_of da_X12_left_0 (k := 4) rfl
theorem dX12_left_6 : decode cX12_left 6 = .ok (.iload_n 1, 1) := dec_of da_X12_left_0 (k := 5) rfl
theorem dX12_left_7 : decode cX12_left 7 = .ok (.isub, 1) := dec_of da_X12_left_0 (k := 6) rfl
theorem dX12_left_8 : decode cX12_left 8 = .ok (.iushr, 1) := dec_of da_X12_left_0 (k := 7) rfl
theorem dX12_left_9 : decode cX12_left 9 = .ok (.ior, 1) := dec_of da_X12_left_0 (k := 8) rfl
theorem dX12_left_10 : decode cX12_left 10 = .ok (.ireturn, 1) := dec_of da_X12_left_0 (k := 9) rfl
def dl_X12_hash_0 : List (Nat × (Instr × Nat)) := [(0, (.aload_n 0, 1)), (1, (.getfield 16, 3)), (4, (.aload_n 0, 1)), (5, (.getfield 295, 3)), (8, (.iload_n 1, 1)), (9, (.sipush 255, 3)), (12, (.iand, 1)), (13, (.iastore, 1)), (14, (.aload_n 0, 1)), (15, (.dup, 1)), (16, (.getfield 295, 3)), (19, (.iconst 1, 1)), (20, (.iadd, 1)), (21, (.putfield 295, 3)), (24, (.aload_n 0, 1)), (25, (.dup, 1)), (26, (.getfield 298, 3)), (29, (.lconst 1, 1)), (30, (.ladd, 1)), (31, (.putfield 298, 3)), (34, (.aload_n 0, 1)), (35, (.getfield 295, 3)), (38, (.bipush 64, 2)), (40, (.if_icmp .ge 4, 3)), (43, (.return_, 1)), (44, (.aload_n 0, 1)), (45, (.iconst 0, 1)), (46, (.putfield 295, 3)), (49, (.iconst 0, 1)), (50, (.istore_n 2, 1)), (51, (.iload_n 2, 1)), (52, (.bipush 16, 2)), (54, (.if_icmp .ge 65, 3)), (57, (.aload_n 0, 1)), (58, (.getfield 13, 3)), (61, (.iload_n 2, 1)), (62, (.aload_n 0, 1)), (63, (.getfield 16, 3)), (66, (.iconst 4, 1)), (67, (.iload_n 2, 1)), (68, (.imul, 1)), (69, (.iaload, 1)), (70, (.bipush 24, 2)), (72, (.ishl, 1)), (73, (.aload_n 0, 1)), (74, (.getfield 16, 3)), (77, (.iconst 4, 1)), (78, (.iload_n 2, 1)), (79, (.imul, 1)), (80, (.iconst 1, 1)), (81, (.iadd, 1)), (82, (.iaload, 1)), (83, (.bipush 16, 2)), (85, (.ishl, 1)), (86, (.ior, 1)), (87, (.aload_n 0, 1)), (88, (.getfield 16, 3)), (91, (.iconst 4, 1)), (92, (.iload_n 2, 1)), (93, (.imul, 1))]
set_option maxRecDepth 100000 in
theorem da_X12_hash_0 : dl_X12_hash_0.all (fun q => decide (decode cX12_hash q.1 = .ok q.2)) = true := by decide +kernel
theorem dX12_hash_0 : decode cX12_hash 0 = .ok (.aload_n 0, 1) := dec_of da_X12_hash_0 (k := 0) rfl
theorem dX12_hash_1 : decode cX12_hash 1 = .ok (.getfield 16, 3) := dec_of da_X12_hash_0 (k := 1) rfl
theorem dX12_hash_4 : decode cX12_hash 4 = .ok (.aload_n 0, 1) := dec_of da_X12_hash_0 (k := 2) rfl
theorem dX12_hash_5 : decode cX12_hash 5 = .ok (.getfield 295, 3) := dec_of da_X12_hash_0 (k := 3) rfl
theorem dX12_hash_8 : decode cX12_hash 8 = .ok (.iload_n 1, 1) := dec_of da_X12_hash_0 (k := 4) rfl
theorem dX12_hash_9 : decode cX12_hash 9 = .ok (.sipush 255, 3) := dec_of da_X12_hash_0 (k := 5) rfl
theorem dX12_hash_12 : decode cX12_hash 12 = .ok (.iand, 1) := dec_of da_X12_hash_0 (k := 6) rfl
theorem dX12_hash_13 : decode cX12_hash 13 = .ok (.iastore, 1) := dec_of da_X12_hash_0 (k := 7) rfl
theorem dX12_hash_14 : decode cX12_hash 14 = .ok (.aload_n 0, 1) := dec_of da_X12_hash_0 (k := 8) rfl
theorem dX12_hash_15 : decode cX12_hash 15 = .ok (.dup, 1) := dec_of da_X12_hash_0 (k := 9) rfl
theorem dX12_hash_16 : decode cX12_hash 16 = .ok (.getfield 295, 3) := dec_of da_X12_hash_0 (k := 10) rfl
theorem dX12_hash_19 : decode cX12_hash 19 = .ok (.iconst 1, 1) := dec_of da_X12_hash_0 (k := 11) rfl
theorem dX12_hash_20 : decode cX12_hash 20 = .ok (.iadd, 1) := dec_of da_X12_hash_0 (k := 12) rfl
theorem dX12_hash_21 : decode cX12_hash 21 = .ok (.putfield 295, 3) := dec_of da_X12_hash_0 (k := 13) rfl
theorem dX12_hash_24 : decode cX12_hash 24 = .ok (.aload_n 0, 1) := dec_of da_X12_hash_0 (k := 14) rfl
theorem dX12_hash_25 : decode cX12_hash 25 = .ok (.dup, 1) := dec_of da_X12_hash_0 (k := 15) rfl
theorem dX12_hash_26 : decode cX12_hash 26 = .ok (.getfield 298, 3) := dec_of da_X12_hash_0 (k := 16) rfl
theorem dX12_hash_29 : decode cX12_hash 29 = .ok (.lconst 1, 1) := dec_of da_X12_hash_0 (k := 17) rfl
theorem dX12_hash_30 : decode cX12_hash 30 = .ok (.ladd, 1) := dec_of da_X12_hash_0 (k := 18) rfl
theorem dX12_hash_31 : decode cX12_hash 31 = .ok (.putfield 298, 3) := dec_of da_X12_hash_0 (k := 19) rfl
theorem dX12_hash_34 : decode cX12_hash 34 = .ok (.aload_n 0, 1) := dec_of da_X12_hash_0 (k := 20) rfl
theorem dX12_hash_35 : decode cX12_hash 35 = .ok (.getfield 295, 3) := dec_of da_X12_hash_0 (k := 21) rfl
theorem dX12_hash_38 : decode cX12_hash 38 = .ok (.bipush 64, 2) := dec_of da_X12_hash_0 (k := 22) rfl
theorem dX12_hash_40 : decode cX12_hash 40 = .ok (.if_icmp .ge 4, 3) := dec_of da_X12_hash_0 (k := 23) rfl
theorem dX12_hash_43 : decode cX12_hash 43 = .ok (.return_, 1) := dec_of da_X12_hash_0 (k := 24) rfl
theorem dX12_hash_44 : decode cX12_hash 44 = .ok (.aload_n 0, 1) := dec_of da_X12_hash_0 (k := 25) rfl
theorem dX12_hash_45 : decode cX12_hash 45 = .ok (.iconst 0, 1) := dec_of da_X12_hash_0 (k := 26) rfl
theorem dX12_hash_46 : decode cX12_hash 46 = .ok (.putfield 295, 3) := dec_of da_X12_hash_0 (k := 27) rfl
theorem dX12_hash_49 : decode cX12_hash 49 = .ok (.iconst 0, 1) := dec_of da_X12_hash_0 (k := 28) rfl
theorem dX12_hash_50 : decode cX12_hash 50 = .ok (.istore_n 2, 1) := dec_of da_X12_hash_0 (k := 29) rfl
theorem dX12_hash_51 : decode cX12_hash 51 = .ok (.iload_n 2, 1) := dec_of da_X12_hash_0 (k := 30) rfl
theorem dX12_hash_52 : decode cX12_hash 52 = .ok (.bipush 16, 2) := dec_of da_X12_hash_0 (k := 31) rfl
theorem dX12_hash_54 : decode cX12_hash 54 = .ok (.if_icmp .ge 65, 3) := dec_of da_X12_hash_0 (k := 32) rfl
theorem dX12_hash_57 : decode cX12_hash 57 = .ok (.aload_n 0, 1) := dec_of da_X12_hash_0 (k := 33) rfl
theorem dX12_hash_58 : decode cX12_hash 58 = .ok (.getfield 13, 3) := dec_of da_X12_hash_0 (k := 34) rfl
theorem dX12_hash_61 : decode cX12_hash 61 = .ok (.iload_n 2, 1) := dec_of da_X12_hash_0 (k := 35) rfl
theorem dX12_hash_62 : decode cX12_hash 62 = .ok (.aload_n 0, 1) := dec_of da_X12_hash_0 (k := 36) rfl
theorem dX12_hash_63 : decode cX12_hash 63 = .ok (.getfield 16, 3) := dec_of da_X12_hash_0 (k := 37) rfl
theorem dX12_hash_66 : decode cX12_hash 66 = .ok (.iconst 4, 1) := dec_of da_X12_hash_0 (k := 38) rfl
theorem dX12_hash_67 : decode cX12_hash 67 = .ok (.iload_n 2, 1) := dec_of da_X12_hash_0 (k := 39) rfl
theorem dX12_hash_68 : decode cX12_hash 68 = .ok (.imul, 1) := dec_of da_X12_hash_0 (k := 40) rfl
theorem dX12_hash_69 : decode cX12_hash 69 = .ok (.iaload, 1) := dec_of da_X12_hash_0 (k := 41) rfl
theorem dX12_hash_70 : decode cX12_hash 70 = .ok (.bipush 24, 2) := dec_of da_X12_hash_0 (k := 42) rfl
theorem dX12_hash_72 : decode cX12_hash 72 = .ok (.ishl, 1) := dec_of da_X12_hash_0 (k := 43) rfl
theorem dX12_hash_73 : decode cX12_hash 73 = .ok (.aload_n 0, 1) := dec_of da_X12_hash_0 (k := 44) rfl
theorem dX12_hash_74 : decode cX12_hash 74 = .ok (.getfield 16, 3) := dec_of da_X12_hash_0 (k := 45) rfl
theorem dX12_hash_77 : decode cX12_hash 77 = .ok (.iconst 4, 1) := dec_of da_X12_hash_0 (k := 46) rfl
theorem dX12_hash_78 : decode cX12_hash 78 = .ok (.iload_n 2, 1) := dec_of da_X12_hash_0 (k := 47) rfl
theorem dX12_hash_79 : decode cX12_hash 79 = .ok (.imul, 1) := dec_of da_X12_hash_0 (k := 48) rfl
theorem dX12_hash_80 : decode cX12_hash 80 = .ok (.iconst 1, 1) := dec_of da_X12_hash_0 (k := 49) rfl
theorem dX12_hash_81 : decode cX12_hash 81 = .ok (.iadd, 1) := dec_of da_X12_hash_0 (k := 50) rfl
theorem dX12_hash_82 : decode cX12_hash 82 = .ok (.iaload, 1) := dec_of da_X12_hash_0 (k := 51) rfl
theorem dX12_hash_83 : decode cX12_hash 83 = .ok (.bipush 16, 2) := dec_of da_X12_hash_0 (k := 52) rfl
theorem dX12_hash_85 : decode cX12_hash 85 = .ok (.ishl, 1) := dec_of da_X12_hash_0 (k := 53) rfl
theorem dX12_hash_86 : decode cX12_hash 86 = .ok (.ior, 1) := dec_of da_X12_hash_0 (k := 54) rfl
theorem dX12_hash_87 : decode cX12_hash 87 = .ok (.aload_n 0, 1) := dec_of da_X12_hash_0 (k := 55) rfl
theorem dX12_hash_88 : decode cX12_hash 88 = .ok (.getfield 16, 3) := dec_of da_X12_hash_0 (k := 56) rfl
theorem dX12_hash_91 : decode cX12_hash 91 = .ok (.iconst 4, 1) := dec_of da_X12_hash_0 (k := 57) rfl
theorem dX12_hash_92 : decode cX12_hash 92 = .ok (.iload_n 2, 1) := dec_of da_X12_hash_0 (k := 58) rfl
theorem dX12_hash_93 : decode cX12_hash 93 = .ok (.imul, 1) := dec_of da_X12_hash_0 (k := 59) rfl
def dl_X12_hash_1 : List (Nat × (Instr × Nat)) := [(94, (.iconst 2, 1)), (95, (.iadd, 1)), (96, (.iaload, 1)), (97, (.bipush 8, 2)), (99, (.ishl, 1)), (100, (.ior, 1)), (101, (.aload_n 0, 1)), (102, (.getfield 16, 3)), (105, (.iconst 4, 1)), (106, (.iload_n 2, 1)), (107, (.imul, 1)), (108, (.iconst 3, 1)), (109, (.iadd, 1)), (110, (.iaload, 1)), (111, (.ior, 1)), (112, (.iastore, 1)), (113, (.iinc 2 1, 3)), (116, (.goto (-65), 3)), (119, (.bipush 16, 2)), (121, (.istore_n 2, 1)), (122, (.iload_n 2, 1)), (123, (.bipush 80, 2)), (125, (.if_icmp .ge 57, 3)), (128, (.aload_n 0, 1)), (129, (.getfield 13, 3)), (132, (.iload_n 2, 1)), (133, (.aload_n 0, 1)), (134, (.getfield 13, 3)), (137, (.iload_n 2, 1)), (138, (.iconst 3, 1)), (139, (.isub, 1)), (140, (.iaload, 1)), (141, (.aload_n 0, 1)), (142, (.getfield 13, 3)), (145, (.iload_n 2, 1)), (146, (.bipush 8, 2)), (148, (.isub, 1)), (149, (.iaload, 1)), (150, (.ixor, 1)), (151, (.aload_n 0, 1)), (152, (.getfield 13, 3)), (155, (.iload_n 2, 1)), (156, (.bipush 14, 2)), (158, (.isub, 1)), (159, (.iaload, 1)), (160, (.ixor, 1)), (161, (.aload_n 0, 1)), (162, (.getfield 13, 3)), (165, (.iload_n 2, 1)), (166, (.bipush 16, 2)), (168, (.isub, 1)), (169, (.iaload, 1)), (170, (.ixor, 1)), (171, (.iconst 1, 1)), (172, (.invokestatic 302, 3)), (175, (.iastore, 1)), (176, (.iinc 2 1, 3)), (179, (.goto (-57), 3)), (182, (.aload_n 0, 1)), (183, (.getfield 7, 3))]
set_option maxRecDepth 100000 in
theorem da_X12_hash_1 : dl_X12_hash_1.all (fun q => decide (decode cX12_hash q.1 = .ok q.2)) = true := by decide +kernel
theorem dX12_hash_94 : decode cX12_hash 94 = .ok (.iconst 2, 1) := dec_of da_X12_hash_1 (k := 0) rfl
theorem dX12_hash_95 : decode cX12_hash 95 = .ok (.iadd, 1) := dec_of da_X12_hash_1 (k := 1) rfl
theorem dX12_hash_96 : decode cX12_hash 96 = .ok (.iaload, 1) := dec_of da_X12_hash_1 (k := 2) rfl
theorem dX12_hash_97 : decode cX12_hash 97 = .ok (.bipush 8, 2) := dec_of da_X12_hash_1 (k := 3) rfl
theorem dX12_hash_99 : decode cX12_hash 99 = .ok (.ishl, 1) := dec_of da_X12_hash_1 (k := 4) rfl
theorem dX12_hash_100 : decode cX12_hash 100 = .ok (.ior, 1) := dec_of da_X12_hash_1 (k := 5) rfl
theorem dX12_hash_101 : decode cX12_hash 101 = .ok (.aload_n 0, 1) := dec_of da_X12_hash_1 (k := 6) rfl
theorem dX12_hash_102 : decode cX12_hash 102 = .ok (.getfield 16, 3) := dec_of da_X12_hash_1 (k := 7) rfl
theorem dX12_hash_105 : decode cX12_hash 105 = .ok (.iconst 4, 1) := dec_of da_X12_hash_1 (k := 8) rfl
theorem dX12_hash_106 : decode cX12_hash 106 = .ok (.iload_n 2, 1) := dec_of da_X12_hash_1 (k := 9) rfl
theorem dX12_hash_107 : decode cX12_hash 107 = .ok (.imul, 1) := dec_of da_X12_hash_1 (k := 10) rfl
theorem dX12_hash_108 : decode cX12_hash 108 = .ok (.iconst 3, 1) := dec_of da_X12_hash_1 (k := 11) rfl
theorem dX12_hash_109 : decode cX12_hash 109 = .ok (.iadd, 1) := dec_of da_X12_hash_1 (k := 12) rfl
theorem dX12_hash_110 : decode cX12_hash 110 = .ok (.iaload, 1) := dec_of da_X12_hash_1 (k := 13) rfl
theorem dX12_hash_111 : decode cX12_hash 111 = .ok (.ior, 1) := dec_of da_X12_hash_1 (k := 14) rfl
theorem dX12_hash_112 : decode cX12_hash 112 = .ok (.iastore, 1) := dec_of da_X12_hash_1 (k := 15) rfl
theorem dX12_hash_113 : decode cX12_hash 113 = .ok (.iinc 2 1, 3) := dec_of da_X12_hash_1 (k := 16) rfl
theorem dX12_hash_116 : decode cX12_hash 116 = .ok (.goto (-65), 3) := dec_of da_X12_hash_1 (k := 17) rfl
theorem dX12_hash_119 : decode cX12_hash 119 = .ok (.bipush 16, 2) := dec_of da_X12_hash_1 (k := 18) rfl
theorem dX12_hash_121 : decode cX12_hash 121 = .ok (.istore_n 2, 1) := dec_of da_X12_hash_1 (k := 19) rfl
theorem dX12_hash_122 : decode cX12_hash 122 = .ok (.iload_n 2, 1) := dec_of da_X12_hash_1 (k := 20) rfl
theorem dX12_hash_123 : decode cX12_hash 123 = .ok (.bipush 80, 2) := dec_of da_X12_hash_1 (k := 21) rfl
theorem dX12_hash_125 : decode cX12_hash 125 = .ok (.if_icmp .ge 57, 3) := dec_of da_X12_hash_1 (k := 22) rfl
theorem dX12_hash_128 : decode cX12_hash 128 = .ok (.aload_n 0, 1) := dec_of da_X12_hash_1 (k := 23) rfl
theorem dX12_hash_129 : decode cX12_hash 129 = .ok (.getfield 13, 3) := dec_of da_X12_hash_1 (k := 24) rfl
theorem dX12_hash_132 : decode cX12_hash 132 = .ok (.iload_n 2, 1) := dec_of da_X12_hash_1 (k := 25) rfl
theorem dX12_hash_133 : decode cX12_hash 133 = .ok (.aload_n 0, 1) := dec_of da_X12_hash_1 (k := 26) rfl
theorem dX12_hash_134 : decode cX12_hash 134 = .ok (.getfield 13, 3) := dec_of da_X12_hash_1 (k := 27) rfl
theorem dX12_hash_137 : decode cX12_hash 137 = .ok (.iload_n 2, 1) := dec_of da_X12_hash_1 (k := 28) rfl
theorem dX12_hash_138 : decode cX12_hash 138 = .ok (.iconst 3, 1) := dec_of da_X12_hash_1 (k := 29) rfl
theorem dX12_hash_139 : decode cX12_hash 139 = .ok (.isub, 1) := dec_of da_X12_hash_1 (k := 30) rfl
theorem dX12_hash_140 : decode cX12_hash 140 = .ok (.iaload, 1) := dec_of da_X12_hash_1 (k := 31) rfl
theorem dX12_hash_141 : decode cX12_hash 141 = .ok (.aload_n 0, 1) := dec_of da_X12_hash_1 (k := 32) rfl
theorem dX12_hash_142 : decode cX12_hash 142 = .ok (.getfield 13, 3) := dec_of da_X12_hash_1 (k := 33) rfl
theorem dX12_hash_145 : decode cX12_hash 145 = .ok (.iload_n 2, 1) := dec_of da_X12_hash_1 (k := 34) rfl
theorem dX12_hash_146 : decode cX12_hash 146 = .ok (.bipush 8, 2) := dec_of da_X12_hash_1 (k := 35) rfl
theorem dX12_hash_148 : decode cX12_hash 148 = .ok (.isub, 1) := dec_of da_X12_hash_1 (k := 36) rfl
theorem dX12_hash_149 : decode cX12_hash 149 = .ok (.iaload, 1) := dec_of da_X12_hash_1 (k := 37) rfl
theorem dX12_hash_150 : decode cX12_hash 150 = .ok (.ixor, 1) := dec_of da_X12_hash_1 (k := 38) rfl
theorem dX12_hash_151 : decode cX12_hash 151 = .ok (.aload_n 0, 1) := dec_of da_X12_hash_1 (k := 39) rfl
theorem dX12_hash_152 : decode cX12_hash 152 = .ok (.getfield 13, 3) := dec_of da_X12_hash_1 (k := 40) rfl
theorem dX12_hash_155 : decode cX12_hash 155 = .ok (.iload_n 2, 1) := dec_of da_X12_hash_1 (k := 41) rfl
theorem dX12_hash_156 : decode cX12_hash 156 = .ok (.bipush 14, 2) := dec_of da_X12_hash_1 (k := 42) rfl
theorem dX12_hash_158 : decode cX12_hash 158 = .ok (.isub, 1) := dec_of da_X12_hash_1 (k := 43) rfl
theorem dX12_hash_159 : decode cX12_hash 159 = .ok (.iaload, 1) := dec_of da_X12_hash_1 (k := 44) rfl
theorem dX12_hash_160 : decode cX12_hash 160 = .ok (.ixor, 1) := dec_of da_X12_hash_1 (k := 45) rfl
theorem dX12_hash_161 : decode cX12_hash 161 = .ok (.aload_n 0, 1) := dec_of da_X12_hash_1 (k := 46) rfl
theorem dX12_hash_162 : decode cX12_hash 162 = .ok (.getfield 13, 3) := dec_of da_X12_hash_1 (k := 47) rfl
theorem dX12_hash_165 : decode cX12_hash 165 = .ok (.iload_n 2, 1) := dec_of da_X12_hash_1 (k := 48) rfl
theorem dX12_hash_166 : decode cX12_hash 166 = .ok (.bipush 16, 2) := dec_of da_X12_hash_1 (k := 49) rfl
theorem dX12_hash_168 : decode cX12_hash 168 = .ok (.isub, 1) := dec_of da_X12_hash_1 (k := 50) rfl
theorem dX12_hash_169 : decode cX12_hash 169 = .ok (.iaload, 1) := dec_of da_X12_hash_1 (k := 51) rfl
theorem dX12_hash_170 : decode cX12_hash 170 = .ok (.ixor, 1) := dec_of da_X12_hash_1 (k := 52) rfl
theorem dX12_hash_171 : decode cX12_hash 171 = .ok (.iconst 1, 1) := dec_of da_X12_hash_1 (k := 53) rfl
theorem dX12_hash_172 : decode cX12_hash 172 = .ok (.invokestatic 302, 3) := dec_of da_X12_hash_1 (k := 54) rfl
theorem dX12_hash_175 : decode cX12_hash 175 = .ok (.iastore, 1) := dec_of da_X12_hash_1 (k := 55) rfl
theorem dX12_hash_176 : decode cX12_hash 176 = .ok (.iinc 2 1, 3) := dec_of da_X12_hash_1 (k := 56) rfl
theorem dX12_hash_179 : decode cX12_hash 179 = .ok (.goto (-57), 3) := dec_of da_X12_hash_1 (k := 57) rfl
theorem dX12_hash_182 : decode cX12_hash 182 = .ok (.aload_n 0, 1) := dec_of da_X12_hash_1 (k := 58) rfl
theorem dX12_hash_183 : decode cX12_hash 183 = .ok (.getfield 7, 3) := dec_of da_X12_hash_1 (k := 59) rfl
def dl_X12_hash_2 : List (Nat × (Instr × Nat)) := [(186, (.iconst 0, 1)), (187, (.iaload, 1)), (188, (.istore_n 2, 1)), (189, (.aload_n 0, 1)), (190, (.getfield 7, 3)), (193, (.iconst 1, 1)), (194, (.iaload, 1)), (195, (.istore_n 3, 1)), (196, (.aload_n 0, 1)), (197, (.getfield 7, 3)), (200, (.iconst 2, 1)), (201, (.iaload, 1)), (202, (.istore 4, 2)), (204, (.aload_n 0, 1)), (205, (.getfield 7, 3)), (208, (.iconst 3, 1)), (209, (.iaload, 1)), (210, (.istore 5, 2)), (212, (.aload_n 0, 1)), (213, (.getfield 7, 3)), (216, (.iconst 4, 1)), (217, (.iaload, 1)), (218, (.istore 6, 2)), (220, (.iconst 0, 1)), (221, (.istore 7, 2)), (223, (.iload 7, 2)), (225, (.bipush 80, 2)), (227, (.if_icmp .ge 160, 3)), (230, (.iload 7, 2)), (232, (.bipush 20, 2)), (234, (.if_icmp .ge 17, 3)), (237, (.iload_n 3, 1)), (238, (.iload 4, 2)), (240, (.iand, 1)), (241, (.iload_n 3, 1)), (242, (.iconst (-1), 1)), (243, (.ixor, 1)), (244, (.iload 5, 2)), (246, (.iand, 1)), (247, (.ior, 1)), (248, (.goto 42, 3)), (251, (.iload 7, 2)), (253, (.bipush 40, 2)), (255, (.if_icmp .lt 10, 3)), (258, (.iload 7, 2)), (260, (.bipush 60, 2)), (262, (.if_icmp .lt 13, 3)), (265, (.iload_n 3, 1)), (266, (.iload 4, 2)), (268, (.ixor, 1)), (269, (.iload 5, 2)), (271, (.ixor, 1)), (272, (.goto 18, 3)), (275, (.iload_n 3, 1)), (276, (.iload 4, 2)), (278, (.iand, 1)), (279, (.iload_n 3, 1)), (280, (.iload 5, 2)), (282, (.iand, 1)), (283, (.ior, 1))]
set_option maxRecDepth 100000 in
theorem da_X12_hash_2 : dl_X12_hash_2.all (fun q => decide (decode cX12_hash q.1 = .ok q.2)) = true := by decide +kernel
theorem dX12_hash_186 : decode cX12_hash 186 = .ok (.iconst 0, 1) := dec_of da_X12_hash_2 (k := 0) rfl
theorem dX12_hash_187 : decode cX12_hash 187 = .ok (.iaload, 1) := dec_of da_X12_hash_2 (k := 1) rfl
theorem dX12_hash_188 : decode cX12_hash 188 = .ok (.istore_n 2, 1) := dec_of da_X12_hash_2 (k := 2) rfl
theorem dX12_hash_189 : decode cX12_hash 189 = .ok (.aload_n 0, 1) := dec_of da_X12_hash_2 (k := 3) rfl
theorem dX12_hash_190 : decode cX12_hash 190 = .ok (.getfield 7, 3) := dec_of da_X12_hash_2 (k := 4) rfl
theorem dX12_hash_193 : decode cX12_hash 193 = .ok (.iconst 1, 1) := dec_of da_X12_hash_2 (k := 5) rfl
theorem dX12_hash_194 : decode cX12_hash 194 = .ok (.iaload, 1) := dec_of da_X12_hash_2 (k := 6) rfl
theorem dX12_hash_195 : decode cX12_hash 195 = .ok (.istore_n 3, 1) := dec_of da_X12_hash_2 (k := 7) rfl
theorem dX12_hash_196 : decode cX12_hash 196 = .ok (.aload_n 0, 1) := dec_of da_X12_hash_2 (k := 8) rfl
theorem dX12_hash_197 : decode cX12_hash 197 = .ok (.getfield 7, 3) := dec_of da_X12_hash_2 (k := 9) rfl
theorem dX12_hash_200 : decode cX12_hash 200 = .ok (.iconst 2, 1) := dec_of da_X12_hash_2 (k := 10) rfl
theorem dX12_hash_201 : decode cX12_hash 201 = .ok (.iaload, 1) := dec_of da_X12_hash_2 (k := 11) rfl
theorem dX12_hash_202 : decode cX12_hash 202 = .ok (.istore 4, 2) := dec_of da_X12_hash_2 (k := 12) rfl
theorem dX12_hash_204 : decode cX12_hash 204 = .ok (.aload_n 0, 1) := dec_of da_X12_hash_2 (k := 13) rfl
theorem dX12_hash_205 : decode cX12_hash 205 = .ok (.getfield 7, 3) := dec_of da_X12_hash_2 (k := 14) rfl
theorem dX12_hash_208 : decode cX12_hash 208 = .ok (.iconst 3, 1) := dec_of da_X12_hash_2 (k := 15) rfl
theorem dX12_hash_209 : decode cX12_hash 209 = .ok (.iaload, 1) := dec_of da_X12_hash_2 (k := 16) rfl
theorem dX12_hash_210 : decode cX12_hash 210 = .ok (.istore 5, 2) := dec_of da_X12_hash_2 (k := 17) rfl
theorem dX12_hash_212 : decode cX12_hash 212 = .ok (.aload_n 0, 1) := dec_of da_X12_hash_2 (k := 18) rfl
theorem dX12_hash_213 : decode cX12_hash 213 = .ok (.getfield 7, 3) := dec_of da_X12_hash_2 (k := 19) rfl
theorem dX12_hash_216 : decode cX12_hash 216 = .ok (.iconst 4, 1) := dec_of da_X12_hash_2 (k := 20) rfl
theorem dX12_hash_217 : decode cX12_hash 217 = .ok (.iaload, 1) := dec_of da_X12_hash_2 (k := 21) rfl
theorem dX12_hash_218 : decode cX12_hash 218 = .ok (.istore 6, 2) := dec_of da_X12_hash_2 (k := 22) rfl
theorem dX12_hash_220 : decode cX12_hash 220 = .ok (.iconst 0, 1) := dec_of da_X12_hash_2 (k := 23) rfl
theorem dX12_hash_221 : decode cX12_hash 221 = .ok (.istore 7, 2) := dec_of da_X12_hash_2 (k := 24) rfl
theorem dX12_hash_223 : decode cX12_hash 223 = .ok (.iload 7, 2) := dec_of da_X12_hash_2 (k := 25) rfl
theorem dX12_hash_225 : decode cX12_hash 225 = .ok (.bipush 80, 2) := dec_of da_X12_hash_2 (k := 26) rfl
theorem dX12_hash_227 : decode cX12_hash 227 = .ok (.if_icmp .ge 160, 3) := dec_of da_X12_hash_2 (k := 27) rfl
theorem dX12_hash_230 : decode cX12_hash 230 = .ok (.iload 7, 2) := dec_of da_X12_hash_2 (k := 28) rfl
theorem dX12_hash_232 : decode cX12_hash 232 = .ok (.bipush 20, 2) := dec_of da_X12_hash_2 (k := 29) rfl
theorem dX12_hash_234 : decode cX12_hash 234 = .ok (.if_icmp .ge 17, 3) := dec_of da_X12_hash_2 (k := 30) rfl
theorem dX12_hash_237 : decode cX12_hash 237 = .ok (.iload_n 3, 1) := dec_of da_X12_hash_2 (k := 31) rfl
theorem dX12_hash_238 : decode cX12_hash 238 = .ok (.iload 4, 2) := dec_of da_X12_hash_2 (k := 32) rfl
theorem dX12_hash_240 : decode cX12_hash 240 = .ok (.iand, 1) := dec_of da_X12_hash_2 (k := 33) rfl
theorem dX12_hash_241 : decode cX12_hash 241 = .ok (.iload_n 3, 1) := dec_of da_X12_hash_2 (k := 34) rfl
theorem dX12_hash_242 : decode cX12_hash 242 = .ok (.iconst (-1), 1) := dec_of da_X12_hash_2 (k := 35) rfl
theorem dX12_hash_243 : decode cX12_hash 243 = .ok (.ixor, 1) := dec_of da_X12_hash_2 (k := 36) rfl
theorem dX12_hash_244 : decode cX12_hash 244 = .ok (.iload 5, 2) := dec_of da_X12_hash_2 (k := 37) rfl
theorem dX12_hash_246 : decode cX12_hash 246 = .ok (.iand, 1) := dec_of da_X12_hash_2 (k := 38) rfl
theorem dX12_hash_247 : decode cX12_hash 247 = .ok (.ior, 1) := dec_of da_X12_hash_2 (k := 39) rfl
theorem dX12_hash_248 : decode cX12_hash 248 = .ok (.goto 42, 3) := dec_of da_X12_hash_2 (k := 40) rfl
theorem dX12_hash_251 : decode cX12_hash 251 = .ok (.iload 7, 2) := dec_of da_X12_hash_2 (k := 41) rfl
theorem dX12_hash_253 : decode cX12_hash 253 = .ok (.bipush 40, 2) := dec_of da_X12_hash_2 (k := 42) rfl
theorem dX12_hash_255 : decode cX12_hash 255 = .ok (.if_icmp .lt 10, 3) := dec_of da_X12_hash_2 (k := 43) rfl
theorem dX12_hash_258 : decode cX12_hash 258 = .ok (.iload 7, 2) := dec_of da_X12_hash_2 (k := 44) rfl
theorem dX12_hash_260 : decode cX12_hash 260 = .ok (.bipush 60, 2) := dec_of da_X12_hash_2 (k := 45) rfl
theorem dX12_hash_262 : decode cX12_hash 262 = .ok (.if_icmp .lt 13, 3) := dec_of da_X12_hash_2 (k := 46) rfl
theorem dX12_hash_265 : decode cX12_hash 265 = .ok (.iload_n 3, 1) := dec_of da_X12_hash_2 (k := 47) rfl
theorem dX12_hash_266 : decode cX12_hash 266 = .ok (.iload 4, 2) := dec_of da_X12_hash_2 (k := 48) rfl
theorem dX12_hash_268 : decode cX12_hash 268 = .ok (.ixor, 1) := dec_of da_X12_hash_2 (k := 49) rfl
theorem dX12_hash_269 : decode cX12_hash 269 = .ok (.iload 5, 2) := dec_of da_X12_hash_2 (k := 50) rfl
theorem dX12_hash_271 : decode cX12_hash 271 = .ok (.ixor, 1) := dec_of da_X12_hash_2 (k := 51) rfl
theorem dX12_hash_272 : decode cX12_hash 272 = .ok (.goto 18, 3) := dec_of da_X12_hash_2 (k := 52) rfl
theorem dX12_hash_275 : decode cX12_hash 275 = .ok (.iload_n 3, 1) := dec_of da_X12_hash_2 (k := 53) rfl
theorem dX12_hash_276 : decode cX12_hash 276 = .ok (.iload 4, 2) := dec_of da_X12_hash_2 (k := 54) rfl
theorem dX12_hash_278 : decode cX12_hash 278 = .ok (.iand, 1) := dec_of da_X12_hash_2 (k := 55) rfl
theorem dX12_hash_279 : decode cX12_hash 279 = .ok (.iload_n 3, 1) := dec_of da_X12_hash_2 (k := 56) rfl
theorem dX12_hash_280 : decode cX12_hash 280 = .ok (.iload 5, 2) := dec_of da_X12_hash_2 (k := 57) rfl
theorem dX12_hash_282 : decode cX12_hash 282 = .ok (.iand, 1) := dec_of da_X12_hash_2 (k := 58) rfl
theorem dX12_hash_283 : decode cX12_hash 283 = .ok (.ior, 1) := dec_of da_X12_hash_2 (k := 59) rfl
def dl_X12_hash_3 : List (Nat × (Instr × Nat)) := [(284, (.iload 4, 2)), (286, (.iload 5, 2)), (288, (.iand, 1)), (289, (.ior, 1)), (290, (.istore 8, 2)), (292, (.iload 7, 2)), (294, (.bipush 20, 2)), (296, (.if_icmp .ge 9, 3)), (299, (.ldc_w 306, 3)), (302, (.goto 32, 3)), (305, (.iload 7, 2)), (307, (.bipush 40, 2)), (309, (.if_icmp .ge 9, 3)), (312, (.ldc_w 307, 3)), (315, (.goto 19, 3)), (318, (.iload 7, 2)), (320, (.bipush 60, 2)), (322, (.if_icmp .ge 9, 3)), (325, (.ldc_w 308, 3)), (328, (.goto 6, 3)), (331, (.ldc_w 309, 3)), (334, (.istore 9, 2)), (336, (.iload_n 2, 1)), (337, (.iconst 5, 1)), (338, (.invokestatic 302, 3)), (341, (.iload 8, 2)), (343, (.iadd, 1)), (344, (.iload 6, 2)), (346, (.iadd, 1)), (347, (.aload_n 0, 1)), (348, (.getfield 13, 3)), (351, (.iload 7, 2)), (353, (.iaload, 1)), (354, (.iadd, 1)), (355, (.iload 9, 2)), (357, (.iadd, 1)), (358, (.istore 10, 2)), (360, (.iload 5, 2)), (362, (.istore 6, 2)), (364, (.iload 4, 2)), (366, (.istore 5, 2)), (368, (.iload_n 3, 1)), (369, (.bipush 30, 2)), (371, (.invokestatic 302, 3)), (374, (.istore 4, 2)), (376, (.iload_n 2, 1)), (377, (.istore_n 3, 1)), (378, (.iload 10, 2)), (380, (.istore_n 2, 1)), (381, (.iinc 7 1, 3)), (384, (.goto (-161), 3)), (387, (.aload_n 0, 1)), (388, (.getfield 7, 3)), (391, (.iconst 0, 1)), (392, (.dup2, 1)), (393, (.iaload, 1)), (394, (.iload_n 2, 1)), (395, (.iadd, 1)), (396, (.iastore, 1)), (397, (.aload_n 0, 1))]
set_option maxRecDepth 100000 in
theorem da_X12_hash_3 : dl_X12_hash_3.all (fun q => decide (decode cX12_hash q.1 = .ok q.2)) = true := by decide +kernel
theorem dX12_hash_284 : decode cX12_hash 284 = .ok (.iload 4, 2) := dec_of da_X12_hash_3 (k := 0) rfl
theorem dX12_hash_286 : decode cX12_hash 286 = .ok (.iload 5, 2) := dec_of da_X12_hash_3 (k := 1) rfl
theorem dX12_hash_288 : decode cX12_hash 288 = .ok (.iand, 1) := dec_of da_X12_hash_3 (k := 2) rfl
theorem dX12_hash_289 : decode cX12_hash 289 = .ok (.ior, 1) := dec_of da_X12_hash_3 (k := 3) rfl
theorem dX12_hash_290 : decode cX12_hash 290 = .ok (.istore 8, 2) := dec_of da_X12_hash_3 (k := 4) rfl
theorem dX12_hash_292 : decode cX12_hash 292 = .ok (.iload 7, 2) := dec_of da_X12_hash_3 (k := 5) rfl
theorem dX12_hash_294 : decode cX12_hash 294 = .ok (.bipush 20, 2) := dec_of da_X12_hash_3 (k := 6) rfl
theorem dX12_hash_296 : decode cX12_hash 296 = .ok (.if_icmp .ge 9, 3) := dec_of da_X12_hash_3 (k := 7) rfl
theorem dX12_hash_299 : decode cX12_hash 299 = .ok (.ldc_w 306, 3) := dec_of da_X12_hash_3 (k := 8) rfl
theorem dX12_hash_302 : decode cX12_hash 302 = .ok (.goto 32, 3) := dec_of da_X12_hash_3 (k := 9) rfl
theorem dX12_hash_305 : decode cX12_hash 305 = .ok (.iload 7, 2) := dec_of da_X12_hash_3 (k := 10) rfl
theorem dX12_hash_307 : decode cX12_hash 307 = .ok (.bipush 40, 2) := dec_of da_X12_hash_3 (k := 11) rfl
theorem dX12_hash_309 : decode cX12_hash 309 = .ok (.if_icmp .ge 9, 3) := dec_of da_X12_hash_3 (k := 12) rfl
theorem dX12_hash_312 : decode cX12_hash 312 = .ok (.ldc_w 307, 3) := dec_of da_X12_hash_3 (k := 13) rfl
theorem dX12_hash_315 : decode cX12_hash 315 = .ok (.goto 19, 3) := dec_of da_X12_hash_3 (k := 14) rfl
theorem dX12_hash_318 : decode cX12_hash 318 = .ok (.iload 7, 2) := dec_of da_X12_hash_3 (k := 15) rfl
theorem dX12_hash_320 : decode cX12_hash 320 = .ok (.bipush 60, 2) := dec_of da_X12_hash_3 (k := 16) rfl
theorem dX12_hash_322 : decode cX12_hash 322 = .ok (.if_icmp .ge 9, 3) := dec_of da_X12_hash_3 (k := 17) rfl
theorem dX12_hash_325 : decode cX12_hash 325 = .ok (.ldc_w 308, 3) := dec_of da_X12_hash_3 (k := 18) rfl
theorem dX12_hash_328 : decode cX12_hash 328 = .ok (.goto 6, 3) := dec_of da_X12_hash_3 (k := 19) rfl
theorem dX12_hash_331 : decode cX12_hash 331 = .ok (.ldc_w 309, 3) := dec_of da_X12_hash_3 (k := 20) rfl
theorem dX12_hash_334 : decode cX12_hash 334 = .ok (.istore 9, 2) := dec_of da_X12_hash_3 (k := 21) rfl
theorem dX12_hash_336 : decode cX12_hash 336 = .ok (.iload_n 2, 1) := dec_of da_X12_hash_3 (k := 22) rfl
theorem dX12_hash_337 : decode cX12_hash 337 = .ok (.iconst 5, 1) := dec_of da_X12_hash_3 (k := 23) rfl
theorem dX12_hash_338 : decode cX12_hash 338 = .ok (.invokestatic 302, 3) := dec_of da_X12_hash_3 (k := 24) rfl
theorem dX12_hash_341 : decode cX12_hash 341 = .ok (.iload 8, 2) := dec_of da_X12_hash_3 (k := 25) rfl
theorem dX12_hash_343 : decode cX12_hash 343 = .ok (.iadd, 1) := dec_of da_X12_hash_3 (k := 26) rfl
theorem dX12_hash_344 : decode cX12_hash 344 = .ok (.iload 6, 2) := dec_of da_X12_hash_3 (k := 27) rfl
theorem dX12_hash_346 : decode cX12_hash 346 = .ok (.iadd, 1) := dec_of da_X12_hash_3 (k := 28) rfl
theorem dX12_hash_347 : decode cX12_hash 347 = .ok (.aload_n 0, 1) := dec_of da_X12_hash_3 (k := 29) rfl
theorem dX12_hash_348 : decode cX12_hash 348 = .ok (.getfield 13, 3) := dec_of da_X12_hash_3 (k := 30) rfl
theorem dX12_hash_351 : decode cX12_hash 351 = .ok (.iload 7, 2) := dec_of da_X12_hash_3 (k := 31) rfl
theorem dX12_hash_353 : decode cX12_hash 353 = .ok (.iaload, 1) := dec_of da_X12_hash_3 (k := 32) rfl
theorem dX12_hash_354 : decode cX12_hash 354 = .ok (.iadd, 1) := dec_of da_X12_hash_3 (k := 33) rfl
theorem dX12_hash_355 : decode cX12_hash 355 = .ok (.iload 9, 2) := dec_of da_X12_hash_3 (k := 34) rfl
theorem dX12_hash_357 : decode cX12_hash 357 = .ok (.iadd, 1) := dec_of da_X12_hash_3 (k := 35) rfl
theorem dX12_hash_358 : decode cX12_hash 358 = .ok (.istore 10, 2) := dec_of da_X12_hash_3 (k := 36) rfl
theorem dX12_hash_360 : decode cX12_hash 360 = .ok (.iload 5, 2) := dec_of da_X12_hash_3 (k := 37) rfl
theorem dX12_hash_362 : decode cX12_hash 362 = .ok (.istore 6, 2) := dec_of da_X12_hash_3 (k := 38) rfl
theorem dX12_hash_364 : decode cX12_hash 364 = .ok (.iload 4, 2) := dec_of da_X12_hash_3 (k := 39) rfl
theorem dX12_hash_366 : decode cX12_hash 366 = .ok (.istore 5, 2) := dec_of da_X12_hash_3 (k := 40) rfl
theorem dX12_hash_368 : decode cX12_hash 368 = .ok (.iload_n 3, 1) := dec_of da_X12_hash_3 (k := 41) rfl
theorem dX12_hash_369 : decode cX12_hash 369 = .ok (.bipush 30, 2) := dec_of da_X12_hash_3 (k := 42) rfl
theorem dX12_hash_371 : decode cX12_hash 371 = .ok (.invokestatic 302, 3) := dec_of da_X12_hash_3 (k := 43) rfl
theorem dX12_hash_374 : decode cX12_hash 374 = .ok (.istore 4, 2) := dec_of da_X12_hash_3 (k := 44) rfl
theorem dX12_hash_376 : decode cX12_hash 376 = .ok (.iload_n 2, 1) := dec_of da_X12_hash_3 (k := 45) rfl
theorem dX12_hash_377 : decode cX12_hash 377 = .ok (.istore_n 3, 1) := dec_of da_X12_hash_3 (k := 46) rfl
theorem dX12_hash_378 : decode cX12_hash 378 = .ok (.iload 10, 2) := dec_of da_X12_hash_3 (k := 47) rfl
theorem dX12_hash_380 : decode cX12_hash 380 = .ok (.istore_n 2, 1) := dec_of da_X12_hash_3 (k := 48) rfl
theorem dX12_hash_381 : decode cX12_hash 381 = .ok (.iinc 7 1, 3) := dec_of da_X12_hash_3 (k := 49) rfl
theorem dX12_hash_384 : decode cX12_hash 384 = .ok (.goto (-161), 3) := dec_of da_X12_hash_3 (k := 50) rfl
theorem dX12_hash_387 : decode cX12_hash 387 = .ok (.aload_n 0, 1) := dec_of da_X12_hash_3 (k := 51) rfl
theorem dX12_hash_388 : decode cX12_hash 388 = .ok (.getfield 7, 3) := dec_of da_X12_hash_3 (k := 52) rfl
theorem dX12_hash_391 : decode cX12_hash 391 = .ok (.iconst 0, 1) := dec_of da_X12_hash_3 (k := 53) rfl
theorem dX12_hash_392 : decode cX12_hash 392 = .ok (.dup2, 1) := dec_of da_X12_hash_3 (k := 54) rfl
theorem dX12_hash_393 : decode cX12_hash 393 = .ok (.iaload, 1) := dec_of da_X12_hash_3 (k := 55) rfl
theorem dX12_hash_394 : decode cX12_hash 394 = .ok (.iload_n 2, 1) := dec_of da_X12_hash_3 (k := 56) rfl
theorem dX12_hash_395 : decode cX12_hash 395 = .ok (.iadd, 1) := dec_of da_X12_hash_3 (k := 57) rfl
theorem dX12_hash_396 : decode cX12_hash 396 = .ok (.iastore, 1) := dec_of da_X12_hash_3 (k := 58) rfl
theorem dX12_hash_397 : decode cX12_hash 397 = .ok (.aload_n 0, 1) := dec_of da_X12_hash_3 (k := 59) rfl
def dl_X12_hash_4 : List (Nat × (Instr × Nat)) := [(398, (.getfield 7, 3)), (401, (.iconst 1, 1)), (402, (.dup2, 1)), (403, (.iaload, 1)), (404, (.iload_n 3, 1)), (405, (.iadd, 1)), (406, (.iastore, 1)), (407, (.aload_n 0, 1)), (408, (.getfield 7, 3)), (411, (.iconst 2, 1)), (412, (.dup2, 1)), (413, (.iaload, 1)), (414, (.iload 4, 2)), (416, (.iadd, 1)), (417, (.iastore, 1)), (418, (.aload_n 0, 1)), (419, (.getfield 7, 3)), (422, (.iconst 3, 1)), (423, (.dup2, 1)), (424, (.iaload, 1)), (425, (.iload 5, 2)), (427, (.iadd, 1)), (428, (.iastore, 1)), (429, (.aload_n 0, 1)), (430, (.getfield 7, 3)), (433, (.iconst 4, 1)), (434, (.dup2, 1)), (435, (.iaload, 1)), (436, (.iload 6, 2)), (438, (.iadd, 1)), (439, (.iastore, 1)), (440, (.return_, 1))]
set_option maxRecDepth 100000 in
theorem da_X12_hash_4 : dl_X12_hash_4.all (fun q => decide (decode cX12_hash q.1 = .ok q.2)) = true := by decide +kernel
theorem dX12_hash_398 : decode cX12_hash 398 = .ok (.getfield 7, 3) := dec_of da_X12_hash_4 (k := 0) rfl
theorem dX12_hash_401 : decode cX12_hash 401 = .ok (.iconst 1, 1) := dec_of da_X12_hash_4 (k := 1) rfl
theorem dX12_hash_402 : decode cX12_hash 402 = .ok (.dup2, 1) := dec_of da_X12_hash_4 (k := 2) rfl
theorem dX12_hash_403 : decode cX12_hash 403 = .ok (.iaload, 1) := dec_of da_X12_hash_4 (k := 3) rfl
theorem dX12_hash_404 : decode cX12_hash 404 = .ok (.iload_n 3, 1) := dec_of da_X12_hash_4 (k := 4) rfl
theorem dX12_hash_405 : decode cX12_hash 405 = .ok (.iadd, 1) := dec_of da_X12_hash_4 (k := 5) rfl
theorem dX12_hash_406 : decode cX12_hash 406 = .ok (.iastore, 1) := dec_of da_X12_hash_4 (k := 6) rfl
theorem dX12_hash_407 : decode cX12_hash 407 = .ok (.aload_n 0, 1) := dec_of da_X12_hash_4 (k := 7) rfl
theorem dX12_hash_408 : decode cX12_hash 408 = .ok (.getfield 7, 3) := dec_of da_X12_hash_4 (k := 8) rfl
theorem dX12_hash_411 : decode cX12_hash 411 = .ok (.iconst 2, 1) := dec_of da_X12_hash_4 (k := 9) rfl
theorem dX12_hash_412 : decode cX12_hash 412 = .ok (.dup2, 1) := dec_of da_X12_hash_4 (k := 10) rfl
theorem dX12_hash_413 : decode cX12_hash 413 = .ok (.iaload, 1) := dec_of da_X12_hash_4 (k := 11) rfl
theorem dX12_hash_414 : decode cX12_hash 414 = .ok (.iload 4, 2) := dec_of da_X12_hash_4 (k := 12) rfl
theorem dX12_hash_416 : decode cX12_hash 416 = .ok (.iadd, 1) := dec_of da_X12_hash_4 (k := 13) rfl
theorem dX12_hash_417 : decode cX12_hash 417 = .ok (.iastore, 1) := dec_of da_X12_hash_4 (k := 14) rfl
theorem dX12_hash_418 : decode cX12_hash 418 = .ok (.aload_n 0, 1) := dec_of da_X12_hash_4 (k := 15) rfl
theorem dX12_hash_419 : decode cX12_hash 419 = .ok (.getfield 7, 3) := dec_of da_X12_hash_4 (k := 16) rfl
theorem dX12_hash_422 : decode cX12_hash 422 = .ok (.iconst 3, 1) := dec_of da_X12_hash_4 (k := 17) rfl
theorem dX12_hash_423 : decode cX12_hash 423 = .ok (.dup2, 1) := dec_of da_X12_hash_4 (k := 18) rfl
theorem dX12_hash_424 : decode cX12_hash 424 = .ok (.iaload, 1) := dec_of da_X12_hash_4 (k := 19) rfl
theorem dX12_hash_425 : decode cX12_hash 425 = .ok (.iload 5, 2) := dec_of da_X12_hash_4 (k := 20) rfl
theorem dX12_hash_427 : decode cX12_hash 427 = .ok (.iadd, 1) := dec_of da_X12_hash_4 (k := 21) rfl
theorem dX12_hash_428 : decode cX12_hash 428 = .ok (.iastore, 1) := dec_of da_X12_hash_4 (k := 22) rfl
theorem dX12_hash_429 : decode cX12_hash 429 = .ok (.aload_n 0, 1) := dec_of da_X12_hash_4 (k := 23) rfl
theorem dX12_hash_430 : decode cX12_hash 430 = .ok (.getfield 7, 3) := dec_of da_X12_hash_4 (k := 24) rfl
theorem dX12_hash_433 : decode cX12_hash 433 = .ok (.iconst 4, 1) := dec_of da_X12_hash_4 (k := 25) rfl
theorem dX12_hash_434 : decode cX12_hash 434 = .ok (.dup2, 1) := dec_of da_X12_hash_4 (k := 26) rfl
theorem dX12_hash_435 : decode cX12_hash 435 = .ok (.iaload, 1) := dec_of da_X12_hash_4 (k := 27) rfl
theorem dX12_hash_436 : decode cX12_hash 436 = .ok (.iload 6, 2) := dec_of da_X12_hash_4 (k := 28) rfl
theorem dX12_hash_438 : decode cX12_hash 438 = .ok (.iadd, 1) := dec_of da_X12_hash_4 (k := 29) rfl
theorem dX12_hash_439 : decode cX12_hash 439 = .ok (.iastore, 1) := dec_of da_X12_hash_4 (k := 30) rfl
theorem dX12_hash_440 : decode cX12_hash 440 = .ok (.return_, 1) := dec_of da_X12_hash_4 (k := 31) rfl
def dl_X12_hashEnd_0 : List (Nat × (Instr × Nat)) := [(0, (.ldc2_w 310, 3)), (3, (.aload_n 0, 1)), (4, (.getfield 298, 3)), (7, (.lmul, 1)), (8, (.lstore_n 1, 1)), (9, (.aload_n 0, 1)), (10, (.sipush 128, 3)), (13, (.invokevirtual 312, 3)), (16, (.aload_n 0, 1)), (17, (.getfield 295, 3)), (20, (.bipush 56, 2)), (22, (.if_icmp .eq 11, 3)), (25, (.aload_n 0, 1)), (26, (.iconst 0, 1)), (27, (.invokevirtual 312, 3)), (30, (.goto (-14), 3)), (33, (.bipush 7, 2)), (35, (.istore_n 3, 1)), (36, (.iload_n 3, 1)), (37, (.ifCond .lt 20, 3)), (40, (.aload_n 0, 1)), (41, (.lload_n 1, 1)), (42, (.bipush 8, 2)), (44, (.iload_n 3, 1)), (45, (.imul, 1)), (46, (.lshr, 1)), (47, (.l2i, 1)), (48, (.invokevirtual 312, 3)), (51, (.iinc 3 (-1), 3)), (54, (.goto (-18), 3)), (57, (.iconst 0, 1)), (58, (.istore_n 3, 1)), (59, (.iload_n 3, 1)), (60, (.bipush 20, 2)), (62, (.if_icmp .ge 37, 3)), (65, (.aload_n 0, 1)), (66, (.getfield 19, 3)), (69, (.iload_n 3, 1)), (70, (.aload_n 0, 1)), (71, (.getfield 7, 3)), (74, (.iload_n 3, 1)), (75, (.iconst 4, 1)), (76, (.idiv, 1)), (77, (.iaload, 1)), (78, (.bipush 24, 2)), (80, (.bipush 8, 2)), (82, (.iload_n 3, 1)), (83, (.iconst 4, 1)), (84, (.irem, 1)), (85, (.imul, 1)), (86, (.isub, 1)), (87, (.ishr, 1)), (88, (.sipush 255, 3)), (91, (.iand, 1)), (92, (.iastore, 1)), (93, (.iinc 3 1, 3)), (96, (.goto (-37), 3)), (99, (.return_, 1))]
set_option maxRecDepth 100000 in
theorem da_X12_hashEnd_0 : dl_X12_hashEnd_0.all (fun q => decide (decode cX12_hashEnd q.1 = .ok q.2)) = true := by decide +kernel
theorem dX12_hashEnd_0 : decode cX12_hashEnd 0 = .ok (.ldc2_w 310, 3) := dec_of da_X12_hashEnd_0 (k := 0) rfl
theorem dX12_hashEnd_3 : decode cX12_hashEnd 3 = .ok (.aload_n 0, 1) := dec_of da_X12_hashEnd_0 (k := 1) rfl
theorem dX12_hashEnd_4 : decode cX12_hashEnd 4 = .ok (.getfield 298, 3) := dec_of da_X12_hashEnd_0 (k := 2) rfl
theorem dX12_hashEnd_7 : decode cX12_hashEnd 7 = .ok (.lmul, 1) := dec_of da_X12_hashEnd_0 (k := 3) rfl
theorem dX12_hashEnd_8 : decode cX12_hashEnd 8 = .ok (.lstore_n 1, 1) := dec_of da_X12_hashEnd_0 (k := 4) rfl
theorem dX12_hashEnd_9 : decode cX12_hashEnd 9 = .ok (.aload_n 0, 1) := dec_of da_X12_hashEnd_0 (k := 5) rfl
theorem dX12_hashEnd_10 : decode cX12_hashEnd 10 = .ok (.sipush 128, 3) := dec_of da_X12_hashEnd_0 (k := 6) rfl
theorem dX12_hashEnd_13 : decode cX12_hashEnd 13 = .ok (.invokevirtual 312, 3) := dec_of da_X12_hashEnd_0 (k := 7) rfl
theorem dX12_hashEnd_16 : decode cX12_hashEnd 16 = .ok (.aload_n 0, 1) := dec_of da_X12_hashEnd_0 (k := 8) rfl
theorem dX12_hashEnd_17 : decode cX12_hashEnd 17 = .ok (.getfield 295, 3) := dec_of da_X12_hashEnd_0 (k := 9) rfl
theorem dX12_hashEnd_20 : decode cX12_hashEnd 20 = .ok (.bipush 56, 2) := dec_of da_X12_hashEnd_0 (k := 10) rfl
theorem dX12_hashEnd_22 : decode cX12_hashEnd 22 = .ok (.if_icmp .eq 11, 3) := dec_of da_X12_hashEnd_0 (k := 11) rfl
theorem dX12_hashEnd_25 : decode cX12_hashEnd 25 = .ok (.aload_n 0, 1) := dec_of da_X12_hashEnd_0 (k := 12) rfl
theorem dX12_hashEnd_26 : decode cX12_hashEnd 26 = .ok (.iconst 0, 1) := dec_of da_X12_hashEnd_0 (k := 13) rfl
theorem dX12_hashEnd_27 : decode cX12_hashEnd 27 = .ok (.invokevirtual 312, 3) := dec_of da_X12_hashEnd_0 (k := 14) rfl
theorem dX12_hashEnd_30 : decode cX12_hashEnd 30 = .ok (.goto (-14), 3) := dec_of da_X12_hashEnd_0 (k := 15) rfl
theorem dX12_hashEnd_33 : decode cX12_hashEnd 33 = .ok (.bipush 7, 2) := dec_of da_X12_hashEnd_0 (k := 16) rfl
theorem dX12_hashEnd_35 : decode cX12_hashEnd 35 = .ok (.istore_n 3, 1) := dec_of da_X12_hashEnd_0 (k := 17) rfl
theorem dX12_hashEnd_36 : decode cX12_hashEnd 36 = .ok (.iload_n 3, 1) := dec_of da_X12_hashEnd_0 (k := 18) rfl
theorem dX12_hashEnd_37 : decode cX12_hashEnd 37 = .ok (.ifCond .lt 20, 3) := dec_of da_X12_hashEnd_0 (k := 19) rfl
theorem dX12_hashEnd_40 : decode cX12_hashEnd 40 = .ok (.aload_n 0, 1) := dec_of da_X12_hashEnd_0 (k := 20) rfl
theorem dX12_hashEnd_41 : decode cX12_hashEnd 41 = .ok (.lload_n 1, 1) := dec_of da_X12_hashEnd_0 (k := 21) rfl
theorem dX12_hashEnd_42 : decode cX12_hashEnd 42 = .ok (.bipush 8, 2) := dec_of da_X12_hashEnd_0 (k := 22) rfl
theorem dX12_hashEnd_44 : decode cX12_hashEnd 44 = .ok (.iload_n 3, 1) := dec_of da_X12_hashEnd_0 (k := 23) rfl
theorem dX12_hashEnd_45 : decode cX12_hashEnd 45 = .ok (.imul, 1) := dec_of da_X12_hashEnd_0 (k := 24) rfl
theorem dX12_hashEnd_46 : decode cX12_hashEnd 46 = .ok (.lshr, 1) := dec_of da_X12_hashEnd_0 (k := 25) rfl
theorem dX12_hashEnd_47 : decode cX12_hashEnd 47 = .ok (.l2i, 1) := dec_of da_X12_hashEnd_0 (k := 26) rfl
theorem dX12_hashEnd_48 : decode cX12_hashEnd 48 = .ok (.invokevirtual 312, 3) := dec_of da_X12_hashEnd_0 (k := 27) rfl
theorem dX12_hashEnd_51 : decode cX12_hashEnd 51 = .ok (.iinc 3 (-1), 3) := dec_of da_X12_hashEnd_0 (k := 28) rfl
theorem dX12_hashEnd_54 : decode cX12_hashEnd 54 = .ok (.goto (-18), 3) := dec_of da_X12_hashEnd_0 (k := 29) rfl
theorem dX12_hashEnd_57 : decode cX12_hashEnd 57 = .ok (.iconst 0, 1) := dec_of da_X12_hashEnd_0 (k := 30) rfl
theorem dX12_hashEnd_58 : decode cX12_hashEnd 58 = .ok (.istore_n 3, 1) := dec_of da_X12_hashEnd_0 (k := 31) rfl
theorem dX12_hashEnd_59 : decode cX12_hashEnd 59 = .ok (.iload_n 3, 1) := dec_of da_X12_hashEnd_0 (k := 32) rfl
theorem dX12_hashEnd_60 : decode cX12_hashEnd 60 = .ok (.bipush 20, 2) := dec_of da_X12_hashEnd_0 (k := 33) rfl
theorem dX12_hashEnd_62 : decode cX12_hashEnd 62 = .ok (.if_icmp .ge 37, 3) := dec_of da_X12_hashEnd_0 (k := 34) rfl
theorem dX12_hashEnd_65 : decode cX12_hashEnd 65 = .ok (.aload_n 0, 1) := dec_of da_X12_hashEnd_0 (k := 35) rfl
theorem dX12_hashEnd_66 : decode cX12_hashEnd 66 = .ok (.getfield 19, 3) := dec_of da_X12_hashEnd_0 (k := 36) rfl
theorem dX12_hashEnd_69 : decode cX12_hashEnd 69 = .ok (.iload_n 3, 1) := dec_of da_X12_hashEnd_0 (k := 37) rfl
theorem dX12_hashEnd_70 : decode cX12_hashEnd 70 = .ok (.aload_n 0, 1) := dec_of da_X12_hashEnd_0 (k := 38) rfl
theorem dX12_hashEnd_71 : decode cX12_hashEnd 71 = .ok (.getfield 7, 3) := dec_of da_X12_hashEnd_0 (k := 39) rfl
theorem dX12_hashEnd_74 : decode cX12_hashEnd 74 = .ok (.iload_n 3, 1) := dec_of da_X12_hashEnd_0 (k := 40) rfl
theorem dX12_hashEnd_75 : decode cX12_hashEnd 75 = .ok (.iconst 4, 1) := dec_of da_X12_hashEnd_0 (k := 41) rfl
theorem dX12_hashEnd_76 : decode cX12_hashEnd 76 = .ok (.idiv, 1) := dec_of da_X12_hashEnd_0 (k := 42) rfl
theorem dX12_hashEnd_77 : decode cX12_hashEnd 77 = .ok (.iaload, 1) := dec_of da_X12_hashEnd_0 (k := 43) rfl
theorem dX12_hashEnd_78 : decode cX12_hashEnd 78 = .ok (.bipush 24, 2) := dec_of da_X12_hashEnd_0 (k := 44) rfl
theorem dX12_hashEnd_80 : decode cX12_hashEnd 80 = .ok (.bipush 8, 2) := dec_of da_X12_hashEnd_0 (k := 45) rfl
theorem dX12_hashEnd_82 : decode cX12_hashEnd 82 = .ok (.iload_n 3, 1) := dec_of da_X12_hashEnd_0 (k := 46) rfl
theorem dX12_hashEnd_83 : decode cX12_hashEnd 83 = .ok (.iconst 4, 1) := dec_of da_X12_hashEnd_0 (k := 47) rfl
theorem dX12_hashEnd_84 : decode cX12_hashEnd 84 = .ok (.irem, 1) := dec_of da_X12_hashEnd_0 (k := 48) rfl
theorem dX12_hashEnd_85 : decode cX12_hashEnd 85 = .ok (.imul, 1) := dec_of da_X12_hashEnd_0 (k := 49) rfl
theorem dX12_hashEnd_86 : decode cX12_hashEnd 86 = .ok (.isub, 1) := dec_of da_X12_hashEnd_0 (k := 50) rfl
theorem dX12_hashEnd_87 : decode cX12_hashEnd 87 = .ok (.ishr, 1) := dec_of da_X12_hashEnd_0 (k := 51) rfl
theorem dX12_hashEnd_88 : decode cX12_hashEnd 88 = .ok (.sipush 255, 3) := dec_of da_X12_hashEnd_0 (k := 52) rfl
theorem dX12_hashEnd_91 : decode cX12_hashEnd 91 = .ok (.iand, 1) := dec_of da_X12_hashEnd_0 (k := 53) rfl
theorem dX12_hashEnd_92 : decode cX12_hashEnd 92 = .ok (.iastore, 1) := dec_of da_X12_hashEnd_0 (k := 54) rfl
theorem dX12_hashEnd_93 : decode cX12_hashEnd 93 = .ok (.iinc 3 1, 3) := dec_of da_X12_hashEnd_0 (k := 55) rfl
theorem dX12_hashEnd_96 : decode cX12_hashEnd 96 = .ok (.goto (-37), 3) := dec_of da_X12_hashEnd_0 (k := 56) rfl
theorem dX12_hashEnd_99 : decode cX12_hashEnd 99 = .ok (.return_, 1) := dec_of da_X12_hashEnd_0 (k := 57) rfl
def dl_X12_macBegin_0 : List (Nat × (Instr × Nat)) := [(0, (.iconst 0, 1)), (1, (.istore 4, 2)), (3, (.iload 4, 2)), (5, (.bipush 64, 2)), (7, (.if_icmp .ge 32, 3)), (10, (.aload_n 0, 1)), (11, (.getfield 22, 3)), (14, (.iload 4, 2)), (16, (.iload 4, 2)), (18, (.iload_n 3, 1)), (19, (.if_icmp .ge 12, 3)), (22, (.aload_n 1, 1)), (23, (.iload_n 2, 1)), (24, (.iload 4, 2)), (26, (.iadd, 1)), (27, (.iaload, 1)), (28, (.goto 4, 3)), (31, (.iconst 0, 1)), (32, (.iastore, 1)), (33, (.iinc 4 1, 3)), (36, (.goto (-33), 3)), (39, (.aload_n 0, 1)), (40, (.invokevirtual 316, 3)), (43, (.iconst 0, 1)), (44, (.istore 4, 2)), (46, (.iload 4, 2)), (48, (.bipush 64, 2)), (50, (.if_icmp .ge 23, 3)), (53, (.aload_n 0, 1)), (54, (.aload_n 0, 1)), (55, (.getfield 22, 3)), (58, (.iload 4, 2)), (60, (.iaload, 1)), (61, (.bipush 54, 2)), (63, (.ixor, 1)), (64, (.invokevirtual 312, 3)), (67, (.iinc 4 1, 3)), (70, (.goto (-24), 3)), (73, (.return_, 1))]
set_option maxRecDepth 100000 in
theorem da_X12_macBegin_0 : dl_X12_macBegin_0.all (fun q => decide (decode cX12_macBegin q.1 = .ok q.2)) = true := by decide +kernel
theorem dX12_macBegin_0 : decode cX12_macBegin 0 = .ok (.iconst 0, 1) := dec_of da_X12_macBegin_0 (k := 0) rfl
theorem dX12_macBegin_1 : decode cX12_macBegin 1 = .ok (.istore 4, 2) := dec_of da_X12_macBegin_0 (k := 1) rfl
theorem dX12_macBegin_3 : decode cX12_macBegin 3 = .ok (.iload 4, 2) := dec_of da_X12_macBegin_0 (k := 2) rfl
theorem dX12_macBegin_5 : decode cX12_macBegin 5 = .ok (.bipush 64, 2) := dec_of da_X12_macBegin_0 (k := 3) rfl
theorem dX12_macBegin_7 : decode cX12_macBegin 7 = .ok (.if_icmp .ge 32, 3) := dec_of da_X12_macBegin_0 (k := 4) rfl
theorem dX12_macBegin_10 : decode cX12_macBegin 10 = .ok (.aload_n 0, 1) := dec_of da_X12_macBegin_0 (k := 5) rfl
theorem dX12_macBegin_11 : decode cX12_macBegin 11 = .ok (.getfield 22, 3) := dec_of da_X12_macBegin_0 (k := 6) rfl
theorem dX12_macBegin_14 : decode cX12_macBegin 14 = .ok (.iload 4, 2) := dec_of da_X12_macBegin_0 (k := 7) rfl
theorem dX12_macBegin_16 : decode cX12_macBegin 16 = .ok (.iload 4, 2) := dec_of da_X12_macBegin_0 (k := 8) rfl
theorem dX12_macBegin_18 : decode cX12_macBegin 18 = .ok (.iload_n 3, 1) := dec_of da_X12_macBegin_0 (k := 9) rfl
theorem dX12_macBegin_19 : decode cX12_macBegin 19 = .ok (.if_icmp .ge 12, 3) := dec_of da_X12_macBegin_0 (k := 10) rfl
theorem dX12_macBegin_22 : decode cX12_macBegin 22 = .ok (.aload_n 1, 1) := dec_of da_X12_macBegin_0 (k := 11) rfl
theorem dX12_macBegin_23 : decode cX12_macBegin 23 = .ok (.iload_n 2, 1) := dec_of da_X12_macBegin_0 (k := 12) rfl
theorem dX12_macBegin_24 : decode cX12_macBegin 24 = .ok (.iload 4, 2) := dec_of da_X12_macBegin_0 (k := 13) rfl
theorem dX12_macBegin_26 : decode cX12_macBegin 26 = .ok (.iadd, 1) := dec_of da_X12_macBegin_0 (k := 14) rfl
theorem dX12_macBegin_27 : decode cX12_macBegin 27 = .ok (.iaload, 1) := dec_of da_X12_macBegin_0 (k := 15) rfl
theorem dX12_macBegin_28 : decode cX12_macBegin 28 = .ok (.goto 4, 3) := dec_of da_X12_macBegin_0 (k := 16) rfl
theorem dX12_macBegin_31 : decode cX12_macBegin 31 = .ok (.iconst 0, 1) := dec_of da_X12_macBegin_0 (k := 17) rfl
theorem dX12_macBegin_32 : decode cX12_macBegin 32 = .ok (.iastore, 1) := dec_of da_X12_macBegin_0 (k := 18) rfl
theorem dX12_macBegin_33 : decode cX12_macBegin 33 = .ok (.iinc 4 1, 3) := dec_of da_X12_macBegin_0 (k := 19) rfl
theorem dX12_macBegin_36 : decode cX12_macBegin 36 = .ok (.goto (-33), 3) := dec_of da_X12_macBegin_0 (k := 20) rfl
theorem dX12_macBegin_39 : decode cX12_macBegin 39 = .ok (.aload_n 0, 1) := dec_of da_X12_macBegin_0 (k := 21) rfl
theorem dX12_macBegin_40 : decode cX12_macBegin 40 = .ok (.invokevirtual 316, 3) := dec_of da_X12_macBegin_0 (k := 22) rfl
theorem dX12_macBegin_43 : decode cX12_macBegin 43 = .ok (.iconst 0, 1) := dec_of da_X12_macBegin_0 (k := 23) rfl
theorem dX12_macBegin_44 : decode cX12_macBegin 44 = .ok (.istore 4, 2) := dec_of da_X12_macBegin_0 (k := 24) rfl
theorem dX12_macBegin_46 : decode cX12_macBegin 46 = .ok (.iload 4, 2) := dec_of da_X12_macBegin_0 (k := 25) rfl
theorem dX12_macBegin_48 : decode cX12_macBegin 48 = .ok (.bipush 64, 2) := dec_of da_X12_macBegin_0 (k := 26) rfl
theorem dX12_macBegin_50 : decode cX12_macBegin 50 = .ok (.if_icmp .ge 23, 3) := dec_of da_X12_macBegin_0 (k := 27) rfl
theorem dX12_macBegin_53 : decode cX12_macBegin 53 = .ok (.aload_n 0, 1) := dec_of da_X12_macBegin_0 (k := 28) rfl
theorem dX12_macBegin_54 : decode cX12_macBegin 54 = .ok (.aload_n 0, 1) := dec_of da_X12_macBegin_0 (k := 29) rfl
theorem dX12_macBegin_55 : decode cX12_macBegin 55 = .ok (.getfield 22, 3) := dec_of da_X12_macBegin_0 (k := 30) rfl
theorem dX12_macBegin_58 : decode cX12_macBegin 58 = .ok (.iload 4, 2) := dec_of da_X12_macBegin_0 (k := 31) rfl
theorem dX12_macBegin_60 : decode cX12_macBegin 60 = .ok (.iaload, 1) := dec_of da_X12_macBegin_0 (k := 32) rfl
theorem dX12_macBegin_61 : decode cX12_macBegin 61 = .ok (.bipush 54, 2) := dec_of da_X12_macBegin_0 (k := 33) rfl
theorem dX12_macBegin_63 : decode cX12_macBegin 63 = .ok (.ixor, 1) := dec_of da_X12_macBegin_0 (k := 34) rfl
theorem dX12_macBegin_64 : decode cX12_macBegin 64 = .ok (.invokevirtual 312, 3) := dec_of da_X12_macBegin_0 (k := 35) rfl
theorem dX12_macBegin_67 : decode cX12_macBegin 67 = .ok (.iinc 4 1, 3) := dec_of da_X12_macBegin_0 (k := 36) rfl
theorem dX12_macBegin_70 : decode cX12_macBegin 70 = .ok (.goto (-24), 3) := dec_of da_X12_macBegin_0 (k := 37) rfl
theorem dX12_macBegin_73 : decode cX12_macBegin 73 = .ok (.return_, 1) := dec_of da_X12_macBegin_0 (k := 38) rfl
def dl_X12_macEnd_0 : List (Nat × (Instr × Nat)) := [(0, (.aload_n 0, 1)), (1, (.invokevirtual 319, 3)), (4, (.iconst 0, 1)), (5, (.istore_n 1, 1)), (6, (.iload_n 1, 1)), (7, (.bipush 20, 2)), (9, (.if_icmp .ge 21, 3)), (12, (.aload_n 0, 1)), (13, (.getfield 25, 3)), (16, (.iload_n 1, 1)), (17, (.aload_n 0, 1)), (18, (.getfield 19, 3)), (21, (.iload_n 1, 1)), (22, (.iaload, 1)), (23, (.iastore, 1)), (24, (.iinc 1 1, 3)), (27, (.goto (-21), 3)), (30, (.aload_n 0, 1)), (31, (.invokevirtual 316, 3)), (34, (.iconst 0, 1)), (35, (.istore_n 1, 1)), (36, (.iload_n 1, 1)), (37, (.bipush 64, 2)), (39, (.if_icmp .ge 22, 3)), (42, (.aload_n 0, 1)), (43, (.aload_n 0, 1)), (44, (.getfield 22, 3)), (47, (.iload_n 1, 1)), (48, (.iaload, 1)), (49, (.bipush 92, 2)), (51, (.ixor, 1)), (52, (.invokevirtual 312, 3)), (55, (.iinc 1 1, 3)), (58, (.goto (-22), 3)), (61, (.iconst 0, 1)), (62, (.istore_n 1, 1)), (63, (.iload_n 1, 1)), (64, (.bipush 20, 2)), (66, (.if_icmp .ge 19, 3)), (69, (.aload_n 0, 1)), (70, (.aload_n 0, 1)), (71, (.getfield 25, 3)), (74, (.iload_n 1, 1)), (75, (.iaload, 1)), (76, (.invokevirtual 312, 3)), (79, (.iinc 1 1, 3)), (82, (.goto (-19), 3)), (85, (.aload_n 0, 1)), (86, (.invokevirtual 319, 3)), (89, (.return_, 1))]
set_option maxRecDepth 100000 in
theorem da_X12_macEnd_0 : dl_X12_macEnd_0.all (fun q => decide (decode cX12_macEnd q.1 = .ok q.2)) = true := by decide +kernel
theorem dX12_macEnd_0 : decode cX12_macEnd 0 = .ok (.aload_n 0, 1) := dec_of da_X12_macEnd_0 (k := 0) rfl
theorem dX12_macEnd_1 : decode cX12_macEnd 1 = .ok (.invokevirtual 319, 3) := dec_of da_X12_macEnd_0 (k := 1) rfl
theorem dX12_macEnd_4 : decode cX12_macEnd 4 = .ok (.iconst 0, 1) := dec_of da_X12_macEnd_0 (k := 2) rfl
theorem dX12_macEnd_5 : decode cX12_macEnd 5 = .ok (.istore_n 1, 1) := dec_of da_X12_macEnd_0 (k := 3) rfl
theorem dX12_macEnd_6 : decode cX12_macEnd 6 = .ok (.iload_n 1, 1) := dec_of da_X12_macEnd_0 (k := 4) rfl
theorem dX12_macEnd_7 : decode cX12_macEnd 7 = .ok (.bipush 20, 2) := dec_of da_X12_macEnd_0 (k := 5) rfl
theorem dX12_macEnd_9 : decode cX12_macEnd 9 = .ok (.if_icmp .ge 21, 3) := dec_of da_X12_macEnd_0 (k := 6) rfl
theorem dX12_macEnd_12 : decode cX12_macEnd 12 = .ok (.aload_n 0, 1) := dec_of da_X12_macEnd_0 (k := 7) rfl
theorem dX12_macEnd_13 : decode cX12_macEnd 13 = .ok (.getfield 25, 3) := dec_of da_X12_macEnd_0 (k := 8) rfl
theorem dX12_macEnd_16 : decode cX12_macEnd 16 = .ok (.iload_n 1, 1) := dec_of da_X12_macEnd_0 (k := 9) rfl
theorem dX12_macEnd_17 : decode cX12_macEnd 17 = .ok (.aload_n 0, 1) := dec_of da_X12_macEnd_0 (k := 10) rfl
theorem dX12_macEnd_18 : decode cX12_macEnd 18 = .ok (.getfield 19, 3) := dec_of da_X12_macEnd_0 (k := 11) rfl
theorem dX12_macEnd_21 : decode cX12_macEnd 21 = .ok (.iload_n 1, 1) := dec_of da_X12_macEnd_0 (k := 12) rfl
theorem dX12_macEnd_22 : decode cX12_macEnd 22 = .ok (.iaload, 1) := dec_of da_X12_macEnd_0 (k := 13) rfl
theorem dX12_macEnd_23 : decode cX12_macEnd 23 = .ok (.iastore, 1) := dec_of da_X12_macEnd_0 (k := 14) rfl
theorem dX12_macEnd_24 : decode cX12_macEnd 24 = .ok (.iinc 1 1, 3) := dec_of da_X12_macEnd_0 (k := 15) rfl
theorem dX12_macEnd_27 : decode cX12_macEnd 27 = .ok (.goto (-21), 3) := dec_of da_X12_macEnd_0 (k := 16) rfl
theorem dX12_macEnd_30 : decode cX12_macEnd 30 = .ok (.aload_n 0, 1) := dec_of da_X12_macEnd_0 (k := 17) rfl
theorem dX12_macEnd_31 : decode cX12_macEnd 31 = .ok (.invokevirtual 316, 3) := dec_of da_X12_macEnd_0 (k := 18) rfl
theorem dX12_macEnd_34 : decode cX12_macEnd 34 = .ok (.iconst 0, 1) := dec_of da_X12_macEnd_0 (k := 19) rfl
theorem dX12_macEnd_35 : decode cX12_macEnd 35 = .ok (.istore_n 1, 1) := dec_of da_X12_macEnd_0 (k := 20) rfl
theorem dX12_macEnd_36 : decode cX12_macEnd 36 = .ok (.iload_n 1, 1) := dec_of da_X12_macEnd_0 (k := 21) rfl
theorem dX12_macEnd_37 : decode cX12_macEnd 37 = .ok (.bipush 64, 2) := dec_of da_X12_macEnd_0 (k := 22) rfl
theorem dX12_macEnd_39 : decode cX12_macEnd 39 = .ok (.if_icmp .ge 22, 3) := dec_of da_X12_macEnd_0 (k := 23) rfl
theorem dX12_macEnd_42 : decode cX12_macEnd 42 = .ok (.aload_n 0, 1) := dec_of da_X12_macEnd_0 (k := 24) rfl
theorem dX12_macEnd_43 : decode cX12_macEnd 43 = .ok (.aload_n 0, 1) := dec_of da_X12_macEnd_0 (k := 25) rfl
theorem dX12_macEnd_44 : decode cX12_macEnd 44 = .ok (.getfield 22, 3) := dec_of da_X12_macEnd_0 (k := 26) rfl
theorem dX12_macEnd_47 : decode cX12_macEnd 47 = .ok (.iload_n 1, 1) := dec_of da_X12_macEnd_0 (k := 27) rfl
theorem dX12_macEnd_48 : decode cX12_macEnd 48 = .ok (.iaload, 1) := dec_of da_X12_macEnd_0 (k := 28) rfl
theorem dX12_macEnd_49 : decode cX12_macEnd 49 = .ok (.bipush 92, 2) := dec_of da_X12_macEnd_0 (k := 29) rfl
theorem dX12_macEnd_51 : decode cX12_macEnd 51 = .ok (.ixor, 1) := dec_of da_X12_macEnd_0 (k := 30) rfl
theorem dX12_macEnd_52 : decode cX12_macEnd 52 = .ok (.invokevirtual 312, 3) := dec_of da_X12_macEnd_0 (k := 31) rfl
theorem dX12_macEnd_55 : decode cX12_macEnd 55 = .ok (.iinc 1 1, 3) := dec_of da_X12_macEnd_0 (k := 32) rfl
theorem dX12_macEnd_58 : decode cX12_macEnd 58 = .ok (.goto (-22), 3) := dec_of da_X12_macEnd_0 (k := 33) rfl
theorem dX12_macEnd_61 : decode cX12_macEnd 61 = .ok (.iconst 0, 1) := dec_of da_X12_macEnd_0 (k := 34) rfl
theorem dX12_macEnd_62 : decode cX12_macEnd 62 = .ok (.istore_n 1, 1) := dec_of da_X12_macEnd_0 (k := 35) rfl
theorem dX12_macEnd_63 : decode cX12_macEnd 63 = .ok (.iload_n 1, 1) := dec_of da_X12_macEnd_0 (k := 36) rfl
theorem dX12_macEnd_64 : decode cX12_macEnd 64 = .ok (.bipush 20, 2) := dec_of da_X12_macEnd_0 (k := 37) rfl
theorem dX12_macEnd_66 : decode cX12_macEnd 66 = .ok (.if_icmp .ge 19, 3) := dec_of da_X12_macEnd_0 (k := 38) rfl
theorem dX12_macEnd_69 : decode cX12_macEnd 69 = .ok (.aload_n 0, 1) := dec_of da_X12_macEnd_0 (k := 39) rfl
theorem dX12_macEnd_70 : decode cX12_macEnd 70 = .ok (.aload_n 0, 1) := dec_of da_X12_macEnd_0 (k := 40) rfl
theorem dX12_macEnd_71 : decode cX12_macEnd 71 = .ok (.getfield 25, 3) := dec_of da_X12_macEnd_0 (k := 41) rfl
theorem dX12_macEnd_74 : decode cX12_macEnd 74 = .ok (.iload_n 1, 1) := dec_of da_X12_macEnd_0 (k := 42) rfl
theorem dX12_macEnd_75 : decode cX12_macEnd 75 = .ok (.iaload, 1) := dec_of da_X12_macEnd_0 (k := 43) rfl
theorem dX12_macEnd_76 : decode cX12_macEnd 76 = .ok (.invokevirtual 312, 3) := dec_of da_X12_macEnd_0 (k := 44) rfl
theorem dX12_macEnd_79 : decode cX12_macEnd 79 = .ok (.iinc 1 1, 3) := dec_of da_X12_macEnd_0 (k := 45) rfl
theorem dX12_macEnd_82 : decode cX12_macEnd 82 = .ok (.goto (-19), 3) := dec_of da_X12_macEnd_0 (k := 46) rfl
theorem dX12_macEnd_85 : decode cX12_macEnd 85 = .ok (.aload_n 0, 1) := dec_of da_X12_macEnd_0 (k := 47) rfl
theorem dX12_macEnd_86 : decode cX12_macEnd 86 = .ok (.invokevirtual 319, 3) := dec_of da_X12_macEnd_0 (k := 48) rfl
theorem dX12_macEnd_89 : decode cX12_macEnd 89 = .ok (.return_, 1) := dec_of da_X12_macEnd_0 (k := 49) rfl
def dl_X12_twice_0 : List (Nat × (Instr × Nat)) := [(0, (.iload_n 0, 1)), (1, (.iconst 1, 1)), (2, (.ishl, 1)), (3, (.istore_n 1, 1)), (4, (.iload_n 1, 1)), (5, (.sipush 255, 3)), (8, (.if_icmp .le 11, 3)), (11, (.iload_n 1, 1)), (12, (.sipush 283, 3)), (15, (.ixor, 1)), (16, (.goto 4, 3)), (19, (.iload_n 1, 1)), (20, (.ireturn, 1))]
set_option maxRecDepth 100000 in
theorem da_X12_twice_0 : dl_X12_twice_0.all (fun q => decide (decode cX12_twice q.1 = .ok q.2)) = true := by decide +kernel
theorem dX12_twice_0 : decode cX12_twice 0 = .ok (.iload_n 0, 1) := dec_of da_X12_twice_0 (k := 0) rfl
theorem dX12_twice_1 : decode cX12_twice 1 = .ok (.iconst 1, 1) := dec_of da_X12_twice_0 (k := 1) rfl
theorem dX12_twice_2 : decode cX12_twice 2 = .ok (.ishl, 1) := dec_of da_X12_twice_0 (k := 2) rfl
theorem dX12_twice_3 : decode cX12_twice 3 = .ok (.istore_n 1, 1) := dec_of da_X12_twice_0 (k := 3) rfl
theorem dX12_twice_4 : decode cX12_twice 4 = .ok (.iload_n 1, 1) := dec_of da_X12_twice_0 (k := 4) rfl
theorem dX12_twice_5 : decode cX12_twice 5 = .ok (.sipush 255, 3) := dec_of da_X12_twice_0 (k := 5) rfl
theorem dX12_twice_8 : decode cX12_twice 8 = .ok (.if_icmp .le 11, 3) := dec_of da_X12_twice_0 (k := 6) rfl
theorem dX12_twice_11 : decode cX12_twice 11 = .ok (.iload_n 1, 1) := dec_of da_X12_twice_0 (k := 7) rfl
theorem dX12_twice_12 : decode cX12_twice 12 = .ok (.sipush 283, 3) := dec_of da_X12_twice_0 (k := 8) rfl
theorem dX12_twice_15 : decode cX12_twice 15 = .ok (.ixor, 1) := dec_of da_X12_twice_0 (k := 9) rfl
theorem dX12_twice_16 : decode cX12_twice 16 = .ok (.goto 4, 3) := dec_of da_X12_twice_0 (k := 10) rfl
theorem dX12_twice_19 : decode cX12_twice 19 = .ok (.iload_n 1, 1) := dec_of da_X12_twice_0 (k := 11) rfl
theorem dX12_twice_20 : decode cX12_twice 20 = .ok (.ireturn, 1) := dec_of da_X12_twice_0 (k := 12) rfl
def dl_X12_product_0 : List (Nat × (Instr × Nat)) := [(0, (.iconst 0, 1)), (1, (.istore_n 2, 1)), (2, (.iload_n 0, 1)), (3, (.istore_n 3, 1)), (4, (.iconst 0, 1)), (5, (.istore 4, 2)), (7, (.iload 4, 2)), (9, (.bipush 8, 2)), (11, (.if_icmp .ge 32, 3)), (14, (.iload_n 1, 1)), (15, (.iload 4, 2)), (17, (.ishr, 1)), (18, (.iconst 1, 1)), (19, (.iand, 1)), (20, (.iconst 1, 1)), (21, (.if_icmp .ne 9, 3)), (24, (.iload_n 2, 1)), (25, (.iload_n 3, 1)), (26, (.ixor, 1)), (27, (.goto 4, 3)), (30, (.iload_n 2, 1)), (31, (.istore_n 2, 1)), (32, (.iload_n 3, 1)), (33, (.invokestatic 322, 3)), (36, (.istore_n 3, 1)), (37, (.iinc 4 1, 3)), (40, (.goto (-33), 3)), (43, (.iload_n 2, 1)), (44, (.ireturn, 1))]
set_option maxRecDepth 100000 in
theorem da_X12_product_0 : dl_X12_product_0.all (fun q => decide (decode cX12_product q.1 = .ok q.2)) = true := by decide +kernel
theorem dX12_product_0 : decode cX12_product 0 = .ok (.iconst 0, 1) := dec_of da_X12_product_0 (k := 0) rfl
theorem dX12_product_1 : decode cX12_product 1 = .ok (.istore_n 2, 1) := dec_of da_X12_product_0 (k := 1) rfl
theorem dX12_product_2 : decode cX12_product 2 = .ok (.iload_n 0, 1) := dec_of da_X12_product_0 (k := 2) rfl
theorem dX12_product_3 : decode cX12_product 3 = .ok (.istore_n 3, 1) := dec_of da_X12_product_0 (k := 3) rfl
theorem dX12_product_4 : decode cX12_product 4 = .ok (.iconst 0, 1) := dec_of da_X12_product_0 (k := 4) rfl
theorem dX12_product_5 : decode cX12_product 5 = .ok (.istore 4, 2) := dec_of da_X12_product_0 (k := 5) rfl
theorem dX12_product_7 : decode cX12_product 7 = .ok (.iload 4, 2) := dec_of da_X12_product_0 (k := 6) rfl
theorem dX12_product_9 : decode cX12_product 9 = .ok (.bipush 8, 2) := dec_of da_X12_product_0 (k := 7) rfl
theorem dX12_product_11 : decode cX12_product 11 = .ok (.if_icmp .ge 32, 3) := dec_of da_X12_product_0 (k := 8) rfl
theorem dX12_product_14 : decode cX12_product 14 = .ok (.iload_n 1, 1) := dec_of da_X12_product_0 (k := 9) rfl
theorem dX12_product_15 : decode cX12_product 15 = .ok (.iload 4, 2) := dec_of da_X12_product_0 (k := 10) rfl
theorem dX12_product_17 : decode cX12_product 17 = .ok (.ishr, 1) := dec_of da_X12_product_0 (k := 11) rfl
theorem dX12_product_18 : decode cX12_product 18 = .ok (.iconst 1, 1) := dec_of da_X12_product_0 (k := 12) rfl
theorem dX12_product_19 : decode cX12_product 19 = .ok (.iand, 1) := dec_of da_X12_product_0 (k := 13) rfl
theorem dX12_product_20 : decode cX12_product 20 = .ok (.iconst 1, 1) := dec_of da_X12_product_0 (k := 14) rfl
theorem dX12_product_21 : decode cX12_product 21 = .ok (.if_icmp .ne 9, 3) := dec_of da_X12_product_0 (k := 15) rfl
theorem dX12_product_24 : decode cX12_product 24 = .ok (.iload_n 2, 1) := dec_of da_X12_product_0 (k := 16) rfl
theorem dX12_product_25 : decode cX12_product 25 = .ok (.iload_n 3, 1) := dec_of da_X12_product_0 (k := 17) rfl
theorem dX12_product_26 : decode cX12_product 26 = .ok (.ixor, 1) := dec_of da_X12_product_0 (k := 18) rfl
theorem dX12_product_27 : decode cX12_product 27 = .ok (.goto 4, 3) := dec_of da_X12_product_0 (k := 19) rfl
theorem dX12_product_30 : decode cX12_product 30 = .ok (.iload_n 2, 1) := dec_of da_X12_product_0 (k := 20) rfl
theorem dX12_product_31 : decode cX12_product 31 = .ok (.istore_n 2, 1) := dec_of da_X12_product_0 (k := 21) rfl
theorem dX12_product_32 : decode cX12_product 32 = .ok (.iload_n 3, 1) := dec_of da_X12_product_0 (k := 22) rfl
theorem dX12_product_33 : decode cX12_product 33 = .ok (.invokestatic 322, 3) := dec_of da_X12_product_0 (k := 23) rfl
theorem dX12_product_36 : decode cX12_product 36 = .ok (.istore_n 3, 1) := dec_of da_X12_product_0 (k := 24) rfl
theorem dX12_product_37 : decode cX12_product 37 = .ok (.iinc 4 1, 3) := dec_of da_X12_product_0 (k := 25) rfl
theorem dX12_product_40 : decode cX12_product 40 = .ok (.goto (-33), 3) := dec_of da_X12_product_0 (k := 26) rfl
theorem dX12_product_43 : decode cX12_product 43 = .ok (.iload_n 2, 1) := dec_of da_X12_product_0 (k := 27) rfl
theorem dX12_product_44 : decode cX12_product 44 = .ok (.ireturn, 1) := dec_of da_X12_product_0 (k := 28) rfl
def dl_X12_turn_0 : List (Nat × (Instr × Nat)) := [(0, (.iload_n 0, 1)), (1, (.iload_n 1, 1)), (2, (.ishl, 1)), (3, (.iload_n 0, 1)), (4, (.bipush 8, 2)), (6, (.iload_n 1, 1)), (7, (.isub, 1)), (8, (.ishr, 1)), (9, (.ior, 1)), (10, (.sipush 255, 3)), (13, (.iand, 1)), (14, (.ireturn, 1))]
set_option maxRecDepth 100000 in
theorem da_X12_turn_0 : dl_X12_turn_0.all (fun q => decide (decode cX12_turn q.1 = .ok q.2)) = true := by decide +kernel
theorem dX12_turn_0 : decode cX12_turn 0 = .ok (.iload_n 0, 1) := dec_of da_X12_turn_0 (k := 0) rfl
theorem dX12_turn_1 : decode cX12_turn 1 = .ok (.iload_n 1, 1) := dec_of da_X12_turn_0 (k := 1) rfl
theorem dX12_turn_2 : decode cX12_turn 2 = .ok (.ishl, 1) := dec_of da_X12_turn_0 (k := 2) rfl
theorem dX12_turn_3 : decode cX12_turn 3 = .ok (.iload_n 0, 1) := dec_of da_X12_turn_0 (k := 3) rfl
theorem dX12_turn_4 : decode cX12_turn 4 = .ok (.bipush 8, 2) := dec_of da_X12_turn_0 (k := 4) rfl
theorem dX12_turn_6 : decode cX12_turn 6 = .ok (.iload_n 1, 1) := dec_of da_X12_turn_0 (k := 5) rfl
theorem dX12_turn_7 : decode cX12_turn 7 = .ok (.isub, 1) := dec_of da_X12_turn_0 (k := 6) rfl
theorem dX12_turn_8 : decode cX12_turn 8 = .ok (.ishr, 1) := dec_of da_X12_turn_0 (k := 7) rfl
theorem dX12_turn_9 : decode cX12_turn 9 = .ok (.ior, 1) := dec_of da_X12_turn_0 (k := 8) rfl
theorem dX12_turn_10 : decode cX12_turn 10 = .ok (.sipush 255, 3) := dec_of da_X12_turn_0 (k := 9) rfl
theorem dX12_turn_13 : decode cX12_turn 13 = .ok (.iand, 1) := dec_of da_X12_turn_0 (k := 10) rfl
theorem dX12_turn_14 : decode cX12_turn 14 = .ok (.ireturn, 1) := dec_of da_X12_turn_0 (k := 11) rfl
def dl_X12_findBoxes_0 : List (Nat × (Instr × Nat)) := [(0, (.iconst 0, 1)), (1, (.istore_n 1, 1)), (2, (.iload_n 1, 1)), (3, (.sipush 256, 3)), (6, (.if_icmp .ge 75, 3)), (9, (.iconst 0, 1)), (10, (.istore_n 2, 1)), (11, (.iconst 1, 1)), (12, (.istore_n 3, 1)), (13, (.iload_n 3, 1)), (14, (.sipush 256, 3)), (17, (.if_icmp .ge 24, 3)), (20, (.iload_n 1, 1)), (21, (.iload_n 3, 1)), (22, (.invokestatic 326, 3)), (25, (.iconst 1, 1)), (26, (.if_icmp .ne 7, 3)), (29, (.iload_n 3, 1)), (30, (.goto 4, 3)), (33, (.iload_n 2, 1)), (34, (.istore_n 2, 1)), (35, (.iinc 3 1, 3)), (38, (.goto (-25), 3)), (41, (.aload_n 0, 1)), (42, (.getfield 28, 3)), (45, (.iload_n 1, 1)), (46, (.iload_n 2, 1)), (47, (.iload_n 2, 1)), (48, (.iconst 1, 1)), (49, (.invokestatic 329, 3)), (52, (.ixor, 1)), (53, (.iload_n 2, 1)), (54, (.iconst 2, 1)), (55, (.invokestatic 329, 3)), (58, (.ixor, 1)), (59, (.iload_n 2, 1)), (60, (.iconst 3, 1)), (61, (.invokestatic 329, 3)), (64, (.ixor, 1)), (65, (.iload_n 2, 1)), (66, (.iconst 4, 1)), (67, (.invokestatic 329, 3)), (70, (.ixor, 1)), (71, (.bipush 99, 2)), (73, (.ixor, 1)), (74, (.iastore, 1)), (75, (.iinc 1 1, 3)), (78, (.goto (-76), 3)), (81, (.return_, 1))]
set_option maxRecDepth 100000 in
theorem da_X12_findBoxes_0 : dl_X12_findBoxes_0.all (fun q => decide (decode cX12_findBoxes q.1 = .ok q.2)) = true := by decide +kernel
theorem dX12_findBoxes_0 : decode cX12_findBoxes 0 = .ok (.iconst 0, 1) := dec_of da_X12_findBoxes_0 (k := 0) rfl
theorem dX12_findBoxes_1 : decode cX12_findBoxes 1 = .ok (.istore_n 1, 1) := dec_of da_X12_findBoxes_0 (k := 1) rfl
theorem dX12_findBoxes_2 : decode cX12_findBoxes 2 = .ok (.iload_n 1, 1) := dec_of da_X12_findBoxes_0 (k := 2) rfl
theorem dX12_findBoxes_3 : decode cX12_findBoxes 3 = .ok (.sipush 256, 3) := dec_of da_X12_findBoxes_0 (k := 3) rfl
theorem dX12_findBoxes_6 : decode cX12_findBoxes 6 = .ok (.if_icmp .ge 75, 3) := dec_of da_X12_findBoxes_0 (k := 4) rfl
theorem dX12_findBoxes_9 : decode cX12_findBoxes 9 = .ok (.iconst 0, 1) := dec_of da_X12_findBoxes_0 (k := 5) rfl
theorem dX12_findBoxes_10 : decode cX12_findBoxes 10 = .ok (.istore_n 2, 1) := dec_of da_X12_findBoxes_0 (k := 6) rfl
theorem dX12_findBoxes_11 : decode cX12_findBoxes 11 = .ok (.iconst 1, 1) := dec_of da_X12_findBoxes_0 (k := 7) rfl
theorem dX12_findBoxes_12 : decode cX12_findBoxes 12 = .ok (.istore_n 3, 1) := dec_of da_X12_findBoxes_0 (k := 8) rfl
theorem dX12_findBoxes_13 : decode cX12_findBoxes 13 = .ok (.iload_n 3, 1) := dec_of da_X12_findBoxes_0 (k := 9) rfl
theorem dX12_findBoxes_14 : decode cX12_findBoxes 14 = .ok (.sipush 256, 3) := dec_of da_X12_findBoxes_0 (k := 10) rfl
theorem dX12_findBoxes_17 : decode cX12_findBoxes 17 = .ok (.if_icmp .ge 24, 3) := dec_of da_X12_findBoxes_0 (k := 11) rfl
theorem dX12_findBoxes_20 : decode cX12_findBoxes 20 = .ok (.iload_n 1, 1) := dec_of da_X12_findBoxes_0 (k := 12) rfl
theorem dX12_findBoxes_21 : decode cX12_findBoxes 21 = .ok (.iload_n 3, 1) := dec_of da_X12_findBoxes_0 (k := 13) rfl
theorem dX12_findBoxes_22 : decode cX12_findBoxes 22 = .ok (.invokestatic 326, 3) := dec_of da_X12_findBoxes_0 (k := 14) rfl
theorem dX12_findBoxes_25 : decode cX12_findBoxes 25 = .ok (.iconst 1, 1) := dec_of da_X12_findBoxes_0 (k := 15) rfl
theorem dX12_findBoxes_26 : decode cX12_findBoxes 26 = .ok (.if_icmp .ne 7, 3) := dec_of da_X12_findBoxes_0 (k := 16) rfl
theorem dX12_findBoxes_29 : decode cX12_findBoxes 29 = .ok (.iload_n 3, 1) := dec_of da_X12_findBoxes_0 (k := 17) rfl
theorem dX12_findBoxes_30 : decode cX12_findBoxes 30 = .ok (.goto 4, 3) := dec_of da_X12_findBoxes_0 (k := 18) rfl
theorem dX12_findBoxes_33 : decode cX12_findBoxes 33 = .ok (.iload_n 2, 1) := dec_of da_X12_findBoxes_0 (k := 19) rfl
theorem dX12_findBoxes_34 : decode cX12_findBoxes 34 = .ok (.istore_n 2, 1) := dec_of da_X12_findBoxes_0 (k := 20) rfl
theorem dX12_findBoxes_35 : decode cX12_findBoxes 35 = .ok (.iinc 3 1, 3) := dec_of da_X12_findBoxes_0 (k := 21) rfl
theorem dX12_findBoxes_38 : decode cX12_findBoxes 38 = .ok (.goto (-25), 3) := dec_of da_X12_findBoxes_0 (k := 22) rfl
theorem dX12_findBoxes_41 : decode cX12_findBoxes 41 = .ok (.aload_n 0, 1) := dec_of da_X12_findBoxes_0 (k := 23) rfl
theorem dX12_findBoxes_42 : decode cX12_findBoxes 42 = .ok (.getfield 28, 3) := dec_of da_X12_findBoxes_0 (k := 24) rfl
theorem dX12_findBoxes_45 : decode cX12_findBoxes 45 = .ok (.iload_n 1, 1) := dec_of da_X12_findBoxes_0 (k := 25) rfl
theorem dX12_findBoxes_46 : decode cX12_findBoxes 46 = .ok (.iload_n 2, 1) := dec_of da_X12_findBoxes_0 (k := 26) rfl
theorem dX12_findBoxes_47 : decode cX12_findBoxes 47 = .ok (.iload_n 2, 1) := dec_of da_X12_findBoxes_0 (k := 27) rfl
theorem dX12_findBoxes_48 : decode cX12_findBoxes 48 = .ok (.iconst 1, 1) := dec_of da_X12_findBoxes_0 (k := 28) rfl
theorem dX12_findBoxes_49 : decode cX12_findBoxes 49 = .ok (.invokestatic 329, 3) := dec_of da_X12_findBoxes_0 (k := 29) rfl
theorem dX12_findBoxes_52 : decode cX12_findBoxes 52 = .ok (.ixor, 1) := dec_of da_X12_findBoxes_0 (k := 30) rfl
theorem dX12_findBoxes_53 : decode cX12_findBoxes 53 = .ok (.iload_n 2, 1) := dec_of da_X12_findBoxes_0 (k := 31) rfl
theorem dX12_findBoxes_54 : decode cX12_findBoxes 54 = .ok (.iconst 2, 1) := dec_of da_X12_findBoxes_0 (k := 32) rfl
theorem dX12_findBoxes_55 : decode cX12_findBoxes 55 = .ok (.invokestatic 329, 3) := dec_of da_X12_findBoxes_0 (k := 33) rfl
theorem dX12_findBoxes_58 : decode cX12_findBoxes 58 = .ok (.ixor, 1) := dec_of da_X12_findBoxes_0 (k := 34) rfl
theorem dX12_findBoxes_59 : decode cX12_findBoxes 59 = .ok (.iload_n 2, 1) := dec_of da_X12_findBoxes_0 (k := 35) rfl
theorem dX12_findBoxes_60 : decode cX12_findBoxes 60 = .ok (.iconst 3, 1) := dec_of da_X12_findBoxes_0 (k := 36) rfl
theorem dX12_findBoxes_61 : decode cX12_findBoxes 61 = .ok (.invokestatic 329, 3) := dec_of da_X12_findBoxes_0 (k := 37) rfl
theorem dX12_findBoxes_64 : decode cX12_findBoxes 64 = .ok (.ixor, 1) := dec_of da_X12_findBoxes_0 (k := 38) rfl
theorem dX12_findBoxes_65 : decode cX12_findBoxes 65 = .ok (.iload_n 2, 1) := dec_of da_X12_findBoxes_0 (k := 39) rfl
theorem dX12_findBoxes_66 : decode cX12_findBoxes 66 = .ok (.iconst 4, 1) := dec_of da_X12_findBoxes_0 (k := 40) rfl
theorem dX12_findBoxes_67 : decode cX12_findBoxes 67 = .ok (.invokestatic 329, 3) := dec_of da_X12_findBoxes_0 (k := 41) rfl
theorem dX12_findBoxes_70 : decode cX12_findBoxes 70 = .ok (.ixor, 1) := dec_of da_X12_findBoxes_0 (k := 42) rfl
theorem dX12_findBoxes_71 : decode cX12_findBoxes 71 = .ok (.bipush 99, 2) := dec_of da_X12_findBoxes_0 (k := 43) rfl
theorem dX12_findBoxes_73 : decode cX12_findBoxes 73 = .ok (.ixor, 1) := dec_of da_X12_findBoxes_0 (k := 44) rfl
theorem dX12_findBoxes_74 : decode cX12_findBoxes 74 = .ok (.iastore, 1) := dec_of da_X12_findBoxes_0 (k := 45) rfl
theorem dX12_findBoxes_75 : decode cX12_findBoxes 75 = .ok (.iinc 1 1, 3) := dec_of da_X12_findBoxes_0 (k := 46) rfl
theorem dX12_findBoxes_78 : decode cX12_findBoxes 78 = .ok (.goto (-76), 3) := dec_of da_X12_findBoxes_0 (k := 47) rfl
theorem dX12_findBoxes_81 : decode cX12_findBoxes 81 = .ok (.return_, 1) := dec_of da_X12_findBoxes_0 (k := 48) rfl
def dl_X12_expand_0 : List (Nat × (Instr × Nat)) := [(0, (.iconst 0, 1)), (1, (.istore_n 3, 1)), (2, (.iload_n 3, 1)), (3, (.bipush 16, 2)), (5, (.if_icmp .ge 20, 3)), (8, (.aload_n 0, 1)), (9, (.getfield 31, 3)), (12, (.iload_n 3, 1)), (13, (.aload_n 1, 1)), (14, (.iload_n 2, 1)), (15, (.iload_n 3, 1)), (16, (.iadd, 1)), (17, (.iaload, 1)), (18, (.iastore, 1)), (19, (.iinc 3 1, 3)), (22, (.goto (-20), 3)), (25, (.iconst 1, 1)), (26, (.istore_n 3, 1)), (27, (.bipush 16, 2)), (29, (.istore 4, 2)), (31, (.iload 4, 2)), (33, (.sipush 176, 3)), (36, (.if_icmp .ge 138, 3)), (39, (.iload 4, 2)), (41, (.bipush 16, 2)), (43, (.irem, 1)), (44, (.ifCond .ne 7, 3)), (47, (.iconst 1, 1)), (48, (.goto 4, 3)), (51, (.iconst 0, 1)), (52, (.istore 5, 2)), (54, (.iconst 0, 1)), (55, (.istore 6, 2)), (57, (.iload 6, 2)), (59, (.iconst 4, 1)), (60, (.if_icmp .ge 94, 3)), (63, (.iload 5, 2)), (65, (.ifCond .eq 27, 3)), (68, (.aload_n 0, 1)), (69, (.getfield 28, 3)), (72, (.aload_n 0, 1)), (73, (.getfield 31, 3)), (76, (.iload 4, 2)), (78, (.iconst 4, 1)), (79, (.isub, 1)), (80, (.iload 6, 2)), (82, (.iconst 1, 1)), (83, (.iadd, 1)), (84, (.iconst 4, 1)), (85, (.irem, 1)), (86, (.iadd, 1)), (87, (.iaload, 1)), (88, (.iaload, 1)), (89, (.goto 15, 3)), (92, (.aload_n 0, 1)), (93, (.getfield 31, 3)), (96, (.iload 4, 2)), (98, (.iconst 4, 1)), (99, (.isub, 1)), (100, (.iload 6, 2))]
set_option maxRecDepth 100000 in
theorem da_X12_expand_0 : dl_X12_expand_0.all (fun q => decide (decode cX12_expand q.1 = .ok q.2)) = true := by decide +kernel
theorem dX12_expand_0 : decode cX12_expand 0 = .ok (.iconst 0, 1) := dec_of da_X12_expand_0 (k := 0) rfl
theorem dX12_expand_1 : decode cX12_expand 1 = .ok (.istore_n 3, 1) := dec_of da_X12_expand_0 (k := 1) rfl
theorem dX12_expand_2 : decode cX12_expand 2 = .ok (.iload_n 3, 1) := dec_of da_X12_expand_0 (k := 2) rfl
theorem dX12_expand_3 : decode cX12_expand 3 = .ok (.bipush 16, 2) := dec_of da_X12_expand_0 (k := 3) rfl
theorem dX12_expand_5 : decode cX12_expand 5 = .ok (.if_icmp .ge 20, 3) := dec_of da_X12_expand_0 (k := 4) rfl
theorem dX12_expand_8 : decode cX12_expand 8 = .ok (.aload_n 0, 1) := dec_of da_X12_expand_0 (k := 5) rfl
theorem dX12_expand_9 : decode cX12_expand 9 = .ok (.getfield 31, 3) := dec_of da_X12_expand_0 (k := 6) rfl
theorem dX12_expand_12 : decode cX12_expand 12 = .ok (.iload_n 3, 1) := dec_of da_X12_expand_0 (k := 7) rfl
theorem dX12_expand_13 : decode cX12_expand 13 = .ok (.aload_n 1, 1) := dec_of da_X12_expand_0 (k := 8) rfl
theorem dX12_expand_14 : decode cX12_expand 14 = .ok (.iload_n 2, 1) := dec_of da_X12_expand_0 (k := 9) rfl
theorem dX12_expand_15 : decode cX12_expand 15 = .ok (.iload_n 3, 1) := dec_of da_X12_expand_0 (k := 10) rfl
theorem dX12_expand_16 : decode cX12_expand 16 = .ok (.iadd, 1) := dec_of da_X12_expand_0 (k := 11) rfl
theorem dX12_expand_17 : decode cX12_expand 17 = .ok (.iaload, 1) := dec_of da_X12_expand_0 (k := 12) rfl
theorem dX12_expand_18 : decode cX12_expand 18 = .ok (.iastore, 1) := dec_of da_X12_expand_0 (k := 13) rfl
theorem dX12_expand_19 : decode cX12_expand 19 = .ok (.iinc 3 1, 3) := dec_of da_X12_expand_0 (k := 14) rfl
theorem dX12_expand_22 : decode cX12_expand 22 = .ok (.goto (-20), 3) := dec_of da_X12_expand_0 (k := 15) rfl
theorem dX12_expand_25 : decode cX12_expand 25 = .ok (.iconst 1, 1) := dec_of da_X12_expand_0 (k := 16) rfl
theorem dX12_expand_26 : decode cX12_expand 26 = .ok (.istore_n 3, 1) := dec_of da_X12_expand_0 (k := 17) rfl
theorem dX12_expand_27 : decode cX12_expand 27 = .ok (.bipush 16, 2) := dec_of da_X12_expand_0 (k := 18) rfl
theorem dX12_expand_29 : decode cX12_expand 29 = .ok (.istore 4, 2) := dec_of da_X12_expand_0 (k := 19) rfl
theorem dX12_expand_31 : decode cX12_expand 31 = .ok (.iload 4, 2) := dec_of da_X12_expand_0 (k := 20) rfl
theorem dX12_expand_33 : decode cX12_expand 33 = .ok (.sipush 176, 3) := dec_of da_X12_expand_0 (k := 21) rfl
theorem dX12_expand_36 : decode cX12_expand 36 = .ok (.if_icmp .ge 138, 3) := dec_of da_X12_expand_0 (k := 22) rfl
theorem dX12_expand_39 : decode cX12_expand 39 = .ok (.iload 4, 2) := dec_of da_X12_expand_0 (k := 23) rfl
theorem dX12_expand_41 : decode cX12_expand 41 = .ok (.bipush 16, 2) := dec_of da_X12_expand_0 (k := 24) rfl
theorem dX12_expand_43 : decode cX12_expand 43 = .ok (.irem, 1) := dec_of da_X12_expand_0 (k := 25) rfl
theorem dX12_expand_44 : decode cX12_expand 44 = .ok (.ifCond .ne 7, 3) := dec_of da_X12_expand_0 (k := 26) rfl
theorem dX12_expand_47 : decode cX12_expand 47 = .ok (.iconst 1, 1) := dec_of da_X12_expand_0 (k := 27) rfl
theorem dX12_expand_48 : decode cX12_expand 48 = .ok (.goto 4, 3) := dec_of da_X12_expand_0 (k := 28) rfl
theorem dX12_expand_51 : decode cX12_expand 51 = .ok (.iconst 0, 1) := dec_of da_X12_expand_0 (k := 29) rfl
theorem dX12_expand_52 : decode cX12_expand 52 = .ok (.istore 5, 2) := dec_of da_X12_expand_0 (k := 30) rfl
theorem dX12_expand_54 : decode cX12_expand 54 = .ok (.iconst 0, 1) := dec_of da_X12_expand_0 (k := 31) rfl
theorem dX12_expand_55 : decode cX12_expand 55 = .ok (.istore 6, 2) := dec_of da_X12_expand_0 (k := 32) rfl
theorem dX12_expand_57 : decode cX12_expand 57 = .ok (.iload 6, 2) := dec_of da_X12_expand_0 (k := 33) rfl
theorem dX12_expand_59 : decode cX12_expand 59 = .ok (.iconst 4, 1) := dec_of da_X12_expand_0 (k := 34) rfl
theorem dX12_expand_60 : decode cX12_expand 60 = .ok (.if_icmp .ge 94, 3) := dec_of da_X12_expand_0 (k := 35) rfl
theorem dX12_expand_63 : decode cX12_expand 63 = .ok (.iload 5, 2) := dec_of da_X12_expand_0 (k := 36) rfl
theorem dX12_expand_65 : decode cX12_expand 65 = .ok (.ifCond .eq 27, 3) := dec_of da_X12_expand_0 (k := 37) rfl
theorem dX12_expand_68 : decode cX12_expand 68 = .ok (.aload_n 0, 1) := dec_of da_X12_expand_0 (k := 38) rfl
theorem dX12_expand_69 : decode cX12_expand 69 = .ok (.getfield 28, 3) := dec_of da_X12_expand_0 (k := 39) rfl
theorem dX12_expand_72 : decode cX12_expand 72 = .ok (.aload_n 0, 1) := dec_of da_X12_expand_0 (k := 40) rfl
theorem dX12_expand_73 : decode cX12_expand 73 = .ok (.getfield 31, 3) := dec_of da_X12_expand_0 (k := 41) rfl
theorem dX12_expand_76 : decode cX12_expand 76 = .ok (.iload 4, 2) := dec_of da_X12_expand_0 (k := 42) rfl
theorem dX12_expand_78 : decode cX12_expand 78 = .ok (.iconst 4, 1) := dec_of da_X12_expand_0 (k := 43) rfl
theorem dX12_expand_79 : decode cX12_expand 79 = .ok (.isub, 1) := dec_of da_X12_expand_0 (k := 44) rfl
theorem dX12_expand_80 : decode cX12_expand 80 = .ok (.iload 6, 2) := dec_of da_X12_expand_0 (k := 45) rfl
theorem dX12_expand_82 : decode cX12_expand 82 = .ok (.iconst 1, 1) := dec_of da_X12_expand_0 (k := 46) rfl
theorem dX12_expand_83 : decode cX12_expand 83 = .ok (.iadd, 1) := dec_of da_X12_expand_0 (k := 47) rfl
theorem dX12_expand_84 : decode cX12_expand 84 = .ok (.iconst 4, 1) := dec_of da_X12_expand_0 (k := 48) rfl
theorem dX12_expand_85 : decode cX12_expand 85 = .ok (.irem, 1) := dec_of da_X12_expand_0 (k := 49) rfl
theorem dX12_expand_86 : decode cX12_expand 86 = .ok (.iadd, 1) := dec_of da_X12_expand_0 (k := 50) rfl
theorem dX12_expand_87 : decode cX12_expand 87 = .ok (.iaload, 1) := dec_of da_X12_expand_0 (k := 51) rfl
theorem dX12_expand_88 : decode cX12_expand 88 = .ok (.iaload, 1) := dec_of da_X12_expand_0 (k := 52) rfl
theorem dX12_expand_89 : decode cX12_expand 89 = .ok (.goto 15, 3) := dec_of da_X12_expand_0 (k := 53) rfl
theorem dX12_expand_92 : decode cX12_expand 92 = .ok (.aload_n 0, 1) := dec_of da_X12_expand_0 (k := 54) rfl
theorem dX12_expand_93 : decode cX12_expand 93 = .ok (.getfield 31, 3) := dec_of da_X12_expand_0 (k := 55) rfl
theorem dX12_expand_96 : decode cX12_expand 96 = .ok (.iload 4, 2) := dec_of da_X12_expand_0 (k := 56) rfl
theorem dX12_expand_98 : decode cX12_expand 98 = .ok (.iconst 4, 1) := dec_of da_X12_expand_0 (k := 57) rfl
theorem dX12_expand_99 : decode cX12_expand 99 = .ok (.isub, 1) := dec_of da_X12_expand_0 (k := 58) rfl
theorem dX12_expand_100 : decode cX12_expand 100 = .ok (.iload 6, 2) := dec_of da_X12_expand_0 (k := 59) rfl
def dl_X12_expand_1 : List (Nat × (Instr × Nat)) := [(102, (.iadd, 1)), (103, (.iaload, 1)), (104, (.istore 7, 2)), (106, (.aload_n 0, 1)), (107, (.getfield 31, 3)), (110, (.iload 4, 2)), (112, (.iload 6, 2)), (114, (.iadd, 1)), (115, (.aload_n 0, 1)), (116, (.getfield 31, 3)), (119, (.iload 4, 2)), (121, (.bipush 16, 2)), (123, (.isub, 1)), (124, (.iload 6, 2)), (126, (.iadd, 1)), (127, (.iaload, 1)), (128, (.iload 7, 2)), (130, (.ixor, 1)), (131, (.iload 5, 2)), (133, (.ifCond .eq 12, 3)), (136, (.iload 6, 2)), (138, (.ifCond .ne 7, 3)), (141, (.iload_n 3, 1)), (142, (.goto 4, 3)), (145, (.iconst 0, 1)), (146, (.ixor, 1)), (147, (.iastore, 1)), (148, (.iinc 6 1, 3)), (151, (.goto (-94), 3)), (154, (.iload 5, 2)), (156, (.ifCond .eq 10, 3)), (159, (.iload_n 3, 1)), (160, (.invokestatic 322, 3)), (163, (.goto 4, 3)), (166, (.iload_n 3, 1)), (167, (.istore_n 3, 1)), (168, (.iinc 4 4, 3)), (171, (.goto (-140), 3)), (174, (.return_, 1))]
set_option maxRecDepth 100000 in
theorem da_X12_expand_1 : dl_X12_expand_1.all (fun q => decide (decode cX12_expand q.1 = .ok q.2)) = true := by decide +kernel
theorem dX12_expand_102 : decode cX12_expand 102 = .ok (.iadd, 1) := dec_of da_X12_expand_1 (k := 0) rfl
theorem dX12_expand_103 : decode cX12_expand 103 = .ok (.iaload, 1) := dec_of da_X12_expand_1 (k := 1) rfl
theorem dX12_expand_104 : decode cX12_expand 104 = .ok (.istore 7, 2) := dec_of da_X12_expand_1 (k := 2) rfl
theorem dX12_expand_106 : decode cX12_expand 106 = .ok (.aload_n 0, 1) := dec_of da_X12_expand_1 (k := 3) rfl
theorem dX12_expand_107 : decode cX12_expand 107 = .ok (.getfield 31, 3) := dec_of da_X12_expand_1 (k := 4) rfl
theorem dX12_expand_110 : decode cX12_expand 110 = .ok (.iload 4, 2) := dec_of da_X12_expand_1 (k := 5) rfl
theorem dX12_expand_112 : decode cX12_expand 112 = .ok (.iload 6, 2) := dec_of da_X12_expand_1 (k := 6) rfl
theorem dX12_expand_114 : decode cX12_expand 114 = .ok (.iadd, 1) := dec_of da_X12_expand_1 (k := 7) rfl
theorem dX12_expand_115 : decode cX12_expand 115 = .ok (.aload_n 0, 1) := dec_of da_X12_expand_1 (k := 8) rfl
theorem dX12_expand_116 : decode cX12_expand 116 = .ok (.getfield 31, 3) := dec_of da_X12_expand_1 (k := 9) rfl
theorem dX12_expand_119 : decode cX12_expand 119 = .ok (.iload 4, 2) := dec_of da_X12_expand_1 (k := 10) rfl
theorem dX12_expand_121 : decode cX12_expand 121 = .ok (.bipush 16, 2) := dec_of da_X12_expand_1 (k := 11) rfl
theorem dX12_expand_123 : decode cX12_expand 123 = .ok (.isub, 1) := dec_of da_X12_expand_1 (k := 12) rfl
theorem dX12_expand_124 : decode cX12_expand 124 = .ok (.iload 6, 2) := dec_of da_X12_expand_1 (k := 13) rfl
theorem dX12_expand_126 : decode cX12_expand 126 = .ok (.iadd, 1) := dec_of da_X12_expand_1 (k := 14) rfl
theorem dX12_expand_127 : decode cX12_expand 127 = .ok (.iaload, 1) := dec_of da_X12_expand_1 (k := 15) rfl
theorem dX12_expand_128 : decode cX12_expand 128 = .ok (.iload 7, 2) := dec_of da_X12_expand_1 (k := 16) rfl
theorem dX12_expand_130 : decode cX12_expand 130 = .ok (.ixor, 1) := dec_of da_X12_expand_1 (k := 17) rfl
theorem dX12_expand_131 : decode cX12_expand 131 = .ok (.iload 5, 2) := dec_of da_X12_expand_1 (k := 18) rfl
theorem dX12_expand_133 : decode cX12_expand 133 = .ok (.ifCond .eq 12, 3) := dec_of da_X12_expand_1 (k := 19) rfl
theorem dX12_expand_136 : decode cX12_expand 136 = .ok (.iload 6, 2) := dec_of da_X12_expand_1 (k := 20) rfl
theorem dX12_expand_138 : decode cX12_expand 138 = .ok (.ifCond .ne 7, 3) := dec_of da_X12_expand_1 (k := 21) rfl
theorem dX12_expand_141 : decode cX12_expand 141 = .ok (.iload_n 3, 1) := dec_of da_X12_expand_1 (k := 22) rfl
theorem dX12_expand_142 : decode cX12_expand 142 = .ok (.goto 4, 3) := dec_of da_X12_expand_1 (k := 23) rfl
theorem dX12_expand_145 : decode cX12_expand 145 = .ok (.iconst 0, 1) := dec_of da_X12_expand_1 (k := 24) rfl
theorem dX12_expand_146 : decode cX12_expand 146 = .ok (.ixor, 1) := dec_of da_X12_expand_1 (k := 25) rfl
theorem dX12_expand_147 : decode cX12_expand 147 = .ok (.iastore, 1) := dec_of da_X12_expand_1 (k := 26) rfl
theorem dX12_expand_148 : decode cX12_expand 148 = .ok (.iinc 6 1, 3) := dec_of da_X12_expand_1 (k := 27) rfl
theorem dX12_expand_151 : decode cX12_expand 151 = .ok (.goto (-94), 3) := dec_of da_X12_expand_1 (k := 28) rfl
theorem dX12_expand_154 : decode cX12_expand 154 = .ok (.iload 5, 2) := dec_of da_X12_expand_1 (k := 29) rfl
theorem dX12_expand_156 : decode cX12_expand 156 = .ok (.ifCond .eq 10, 3) := dec_of da_X12_expand_1 (k := 30) rfl
theorem dX12_expand_159 : decode cX12_expand 159 = .ok (.iload_n 3, 1) := dec_of da_X12_expand_1 (k := 31) rfl
theorem dX12_expand_160 : decode cX12_expand 160 = .ok (.invokestatic 322, 3) := dec_of da_X12_expand_1 (k := 32) rfl
theorem dX12_expand_163 : decode cX12_expand 163 = .ok (.goto 4, 3) := dec_of da_X12_expand_1 (k := 33) rfl
theorem dX12_expand_166 : decode cX12_expand 166 = .ok (.iload_n 3, 1) := dec_of da_X12_expand_1 (k := 34) rfl
theorem dX12_expand_167 : decode cX12_expand 167 = .ok (.istore_n 3, 1) := dec_of da_X12_expand_1 (k := 35) rfl
theorem dX12_expand_168 : decode cX12_expand 168 = .ok (.iinc 4 4, 3) := dec_of da_X12_expand_1 (k := 36) rfl
theorem dX12_expand_171 : decode cX12_expand 171 = .ok (.goto (-140), 3) := dec_of da_X12_expand_1 (k := 37) rfl
theorem dX12_expand_174 : decode cX12_expand 174 = .ok (.return_, 1) := dec_of da_X12_expand_1 (k := 38) rfl
