theorem dJ9_floorDiv_f86c9_0 : decode cJ9_floorDiv_f86c9 0 = .ok (.lload_n 0, 1) := by decide +kernel
theorem dJ9_floorDiv_f86c9_1 : decode cJ9_floorDiv_f86c9 1 = .ok (.lload_n 2, 1) := by decide +kernel
theorem dJ9_floorDiv_f86c9_2 : decode cJ9_floorDiv_f86c9 2 = .ok (.ldiv, 1) := by decide +kernel
theorem dJ9_floorDiv_f86c9_3 : decode cJ9_floorDiv_f86c9 3 = .ok (.lstore 4, 2) := by decide +kernel
theorem dJ9_floorDiv_f86c9_5 : decode cJ9_floorDiv_f86c9 5 = .ok (.lload_n 0, 1) := by decide +kernel
theorem dJ9_floorDiv_f86c9_6 : decode cJ9_floorDiv_f86c9 6 = .ok (.lload_n 2, 1) := by decide +kernel
theorem dJ9_floorDiv_f86c9_7 : decode cJ9_floorDiv_f86c9 7 = .ok (.lxor, 1) := by decide +kernel
theorem dJ9_floorDiv_f86c9_8 : decode cJ9_floorDiv_f86c9 8 = .ok (.lconst 0, 1) := by decide +kernel
theorem dJ9_floorDiv_f86c9_9 : decode cJ9_floorDiv_f86c9 9 = .ok (.lcmp, 1) := by decide +kernel
theorem dJ9_floorDiv_f86c9_10 : decode cJ9_floorDiv_f86c9 10 = .ok (.ifCond .ge 17, 3) := by decide +kernel
theorem dJ9_floorDiv_f86c9_13 : decode cJ9_floorDiv_f86c9 13 = .ok (.lload 4, 2) := by decide +kernel
theorem dJ9_floorDiv_f86c9_15 : decode cJ9_floorDiv_f86c9 15 = .ok (.lload_n 2, 1) := by decide +kernel
theorem dJ9_floorDiv_f86c9_16 : decode cJ9_floorDiv_f86c9 16 = .ok (.lmul, 1) := by decide +kernel
theorem dJ9_floorDiv_f86c9_17 : decode cJ9_floorDiv_f86c9 17 = .ok (.lload_n 0, 1) := by decide +kernel
theorem dJ9_floorDiv_f86c9_18 : decode cJ9_floorDiv_f86c9 18 = .ok (.lcmp, 1) := by decide +kernel
theorem dJ9_floorDiv_f86c9_19 : decode cJ9_floorDiv_f86c9 19 = .ok (.ifCond .eq 8, 3) := by decide +kernel
theorem dJ9_floorDiv_f86c9_22 : decode cJ9_floorDiv_f86c9 22 = .ok (.lload 4, 2) := by decide +kernel
theorem dJ9_floorDiv_f86c9_24 : decode cJ9_floorDiv_f86c9 24 = .ok (.lconst 1, 1) := by decide +kernel
theorem dJ9_floorDiv_f86c9_25 : decode cJ9_floorDiv_f86c9 25 = .ok (.lsub, 1) := by decide +kernel
theorem dJ9_floorDiv_f86c9_26 : decode cJ9_floorDiv_f86c9 26 = .ok (.lreturn, 1) := by decide +kernel
theorem dJ9_floorDiv_f86c9_27 : decode cJ9_floorDiv_f86c9 27 = .ok (.lload 4, 2) := by decide +kernel
theorem dJ9_floorDiv_f86c9_29 : decode cJ9_floorDiv_f86c9 29 = .ok (.lreturn, 1) := by decide +kernel
theorem dJ9_floorMod_f86c9_0 : decode cJ9_floorMod_f86c9 0 = .ok (.lload_n 0, 1) := by decide +kernel
theorem dJ9_floorMod_f86c9_1 : decode cJ9_floorMod_f86c9 1 = .ok (.lload_n 2, 1) := by decide +kernel
theorem dJ9_floorMod_f86c9_2 : decode cJ9_floorMod_f86c9 2 = .ok (.lrem, 1) := by decide +kernel
theorem dJ9_floorMod_f86c9_3 : decode cJ9_floorMod_f86c9 3 = .ok (.lstore 4, 2) := by decide +kernel
theorem dJ9_floorMod_f86c9_5 : decode cJ9_floorMod_f86c9 5 = .ok (.lload_n 0, 1) := by decide +kernel
theorem dJ9_floorMod_f86c9_6 : decode cJ9_floorMod_f86c9 6 = .ok (.lload_n 2, 1) := by decide +kernel
theorem dJ9_floorMod_f86c9_7 : decode cJ9_floorMod_f86c9 7 = .ok (.lxor, 1) := by decide +kernel
theorem dJ9_floorMod_f86c9_8 : decode cJ9_floorMod_f86c9 8 = .ok (.lconst 0, 1) := by decide +kernel
theorem dJ9_floorMod_f86c9_9 : decode cJ9_floorMod_f86c9 9 = .ok (.lcmp, 1) := by decide +kernel
theorem dJ9_floorMod_f86c9_10 : decode cJ9_floorMod_f86c9 10 = .ok (.ifCond .ge 15, 3) := by decide +kernel
theorem dJ9_floorMod_f86c9_13 : decode cJ9_floorMod_f86c9 13 = .ok (.lload 4, 2) := by decide +kernel
theorem dJ9_floorMod_f86c9_15 : decode cJ9_floorMod_f86c9 15 = .ok (.lconst 0, 1) := by decide +kernel
theorem dJ9_floorMod_f86c9_16 : decode cJ9_floorMod_f86c9 16 = .ok (.lcmp, 1) := by decide +kernel
theorem dJ9_floorMod_f86c9_17 : decode cJ9_floorMod_f86c9 17 = .ok (.ifCond .eq 8, 3) := by decide +kernel
theorem dJ9_floorMod_f86c9_20 : decode cJ9_floorMod_f86c9 20 = .ok (.lload 4, 2) := by decide +kernel
theorem dJ9_floorMod_f86c9_22 : decode cJ9_floorMod_f86c9 22 = .ok (.lload_n 2, 1) := by decide +kernel
theorem dJ9_floorMod_f86c9_23 : decode cJ9_floorMod_f86c9 23 = .ok (.ladd, 1) := by decide +kernel
theorem dJ9_floorMod_f86c9_24 : decode cJ9_floorMod_f86c9 24 = .ok (.lreturn, 1) := by decide +kernel
theorem dJ9_floorMod_f86c9_25 : decode cJ9_floorMod_f86c9 25 = .ok (.lload 4, 2) := by decide +kernel
theorem dJ9_floorMod_f86c9_27 : decode cJ9_floorMod_f86c9 27 = .ok (.lreturn, 1) := by decide +kernel
theorem dJ9_abs_0f7a4_0 : decode cJ9_abs_0f7a4 0 = .ok (.iload_n 0, 1) := by decide +kernel
theorem dJ9_abs_0f7a4_1 : decode cJ9_abs_0f7a4 1 = .ok (.ifCond .ge 8, 3) := by decide +kernel
theorem dJ9_abs_0f7a4_4 : decode cJ9_abs_0f7a4 4 = .ok (.iload_n 0, 1) := by decide +kernel
theorem dJ9_abs_0f7a4_5 : decode cJ9_abs_0f7a4 5 = .ok (.ineg, 1) := by decide +kernel
theorem dJ9_abs_0f7a4_6 : decode cJ9_abs_0f7a4 6 = .ok (.goto 4, 3) := by decide +kernel
theorem dJ9_abs_0f7a4_9 : decode cJ9_abs_0f7a4 9 = .ok (.iload_n 0, 1) := by decide +kernel
theorem dJ9_abs_0f7a4_10 : decode cJ9_abs_0f7a4 10 = .ok (.ireturn, 1) := by decide +kernel
theorem dJ9_max_7cf53_0 : decode cJ9_max_7cf53 0 = .ok (.iload_n 0, 1) := by decide +kernel
theorem dJ9_max_7cf53_1 : decode cJ9_max_7cf53 1 = .ok (.iload_n 1, 1) := by decide +kernel
theorem dJ9_max_7cf53_2 : decode cJ9_max_7cf53 2 = .ok (.if_icmp .lt 7, 3) := by decide +kernel
theorem dJ9_max_7cf53_5 : decode cJ9_max_7cf53 5 = .ok (.iload_n 0, 1) := by decide +kernel
theorem dJ9_max_7cf53_6 : decode cJ9_max_7cf53 6 = .ok (.goto 4, 3) := by decide +kernel
theorem dJ9_max_7cf53_9 : decode cJ9_max_7cf53 9 = .ok (.iload_n 1, 1) := by decide +kernel
theorem dJ9_max_7cf53_10 : decode cJ9_max_7cf53 10 = .ok (.ireturn, 1) := by decide +kernel
theorem dJ9_max_f86c9_0 : decode cJ9_max_f86c9 0 = .ok (.lload_n 0, 1) := by decide +kernel
theorem dJ9_max_f86c9_1 : decode cJ9_max_f86c9 1 = .ok (.lload_n 2, 1) := by decide +kernel
theorem dJ9_max_f86c9_2 : decode cJ9_max_f86c9 2 = .ok (.lcmp, 1) := by decide +kernel
theorem dJ9_max_f86c9_3 : decode cJ9_max_f86c9 3 = .ok (.ifCond .lt 7, 3) := by decide +kernel
theorem dJ9_max_f86c9_6 : decode cJ9_max_f86c9 6 = .ok (.lload_n 0, 1) := by decide +kernel
theorem dJ9_max_f86c9_7 : decode cJ9_max_f86c9 7 = .ok (.goto 4, 3) := by decide +kernel
theorem dJ9_max_f86c9_10 : decode cJ9_max_f86c9 10 = .ok (.lload_n 2, 1) := by decide +kernel
theorem dJ9_max_f86c9_11 : decode cJ9_max_f86c9 11 = .ok (.lreturn, 1) := by decide +kernel
theorem dJ9_min_7cf53_0 : decode cJ9_min_7cf53 0 = .ok (.iload_n 0, 1) := by decide +kernel
theorem dJ9_min_7cf53_1 : decode cJ9_min_7cf53 1 = .ok (.iload_n 1, 1) := by decide +kernel
theorem dJ9_min_7cf53_2 : decode cJ9_min_7cf53 2 = .ok (.if_icmp .gt 7, 3) := by decide +kernel
theorem dJ9_min_7cf53_5 : decode cJ9_min_7cf53 5 = .ok (.iload_n 0, 1) := by decide +kernel
theorem dJ9_min_7cf53_6 : decode cJ9_min_7cf53 6 = .ok (.goto 4, 3) := by decide +kernel
theorem dJ9_min_7cf53_9 : decode cJ9_min_7cf53 9 = .ok (.iload_n 1, 1) := by decide +kernel
theorem dJ9_min_7cf53_10 : decode cJ9_min_7cf53 10 = .ok (.ireturn, 1) := by decide +kernel
theorem dJ9_min_f86c9_0 : decode cJ9_min_f86c9 0 = .ok (.lload_n 0, 1) := by decide +kernel
theorem dJ9_min_f86c9_1 : decode cJ9_min_f86c9 1 = .ok (.lload_n 2, 1) := by decide +kernel
theorem dJ9_min_f86c9_2 : decode cJ9_min_f86c9 2 = .ok (.lcmp, 1) := by decide +kernel
theorem dJ9_min_f86c9_3 : decode cJ9_min_f86c9 3 = .ok (.ifCond .gt 7, 3) := by decide +kernel
theorem dJ9_min_f86c9_6 : decode cJ9_min_f86c9 6 = .ok (.lload_n 0, 1) := by decide +kernel
theorem dJ9_min_f86c9_7 : decode cJ9_min_f86c9 7 = .ok (.goto 4, 3) := by decide +kernel
theorem dJ9_min_f86c9_10 : decode cJ9_min_f86c9 10 = .ok (.lload_n 2, 1) := by decide +kernel
theorem dJ9_min_f86c9_11 : decode cJ9_min_f86c9 11 = .ok (.lreturn, 1) := by decide +kernel
theorem dX0_init_0 : decode cX0_init 0 = .ok (.aload_n 0, 1) := by decide +kernel
theorem dX0_init_1 : decode cX0_init 1 = .ok (.invokespecial 3, 3) := by decide +kernel
theorem dX0_init_4 : decode cX0_init 4 = .ok (.aload_n 0, 1) := by decide +kernel
theorem dX0_init_5 : decode cX0_init 5 = .ok (.bipush 14, 2) := by decide +kernel
theorem dX0_init_7 : decode cX0_init 7 = .ok (.anewarray 9, 3) := by decide +kernel
theorem dX0_init_10 : decode cX0_init 10 = .ok (.putfield 11, 3) := by decide +kernel
theorem dX0_init_13 : decode cX0_init 13 = .ok (.iconst 0, 1) := by decide +kernel
theorem dX0_init_14 : decode cX0_init 14 = .ok (.istore_n 1, 1) := by decide +kernel
theorem dX0_init_15 : decode cX0_init 15 = .ok (.iload_n 1, 1) := by decide +kernel
theorem dX0_init_16 : decode cX0_init 16 = .ok (.bipush 14, 2) := by decide +kernel
theorem dX0_init_18 : decode cX0_init 18 = .ok (.if_icmp .ge 22, 3) := by decide +kernel
theorem dX0_init_21 : decode cX0_init 21 = .ok (.aload_n 0, 1) := by decide +kernel
theorem dX0_init_22 : decode cX0_init 22 = .ok (.getfield 11, 3) := by decide +kernel
theorem dX0_init_25 : decode cX0_init 25 = .ok (.iload_n 1, 1) := by decide +kernel
theorem dX0_init_26 : decode cX0_init 26 = .ok (.new 9, 3) := by decide +kernel
theorem dX0_init_29 : decode cX0_init 29 = .ok (.dup, 1) := by decide +kernel
theorem dX0_init_30 : decode cX0_init 30 = .ok (.invokespecial 17, 3) := by decide +kernel
theorem dX0_init_33 : decode cX0_init 33 = .ok (.aastore, 1) := by decide +kernel
theorem dX0_init_34 : decode cX0_init 34 = .ok (.iinc 1 1, 3) := by decide +kernel
theorem dX0_init_37 : decode cX0_init 37 = .ok (.goto (-22), 3) := by decide +kernel
theorem dX0_init_40 : decode cX0_init 40 = .ok (.return_, 1) := by decide +kernel
theorem dX0_remember_0 : decode cX0_remember 0 = .ok (.aload_n 0, 1) := by decide +kernel
theorem dX0_remember_1 : decode cX0_remember 1 = .ok (.getfield 11, 3) := by decide +kernel
theorem dX0_remember_4 : decode cX0_remember 4 = .ok (.aload_n 0, 1) := by decide +kernel
theorem dX0_remember_5 : decode cX0_remember 5 = .ok (.getfield 18, 3) := by decide +kernel
theorem dX0_remember_8 : decode cX0_remember 8 = .ok (.aaload, 1) := by decide +kernel
theorem dX0_remember_9 : decode cX0_remember 9 = .ok (.aload_n 1, 1) := by decide +kernel
theorem dX0_remember_10 : decode cX0_remember 10 = .ok (.invokevirtual 22, 3) := by decide +kernel
theorem dX0_remember_13 : decode cX0_remember 13 = .ok (.aload_n 0, 1) := by decide +kernel
theorem dX0_remember_14 : decode cX0_remember 14 = .ok (.aload_n 0, 1) := by decide +kernel
theorem dX0_remember_15 : decode cX0_remember 15 = .ok (.getfield 18, 3) := by decide +kernel
theorem dX0_remember_18 : decode cX0_remember 18 = .ok (.iconst 1, 1) := by decide +kernel
theorem dX0_remember_19 : decode cX0_remember 19 = .ok (.iadd, 1) := by decide +kernel
theorem dX0_remember_20 : decode cX0_remember 20 = .ok (.bipush 14, 2) := by decide +kernel
theorem dX0_remember_22 : decode cX0_remember 22 = .ok (.irem, 1) := by decide +kernel
theorem dX0_remember_23 : decode cX0_remember 23 = .ok (.putfield 18, 3) := by decide +kernel
theorem dX0_remember_26 : decode cX0_remember 26 = .ok (.aload_n 0, 1) := by decide +kernel
theorem dX0_remember_27 : decode cX0_remember 27 = .ok (.aload_n 0, 1) := by decide +kernel
theorem dX0_remember_28 : decode cX0_remember 28 = .ok (.getfield 26, 3) := by decide +kernel
theorem dX0_remember_31 : decode cX0_remember 31 = .ok (.iconst 1, 1) := by decide +kernel
theorem dX0_remember_32 : decode cX0_remember 32 = .ok (.iadd, 1) := by decide +kernel
theorem dX0_remember_33 : decode cX0_remember 33 = .ok (.bipush 14, 2) := by decide +kernel
theorem dX0_remember_35 : decode cX0_remember 35 = .ok (.invokestatic 29, 3) := by decide +kernel
theorem dX0_remember_38 : decode cX0_remember 38 = .ok (.putfield 26, 3) := by decide +kernel
theorem dX0_remember_41 : decode cX0_remember 41 = .ok (.return_, 1) := by decide +kernel
theorem dX0_takeBack_0 : decode cX0_takeBack 0 = .ok (.aload_n 0, 1) := by decide +kernel
theorem dX0_takeBack_1 : decode cX0_takeBack 1 = .ok (.aload_n 0, 1) := by decide +kernel
theorem dX0_takeBack_2 : decode cX0_takeBack 2 = .ok (.getfield 18, 3) := by decide +kernel
theorem dX0_takeBack_5 : decode cX0_takeBack 5 = .ok (.bipush 14, 2) := by decide +kernel
theorem dX0_takeBack_7 : decode cX0_takeBack 7 = .ok (.iadd, 1) := by decide +kernel
theorem dX0_takeBack_8 : decode cX0_takeBack 8 = .ok (.iconst 1, 1) := by decide +kernel
theorem dX0_takeBack_9 : decode cX0_takeBack 9 = .ok (.isub, 1) := by decide +kernel
theorem dX0_takeBack_10 : decode cX0_takeBack 10 = .ok (.bipush 14, 2) := by decide +kernel
theorem dX0_takeBack_12 : decode cX0_takeBack 12 = .ok (.irem, 1) := by decide +kernel
theorem dX0_takeBack_13 : decode cX0_takeBack 13 = .ok (.putfield 18, 3) := by decide +kernel
theorem dX0_takeBack_16 : decode cX0_takeBack 16 = .ok (.aload_n 0, 1) := by decide +kernel
theorem dX0_takeBack_17 : decode cX0_takeBack 17 = .ok (.dup, 1) := by decide +kernel
theorem dX0_takeBack_18 : decode cX0_takeBack 18 = .ok (.getfield 26, 3) := by decide +kernel
theorem dX0_takeBack_21 : decode cX0_takeBack 21 = .ok (.iconst 1, 1) := by decide +kernel
theorem dX0_takeBack_22 : decode cX0_takeBack 22 = .ok (.isub, 1) := by decide +kernel
theorem dX0_takeBack_23 : decode cX0_takeBack 23 = .ok (.putfield 26, 3) := by decide +kernel
theorem dX0_takeBack_26 : decode cX0_takeBack 26 = .ok (.aload_n 1, 1) := by decide +kernel
theorem dX0_takeBack_27 : decode cX0_takeBack 27 = .ok (.aload_n 0, 1) := by decide +kernel
theorem dX0_takeBack_28 : decode cX0_takeBack 28 = .ok (.getfield 11, 3) := by decide +kernel
theorem dX0_takeBack_31 : decode cX0_takeBack 31 = .ok (.aload_n 0, 1) := by decide +kernel
theorem dX0_takeBack_32 : decode cX0_takeBack 32 = .ok (.getfield 18, 3) := by decide +kernel
theorem dX0_takeBack_35 : decode cX0_takeBack 35 = .ok (.aaload, 1) := by decide +kernel
theorem dX0_takeBack_36 : decode cX0_takeBack 36 = .ok (.invokevirtual 22, 3) := by decide +kernel
theorem dX0_takeBack_39 : decode cX0_takeBack 39 = .ok (.return_, 1) := by decide +kernel
theorem dX0_forget_0 : decode cX0_forget 0 = .ok (.aload_n 0, 1) := by decide +kernel
theorem dX0_forget_1 : decode cX0_forget 1 = .ok (.iconst 0, 1) := by decide +kernel
theorem dX0_forget_2 : decode cX0_forget 2 = .ok (.putfield 26, 3) := by decide +kernel
theorem dX0_forget_5 : decode cX0_forget 5 = .ok (.return_, 1) := by decide +kernel
theorem dX1_init_0 : decode cX1_init 0 = .ok (.aload_n 0, 1) := by decide +kernel
theorem dX1_init_1 : decode cX1_init 1 = .ok (.invokespecial 3, 3) := by decide +kernel
theorem dX1_init_4 : decode cX1_init 4 = .ok (.aload_n 0, 1) := by decide +kernel
theorem dX1_init_5 : decode cX1_init 5 = .ok (.iconst 4, 1) := by decide +kernel
theorem dX1_init_6 : decode cX1_init 6 = .ok (.newarray .int, 2) := by decide +kernel
theorem dX1_init_8 : decode cX1_init 8 = .ok (.putfield 9, 3) := by decide +kernel
theorem dX1_init_11 : decode cX1_init 11 = .ok (.aload_n 0, 1) := by decide +kernel
theorem dX1_init_12 : decode cX1_init 12 = .ok (.iconst 4, 1) := by decide +kernel
theorem dX1_init_13 : decode cX1_init 13 = .ok (.newarray .int, 2) := by decide +kernel
theorem dX1_init_15 : decode cX1_init 15 = .ok (.putfield 15, 3) := by decide +kernel
theorem dX1_init_18 : decode cX1_init 18 = .ok (.aload_n 0, 1) := by decide +kernel
theorem dX1_init_19 : decode cX1_init 19 = .ok (.iconst 4, 1) := by decide +kernel
theorem dX1_init_20 : decode cX1_init 20 = .ok (.newarray .int, 2) := by decide +kernel
theorem dX1_init_22 : decode cX1_init 22 = .ok (.putfield 18, 3) := by decide +kernel
theorem dX1_init_25 : decode cX1_init 25 = .ok (.aload_n 0, 1) := by decide +kernel
theorem dX1_init_26 : decode cX1_init 26 = .ok (.iconst 4, 1) := by decide +kernel
theorem dX1_init_27 : decode cX1_init 27 = .ok (.newarray .int, 2) := by decide +kernel
theorem dX1_init_29 : decode cX1_init 29 = .ok (.putfield 21, 3) := by decide +kernel
theorem dX1_init_32 : decode cX1_init 32 = .ok (.aload_n 0, 1) := by decide +kernel
theorem dX1_init_33 : decode cX1_init 33 = .ok (.iconst 4, 1) := by decide +kernel
theorem dX1_init_34 : decode cX1_init 34 = .ok (.iconst 3, 1) := by decide +kernel
theorem dX1_init_35 : decode cX1_init 35 = .ok (.multianewarray 24 2, 4) := by decide +kernel
theorem dX1_init_39 : decode cX1_init 39 = .ok (.putfield 26, 3) := by decide +kernel
theorem dX1_init_42 : decode cX1_init 42 = .ok (.aload_n 0, 1) := by decide +kernel
theorem dX1_init_43 : decode cX1_init 43 = .ok (.iconst 3, 1) := by decide +kernel
theorem dX1_init_44 : decode cX1_init 44 = .ok (.newarray .int, 2) := by decide +kernel
theorem dX1_init_46 : decode cX1_init 46 = .ok (.putfield 29, 3) := by decide +kernel
theorem dX1_init_49 : decode cX1_init 49 = .ok (.aload_n 0, 1) := by decide +kernel
theorem dX1_init_50 : decode cX1_init 50 = .ok (.iconst 3, 1) := by decide +kernel
theorem dX1_init_51 : decode cX1_init 51 = .ok (.newarray .int, 2) := by decide +kernel
theorem dX1_init_53 : decode cX1_init 53 = .ok (.putfield 32, 3) := by decide +kernel
theorem dX1_init_56 : decode cX1_init 56 = .ok (.aload_n 0, 1) := by decide +kernel
theorem dX1_init_57 : decode cX1_init 57 = .ok (.iconst 4, 1) := by decide +kernel
theorem dX1_init_58 : decode cX1_init 58 = .ok (.newarray .int, 2) := by decide +kernel
theorem dX1_init_60 : decode cX1_init 60 = .ok (.putfield 35, 3) := by decide +kernel
theorem dX1_init_63 : decode cX1_init 63 = .ok (.aload_n 0, 1) := by decide +kernel
theorem dX1_init_64 : decode cX1_init 64 = .ok (.iconst 4, 1) := by decide +kernel
theorem dX1_init_65 : decode cX1_init 65 = .ok (.newarray .int, 2) := by decide +kernel
theorem dX1_init_67 : decode cX1_init 67 = .ok (.putfield 38, 3) := by decide +kernel
theorem dX1_init_70 : decode cX1_init 70 = .ok (.iconst 0, 1) := by decide +kernel
theorem dX1_init_71 : decode cX1_init 71 = .ok (.istore_n 1, 1) := by decide +kernel
theorem dX1_init_72 : decode cX1_init 72 = .ok (.iload_n 1, 1) := by decide +kernel
theorem dX1_init_73 : decode cX1_init 73 = .ok (.iconst 4, 1) := by decide +kernel
theorem dX1_init_74 : decode cX1_init 74 = .ok (.if_icmp .ge 27, 3) := by decide +kernel
theorem dX1_init_77 : decode cX1_init 77 = .ok (.aload_n 0, 1) := by decide +kernel
theorem dX1_init_78 : decode cX1_init 78 = .ok (.getfield 15, 3) := by decide +kernel
theorem dX1_init_81 : decode cX1_init 81 = .ok (.iload_n 1, 1) := by decide +kernel
theorem dX1_init_82 : decode cX1_init 82 = .ok (.sipush (-1000), 3) := by decide +kernel
theorem dX1_init_85 : decode cX1_init 85 = .ok (.iastore, 1) := by decide +kernel
theorem dX1_init_86 : decode cX1_init 86 = .ok (.aload_n 0, 1) := by decide +kernel
theorem dX1_init_87 : decode cX1_init 87 = .ok (.getfield 18, 3) := by decide +kernel
theorem dX1_init_90 : decode cX1_init 90 = .ok (.iload_n 1, 1) := by decide +kernel
theorem dX1_init_91 : decode cX1_init 91 = .ok (.sipush 1000, 3) := by decide +kernel
theorem dX1_init_94 : decode cX1_init 94 = .ok (.iastore, 1) := by decide +kernel
theorem dX1_init_95 : decode cX1_init 95 = .ok (.iinc 1 1, 3) := by decide +kernel
theorem dX1_init_98 : decode cX1_init 98 = .ok (.goto (-26), 3) := by decide +kernel
theorem dX1_init_101 : decode cX1_init 101 = .ok (.iconst 0, 1) := by decide +kernel
theorem dX1_init_102 : decode cX1_init 102 = .ok (.istore_n 1, 1) := by decide +kernel
theorem dX1_init_103 : decode cX1_init 103 = .ok (.iload_n 1, 1) := by decide +kernel
theorem dX1_init_104 : decode cX1_init 104 = .ok (.iconst 3, 1) := by decide +kernel
theorem dX1_init_105 : decode cX1_init 105 = .ok (.if_icmp .ge 16, 3) := by decide +kernel
theorem dX1_init_108 : decode cX1_init 108 = .ok (.aload_n 0, 1) := by decide +kernel
theorem dX1_init_109 : decode cX1_init 109 = .ok (.getfield 32, 3) := by decide +kernel
theorem dX1_init_112 : decode cX1_init 112 = .ok (.iload_n 1, 1) := by decide +kernel
theorem dX1_init_113 : decode cX1_init 113 = .ok (.iconst (-1), 1) := by decide +kernel
theorem dX1_init_114 : decode cX1_init 114 = .ok (.iastore, 1) := by decide +kernel
theorem dX1_init_115 : decode cX1_init 115 = .ok (.iinc 1 1, 3) := by decide +kernel
theorem dX1_init_118 : decode cX1_init 118 = .ok (.goto (-15), 3) := by decide +kernel
theorem dX1_init_121 : decode cX1_init 121 = .ok (.return_, 1) := by decide +kernel
theorem dX1_copyFrom_0 : decode cX1_copyFrom 0 = .ok (.aload_n 1, 1) := by decide +kernel
theorem dX1_copyFrom_1 : decode cX1_copyFrom 1 = .ok (.getfield 9, 3) := by decide +kernel
theorem dX1_copyFrom_4 : decode cX1_copyFrom 4 = .ok (.aload_n 0, 1) := by decide +kernel
theorem dX1_copyFrom_5 : decode cX1_copyFrom 5 = .ok (.getfield 9, 3) := by decide +kernel
theorem dX1_copyFrom_8 : decode cX1_copyFrom 8 = .ok (.invokestatic 41, 3) := by decide +kernel
theorem dX1_copyFrom_11 : decode cX1_copyFrom 11 = .ok (.aload_n 1, 1) := by decide +kernel
theorem dX1_copyFrom_12 : decode cX1_copyFrom 12 = .ok (.getfield 15, 3) := by decide +kernel
theorem dX1_copyFrom_15 : decode cX1_copyFrom 15 = .ok (.aload_n 0, 1) := by decide +kernel
theorem dX1_copyFrom_16 : decode cX1_copyFrom 16 = .ok (.getfield 15, 3) := by decide +kernel
theorem dX1_copyFrom_19 : decode cX1_copyFrom 19 = .ok (.invokestatic 41, 3) := by decide +kernel
theorem dX1_copyFrom_22 : decode cX1_copyFrom 22 = .ok (.aload_n 1, 1) := by decide +kernel
theorem dX1_copyFrom_23 : decode cX1_copyFrom 23 = .ok (.getfield 18, 3) := by decide +kernel
theorem dX1_copyFrom_26 : decode cX1_copyFrom 26 = .ok (.aload_n 0, 1) := by decide +kernel
theorem dX1_copyFrom_27 : decode cX1_copyFrom 27 = .ok (.getfield 18, 3) := by decide +kernel
theorem dX1_copyFrom_30 : decode cX1_copyFrom 30 = .ok (.invokestatic 41, 3) := by decide +kernel
theorem dX1_copyFrom_33 : decode cX1_copyFrom 33 = .ok (.aload_n 1, 1) := by decide +kernel
theorem dX1_copyFrom_34 : decode cX1_copyFrom 34 = .ok (.getfield 21, 3) := by decide +kernel
theorem dX1_copyFrom_37 : decode cX1_copyFrom 37 = .ok (.aload_n 0, 1) := by decide +kernel
theorem dX1_copyFrom_38 : decode cX1_copyFrom 38 = .ok (.getfield 21, 3) := by decide +kernel
theorem dX1_copyFrom_41 : decode cX1_copyFrom 41 = .ok (.invokestatic 41, 3) := by decide +kernel
theorem dX1_copyFrom_44 : decode cX1_copyFrom 44 = .ok (.aload_n 1, 1) := by decide +kernel
theorem dX1_copyFrom_45 : decode cX1_copyFrom 45 = .ok (.getfield 26, 3) := by decide +kernel
theorem dX1_copyFrom_48 : decode cX1_copyFrom 48 = .ok (.aload_n 0, 1) := by decide +kernel
theorem dX1_copyFrom_49 : decode cX1_copyFrom 49 = .ok (.getfield 26, 3) := by decide +kernel
theorem dX1_copyFrom_52 : decode cX1_copyFrom 52 = .ok (.invokestatic 45, 3) := by decide +kernel
theorem dX1_copyFrom_55 : decode cX1_copyFrom 55 = .ok (.aload_n 1, 1) := by decide +kernel
theorem dX1_copyFrom_56 : decode cX1_copyFrom 56 = .ok (.getfield 29, 3) := by decide +kernel
theorem dX1_copyFrom_59 : decode cX1_copyFrom 59 = .ok (.aload_n 0, 1) := by decide +kernel
theorem dX1_copyFrom_60 : decode cX1_copyFrom 60 = .ok (.getfield 29, 3) := by decide +kernel
theorem dX1_copyFrom_63 : decode cX1_copyFrom 63 = .ok (.invokestatic 41, 3) := by decide +kernel
theorem dX1_copyFrom_66 : decode cX1_copyFrom 66 = .ok (.aload_n 1, 1) := by decide +kernel
theorem dX1_copyFrom_67 : decode cX1_copyFrom 67 = .ok (.getfield 32, 3) := by decide +kernel
theorem dX1_copyFrom_70 : decode cX1_copyFrom 70 = .ok (.aload_n 0, 1) := by decide +kernel
theorem dX1_copyFrom_71 : decode cX1_copyFrom 71 = .ok (.getfield 32, 3) := by decide +kernel
theorem dX1_copyFrom_74 : decode cX1_copyFrom 74 = .ok (.invokestatic 41, 3) := by decide +kernel
theorem dX1_copyFrom_77 : decode cX1_copyFrom 77 = .ok (.aload_n 0, 1) := by decide +kernel
theorem dX1_copyFrom_78 : decode cX1_copyFrom 78 = .ok (.aload_n 1, 1) := by decide +kernel
theorem dX1_copyFrom_79 : decode cX1_copyFrom 79 = .ok (.getfield 49, 3) := by decide +kernel
theorem dX1_copyFrom_82 : decode cX1_copyFrom 82 = .ok (.putfield 49, 3) := by decide +kernel
theorem dX1_copyFrom_85 : decode cX1_copyFrom 85 = .ok (.aload_n 0, 1) := by decide +kernel
theorem dX1_copyFrom_86 : decode cX1_copyFrom 86 = .ok (.aload_n 1, 1) := by decide +kernel
theorem dX1_copyFrom_87 : decode cX1_copyFrom 87 = .ok (.getfield 53, 3) := by decide +kernel
theorem dX1_copyFrom_90 : decode cX1_copyFrom 90 = .ok (.putfield 53, 3) := by decide +kernel
theorem dX1_copyFrom_93 : decode cX1_copyFrom 93 = .ok (.aload_n 0, 1) := by decide +kernel
theorem dX1_copyFrom_94 : decode cX1_copyFrom 94 = .ok (.aload_n 1, 1) := by decide +kernel
theorem dX1_copyFrom_95 : decode cX1_copyFrom 95 = .ok (.getfield 56, 3) := by decide +kernel
theorem dX1_copyFrom_98 : decode cX1_copyFrom 98 = .ok (.putfield 56, 3) := by decide +kernel
theorem dX1_copyFrom_101 : decode cX1_copyFrom 101 = .ok (.aload_n 0, 1) := by decide +kernel
theorem dX1_copyFrom_102 : decode cX1_copyFrom 102 = .ok (.aload_n 1, 1) := by decide +kernel
theorem dX1_copyFrom_103 : decode cX1_copyFrom 103 = .ok (.getfield 59, 3) := by decide +kernel
theorem dX1_copyFrom_106 : decode cX1_copyFrom 106 = .ok (.putfield 59, 3) := by decide +kernel
theorem dX1_copyFrom_109 : decode cX1_copyFrom 109 = .ok (.aload_n 0, 1) := by decide +kernel
theorem dX1_copyFrom_110 : decode cX1_copyFrom 110 = .ok (.aload_n 1, 1) := by decide +kernel
theorem dX1_copyFrom_111 : decode cX1_copyFrom 111 = .ok (.getfield 62, 3) := by decide +kernel
theorem dX1_copyFrom_114 : decode cX1_copyFrom 114 = .ok (.putfield 62, 3) := by decide +kernel
theorem dX1_copyFrom_117 : decode cX1_copyFrom 117 = .ok (.aload_n 1, 1) := by decide +kernel
theorem dX1_copyFrom_118 : decode cX1_copyFrom 118 = .ok (.getfield 35, 3) := by decide +kernel
theorem dX1_copyFrom_121 : decode cX1_copyFrom 121 = .ok (.aload_n 0, 1) := by decide +kernel
theorem dX1_copyFrom_122 : decode cX1_copyFrom 122 = .ok (.getfield 35, 3) := by decide +kernel
theorem dX1_copyFrom_125 : decode cX1_copyFrom 125 = .ok (.invokestatic 41, 3) := by decide +kernel
theorem dX1_copyFrom_128 : decode cX1_copyFrom 128 = .ok (.aload_n 1, 1) := by decide +kernel
theorem dX1_copyFrom_129 : decode cX1_copyFrom 129 = .ok (.getfield 38, 3) := by decide +kernel
theorem dX1_copyFrom_132 : decode cX1_copyFrom 132 = .ok (.aload_n 0, 1) := by decide +kernel
theorem dX1_copyFrom_133 : decode cX1_copyFrom 133 = .ok (.getfield 38, 3) := by decide +kernel
theorem dX1_copyFrom_136 : decode cX1_copyFrom 136 = .ok (.invokestatic 41, 3) := by decide +kernel
theorem dX1_copyFrom_139 : decode cX1_copyFrom 139 = .ok (.return_, 1) := by decide +kernel
theorem dX1_clearGains_0 : decode cX1_clearGains 0 = .ok (.iconst 0, 1) := by decide +kernel
theorem dX1_clearGains_1 : decode cX1_clearGains 1 = .ok (.istore_n 1, 1) := by decide +kernel
theorem dX1_clearGains_2 : decode cX1_clearGains 2 = .ok (.iload_n 1, 1) := by decide +kernel
theorem dX1_clearGains_3 : decode cX1_clearGains 3 = .ok (.iconst 4, 1) := by decide +kernel
theorem dX1_clearGains_4 : decode cX1_clearGains 4 = .ok (.if_icmp .ge 31, 3) := by decide +kernel
theorem dX1_clearGains_7 : decode cX1_clearGains 7 = .ok (.iconst 0, 1) := by decide +kernel
theorem dX1_clearGains_8 : decode cX1_clearGains 8 = .ok (.istore_n 2, 1) := by decide +kernel
theorem dX1_clearGains_9 : decode cX1_clearGains 9 = .ok (.iload_n 2, 1) := by decide +kernel
theorem dX1_clearGains_10 : decode cX1_clearGains 10 = .ok (.iconst 3, 1) := by decide +kernel
theorem dX1_clearGains_11 : decode cX1_clearGains 11 = .ok (.if_icmp .ge 18, 3) := by decide +kernel
theorem dX1_clearGains_14 : decode cX1_clearGains 14 = .ok (.aload_n 0, 1) := by decide +kernel
theorem dX1_clearGains_15 : decode cX1_clearGains 15 = .ok (.getfield 26, 3) := by decide +kernel
theorem dX1_clearGains_18 : decode cX1_clearGains 18 = .ok (.iload_n 1, 1) := by decide +kernel
theorem dX1_clearGains_19 : decode cX1_clearGains 19 = .ok (.aaload, 1) := by decide +kernel
theorem dX1_clearGains_20 : decode cX1_clearGains 20 = .ok (.iload_n 2, 1) := by decide +kernel
theorem dX1_clearGains_21 : decode cX1_clearGains 21 = .ok (.iconst 0, 1) := by decide +kernel
theorem dX1_clearGains_22 : decode cX1_clearGains 22 = .ok (.iastore, 1) := by decide +kernel
theorem dX1_clearGains_23 : decode cX1_clearGains 23 = .ok (.iinc 2 1, 3) := by decide +kernel
theorem dX1_clearGains_26 : decode cX1_clearGains 26 = .ok (.goto (-17), 3) := by decide +kernel
theorem dX1_clearGains_29 : decode cX1_clearGains 29 = .ok (.iinc 1 1, 3) := by decide +kernel
theorem dX1_clearGains_32 : decode cX1_clearGains 32 = .ok (.goto (-30), 3) := by decide +kernel
theorem dX1_clearGains_35 : decode cX1_clearGains 35 = .ok (.return_, 1) := by decide +kernel
theorem dX2_init_0 : decode cX2_init 0 = .ok (.aload_n 0, 1) := by decide +kernel
theorem dX2_init_1 : decode cX2_init 1 = .ok (.invokespecial 3, 3) := by decide +kernel
theorem dX2_init_4 : decode cX2_init 4 = .ok (.aload_n 0, 1) := by decide +kernel
theorem dX2_init_5 : decode cX2_init 5 = .ok (.iconst 4, 1) := by decide +kernel
theorem dX2_init_6 : decode cX2_init 6 = .ok (.newarray .int, 2) := by decide +kernel
theorem dX2_init_8 : decode cX2_init 8 = .ok (.putfield 9, 3) := by decide +kernel
theorem dX2_init_11 : decode cX2_init 11 = .ok (.aload_n 0, 1) := by decide +kernel
theorem dX2_init_12 : decode cX2_init 12 = .ok (.iconst 3, 1) := by decide +kernel
theorem dX2_init_13 : decode cX2_init 13 = .ok (.newarray .long, 2) := by decide +kernel
theorem dX2_init_15 : decode cX2_init 15 = .ok (.putfield 15, 3) := by decide +kernel
theorem dX2_init_18 : decode cX2_init 18 = .ok (.return_, 1) := by decide +kernel
theorem dX2_advance_0 : decode cX2_advance 0 = .ok (.aload_n 0, 1) := by decide +kernel
theorem dX2_advance_1 : decode cX2_advance 1 = .ok (.aload_n 1, 1) := by decide +kernel
theorem dX2_advance_2 : decode cX2_advance 2 = .ok (.aload_n 2, 1) := by decide +kernel
theorem dX2_advance_3 : decode cX2_advance 3 = .ok (.iload_n 3, 1) := by decide +kernel
theorem dX2_advance_4 : decode cX2_advance 4 = .ok (.invokevirtual 19, 3) := by decide +kernel
theorem dX2_advance_7 : decode cX2_advance 7 = .ok (.aload_n 0, 1) := by decide +kernel
theorem dX2_advance_8 : decode cX2_advance 8 = .ok (.aload_n 1, 1) := by decide +kernel
theorem dX2_advance_9 : decode cX2_advance 9 = .ok (.aload_n 2, 1) := by decide +kernel
theorem dX2_advance_10 : decode cX2_advance 10 = .ok (.iload_n 3, 1) := by decide +kernel
theorem dX2_advance_11 : decode cX2_advance 11 = .ok (.iload 4, 2) := by decide +kernel
theorem dX2_advance_13 : decode cX2_advance 13 = .ok (.invokevirtual 23, 3) := by decide +kernel
theorem dX2_advance_16 : decode cX2_advance 16 = .ok (.aload_n 0, 1) := by decide +kernel
theorem dX2_advance_17 : decode cX2_advance 17 = .ok (.aload_n 1, 1) := by decide +kernel
theorem dX2_advance_18 : decode cX2_advance 18 = .ok (.aload_n 2, 1) := by decide +kernel
theorem dX2_advance_19 : decode cX2_advance 19 = .ok (.iload_n 3, 1) := by decide +kernel
theorem dX2_advance_20 : decode cX2_advance 20 = .ok (.invokevirtual 27, 3) := by decide +kernel
theorem dX2_advance_23 : decode cX2_advance 23 = .ok (.iconst 0, 1) := by decide +kernel
theorem dX2_advance_24 : decode cX2_advance 24 = .ok (.istore 5, 2) := by decide +kernel
theorem dX2_advance_26 : decode cX2_advance 26 = .ok (.iload 5, 2) := by decide +kernel
theorem dX2_advance_28 : decode cX2_advance 28 = .ok (.aload_n 1, 1) := by decide +kernel
theorem dX2_advance_29 : decode cX2_advance 29 = .ok (.getfield 30, 3) := by decide +kernel
theorem dX2_advance_32 : decode cX2_advance 32 = .ok (.if_icmp .ge 31, 3) := by decide +kernel
theorem dX2_advance_35 : decode cX2_advance 35 = .ok (.aload_n 2, 1) := by decide +kernel
theorem dX2_advance_36 : decode cX2_advance 36 = .ok (.getfield 36, 3) := by decide +kernel
theorem dX2_advance_39 : decode cX2_advance 39 = .ok (.iload 5, 2) := by decide +kernel
theorem dX2_advance_41 : decode cX2_advance 41 = .ok (.iaload, 1) := by decide +kernel
theorem dX2_advance_42 : decode cX2_advance 42 = .ok (.iconst (-1), 1) := by decide +kernel
theorem dX2_advance_43 : decode cX2_advance 43 = .ok (.if_icmp .eq 14, 3) := by decide +kernel
theorem dX2_advance_46 : decode cX2_advance 46 = .ok (.aload_n 2, 1) := by decide +kernel
theorem dX2_advance_47 : decode cX2_advance 47 = .ok (.getfield 36, 3) := by decide +kernel
theorem dX2_advance_50 : decode cX2_advance 50 = .ok (.iload 5, 2) := by decide +kernel
theorem dX2_advance_52 : decode cX2_advance 52 = .ok (.dup2, 1) := by decide +kernel
theorem dX2_advance_53 : decode cX2_advance 53 = .ok (.iaload, 1) := by decide +kernel
theorem dX2_advance_54 : decode cX2_advance 54 = .ok (.iconst 1, 1) := by decide +kernel
theorem dX2_advance_55 : decode cX2_advance 55 = .ok (.iadd, 1) := by decide +kernel
theorem dX2_advance_56 : decode cX2_advance 56 = .ok (.iastore, 1) := by decide +kernel
theorem dX2_advance_57 : decode cX2_advance 57 = .ok (.iinc 5 1, 3) := by decide +kernel
theorem dX2_advance_60 : decode cX2_advance 60 = .ok (.goto (-34), 3) := by decide +kernel
theorem dX2_advance_63 : decode cX2_advance 63 = .ok (.aload_n 2, 1) := by decide +kernel
theorem dX2_advance_64 : decode cX2_advance 64 = .ok (.iload_n 3, 1) := by decide +kernel
theorem dX2_advance_65 : decode cX2_advance 65 = .ok (.putfield 41, 3) := by decide +kernel
theorem dX2_advance_68 : decode cX2_advance 68 = .ok (.aload_n 2, 1) := by decide +kernel
theorem dX2_advance_69 : decode cX2_advance 69 = .ok (.aload_n 2, 1) := by decide +kernel
theorem dX2_advance_70 : decode cX2_advance 70 = .ok (.getfield 44, 3) := by decide +kernel
theorem dX2_advance_73 : decode cX2_advance 73 = .ok (.putfield 47, 3) := by decide +kernel
theorem dX2_advance_76 : decode cX2_advance 76 = .ok (.aload_n 2, 1) := by decide +kernel
theorem dX2_advance_77 : decode cX2_advance 77 = .ok (.dup, 1) := by decide +kernel
theorem dX2_advance_78 : decode cX2_advance 78 = .ok (.getfield 50, 3) := by decide +kernel
theorem dX2_advance_81 : decode cX2_advance 81 = .ok (.iconst 1, 1) := by decide +kernel
theorem dX2_advance_82 : decode cX2_advance 82 = .ok (.iadd, 1) := by decide +kernel
theorem dX2_advance_83 : decode cX2_advance 83 = .ok (.putfield 50, 3) := by decide +kernel
theorem dX2_advance_86 : decode cX2_advance 86 = .ok (.return_, 1) := by decide +kernel
theorem dX2_advanceTruth_0 : decode cX2_advanceTruth 0 = .ok (.iconst 0, 1) := by decide +kernel
theorem dX2_advanceTruth_1 : decode cX2_advanceTruth 1 = .ok (.istore 5, 2) := by decide +kernel
theorem dX2_advanceTruth_3 : decode cX2_advanceTruth 3 = .ok (.iload 5, 2) := by decide +kernel
theorem dX2_advanceTruth_5 : decode cX2_advanceTruth 5 = .ok (.aload_n 1, 1) := by decide +kernel
theorem dX2_advanceTruth_6 : decode cX2_advanceTruth 6 = .ok (.getfield 53, 3) := by decide +kernel
theorem dX2_advanceTruth_9 : decode cX2_advanceTruth 9 = .ok (.if_icmp .ge 69, 3) := by decide +kernel
theorem dX2_advanceTruth_12 : decode cX2_advanceTruth 12 = .ok (.aload_n 1, 1) := by decide +kernel
theorem dX2_advanceTruth_13 : decode cX2_advanceTruth 13 = .ok (.aload_n 1, 1) := by decide +kernel
theorem dX2_advanceTruth_14 : decode cX2_advanceTruth 14 = .ok (.getfield 56, 3) := by decide +kernel
theorem dX2_advanceTruth_17 : decode cX2_advanceTruth 17 = .ok (.iload 5, 2) := by decide +kernel
theorem dX2_advanceTruth_19 : decode cX2_advanceTruth 19 = .ok (.aaload, 1) := by decide +kernel
theorem dX2_advanceTruth_20 : decode cX2_advanceTruth 20 = .ok (.aload_n 2, 1) := by decide +kernel
theorem dX2_advanceTruth_21 : decode cX2_advanceTruth 21 = .ok (.getfield 60, 3) := by decide +kernel
theorem dX2_advanceTruth_24 : decode cX2_advanceTruth 24 = .ok (.invokevirtual 63, 3) := by decide +kernel
theorem dX2_advanceTruth_27 : decode cX2_advanceTruth 27 = .ok (.ldc2_w 67, 3) := by decide +kernel
theorem dX2_advanceTruth_30 : decode cX2_advanceTruth 30 = .ok (.invokestatic 69, 3) := by decide +kernel
theorem dX2_advanceTruth_33 : decode cX2_advanceTruth 33 = .ok (.lstore 6, 2) := by decide +kernel
theorem dX2_advanceTruth_35 : decode cX2_advanceTruth 35 = .ok (.aload_n 0, 1) := by decide +kernel
theorem dX2_advanceTruth_36 : decode cX2_advanceTruth 36 = .ok (.getfield 9, 3) := by decide +kernel
theorem dX2_advanceTruth_39 : decode cX2_advanceTruth 39 = .ok (.iload 5, 2) := by decide +kernel
theorem dX2_advanceTruth_41 : decode cX2_advanceTruth 41 = .ok (.lload 6, 2) := by decide +kernel
theorem dX2_advanceTruth_43 : decode cX2_advanceTruth 43 = .ok (.aload_n 1, 1) := by decide +kernel
theorem dX2_advanceTruth_44 : decode cX2_advanceTruth 44 = .ok (.getfield 73, 3) := by decide +kernel
theorem dX2_advanceTruth_47 : decode cX2_advanceTruth 47 = .ok (.iload 5, 2) := by decide +kernel
theorem dX2_advanceTruth_49 : decode cX2_advanceTruth 49 = .ok (.iaload, 1) := by decide +kernel
theorem dX2_advanceTruth_50 : decode cX2_advanceTruth 50 = .ok (.iload_n 3, 1) := by decide +kernel
theorem dX2_advanceTruth_51 : decode cX2_advanceTruth 51 = .ok (.imul, 1) := by decide +kernel
theorem dX2_advanceTruth_52 : decode cX2_advanceTruth 52 = .ok (.i2l, 1) := by decide +kernel
theorem dX2_advanceTruth_53 : decode cX2_advanceTruth 53 = .ok (.ladd, 1) := by decide +kernel
theorem dX2_advanceTruth_54 : decode cX2_advanceTruth 54 = .ok (.aload_n 1, 1) := by decide +kernel
theorem dX2_advanceTruth_55 : decode cX2_advanceTruth 55 = .ok (.getfield 76, 3) := by decide +kernel
theorem dX2_advanceTruth_58 : decode cX2_advanceTruth 58 = .ok (.iload 5, 2) := by decide +kernel
theorem dX2_advanceTruth_60 : decode cX2_advanceTruth 60 = .ok (.iaload, 1) := by decide +kernel
theorem dX2_advanceTruth_61 : decode cX2_advanceTruth 61 = .ok (.iload 4, 2) := by decide +kernel
theorem dX2_advanceTruth_63 : decode cX2_advanceTruth 63 = .ok (.imul, 1) := by decide +kernel
theorem dX2_advanceTruth_64 : decode cX2_advanceTruth 64 = .ok (.i2l, 1) := by decide +kernel
theorem dX2_advanceTruth_65 : decode cX2_advanceTruth 65 = .ok (.ladd, 1) := by decide +kernel
theorem dX2_advanceTruth_66 : decode cX2_advanceTruth 66 = .ok (.ldc 79, 2) := by decide +kernel
theorem dX2_advanceTruth_68 : decode cX2_advanceTruth 68 = .ok (.invokestatic 80, 3) := by decide +kernel
theorem dX2_advanceTruth_71 : decode cX2_advanceTruth 71 = .ok (.iastore, 1) := by decide +kernel
theorem dX2_advanceTruth_72 : decode cX2_advanceTruth 72 = .ok (.iinc 5 1, 3) := by decide +kernel
theorem dX2_advanceTruth_75 : decode cX2_advanceTruth 75 = .ok (.goto (-72), 3) := by decide +kernel
theorem dX2_advanceTruth_78 : decode cX2_advanceTruth 78 = .ok (.aload_n 0, 1) := by decide +kernel
theorem dX2_advanceTruth_79 : decode cX2_advanceTruth 79 = .ok (.getfield 9, 3) := by decide +kernel
theorem dX2_advanceTruth_82 : decode cX2_advanceTruth 82 = .ok (.aload_n 2, 1) := by decide +kernel
theorem dX2_advanceTruth_83 : decode cX2_advanceTruth 83 = .ok (.getfield 60, 3) := by decide +kernel
theorem dX2_advanceTruth_86 : decode cX2_advanceTruth 86 = .ok (.invokestatic 84, 3) := by decide +kernel
theorem dX2_advanceTruth_89 : decode cX2_advanceTruth 89 = .ok (.return_, 1) := by decide +kernel
theorem dX2_advanceIntervals_0 : decode cX2_advanceIntervals 0 = .ok (.iconst 0, 1) := by decide +kernel
theorem dX2_advanceIntervals_1 : decode cX2_advanceIntervals 1 = .ok (.istore 4, 2) := by decide +kernel
theorem dX2_advanceIntervals_3 : decode cX2_advanceIntervals 3 = .ok (.iload 4, 2) := by decide +kernel
theorem dX2_advanceIntervals_5 : decode cX2_advanceIntervals 5 = .ok (.aload_n 1, 1) := by decide +kernel
theorem dX2_advanceIntervals_6 : decode cX2_advanceIntervals 6 = .ok (.getfield 53, 3) := by decide +kernel
theorem dX2_advanceIntervals_9 : decode cX2_advanceIntervals 9 = .ok (.if_icmp .ge 65, 3) := by decide +kernel
theorem dX2_advanceIntervals_12 : decode cX2_advanceIntervals 12 = .ok (.aload_n 2, 1) := by decide +kernel
theorem dX2_advanceIntervals_13 : decode cX2_advanceIntervals 13 = .ok (.getfield 88, 3) := by decide +kernel
theorem dX2_advanceIntervals_16 : decode cX2_advanceIntervals 16 = .ok (.iload 4, 2) := by decide +kernel
theorem dX2_advanceIntervals_18 : decode cX2_advanceIntervals 18 = .ok (.aload_n 1, 1) := by decide +kernel
theorem dX2_advanceIntervals_19 : decode cX2_advanceIntervals 19 = .ok (.aload_n 1, 1) := by decide +kernel
theorem dX2_advanceIntervals_20 : decode cX2_advanceIntervals 20 = .ok (.getfield 56, 3) := by decide +kernel
theorem dX2_advanceIntervals_23 : decode cX2_advanceIntervals 23 = .ok (.iload 4, 2) := by decide +kernel
theorem dX2_advanceIntervals_25 : decode cX2_advanceIntervals 25 = .ok (.aaload, 1) := by decide +kernel
theorem dX2_advanceIntervals_26 : decode cX2_advanceIntervals 26 = .ok (.aload_n 2, 1) := by decide +kernel
theorem dX2_advanceIntervals_27 : decode cX2_advanceIntervals 27 = .ok (.iconst (-1), 1) := by decide +kernel
theorem dX2_advanceIntervals_28 : decode cX2_advanceIntervals 28 = .ok (.iconst 0, 1) := by decide +kernel
theorem dX2_advanceIntervals_29 : decode cX2_advanceIntervals 29 = .ok (.invokevirtual 91, 3) := by decide +kernel
theorem dX2_advanceIntervals_32 : decode cX2_advanceIntervals 32 = .ok (.ldc2_w 67, 3) := by decide +kernel
theorem dX2_advanceIntervals_35 : decode cX2_advanceIntervals 35 = .ok (.invokestatic 69, 3) := by decide +kernel
theorem dX2_advanceIntervals_38 : decode cX2_advanceIntervals 38 = .ok (.l2i, 1) := by decide +kernel
theorem dX2_advanceIntervals_39 : decode cX2_advanceIntervals 39 = .ok (.iastore, 1) := by decide +kernel
theorem dX2_advanceIntervals_40 : decode cX2_advanceIntervals 40 = .ok (.aload_n 2, 1) := by decide +kernel
theorem dX2_advanceIntervals_41 : decode cX2_advanceIntervals 41 = .ok (.getfield 95, 3) := by decide +kernel
theorem dX2_advanceIntervals_44 : decode cX2_advanceIntervals 44 = .ok (.iload 4, 2) := by decide +kernel
theorem dX2_advanceIntervals_46 : decode cX2_advanceIntervals 46 = .ok (.aload_n 1, 1) := by decide +kernel
theorem dX2_advanceIntervals_47 : decode cX2_advanceIntervals 47 = .ok (.aload_n 1, 1) := by decide +kernel
theorem dX2_advanceIntervals_48 : decode cX2_advanceIntervals 48 = .ok (.getfield 56, 3) := by decide +kernel
theorem dX2_advanceIntervals_51 : decode cX2_advanceIntervals 51 = .ok (.iload 4, 2) := by decide +kernel
theorem dX2_advanceIntervals_53 : decode cX2_advanceIntervals 53 = .ok (.aaload, 1) := by decide +kernel
theorem dX2_advanceIntervals_54 : decode cX2_advanceIntervals 54 = .ok (.aload_n 2, 1) := by decide +kernel
theorem dX2_advanceIntervals_55 : decode cX2_advanceIntervals 55 = .ok (.iconst (-1), 1) := by decide +kernel
theorem dX2_advanceIntervals_56 : decode cX2_advanceIntervals 56 = .ok (.iconst 1, 1) := by decide +kernel
theorem dX2_advanceIntervals_57 : decode cX2_advanceIntervals 57 = .ok (.invokevirtual 91, 3) := by decide +kernel
theorem dX2_advanceIntervals_60 : decode cX2_advanceIntervals 60 = .ok (.ldc2_w 67, 3) := by decide +kernel
theorem dX2_advanceIntervals_63 : decode cX2_advanceIntervals 63 = .ok (.invokestatic 69, 3) := by decide +kernel
theorem dX2_advanceIntervals_66 : decode cX2_advanceIntervals 66 = .ok (.l2i, 1) := by decide +kernel
theorem dX2_advanceIntervals_67 : decode cX2_advanceIntervals 67 = .ok (.iastore, 1) := by decide +kernel
theorem dX2_advanceIntervals_68 : decode cX2_advanceIntervals 68 = .ok (.iinc 4 1, 3) := by decide +kernel
theorem dX2_advanceIntervals_71 : decode cX2_advanceIntervals 71 = .ok (.goto (-68), 3) := by decide +kernel
theorem dX2_advanceIntervals_74 : decode cX2_advanceIntervals 74 = .ok (.iconst 0, 1) := by decide +kernel
theorem dX2_advanceIntervals_75 : decode cX2_advanceIntervals 75 = .ok (.istore 4, 2) := by decide +kernel
theorem dX2_advanceIntervals_77 : decode cX2_advanceIntervals 77 = .ok (.iload 4, 2) := by decide +kernel
theorem dX2_advanceIntervals_79 : decode cX2_advanceIntervals 79 = .ok (.aload_n 1, 1) := by decide +kernel
theorem dX2_advanceIntervals_80 : decode cX2_advanceIntervals 80 = .ok (.getfield 53, 3) := by decide +kernel
theorem dX2_advanceIntervals_83 : decode cX2_advanceIntervals 83 = .ok (.if_icmp .ge 89, 3) := by decide +kernel
theorem dX2_advanceIntervals_86 : decode cX2_advanceIntervals 86 = .ok (.aload_n 1, 1) := by decide +kernel
theorem dX2_advanceIntervals_87 : decode cX2_advanceIntervals 87 = .ok (.getfield 73, 3) := by decide +kernel
theorem dX2_advanceIntervals_90 : decode cX2_advanceIntervals 90 = .ok (.iload 4, 2) := by decide +kernel
theorem dX2_advanceIntervals_92 : decode cX2_advanceIntervals 92 = .ok (.iaload, 1) := by decide +kernel
theorem dX2_advanceIntervals_93 : decode cX2_advanceIntervals 93 = .ok (.iload_n 3, 1) := by decide +kernel
theorem dX2_advanceIntervals_94 : decode cX2_advanceIntervals 94 = .ok (.imul, 1) := by decide +kernel
theorem dX2_advanceIntervals_95 : decode cX2_advanceIntervals 95 = .ok (.istore 5, 2) := by decide +kernel
theorem dX2_advanceIntervals_97 : decode cX2_advanceIntervals 97 = .ok (.aload_n 1, 1) := by decide +kernel
theorem dX2_advanceIntervals_98 : decode cX2_advanceIntervals 98 = .ok (.getfield 76, 3) := by decide +kernel
theorem dX2_advanceIntervals_101 : decode cX2_advanceIntervals 101 = .ok (.iload 4, 2) := by decide +kernel
theorem dX2_advanceIntervals_103 : decode cX2_advanceIntervals 103 = .ok (.iaload, 1) := by decide +kernel
theorem dX2_advanceIntervals_104 : decode cX2_advanceIntervals 104 = .ok (.invokestatic 98, 3) := by decide +kernel
theorem dX2_advanceIntervals_107 : decode cX2_advanceIntervals 107 = .ok (.aload_n 2, 1) := by decide +kernel
theorem dX2_advanceIntervals_108 : decode cX2_advanceIntervals 108 = .ok (.getfield 44, 3) := by decide +kernel
theorem dX2_advanceIntervals_111 : decode cX2_advanceIntervals 111 = .ok (.imul, 1) := by decide +kernel
theorem dX2_advanceIntervals_112 : decode cX2_advanceIntervals 112 = .ok (.istore 6, 2) := by decide +kernel
theorem dX2_advanceIntervals_114 : decode cX2_advanceIntervals 114 = .ok (.aload_n 2, 1) := by decide +kernel
theorem dX2_advanceIntervals_115 : decode cX2_advanceIntervals 115 = .ok (.getfield 104, 3) := by decide +kernel
theorem dX2_advanceIntervals_118 : decode cX2_advanceIntervals 118 = .ok (.iload 4, 2) := by decide +kernel
theorem dX2_advanceIntervals_120 : decode cX2_advanceIntervals 120 = .ok (.aload_n 2, 1) := by decide +kernel
theorem dX2_advanceIntervals_121 : decode cX2_advanceIntervals 121 = .ok (.getfield 88, 3) := by decide +kernel
theorem dX2_advanceIntervals_124 : decode cX2_advanceIntervals 124 = .ok (.iload 4, 2) := by decide +kernel
theorem dX2_advanceIntervals_126 : decode cX2_advanceIntervals 126 = .ok (.iaload, 1) := by decide +kernel
theorem dX2_advanceIntervals_127 : decode cX2_advanceIntervals 127 = .ok (.iload 5, 2) := by decide +kernel
theorem dX2_advanceIntervals_129 : decode cX2_advanceIntervals 129 = .ok (.iadd, 1) := by decide +kernel
theorem dX2_advanceIntervals_130 : decode cX2_advanceIntervals 130 = .ok (.iload 6, 2) := by decide +kernel
theorem dX2_advanceIntervals_132 : decode cX2_advanceIntervals 132 = .ok (.isub, 1) := by decide +kernel
theorem dX2_advanceIntervals_133 : decode cX2_advanceIntervals 133 = .ok (.i2l, 1) := by decide +kernel
theorem dX2_advanceIntervals_134 : decode cX2_advanceIntervals 134 = .ok (.ldc 79, 2) := by decide +kernel
theorem dX2_advanceIntervals_136 : decode cX2_advanceIntervals 136 = .ok (.invokestatic 80, 3) := by decide +kernel
theorem dX2_advanceIntervals_139 : decode cX2_advanceIntervals 139 = .ok (.iastore, 1) := by decide +kernel
theorem dX2_advanceIntervals_140 : decode cX2_advanceIntervals 140 = .ok (.aload_n 2, 1) := by decide +kernel
theorem dX2_advanceIntervals_141 : decode cX2_advanceIntervals 141 = .ok (.getfield 107, 3) := by decide +kernel
theorem dX2_advanceIntervals_144 : decode cX2_advanceIntervals 144 = .ok (.iload 4, 2) := by decide +kernel
theorem dX2_advanceIntervals_146 : decode cX2_advanceIntervals 146 = .ok (.aload_n 2, 1) := by decide +kernel
theorem dX2_advanceIntervals_147 : decode cX2_advanceIntervals 147 = .ok (.getfield 95, 3) := by decide +kernel
theorem dX2_advanceIntervals_150 : decode cX2_advanceIntervals 150 = .ok (.iload 4, 2) := by decide +kernel
theorem dX2_advanceIntervals_152 : decode cX2_advanceIntervals 152 = .ok (.iaload, 1) := by decide +kernel
theorem dX2_advanceIntervals_153 : decode cX2_advanceIntervals 153 = .ok (.iload 5, 2) := by decide +kernel
theorem dX2_advanceIntervals_155 : decode cX2_advanceIntervals 155 = .ok (.iadd, 1) := by decide +kernel
theorem dX2_advanceIntervals_156 : decode cX2_advanceIntervals 156 = .ok (.iload 6, 2) := by decide +kernel
theorem dX2_advanceIntervals_158 : decode cX2_advanceIntervals 158 = .ok (.iadd, 1) := by decide +kernel
theorem dX2_advanceIntervals_159 : decode cX2_advanceIntervals 159 = .ok (.i2l, 1) := by decide +kernel
theorem dX2_advanceIntervals_160 : decode cX2_advanceIntervals 160 = .ok (.ldc 79, 2) := by decide +kernel
theorem dX2_advanceIntervals_162 : decode cX2_advanceIntervals 162 = .ok (.invokestatic 80, 3) := by decide +kernel
theorem dX2_advanceIntervals_165 : decode cX2_advanceIntervals 165 = .ok (.iastore, 1) := by decide +kernel
theorem dX2_advanceIntervals_166 : decode cX2_advanceIntervals 166 = .ok (.iinc 4 1, 3) := by decide +kernel
theorem dX2_advanceIntervals_169 : decode cX2_advanceIntervals 169 = .ok (.goto (-92), 3) := by decide +kernel
theorem dX2_advanceIntervals_172 : decode cX2_advanceIntervals 172 = .ok (.return_, 1) := by decide +kernel
theorem dX2_advanceEstimates_0 : decode cX2_advanceEstimates 0 = .ok (.iconst 0, 1) := by decide +kernel
theorem dX2_advanceEstimates_1 : decode cX2_advanceEstimates 1 = .ok (.istore 4, 2) := by decide +kernel
theorem dX2_advanceEstimates_3 : decode cX2_advanceEstimates 3 = .ok (.iload 4, 2) := by decide +kernel
theorem dX2_advanceEstimates_5 : decode cX2_advanceEstimates 5 = .ok (.aload_n 1, 1) := by decide +kernel
theorem dX2_advanceEstimates_6 : decode cX2_advanceEstimates 6 = .ok (.getfield 30, 3) := by decide +kernel
theorem dX2_advanceEstimates_9 : decode cX2_advanceEstimates 9 = .ok (.if_icmp .ge 24, 3) := by decide +kernel
theorem dX2_advanceEstimates_12 : decode cX2_advanceEstimates 12 = .ok (.aload_n 0, 1) := by decide +kernel
theorem dX2_advanceEstimates_13 : decode cX2_advanceEstimates 13 = .ok (.getfield 15, 3) := by decide +kernel
theorem dX2_advanceEstimates_16 : decode cX2_advanceEstimates 16 = .ok (.iload 4, 2) := by decide +kernel
theorem dX2_advanceEstimates_18 : decode cX2_advanceEstimates 18 = .ok (.aload_n 0, 1) := by decide +kernel
theorem dX2_advanceEstimates_19 : decode cX2_advanceEstimates 19 = .ok (.aload_n 1, 1) := by decide +kernel
theorem dX2_advanceEstimates_20 : decode cX2_advanceEstimates 20 = .ok (.aload_n 2, 1) := by decide +kernel
theorem dX2_advanceEstimates_21 : decode cX2_advanceEstimates 21 = .ok (.iload 4, 2) := by decide +kernel
theorem dX2_advanceEstimates_23 : decode cX2_advanceEstimates 23 = .ok (.invokevirtual 110, 3) := by decide +kernel
theorem dX2_advanceEstimates_26 : decode cX2_advanceEstimates 26 = .ok (.lastore, 1) := by decide +kernel
theorem dX2_advanceEstimates_27 : decode cX2_advanceEstimates 27 = .ok (.iinc 4 1, 3) := by decide +kernel
theorem dX2_advanceEstimates_30 : decode cX2_advanceEstimates 30 = .ok (.goto (-27), 3) := by decide +kernel
theorem dX2_advanceEstimates_33 : decode cX2_advanceEstimates 33 = .ok (.iconst 0, 1) := by decide +kernel
theorem dX2_advanceEstimates_34 : decode cX2_advanceEstimates 34 = .ok (.istore 4, 2) := by decide +kernel
theorem dX2_advanceEstimates_36 : decode cX2_advanceEstimates 36 = .ok (.iload 4, 2) := by decide +kernel
theorem dX2_advanceEstimates_38 : decode cX2_advanceEstimates 38 = .ok (.aload_n 1, 1) := by decide +kernel
theorem dX2_advanceEstimates_39 : decode cX2_advanceEstimates 39 = .ok (.getfield 53, 3) := by decide +kernel
theorem dX2_advanceEstimates_42 : decode cX2_advanceEstimates 42 = .ok (.if_icmp .ge 118, 3) := by decide +kernel
theorem dX2_advanceEstimates_45 : decode cX2_advanceEstimates 45 = .ok (.aload_n 1, 1) := by decide +kernel
theorem dX2_advanceEstimates_46 : decode cX2_advanceEstimates 46 = .ok (.aload_n 1, 1) := by decide +kernel
theorem dX2_advanceEstimates_47 : decode cX2_advanceEstimates 47 = .ok (.getfield 56, 3) := by decide +kernel
theorem dX2_advanceEstimates_50 : decode cX2_advanceEstimates 50 = .ok (.iload 4, 2) := by decide +kernel
theorem dX2_advanceEstimates_52 : decode cX2_advanceEstimates 52 = .ok (.aaload, 1) := by decide +kernel
theorem dX2_advanceEstimates_53 : decode cX2_advanceEstimates 53 = .ok (.aload_n 2, 1) := by decide +kernel
theorem dX2_advanceEstimates_54 : decode cX2_advanceEstimates 54 = .ok (.getfield 114, 3) := by decide +kernel
theorem dX2_advanceEstimates_57 : decode cX2_advanceEstimates 57 = .ok (.invokevirtual 63, 3) := by decide +kernel
theorem dX2_advanceEstimates_60 : decode cX2_advanceEstimates 60 = .ok (.ldc2_w 67, 3) := by decide +kernel
theorem dX2_advanceEstimates_63 : decode cX2_advanceEstimates 63 = .ok (.invokestatic 69, 3) := by decide +kernel
theorem dX2_advanceEstimates_66 : decode cX2_advanceEstimates 66 = .ok (.lstore 5, 2) := by decide +kernel
theorem dX2_advanceEstimates_68 : decode cX2_advanceEstimates 68 = .ok (.lconst 0, 1) := by decide +kernel
theorem dX2_advanceEstimates_69 : decode cX2_advanceEstimates 69 = .ok (.lstore 7, 2) := by decide +kernel
theorem dX2_advanceEstimates_71 : decode cX2_advanceEstimates 71 = .ok (.iconst 0, 1) := by decide +kernel
theorem dX2_advanceEstimates_72 : decode cX2_advanceEstimates 72 = .ok (.istore 9, 2) := by decide +kernel
theorem dX2_advanceEstimates_74 : decode cX2_advanceEstimates 74 = .ok (.iload 9, 2) := by decide +kernel
theorem dX2_advanceEstimates_76 : decode cX2_advanceEstimates 76 = .ok (.aload_n 1, 1) := by decide +kernel
theorem dX2_advanceEstimates_77 : decode cX2_advanceEstimates 77 = .ok (.getfield 30, 3) := by decide +kernel
theorem dX2_advanceEstimates_80 : decode cX2_advanceEstimates 80 = .ok (.if_icmp .ge 33, 3) := by decide +kernel
theorem dX2_advanceEstimates_83 : decode cX2_advanceEstimates 83 = .ok (.lload 7, 2) := by decide +kernel
theorem dX2_advanceEstimates_85 : decode cX2_advanceEstimates 85 = .ok (.aload_n 2, 1) := by decide +kernel
theorem dX2_advanceEstimates_86 : decode cX2_advanceEstimates 86 = .ok (.getfield 117, 3) := by decide +kernel
theorem dX2_advanceEstimates_89 : decode cX2_advanceEstimates 89 = .ok (.iload 4, 2) := by decide +kernel
theorem dX2_advanceEstimates_91 : decode cX2_advanceEstimates 91 = .ok (.aaload, 1) := by decide +kernel
theorem dX2_advanceEstimates_92 : decode cX2_advanceEstimates 92 = .ok (.iload 9, 2) := by decide +kernel
theorem dX2_advanceEstimates_94 : decode cX2_advanceEstimates 94 = .ok (.iaload, 1) := by decide +kernel
theorem dX2_advanceEstimates_95 : decode cX2_advanceEstimates 95 = .ok (.i2l, 1) := by decide +kernel
theorem dX2_advanceEstimates_96 : decode cX2_advanceEstimates 96 = .ok (.aload_n 0, 1) := by decide +kernel
theorem dX2_advanceEstimates_97 : decode cX2_advanceEstimates 97 = .ok (.getfield 15, 3) := by decide +kernel
theorem dX2_advanceEstimates_100 : decode cX2_advanceEstimates 100 = .ok (.iload 9, 2) := by decide +kernel
theorem dX2_advanceEstimates_102 : decode cX2_advanceEstimates 102 = .ok (.laload, 1) := by decide +kernel
theorem dX2_advanceEstimates_103 : decode cX2_advanceEstimates 103 = .ok (.lmul, 1) := by decide +kernel
theorem dX2_advanceEstimates_104 : decode cX2_advanceEstimates 104 = .ok (.ladd, 1) := by decide +kernel
theorem dX2_advanceEstimates_105 : decode cX2_advanceEstimates 105 = .ok (.lstore 7, 2) := by decide +kernel
theorem dX2_advanceEstimates_107 : decode cX2_advanceEstimates 107 = .ok (.iinc 9 1, 3) := by decide +kernel
theorem dX2_advanceEstimates_110 : decode cX2_advanceEstimates 110 = .ok (.goto (-36), 3) := by decide +kernel
theorem dX2_advanceEstimates_113 : decode cX2_advanceEstimates 113 = .ok (.lload 5, 2) := by decide +kernel
theorem dX2_advanceEstimates_115 : decode cX2_advanceEstimates 115 = .ok (.bipush 16, 2) := by decide +kernel
theorem dX2_advanceEstimates_117 : decode cX2_advanceEstimates 117 = .ok (.aload_n 1, 1) := by decide +kernel
theorem dX2_advanceEstimates_118 : decode cX2_advanceEstimates 118 = .ok (.getfield 73, 3) := by decide +kernel
theorem dX2_advanceEstimates_121 : decode cX2_advanceEstimates 121 = .ok (.iload 4, 2) := by decide +kernel
theorem dX2_advanceEstimates_123 : decode cX2_advanceEstimates 123 = .ok (.iaload, 1) := by decide +kernel
theorem dX2_advanceEstimates_124 : decode cX2_advanceEstimates 124 = .ok (.imul, 1) := by decide +kernel
theorem dX2_advanceEstimates_125 : decode cX2_advanceEstimates 125 = .ok (.iload_n 3, 1) := by decide +kernel
theorem dX2_advanceEstimates_126 : decode cX2_advanceEstimates 126 = .ok (.imul, 1) := by decide +kernel
theorem dX2_advanceEstimates_127 : decode cX2_advanceEstimates 127 = .ok (.i2l, 1) := by decide +kernel
theorem dX2_advanceEstimates_128 : decode cX2_advanceEstimates 128 = .ok (.ladd, 1) := by decide +kernel
theorem dX2_advanceEstimates_129 : decode cX2_advanceEstimates 129 = .ok (.lload 7, 2) := by decide +kernel
theorem dX2_advanceEstimates_131 : decode cX2_advanceEstimates 131 = .ok (.ldc2_w 67, 3) := by decide +kernel
theorem dX2_advanceEstimates_134 : decode cX2_advanceEstimates 134 = .ok (.invokestatic 69, 3) := by decide +kernel
theorem dX2_advanceEstimates_137 : decode cX2_advanceEstimates 137 = .ok (.ladd, 1) := by decide +kernel
theorem dX2_advanceEstimates_138 : decode cX2_advanceEstimates 138 = .ok (.lstore 9, 2) := by decide +kernel
theorem dX2_advanceEstimates_140 : decode cX2_advanceEstimates 140 = .ok (.aload_n 0, 1) := by decide +kernel
theorem dX2_advanceEstimates_141 : decode cX2_advanceEstimates 141 = .ok (.getfield 9, 3) := by decide +kernel
theorem dX2_advanceEstimates_144 : decode cX2_advanceEstimates 144 = .ok (.iload 4, 2) := by decide +kernel
theorem dX2_advanceEstimates_146 : decode cX2_advanceEstimates 146 = .ok (.lload 9, 2) := by decide +kernel
theorem dX2_advanceEstimates_148 : decode cX2_advanceEstimates 148 = .ok (.ldc 120, 2) := by decide +kernel
theorem dX2_advanceEstimates_150 : decode cX2_advanceEstimates 150 = .ok (.invokestatic 80, 3) := by decide +kernel
theorem dX2_advanceEstimates_153 : decode cX2_advanceEstimates 153 = .ok (.iastore, 1) := by decide +kernel
theorem dX2_advanceEstimates_154 : decode cX2_advanceEstimates 154 = .ok (.iinc 4 1, 3) := by decide +kernel
theorem dX2_advanceEstimates_157 : decode cX2_advanceEstimates 157 = .ok (.goto (-121), 3) := by decide +kernel
theorem dX2_advanceEstimates_160 : decode cX2_advanceEstimates 160 = .ok (.aload_n 0, 1) := by decide +kernel
theorem dX2_advanceEstimates_161 : decode cX2_advanceEstimates 161 = .ok (.getfield 9, 3) := by decide +kernel
theorem dX2_advanceEstimates_164 : decode cX2_advanceEstimates 164 = .ok (.aload_n 2, 1) := by decide +kernel
theorem dX2_advanceEstimates_165 : decode cX2_advanceEstimates 165 = .ok (.getfield 114, 3) := by decide +kernel
theorem dX2_advanceEstimates_168 : decode cX2_advanceEstimates 168 = .ok (.invokestatic 84, 3) := by decide +kernel
theorem dX2_advanceEstimates_171 : decode cX2_advanceEstimates 171 = .ok (.return_, 1) := by decide +kernel
theorem dX2_deviationOf_0 : decode cX2_deviationOf 0 = .ok (.aload_n 2, 1) := by decide +kernel
theorem dX2_deviationOf_1 : decode cX2_deviationOf 1 = .ok (.getfield 36, 3) := by decide +kernel
theorem dX2_deviationOf_4 : decode cX2_deviationOf 4 = .ok (.iload_n 3, 1) := by decide +kernel
theorem dX2_deviationOf_5 : decode cX2_deviationOf 5 = .ok (.iaload, 1) := by decide +kernel
theorem dX2_deviationOf_6 : decode cX2_deviationOf 6 = .ok (.iconst (-1), 1) := by decide +kernel
theorem dX2_deviationOf_7 : decode cX2_deviationOf 7 = .ok (.if_icmp .eq 16, 3) := by decide +kernel
theorem dX2_deviationOf_10 : decode cX2_deviationOf 10 = .ok (.aload_n 2, 1) := by decide +kernel
theorem dX2_deviationOf_11 : decode cX2_deviationOf 11 = .ok (.getfield 36, 3) := by decide +kernel
theorem dX2_deviationOf_14 : decode cX2_deviationOf 14 = .ok (.iload_n 3, 1) := by decide +kernel
theorem dX2_deviationOf_15 : decode cX2_deviationOf 15 = .ok (.iaload, 1) := by decide +kernel
theorem dX2_deviationOf_16 : decode cX2_deviationOf 16 = .ok (.aload_n 2, 1) := by decide +kernel
theorem dX2_deviationOf_17 : decode cX2_deviationOf 17 = .ok (.getfield 121, 3) := by decide +kernel
theorem dX2_deviationOf_20 : decode cX2_deviationOf 20 = .ok (.if_icmp .le 5, 3) := by decide +kernel
theorem dX2_deviationOf_23 : decode cX2_deviationOf 23 = .ok (.lconst 0, 1) := by decide +kernel
theorem dX2_deviationOf_24 : decode cX2_deviationOf 24 = .ok (.lreturn, 1) := by decide +kernel
theorem dX2_deviationOf_25 : decode cX2_deviationOf 25 = .ok (.aload_n 1, 1) := by decide +kernel
theorem dX2_deviationOf_26 : decode cX2_deviationOf 26 = .ok (.getfield 124, 3) := by decide +kernel
theorem dX2_deviationOf_29 : decode cX2_deviationOf 29 = .ok (.iload_n 3, 1) := by decide +kernel
theorem dX2_deviationOf_30 : decode cX2_deviationOf 30 = .ok (.iaload, 1) := by decide +kernel
theorem dX2_deviationOf_31 : decode cX2_deviationOf 31 = .ok (.i2l, 1) := by decide +kernel
theorem dX2_deviationOf_32 : decode cX2_deviationOf 32 = .ok (.lstore 4, 2) := by decide +kernel
theorem dX2_deviationOf_34 : decode cX2_deviationOf 34 = .ok (.ldc2_w 67, 3) := by decide +kernel
theorem dX2_deviationOf_37 : decode cX2_deviationOf 37 = .ok (.lload 4, 2) := by decide +kernel
theorem dX2_deviationOf_39 : decode cX2_deviationOf 39 = .ok (.lmul, 1) := by decide +kernel
theorem dX2_deviationOf_40 : decode cX2_deviationOf 40 = .ok (.aload_n 2, 1) := by decide +kernel
theorem dX2_deviationOf_41 : decode cX2_deviationOf 41 = .ok (.getfield 127, 3) := by decide +kernel
theorem dX2_deviationOf_44 : decode cX2_deviationOf 44 = .ok (.iload_n 3, 1) := by decide +kernel
theorem dX2_deviationOf_45 : decode cX2_deviationOf 45 = .ok (.iaload, 1) := by decide +kernel
theorem dX2_deviationOf_46 : decode cX2_deviationOf 46 = .ok (.i2l, 1) := by decide +kernel
theorem dX2_deviationOf_47 : decode cX2_deviationOf 47 = .ok (.lmul, 1) := by decide +kernel
theorem dX2_deviationOf_48 : decode cX2_deviationOf 48 = .ok (.ldc2_w 130, 3) := by decide +kernel
theorem dX2_deviationOf_51 : decode cX2_deviationOf 51 = .ok (.lload 4, 2) := by decide +kernel
theorem dX2_deviationOf_53 : decode cX2_deviationOf 53 = .ok (.lconst 1, 1) := by decide +kernel
theorem dX2_deviationOf_54 : decode cX2_deviationOf 54 = .ok (.lsub, 1) := by decide +kernel
theorem dX2_deviationOf_55 : decode cX2_deviationOf 55 = .ok (.lmul, 1) := by decide +kernel
theorem dX2_deviationOf_56 : decode cX2_deviationOf 56 = .ok (.ladd, 1) := by decide +kernel
theorem dX2_deviationOf_57 : decode cX2_deviationOf 57 = .ok (.aload_n 1, 1) := by decide +kernel
theorem dX2_deviationOf_58 : decode cX2_deviationOf 58 = .ok (.aload_n 1, 1) := by decide +kernel
theorem dX2_deviationOf_59 : decode cX2_deviationOf 59 = .ok (.getfield 132, 3) := by decide +kernel
theorem dX2_deviationOf_62 : decode cX2_deviationOf 62 = .ok (.iload_n 3, 1) := by decide +kernel
theorem dX2_deviationOf_63 : decode cX2_deviationOf 63 = .ok (.aaload, 1) := by decide +kernel
theorem dX2_deviationOf_64 : decode cX2_deviationOf 64 = .ok (.aload_n 2, 1) := by decide +kernel
theorem dX2_deviationOf_65 : decode cX2_deviationOf 65 = .ok (.getfield 114, 3) := by decide +kernel
theorem dX2_deviationOf_68 : decode cX2_deviationOf 68 = .ok (.invokevirtual 63, 3) := by decide +kernel
theorem dX2_deviationOf_71 : decode cX2_deviationOf 71 = .ok (.lsub, 1) := by decide +kernel
theorem dX2_deviationOf_72 : decode cX2_deviationOf 72 = .ok (.lreturn, 1) := by decide +kernel
theorem dX2_observe_0 : decode cX2_observe 0 = .ok (.aload_n 2, 1) := by decide +kernel
theorem dX2_observe_1 : decode cX2_observe 1 = .ok (.getfield 127, 3) := by decide +kernel
theorem dX2_observe_4 : decode cX2_observe 4 = .ok (.iload_n 3, 1) := by decide +kernel
theorem dX2_observe_5 : decode cX2_observe 5 = .ok (.aload_n 1, 1) := by decide +kernel
theorem dX2_observe_6 : decode cX2_observe 6 = .ok (.iload_n 3, 1) := by decide +kernel
theorem dX2_observe_7 : decode cX2_observe 7 = .ok (.aload_n 1, 1) := by decide +kernel
theorem dX2_observe_8 : decode cX2_observe 8 = .ok (.aload_n 1, 1) := by decide +kernel
theorem dX2_observe_9 : decode cX2_observe 9 = .ok (.getfield 132, 3) := by decide +kernel
theorem dX2_observe_12 : decode cX2_observe 12 = .ok (.iload_n 3, 1) := by decide +kernel
theorem dX2_observe_13 : decode cX2_observe 13 = .ok (.aaload, 1) := by decide +kernel
theorem dX2_observe_14 : decode cX2_observe 14 = .ok (.aload_n 2, 1) := by decide +kernel
theorem dX2_observe_15 : decode cX2_observe 15 = .ok (.getfield 60, 3) := by decide +kernel
theorem dX2_observe_18 : decode cX2_observe 18 = .ok (.invokevirtual 63, 3) := by decide +kernel
theorem dX2_observe_21 : decode cX2_observe 21 = .ok (.invokevirtual 135, 3) := by decide +kernel
theorem dX2_observe_24 : decode cX2_observe 24 = .ok (.iastore, 1) := by decide +kernel
theorem dX2_observe_25 : decode cX2_observe 25 = .ok (.aload_n 2, 1) := by decide +kernel
theorem dX2_observe_26 : decode cX2_observe 26 = .ok (.getfield 36, 3) := by decide +kernel
theorem dX2_observe_29 : decode cX2_observe 29 = .ok (.iload_n 3, 1) := by decide +kernel
theorem dX2_observe_30 : decode cX2_observe 30 = .ok (.iconst 0, 1) := by decide +kernel
theorem dX2_observe_31 : decode cX2_observe 31 = .ok (.iastore, 1) := by decide +kernel
theorem dX2_observe_32 : decode cX2_observe 32 = .ok (.aload_n 0, 1) := by decide +kernel
theorem dX2_observe_33 : decode cX2_observe 33 = .ok (.aload_n 1, 1) := by decide +kernel
theorem dX2_observe_34 : decode cX2_observe 34 = .ok (.aload_n 2, 1) := by decide +kernel
theorem dX2_observe_35 : decode cX2_observe 35 = .ok (.invokevirtual 139, 3) := by decide +kernel
theorem dX2_observe_38 : decode cX2_observe 38 = .ok (.pop, 1) := by decide +kernel
theorem dX2_observe_39 : decode cX2_observe 39 = .ok (.return_, 1) := by decide +kernel
theorem dX2_tighten_0 : decode cX2_tighten 0 = .ok (.iconst 0, 1) := by decide +kernel
theorem dX2_tighten_1 : decode cX2_tighten 1 = .ok (.istore_n 3, 1) := by decide +kernel
theorem dX2_tighten_2 : decode cX2_tighten 2 = .ok (.iload_n 3, 1) := by decide +kernel
theorem dX2_tighten_3 : decode cX2_tighten 3 = .ok (.bipush 100, 2) := by decide +kernel
theorem dX2_tighten_5 : decode cX2_tighten 5 = .ok (.if_icmp .ge 34, 3) := by decide +kernel
theorem dX2_tighten_8 : decode cX2_tighten 8 = .ok (.aload_n 0, 1) := by decide +kernel
theorem dX2_tighten_9 : decode cX2_tighten 9 = .ok (.aload_n 1, 1) := by decide +kernel
theorem dX2_tighten_10 : decode cX2_tighten 10 = .ok (.aload_n 2, 1) := by decide +kernel
theorem dX2_tighten_11 : decode cX2_tighten 11 = .ok (.invokevirtual 143, 3) := by decide +kernel
theorem dX2_tighten_14 : decode cX2_tighten 14 = .ok (.istore 4, 2) := by decide +kernel
theorem dX2_tighten_16 : decode cX2_tighten 16 = .ok (.iload 4, 2) := by decide +kernel
theorem dX2_tighten_18 : decode cX2_tighten 18 = .ok (.iconst 1, 1) := by decide +kernel
theorem dX2_tighten_19 : decode cX2_tighten 19 = .ok (.if_icmp .eq 14, 3) := by decide +kernel
theorem dX2_tighten_22 : decode cX2_tighten 22 = .ok (.iload 4, 2) := by decide +kernel
theorem dX2_tighten_24 : decode cX2_tighten 24 = .ok (.ifCond .ne 7, 3) := by decide +kernel
theorem dX2_tighten_27 : decode cX2_tighten 27 = .ok (.iconst 1, 1) := by decide +kernel
theorem dX2_tighten_28 : decode cX2_tighten 28 = .ok (.goto 4, 3) := by decide +kernel
theorem dX2_tighten_31 : decode cX2_tighten 31 = .ok (.iconst 0, 1) := by decide +kernel
theorem dX2_tighten_32 : decode cX2_tighten 32 = .ok (.ireturn, 1) := by decide +kernel
theorem dX2_tighten_33 : decode cX2_tighten 33 = .ok (.iinc 3 1, 3) := by decide +kernel
theorem dX2_tighten_36 : decode cX2_tighten 36 = .ok (.goto (-34), 3) := by decide +kernel
theorem dX2_tighten_39 : decode cX2_tighten 39 = .ok (.iconst 1, 1) := by decide +kernel
theorem dX2_tighten_40 : decode cX2_tighten 40 = .ok (.ireturn, 1) := by decide +kernel
theorem dX2_makePass_0 : decode cX2_makePass 0 = .ok (.iconst 0, 1) := by decide +kernel
theorem dX2_makePass_1 : decode cX2_makePass 1 = .ok (.istore_n 3, 1) := by decide +kernel
theorem dX2_makePass_2 : decode cX2_makePass 2 = .ok (.iconst 0, 1) := by decide +kernel
theorem dX2_makePass_3 : decode cX2_makePass 3 = .ok (.istore 4, 2) := by decide +kernel
theorem dX2_makePass_5 : decode cX2_makePass 5 = .ok (.iload 4, 2) := by decide +kernel
theorem dX2_makePass_7 : decode cX2_makePass 7 = .ok (.aload_n 1, 1) := by decide +kernel
theorem dX2_makePass_8 : decode cX2_makePass 8 = .ok (.getfield 30, 3) := by decide +kernel
theorem dX2_makePass_11 : decode cX2_makePass 11 = .ok (.if_icmp .ge 59, 3) := by decide +kernel
theorem dX2_makePass_14 : decode cX2_makePass 14 = .ok (.iconst 0, 1) := by decide +kernel
theorem dX2_makePass_15 : decode cX2_makePass 15 = .ok (.istore 5, 2) := by decide +kernel
theorem dX2_makePass_17 : decode cX2_makePass 17 = .ok (.iload 5, 2) := by decide +kernel
theorem dX2_makePass_19 : decode cX2_makePass 19 = .ok (.aload_n 1, 1) := by decide +kernel
theorem dX2_makePass_20 : decode cX2_makePass 20 = .ok (.getfield 53, 3) := by decide +kernel
theorem dX2_makePass_23 : decode cX2_makePass 23 = .ok (.if_icmp .ge 41, 3) := by decide +kernel
theorem dX2_makePass_26 : decode cX2_makePass 26 = .ok (.aload_n 2, 1) := by decide +kernel
theorem dX2_makePass_27 : decode cX2_makePass 27 = .ok (.getfield 36, 3) := by decide +kernel
theorem dX2_makePass_30 : decode cX2_makePass 30 = .ok (.iload 4, 2) := by decide +kernel
theorem dX2_makePass_32 : decode cX2_makePass 32 = .ok (.iaload, 1) := by decide +kernel
theorem dX2_makePass_33 : decode cX2_makePass 33 = .ok (.ifCond .ne 31, 3) := by decide +kernel
theorem dX2_makePass_36 : decode cX2_makePass 36 = .ok (.iload_n 3, 1) := by decide +kernel
theorem dX2_makePass_37 : decode cX2_makePass 37 = .ok (.aload_n 0, 1) := by decide +kernel
theorem dX2_makePass_38 : decode cX2_makePass 38 = .ok (.aload_n 1, 1) := by decide +kernel
theorem dX2_makePass_39 : decode cX2_makePass 39 = .ok (.aload_n 2, 1) := by decide +kernel
theorem dX2_makePass_40 : decode cX2_makePass 40 = .ok (.iload 4, 2) := by decide +kernel
theorem dX2_makePass_42 : decode cX2_makePass 42 = .ok (.iload 5, 2) := by decide +kernel
theorem dX2_makePass_44 : decode cX2_makePass 44 = .ok (.invokevirtual 147, 3) := by decide +kernel
theorem dX2_makePass_47 : decode cX2_makePass 47 = .ok (.invokestatic 151, 3) := by decide +kernel
theorem dX2_makePass_50 : decode cX2_makePass 50 = .ok (.istore_n 3, 1) := by decide +kernel
theorem dX2_makePass_51 : decode cX2_makePass 51 = .ok (.iload_n 3, 1) := by decide +kernel
theorem dX2_makePass_52 : decode cX2_makePass 52 = .ok (.iconst 2, 1) := by decide +kernel
theorem dX2_makePass_53 : decode cX2_makePass 53 = .ok (.if_icmp .ne 5, 3) := by decide +kernel
theorem dX2_makePass_56 : decode cX2_makePass 56 = .ok (.iconst 2, 1) := by decide +kernel
theorem dX2_makePass_57 : decode cX2_makePass 57 = .ok (.ireturn, 1) := by decide +kernel
theorem dX2_makePass_58 : decode cX2_makePass 58 = .ok (.iinc 5 1, 3) := by decide +kernel
theorem dX2_makePass_61 : decode cX2_makePass 61 = .ok (.goto (-44), 3) := by decide +kernel
theorem dX2_makePass_64 : decode cX2_makePass 64 = .ok (.iinc 4 1, 3) := by decide +kernel
theorem dX2_makePass_67 : decode cX2_makePass 67 = .ok (.goto (-62), 3) := by decide +kernel
theorem dX2_makePass_70 : decode cX2_makePass 70 = .ok (.iload_n 3, 1) := by decide +kernel
theorem dX2_makePass_71 : decode cX2_makePass 71 = .ok (.ireturn, 1) := by decide +kernel
theorem dX2_cutDown_0 : decode cX2_cutDown 0 = .ok (.aload_n 1, 1) := by decide +kernel
theorem dX2_cutDown_1 : decode cX2_cutDown 1 = .ok (.getfield 132, 3) := by decide +kernel
theorem dX2_cutDown_4 : decode cX2_cutDown 4 = .ok (.iload_n 3, 1) := by decide +kernel
theorem dX2_cutDown_5 : decode cX2_cutDown 5 = .ok (.aaload, 1) := by decide +kernel
theorem dX2_cutDown_6 : decode cX2_cutDown 6 = .ok (.astore 5, 2) := by decide +kernel
theorem dX2_cutDown_8 : decode cX2_cutDown 8 = .ok (.aload 5, 2) := by decide +kernel
theorem dX2_cutDown_10 : decode cX2_cutDown 10 = .ok (.iload 4, 2) := by decide +kernel
theorem dX2_cutDown_12 : decode cX2_cutDown 12 = .ok (.iaload, 1) := by decide +kernel
theorem dX2_cutDown_13 : decode cX2_cutDown 13 = .ok (.i2l, 1) := by decide +kernel
theorem dX2_cutDown_14 : decode cX2_cutDown 14 = .ok (.lstore 6, 2) := by decide +kernel
theorem dX2_cutDown_16 : decode cX2_cutDown 16 = .ok (.lload 6, 2) := by decide +kernel
theorem dX2_cutDown_18 : decode cX2_cutDown 18 = .ok (.lconst 0, 1) := by decide +kernel
theorem dX2_cutDown_19 : decode cX2_cutDown 19 = .ok (.lcmp, 1) := by decide +kernel
theorem dX2_cutDown_20 : decode cX2_cutDown 20 = .ok (.ifCond .ne 5, 3) := by decide +kernel
theorem dX2_cutDown_23 : decode cX2_cutDown 23 = .ok (.iconst 0, 1) := by decide +kernel
theorem dX2_cutDown_24 : decode cX2_cutDown 24 = .ok (.ireturn, 1) := by decide +kernel
theorem dX2_cutDown_25 : decode cX2_cutDown 25 = .ok (.aload_n 1, 1) := by decide +kernel
theorem dX2_cutDown_26 : decode cX2_cutDown 26 = .ok (.getfield 124, 3) := by decide +kernel
theorem dX2_cutDown_29 : decode cX2_cutDown 29 = .ok (.iload_n 3, 1) := by decide +kernel
theorem dX2_cutDown_30 : decode cX2_cutDown 30 = .ok (.iaload, 1) := by decide +kernel
theorem dX2_cutDown_31 : decode cX2_cutDown 31 = .ok (.i2l, 1) := by decide +kernel
theorem dX2_cutDown_32 : decode cX2_cutDown 32 = .ok (.aload_n 2, 1) := by decide +kernel
theorem dX2_cutDown_33 : decode cX2_cutDown 33 = .ok (.getfield 127, 3) := by decide +kernel
theorem dX2_cutDown_36 : decode cX2_cutDown 36 = .ok (.iload_n 3, 1) := by decide +kernel
theorem dX2_cutDown_37 : decode cX2_cutDown 37 = .ok (.iaload, 1) := by decide +kernel
theorem dX2_cutDown_38 : decode cX2_cutDown 38 = .ok (.i2l, 1) := by decide +kernel
theorem dX2_cutDown_39 : decode cX2_cutDown 39 = .ok (.lmul, 1) := by decide +kernel
theorem dX2_cutDown_40 : decode cX2_cutDown 40 = .ok (.lstore 8, 2) := by decide +kernel
theorem dX2_cutDown_42 : decode cX2_cutDown 42 = .ok (.lload 8, 2) := by decide +kernel
theorem dX2_cutDown_44 : decode cX2_cutDown 44 = .ok (.aload_n 1, 1) := by decide +kernel
theorem dX2_cutDown_45 : decode cX2_cutDown 45 = .ok (.getfield 124, 3) := by decide +kernel
theorem dX2_cutDown_48 : decode cX2_cutDown 48 = .ok (.iload_n 3, 1) := by decide +kernel
theorem dX2_cutDown_49 : decode cX2_cutDown 49 = .ok (.iaload, 1) := by decide +kernel
theorem dX2_cutDown_50 : decode cX2_cutDown 50 = .ok (.i2l, 1) := by decide +kernel
theorem dX2_cutDown_51 : decode cX2_cutDown 51 = .ok (.ladd, 1) := by decide +kernel
theorem dX2_cutDown_52 : decode cX2_cutDown 52 = .ok (.lconst 1, 1) := by decide +kernel
theorem dX2_cutDown_53 : decode cX2_cutDown 53 = .ok (.lsub, 1) := by decide +kernel
theorem dX2_cutDown_54 : decode cX2_cutDown 54 = .ok (.lstore 10, 2) := by decide +kernel
theorem dX2_cutDown_56 : decode cX2_cutDown 56 = .ok (.lload 8, 2) := by decide +kernel
theorem dX2_cutDown_58 : decode cX2_cutDown 58 = .ok (.aload_n 1, 1) := by decide +kernel
theorem dX2_cutDown_59 : decode cX2_cutDown 59 = .ok (.aload 5, 2) := by decide +kernel
theorem dX2_cutDown_61 : decode cX2_cutDown 61 = .ok (.aload_n 2, 1) := by decide +kernel
theorem dX2_cutDown_62 : decode cX2_cutDown 62 = .ok (.iload 4, 2) := by decide +kernel
theorem dX2_cutDown_64 : decode cX2_cutDown 64 = .ok (.iconst 1, 1) := by decide +kernel
theorem dX2_cutDown_65 : decode cX2_cutDown 65 = .ok (.invokevirtual 91, 3) := by decide +kernel
theorem dX2_cutDown_68 : decode cX2_cutDown 68 = .ok (.lsub, 1) := by decide +kernel
theorem dX2_cutDown_69 : decode cX2_cutDown 69 = .ok (.lstore 12, 2) := by decide +kernel
theorem dX2_cutDown_71 : decode cX2_cutDown 71 = .ok (.lload 10, 2) := by decide +kernel
theorem dX2_cutDown_73 : decode cX2_cutDown 73 = .ok (.aload_n 1, 1) := by decide +kernel
theorem dX2_cutDown_74 : decode cX2_cutDown 74 = .ok (.aload 5, 2) := by decide +kernel
theorem dX2_cutDown_76 : decode cX2_cutDown 76 = .ok (.aload_n 2, 1) := by decide +kernel
theorem dX2_cutDown_77 : decode cX2_cutDown 77 = .ok (.iload 4, 2) := by decide +kernel
theorem dX2_cutDown_79 : decode cX2_cutDown 79 = .ok (.iconst 0, 1) := by decide +kernel
theorem dX2_cutDown_80 : decode cX2_cutDown 80 = .ok (.invokevirtual 91, 3) := by decide +kernel
theorem dX2_cutDown_83 : decode cX2_cutDown 83 = .ok (.lsub, 1) := by decide +kernel
theorem dX2_cutDown_84 : decode cX2_cutDown 84 = .ok (.lstore 14, 2) := by decide +kernel
theorem dX2_cutDown_86 : decode cX2_cutDown 86 = .ok (.lload 6, 2) := by decide +kernel
theorem dX2_cutDown_88 : decode cX2_cutDown 88 = .ok (.lconst 0, 1) := by decide +kernel
theorem dX2_cutDown_89 : decode cX2_cutDown 89 = .ok (.lcmp, 1) := by decide +kernel
theorem dX2_cutDown_90 : decode cX2_cutDown 90 = .ok (.ifCond .le 8, 3) := by decide +kernel
theorem dX2_cutDown_93 : decode cX2_cutDown 93 = .ok (.lload 12, 2) := by decide +kernel
theorem dX2_cutDown_95 : decode cX2_cutDown 95 = .ok (.goto 5, 3) := by decide +kernel
theorem dX2_cutDown_98 : decode cX2_cutDown 98 = .ok (.lload 14, 2) := by decide +kernel
theorem dX2_cutDown_100 : decode cX2_cutDown 100 = .ok (.lneg, 1) := by decide +kernel
theorem dX2_cutDown_101 : decode cX2_cutDown 101 = .ok (.lload 6, 2) := by decide +kernel
theorem dX2_cutDown_103 : decode cX2_cutDown 103 = .ok (.invokestatic 155, 3) := by decide +kernel
theorem dX2_cutDown_106 : decode cX2_cutDown 106 = .ok (.lneg, 1) := by decide +kernel
theorem dX2_cutDown_107 : decode cX2_cutDown 107 = .ok (.lstore 16, 2) := by decide +kernel
theorem dX2_cutDown_109 : decode cX2_cutDown 109 = .ok (.lload 6, 2) := by decide +kernel
theorem dX2_cutDown_111 : decode cX2_cutDown 111 = .ok (.lconst 0, 1) := by decide +kernel
theorem dX2_cutDown_112 : decode cX2_cutDown 112 = .ok (.lcmp, 1) := by decide +kernel
theorem dX2_cutDown_113 : decode cX2_cutDown 113 = .ok (.ifCond .le 8, 3) := by decide +kernel
theorem dX2_cutDown_116 : decode cX2_cutDown 116 = .ok (.lload 14, 2) := by decide +kernel
theorem dX2_cutDown_118 : decode cX2_cutDown 118 = .ok (.goto 5, 3) := by decide +kernel
theorem dX2_cutDown_121 : decode cX2_cutDown 121 = .ok (.lload 12, 2) := by decide +kernel
theorem dX2_cutDown_123 : decode cX2_cutDown 123 = .ok (.lload 6, 2) := by decide +kernel
theorem dX2_cutDown_125 : decode cX2_cutDown 125 = .ok (.invokestatic 155, 3) := by decide +kernel
theorem dX2_cutDown_128 : decode cX2_cutDown 128 = .ok (.lstore 18, 2) := by decide +kernel
theorem dX2_cutDown_130 : decode cX2_cutDown 130 = .ok (.lload 16, 2) := by decide +kernel
theorem dX2_cutDown_132 : decode cX2_cutDown 132 = .ok (.aload_n 2, 1) := by decide +kernel
theorem dX2_cutDown_133 : decode cX2_cutDown 133 = .ok (.getfield 104, 3) := by decide +kernel
theorem dX2_cutDown_136 : decode cX2_cutDown 136 = .ok (.iload 4, 2) := by decide +kernel
theorem dX2_cutDown_138 : decode cX2_cutDown 138 = .ok (.iaload, 1) := by decide +kernel
theorem dX2_cutDown_139 : decode cX2_cutDown 139 = .ok (.i2l, 1) := by decide +kernel
theorem dX2_cutDown_140 : decode cX2_cutDown 140 = .ok (.invokestatic 158, 3) := by decide +kernel
theorem dX2_cutDown_143 : decode cX2_cutDown 143 = .ok (.lstore 16, 2) := by decide +kernel
theorem dX2_cutDown_145 : decode cX2_cutDown 145 = .ok (.lload 18, 2) := by decide +kernel
theorem dX2_cutDown_147 : decode cX2_cutDown 147 = .ok (.aload_n 2, 1) := by decide +kernel
theorem dX2_cutDown_148 : decode cX2_cutDown 148 = .ok (.getfield 107, 3) := by decide +kernel
theorem dX2_cutDown_151 : decode cX2_cutDown 151 = .ok (.iload 4, 2) := by decide +kernel
theorem dX2_cutDown_153 : decode cX2_cutDown 153 = .ok (.iaload, 1) := by decide +kernel
theorem dX2_cutDown_154 : decode cX2_cutDown 154 = .ok (.i2l, 1) := by decide +kernel
theorem dX2_cutDown_155 : decode cX2_cutDown 155 = .ok (.invokestatic 160, 3) := by decide +kernel
theorem dX2_cutDown_158 : decode cX2_cutDown 158 = .ok (.lstore 18, 2) := by decide +kernel
theorem dX2_cutDown_160 : decode cX2_cutDown 160 = .ok (.lload 16, 2) := by decide +kernel
theorem dX2_cutDown_162 : decode cX2_cutDown 162 = .ok (.lload 18, 2) := by decide +kernel
theorem dX2_cutDown_164 : decode cX2_cutDown 164 = .ok (.lcmp, 1) := by decide +kernel
theorem dX2_cutDown_165 : decode cX2_cutDown 165 = .ok (.ifCond .le 5, 3) := by decide +kernel
theorem dX2_cutDown_168 : decode cX2_cutDown 168 = .ok (.iconst 2, 1) := by decide +kernel
theorem dX2_cutDown_169 : decode cX2_cutDown 169 = .ok (.ireturn, 1) := by decide +kernel
theorem dX2_cutDown_170 : decode cX2_cutDown 170 = .ok (.lload 16, 2) := by decide +kernel
theorem dX2_cutDown_172 : decode cX2_cutDown 172 = .ok (.aload_n 2, 1) := by decide +kernel
theorem dX2_cutDown_173 : decode cX2_cutDown 173 = .ok (.getfield 104, 3) := by decide +kernel
theorem dX2_cutDown_176 : decode cX2_cutDown 176 = .ok (.iload 4, 2) := by decide +kernel
theorem dX2_cutDown_178 : decode cX2_cutDown 178 = .ok (.iaload, 1) := by decide +kernel
theorem dX2_cutDown_179 : decode cX2_cutDown 179 = .ok (.i2l, 1) := by decide +kernel
theorem dX2_cutDown_180 : decode cX2_cutDown 180 = .ok (.lcmp, 1) := by decide +kernel
theorem dX2_cutDown_181 : decode cX2_cutDown 181 = .ok (.ifCond .ne 19, 3) := by decide +kernel
theorem dX2_cutDown_184 : decode cX2_cutDown 184 = .ok (.lload 18, 2) := by decide +kernel
theorem dX2_cutDown_186 : decode cX2_cutDown 186 = .ok (.aload_n 2, 1) := by decide +kernel
theorem dX2_cutDown_187 : decode cX2_cutDown 187 = .ok (.getfield 107, 3) := by decide +kernel
theorem dX2_cutDown_190 : decode cX2_cutDown 190 = .ok (.iload 4, 2) := by decide +kernel
theorem dX2_cutDown_192 : decode cX2_cutDown 192 = .ok (.iaload, 1) := by decide +kernel
theorem dX2_cutDown_193 : decode cX2_cutDown 193 = .ok (.i2l, 1) := by decide +kernel
theorem dX2_cutDown_194 : decode cX2_cutDown 194 = .ok (.lcmp, 1) := by decide +kernel
theorem dX2_cutDown_195 : decode cX2_cutDown 195 = .ok (.ifCond .ne 5, 3) := by decide +kernel
theorem dX2_cutDown_198 : decode cX2_cutDown 198 = .ok (.iconst 0, 1) := by decide +kernel
theorem dX2_cutDown_199 : decode cX2_cutDown 199 = .ok (.ireturn, 1) := by decide +kernel
theorem dX2_cutDown_200 : decode cX2_cutDown 200 = .ok (.aload_n 2, 1) := by decide +kernel
theorem dX2_cutDown_201 : decode cX2_cutDown 201 = .ok (.getfield 104, 3) := by decide +kernel
theorem dX2_cutDown_204 : decode cX2_cutDown 204 = .ok (.iload 4, 2) := by decide +kernel
theorem dX2_cutDown_206 : decode cX2_cutDown 206 = .ok (.lload 16, 2) := by decide +kernel
theorem dX2_cutDown_208 : decode cX2_cutDown 208 = .ok (.l2i, 1) := by decide +kernel
theorem dX2_cutDown_209 : decode cX2_cutDown 209 = .ok (.iastore, 1) := by decide +kernel
theorem dX2_cutDown_210 : decode cX2_cutDown 210 = .ok (.aload_n 2, 1) := by decide +kernel
theorem dX2_cutDown_211 : decode cX2_cutDown 211 = .ok (.getfield 107, 3) := by decide +kernel
theorem dX2_cutDown_214 : decode cX2_cutDown 214 = .ok (.iload 4, 2) := by decide +kernel
theorem dX2_cutDown_216 : decode cX2_cutDown 216 = .ok (.lload 18, 2) := by decide +kernel
theorem dX2_cutDown_218 : decode cX2_cutDown 218 = .ok (.l2i, 1) := by decide +kernel
theorem dX2_cutDown_219 : decode cX2_cutDown 219 = .ok (.iastore, 1) := by decide +kernel
theorem dX2_cutDown_220 : decode cX2_cutDown 220 = .ok (.iconst 1, 1) := by decide +kernel
theorem dX2_cutDown_221 : decode cX2_cutDown 221 = .ok (.ireturn, 1) := by decide +kernel
theorem dX3_init_0 : decode cX3_init 0 = .ok (.aload_n 0, 1) := by decide +kernel
theorem dX3_init_1 : decode cX3_init 1 = .ok (.invokespecial 3, 3) := by decide +kernel
theorem dX3_init_4 : decode cX3_init 4 = .ok (.aload_n 0, 1) := by decide +kernel
theorem dX3_init_5 : decode cX3_init 5 = .ok (.iconst 1, 1) := by decide +kernel
theorem dX3_init_6 : decode cX3_init 6 = .ok (.putfield 9, 3) := by decide +kernel
theorem dX3_init_9 : decode cX3_init 9 = .ok (.aload_n 0, 1) := by decide +kernel
theorem dX3_init_10 : decode cX3_init 10 = .ok (.iconst 1, 1) := by decide +kernel
theorem dX3_init_11 : decode cX3_init 11 = .ok (.putfield 15, 3) := by decide +kernel
theorem dX3_init_14 : decode cX3_init 14 = .ok (.aload_n 0, 1) := by decide +kernel
theorem dX3_init_15 : decode cX3_init 15 = .ok (.iconst 4, 1) := by decide +kernel
theorem dX3_init_16 : decode cX3_init 16 = .ok (.iconst 4, 1) := by decide +kernel
theorem dX3_init_17 : decode cX3_init 17 = .ok (.multianewarray 18 2, 4) := by decide +kernel
theorem dX3_init_21 : decode cX3_init 21 = .ok (.putfield 20, 3) := by decide +kernel
theorem dX3_init_24 : decode cX3_init 24 = .ok (.aload_n 0, 1) := by decide +kernel
theorem dX3_init_25 : decode cX3_init 25 = .ok (.iconst 4, 1) := by decide +kernel
theorem dX3_init_26 : decode cX3_init 26 = .ok (.newarray .int, 2) := by decide +kernel
theorem dX3_init_28 : decode cX3_init 28 = .ok (.putfield 23, 3) := by decide +kernel
theorem dX3_init_31 : decode cX3_init 31 = .ok (.aload_n 0, 1) := by decide +kernel
theorem dX3_init_32 : decode cX3_init 32 = .ok (.iconst 4, 1) := by decide +kernel
theorem dX3_init_33 : decode cX3_init 33 = .ok (.newarray .int, 2) := by decide +kernel
theorem dX3_init_35 : decode cX3_init 35 = .ok (.putfield 27, 3) := by decide +kernel
theorem dX3_init_38 : decode cX3_init 38 = .ok (.aload_n 0, 1) := by decide +kernel
theorem dX3_init_39 : decode cX3_init 39 = .ok (.iconst 3, 1) := by decide +kernel
theorem dX3_init_40 : decode cX3_init 40 = .ok (.iconst 4, 1) := by decide +kernel
theorem dX3_init_41 : decode cX3_init 41 = .ok (.multianewarray 18 2, 4) := by decide +kernel
theorem dX3_init_45 : decode cX3_init 45 = .ok (.putfield 30, 3) := by decide +kernel
theorem dX3_init_48 : decode cX3_init 48 = .ok (.aload_n 0, 1) := by decide +kernel
theorem dX3_init_49 : decode cX3_init 49 = .ok (.iconst 3, 1) := by decide +kernel
theorem dX3_init_50 : decode cX3_init 50 = .ok (.newarray .int, 2) := by decide +kernel
theorem dX3_init_52 : decode cX3_init 52 = .ok (.putfield 33, 3) := by decide +kernel
theorem dX3_init_55 : decode cX3_init 55 = .ok (.aload_n 0, 1) := by decide +kernel
theorem dX3_init_56 : decode cX3_init 56 = .ok (.getfield 20, 3) := by decide +kernel
theorem dX3_init_59 : decode cX3_init 59 = .ok (.iconst 0, 1) := by decide +kernel
theorem dX3_init_60 : decode cX3_init 60 = .ok (.aaload, 1) := by decide +kernel
theorem dX3_init_61 : decode cX3_init 61 = .ok (.iconst 0, 1) := by decide +kernel
theorem dX3_init_62 : decode cX3_init 62 = .ok (.bipush 16, 2) := by decide +kernel
theorem dX3_init_64 : decode cX3_init 64 = .ok (.iastore, 1) := by decide +kernel
theorem dX3_init_65 : decode cX3_init 65 = .ok (.aload_n 0, 1) := by decide +kernel
theorem dX3_init_66 : decode cX3_init 66 = .ok (.getfield 23, 3) := by decide +kernel
theorem dX3_init_69 : decode cX3_init 69 = .ok (.iconst 0, 1) := by decide +kernel
theorem dX3_init_70 : decode cX3_init 70 = .ok (.iconst 1, 1) := by decide +kernel
theorem dX3_init_71 : decode cX3_init 71 = .ok (.iastore, 1) := by decide +kernel
theorem dX3_init_72 : decode cX3_init 72 = .ok (.aload_n 0, 1) := by decide +kernel
theorem dX3_init_73 : decode cX3_init 73 = .ok (.getfield 30, 3) := by decide +kernel
theorem dX3_init_76 : decode cX3_init 76 = .ok (.iconst 0, 1) := by decide +kernel
theorem dX3_init_77 : decode cX3_init 77 = .ok (.aaload, 1) := by decide +kernel
theorem dX3_init_78 : decode cX3_init 78 = .ok (.iconst 0, 1) := by decide +kernel
theorem dX3_init_79 : decode cX3_init 79 = .ok (.iconst 1, 1) := by decide +kernel
theorem dX3_init_80 : decode cX3_init 80 = .ok (.iastore, 1) := by decide +kernel
theorem dX3_init_81 : decode cX3_init 81 = .ok (.aload_n 0, 1) := by decide +kernel
theorem dX3_init_82 : decode cX3_init 82 = .ok (.getfield 33, 3) := by decide +kernel
theorem dX3_init_85 : decode cX3_init 85 = .ok (.iconst 0, 1) := by decide +kernel
theorem dX3_init_86 : decode cX3_init 86 = .ok (.iconst 1, 1) := by decide +kernel
theorem dX3_init_87 : decode cX3_init 87 = .ok (.iastore, 1) := by decide +kernel
theorem dX3_init_88 : decode cX3_init 88 = .ok (.return_, 1) := by decide +kernel
theorem dX3_copyFrom_0 : decode cX3_copyFrom 0 = .ok (.aload_n 0, 1) := by decide +kernel
theorem dX3_copyFrom_1 : decode cX3_copyFrom 1 = .ok (.aload_n 1, 1) := by decide +kernel
theorem dX3_copyFrom_2 : decode cX3_copyFrom 2 = .ok (.getfield 9, 3) := by decide +kernel
theorem dX3_copyFrom_5 : decode cX3_copyFrom 5 = .ok (.putfield 9, 3) := by decide +kernel
theorem dX3_copyFrom_8 : decode cX3_copyFrom 8 = .ok (.aload_n 0, 1) := by decide +kernel
theorem dX3_copyFrom_9 : decode cX3_copyFrom 9 = .ok (.aload_n 1, 1) := by decide +kernel
theorem dX3_copyFrom_10 : decode cX3_copyFrom 10 = .ok (.getfield 15, 3) := by decide +kernel
theorem dX3_copyFrom_13 : decode cX3_copyFrom 13 = .ok (.putfield 15, 3) := by decide +kernel
theorem dX3_copyFrom_16 : decode cX3_copyFrom 16 = .ok (.aload_n 1, 1) := by decide +kernel
theorem dX3_copyFrom_17 : decode cX3_copyFrom 17 = .ok (.getfield 20, 3) := by decide +kernel
theorem dX3_copyFrom_20 : decode cX3_copyFrom 20 = .ok (.aload_n 0, 1) := by decide +kernel
theorem dX3_copyFrom_21 : decode cX3_copyFrom 21 = .ok (.getfield 20, 3) := by decide +kernel
theorem dX3_copyFrom_24 : decode cX3_copyFrom 24 = .ok (.invokestatic 36, 3) := by decide +kernel
theorem dX3_copyFrom_27 : decode cX3_copyFrom 27 = .ok (.aload_n 1, 1) := by decide +kernel
theorem dX3_copyFrom_28 : decode cX3_copyFrom 28 = .ok (.getfield 23, 3) := by decide +kernel
theorem dX3_copyFrom_31 : decode cX3_copyFrom 31 = .ok (.aload_n 0, 1) := by decide +kernel
theorem dX3_copyFrom_32 : decode cX3_copyFrom 32 = .ok (.getfield 23, 3) := by decide +kernel
theorem dX3_copyFrom_35 : decode cX3_copyFrom 35 = .ok (.invokestatic 40, 3) := by decide +kernel
theorem dX3_copyFrom_38 : decode cX3_copyFrom 38 = .ok (.aload_n 1, 1) := by decide +kernel
theorem dX3_copyFrom_39 : decode cX3_copyFrom 39 = .ok (.getfield 27, 3) := by decide +kernel
theorem dX3_copyFrom_42 : decode cX3_copyFrom 42 = .ok (.aload_n 0, 1) := by decide +kernel
theorem dX3_copyFrom_43 : decode cX3_copyFrom 43 = .ok (.getfield 27, 3) := by decide +kernel
theorem dX3_copyFrom_46 : decode cX3_copyFrom 46 = .ok (.invokestatic 40, 3) := by decide +kernel
theorem dX3_copyFrom_49 : decode cX3_copyFrom 49 = .ok (.aload_n 1, 1) := by decide +kernel
theorem dX3_copyFrom_50 : decode cX3_copyFrom 50 = .ok (.getfield 30, 3) := by decide +kernel
theorem dX3_copyFrom_53 : decode cX3_copyFrom 53 = .ok (.aload_n 0, 1) := by decide +kernel
theorem dX3_copyFrom_54 : decode cX3_copyFrom 54 = .ok (.getfield 30, 3) := by decide +kernel
theorem dX3_copyFrom_57 : decode cX3_copyFrom 57 = .ok (.invokestatic 36, 3) := by decide +kernel
theorem dX3_copyFrom_60 : decode cX3_copyFrom 60 = .ok (.aload_n 1, 1) := by decide +kernel
theorem dX3_copyFrom_61 : decode cX3_copyFrom 61 = .ok (.getfield 33, 3) := by decide +kernel
theorem dX3_copyFrom_64 : decode cX3_copyFrom 64 = .ok (.aload_n 0, 1) := by decide +kernel
theorem dX3_copyFrom_65 : decode cX3_copyFrom 65 = .ok (.getfield 33, 3) := by decide +kernel
theorem dX3_copyFrom_68 : decode cX3_copyFrom 68 = .ok (.invokestatic 40, 3) := by decide +kernel
theorem dX3_copyFrom_71 : decode cX3_copyFrom 71 = .ok (.return_, 1) := by decide +kernel
theorem dX3_sum_0 : decode cX3_sum 0 = .ok (.lconst 0, 1) := by decide +kernel
theorem dX3_sum_1 : decode cX3_sum 1 = .ok (.lstore_n 3, 1) := by decide +kernel
theorem dX3_sum_2 : decode cX3_sum 2 = .ok (.iconst 0, 1) := by decide +kernel
theorem dX3_sum_3 : decode cX3_sum 3 = .ok (.istore 5, 2) := by decide +kernel
theorem dX3_sum_5 : decode cX3_sum 5 = .ok (.iload 5, 2) := by decide +kernel
theorem dX3_sum_7 : decode cX3_sum 7 = .ok (.aload_n 0, 1) := by decide +kernel
theorem dX3_sum_8 : decode cX3_sum 8 = .ok (.getfield 9, 3) := by decide +kernel
theorem dX3_sum_11 : decode cX3_sum 11 = .ok (.if_icmp .ge 23, 3) := by decide +kernel
theorem dX3_sum_14 : decode cX3_sum 14 = .ok (.lload_n 3, 1) := by decide +kernel
theorem dX3_sum_15 : decode cX3_sum 15 = .ok (.aload_n 1, 1) := by decide +kernel
theorem dX3_sum_16 : decode cX3_sum 16 = .ok (.iload 5, 2) := by decide +kernel
theorem dX3_sum_18 : decode cX3_sum 18 = .ok (.iaload, 1) := by decide +kernel
theorem dX3_sum_19 : decode cX3_sum 19 = .ok (.i2l, 1) := by decide +kernel
theorem dX3_sum_20 : decode cX3_sum 20 = .ok (.aload_n 2, 1) := by decide +kernel
theorem dX3_sum_21 : decode cX3_sum 21 = .ok (.iload 5, 2) := by decide +kernel
theorem dX3_sum_23 : decode cX3_sum 23 = .ok (.iaload, 1) := by decide +kernel
theorem dX3_sum_24 : decode cX3_sum 24 = .ok (.i2l, 1) := by decide +kernel
theorem dX3_sum_25 : decode cX3_sum 25 = .ok (.lmul, 1) := by decide +kernel
theorem dX3_sum_26 : decode cX3_sum 26 = .ok (.ladd, 1) := by decide +kernel
theorem dX3_sum_27 : decode cX3_sum 27 = .ok (.lstore_n 3, 1) := by decide +kernel
theorem dX3_sum_28 : decode cX3_sum 28 = .ok (.iinc 5 1, 3) := by decide +kernel
theorem dX3_sum_31 : decode cX3_sum 31 = .ok (.goto (-26), 3) := by decide +kernel
theorem dX3_sum_34 : decode cX3_sum 34 = .ok (.lload_n 3, 1) := by decide +kernel
theorem dX3_sum_35 : decode cX3_sum 35 = .ok (.lreturn, 1) := by decide +kernel
theorem dX3_extreme_0 : decode cX3_extreme 0 = .ok (.lconst 0, 1) := by decide +kernel
theorem dX3_extreme_1 : decode cX3_extreme 1 = .ok (.lstore 5, 2) := by decide +kernel
theorem dX3_extreme_3 : decode cX3_extreme 3 = .ok (.iconst 0, 1) := by decide +kernel
theorem dX3_extreme_4 : decode cX3_extreme 4 = .ok (.istore 7, 2) := by decide +kernel
theorem dX3_extreme_6 : decode cX3_extreme 6 = .ok (.iload 7, 2) := by decide +kernel
theorem dX3_extreme_8 : decode cX3_extreme 8 = .ok (.aload_n 0, 1) := by decide +kernel
theorem dX3_extreme_9 : decode cX3_extreme 9 = .ok (.getfield 9, 3) := by decide +kernel
theorem dX3_extreme_12 : decode cX3_extreme 12 = .ok (.if_icmp .ge 73, 3) := by decide +kernel
theorem dX3_extreme_15 : decode cX3_extreme 15 = .ok (.iload 7, 2) := by decide +kernel
theorem dX3_extreme_17 : decode cX3_extreme 17 = .ok (.iload_n 3, 1) := by decide +kernel
theorem dX3_extreme_18 : decode cX3_extreme 18 = .ok (.if_icmp .eq 61, 3) := by decide +kernel
theorem dX3_extreme_21 : decode cX3_extreme 21 = .ok (.aload_n 1, 1) := by decide +kernel
theorem dX3_extreme_22 : decode cX3_extreme 22 = .ok (.iload 7, 2) := by decide +kernel
theorem dX3_extreme_24 : decode cX3_extreme 24 = .ok (.iaload, 1) := by decide +kernel
theorem dX3_extreme_25 : decode cX3_extreme 25 = .ok (.ifCond .le 7, 3) := by decide +kernel
theorem dX3_extreme_28 : decode cX3_extreme 28 = .ok (.iconst 1, 1) := by decide +kernel
theorem dX3_extreme_29 : decode cX3_extreme 29 = .ok (.goto 4, 3) := by decide +kernel
theorem dX3_extreme_32 : decode cX3_extreme 32 = .ok (.iconst 0, 1) := by decide +kernel
theorem dX3_extreme_33 : decode cX3_extreme 33 = .ok (.iload 4, 2) := by decide +kernel
theorem dX3_extreme_35 : decode cX3_extreme 35 = .ok (.if_icmp .ne 7, 3) := by decide +kernel
theorem dX3_extreme_38 : decode cX3_extreme 38 = .ok (.iconst 1, 1) := by decide +kernel
theorem dX3_extreme_39 : decode cX3_extreme 39 = .ok (.goto 4, 3) := by decide +kernel
theorem dX3_extreme_42 : decode cX3_extreme 42 = .ok (.iconst 0, 1) := by decide +kernel
theorem dX3_extreme_43 : decode cX3_extreme 43 = .ok (.istore 8, 2) := by decide +kernel
theorem dX3_extreme_45 : decode cX3_extreme 45 = .ok (.lload 5, 2) := by decide +kernel
theorem dX3_extreme_47 : decode cX3_extreme 47 = .ok (.aload_n 1, 1) := by decide +kernel
theorem dX3_extreme_48 : decode cX3_extreme 48 = .ok (.iload 7, 2) := by decide +kernel
theorem dX3_extreme_50 : decode cX3_extreme 50 = .ok (.iaload, 1) := by decide +kernel
theorem dX3_extreme_51 : decode cX3_extreme 51 = .ok (.i2l, 1) := by decide +kernel
theorem dX3_extreme_52 : decode cX3_extreme 52 = .ok (.iload 8, 2) := by decide +kernel
theorem dX3_extreme_54 : decode cX3_extreme 54 = .ok (.ifCond .eq 13, 3) := by decide +kernel
theorem dX3_extreme_57 : decode cX3_extreme 57 = .ok (.aload_n 2, 1) := by decide +kernel
theorem dX3_extreme_58 : decode cX3_extreme 58 = .ok (.getfield 44, 3) := by decide +kernel
theorem dX3_extreme_61 : decode cX3_extreme 61 = .ok (.iload 7, 2) := by decide +kernel
theorem dX3_extreme_63 : decode cX3_extreme 63 = .ok (.iaload, 1) := by decide +kernel
theorem dX3_extreme_64 : decode cX3_extreme 64 = .ok (.goto 10, 3) := by decide +kernel
theorem dX3_extreme_67 : decode cX3_extreme 67 = .ok (.aload_n 2, 1) := by decide +kernel
theorem dX3_extreme_68 : decode cX3_extreme 68 = .ok (.getfield 49, 3) := by decide +kernel
theorem dX3_extreme_71 : decode cX3_extreme 71 = .ok (.iload 7, 2) := by decide +kernel
theorem dX3_extreme_73 : decode cX3_extreme 73 = .ok (.iaload, 1) := by decide +kernel
theorem dX3_extreme_74 : decode cX3_extreme 74 = .ok (.i2l, 1) := by decide +kernel
theorem dX3_extreme_75 : decode cX3_extreme 75 = .ok (.lmul, 1) := by decide +kernel
theorem dX3_extreme_76 : decode cX3_extreme 76 = .ok (.ladd, 1) := by decide +kernel
theorem dX3_extreme_77 : decode cX3_extreme 77 = .ok (.lstore 5, 2) := by decide +kernel
theorem dX3_extreme_79 : decode cX3_extreme 79 = .ok (.iinc 7 1, 3) := by decide +kernel
theorem dX3_extreme_82 : decode cX3_extreme 82 = .ok (.goto (-76), 3) := by decide +kernel
theorem dX3_extreme_85 : decode cX3_extreme 85 = .ok (.lload 5, 2) := by decide +kernel
theorem dX3_extreme_87 : decode cX3_extreme 87 = .ok (.lreturn, 1) := by decide +kernel
theorem dX3_quantized_0 : decode cX3_quantized 0 = .ok (.lload_n 2, 1) := by decide +kernel
theorem dX3_quantized_1 : decode cX3_quantized 1 = .ok (.aload_n 0, 1) := by decide +kernel
theorem dX3_quantized_2 : decode cX3_quantized 2 = .ok (.getfield 33, 3) := by decide +kernel
theorem dX3_quantized_5 : decode cX3_quantized 5 = .ok (.iload_n 1, 1) := by decide +kernel
theorem dX3_quantized_6 : decode cX3_quantized 6 = .ok (.iaload, 1) := by decide +kernel
theorem dX3_quantized_7 : decode cX3_quantized 7 = .ok (.i2l, 1) := by decide +kernel
theorem dX3_quantized_8 : decode cX3_quantized 8 = .ok (.invokestatic 52, 3) := by decide +kernel
theorem dX3_quantized_11 : decode cX3_quantized 11 = .ok (.l2i, 1) := by decide +kernel
theorem dX3_quantized_12 : decode cX3_quantized 12 = .ok (.ireturn, 1) := by decide +kernel
theorem dX3_widthOf_0 : decode cX3_widthOf 0 = .ok (.iconst 0, 1) := by decide +kernel
theorem dX3_widthOf_1 : decode cX3_widthOf 1 = .ok (.istore_n 2, 1) := by decide +kernel
theorem dX3_widthOf_2 : decode cX3_widthOf 2 = .ok (.iconst 0, 1) := by decide +kernel
theorem dX3_widthOf_3 : decode cX3_widthOf 3 = .ok (.istore_n 3, 1) := by decide +kernel
theorem dX3_widthOf_4 : decode cX3_widthOf 4 = .ok (.iload_n 3, 1) := by decide +kernel
theorem dX3_widthOf_5 : decode cX3_widthOf 5 = .ok (.aload_n 0, 1) := by decide +kernel
theorem dX3_widthOf_6 : decode cX3_widthOf 6 = .ok (.getfield 9, 3) := by decide +kernel
theorem dX3_widthOf_9 : decode cX3_widthOf 9 = .ok (.if_icmp .ge 25, 3) := by decide +kernel
theorem dX3_widthOf_12 : decode cX3_widthOf 12 = .ok (.iload_n 2, 1) := by decide +kernel
theorem dX3_widthOf_13 : decode cX3_widthOf 13 = .ok (.aload_n 1, 1) := by decide +kernel
theorem dX3_widthOf_14 : decode cX3_widthOf 14 = .ok (.getfield 44, 3) := by decide +kernel
theorem dX3_widthOf_17 : decode cX3_widthOf 17 = .ok (.iload_n 3, 1) := by decide +kernel
theorem dX3_widthOf_18 : decode cX3_widthOf 18 = .ok (.iaload, 1) := by decide +kernel
theorem dX3_widthOf_19 : decode cX3_widthOf 19 = .ok (.aload_n 1, 1) := by decide +kernel
theorem dX3_widthOf_20 : decode cX3_widthOf 20 = .ok (.getfield 49, 3) := by decide +kernel
theorem dX3_widthOf_23 : decode cX3_widthOf 23 = .ok (.iload_n 3, 1) := by decide +kernel
theorem dX3_widthOf_24 : decode cX3_widthOf 24 = .ok (.iaload, 1) := by decide +kernel
theorem dX3_widthOf_25 : decode cX3_widthOf 25 = .ok (.isub, 1) := by decide +kernel
theorem dX3_widthOf_26 : decode cX3_widthOf 26 = .ok (.iadd, 1) := by decide +kernel
theorem dX3_widthOf_27 : decode cX3_widthOf 27 = .ok (.istore_n 2, 1) := by decide +kernel
theorem dX3_widthOf_28 : decode cX3_widthOf 28 = .ok (.iinc 3 1, 3) := by decide +kernel
theorem dX3_widthOf_31 : decode cX3_widthOf 31 = .ok (.goto (-27), 3) := by decide +kernel
theorem dX3_widthOf_34 : decode cX3_widthOf 34 = .ok (.iload_n 2, 1) := by decide +kernel
theorem dX3_widthOf_35 : decode cX3_widthOf 35 = .ok (.ireturn, 1) := by decide +kernel
theorem dX3_meetFreshOutputs_0 : decode cX3_meetFreshOutputs 0 = .ok (.iconst 0, 1) := by decide +kernel
theorem dX3_meetFreshOutputs_1 : decode cX3_meetFreshOutputs 1 = .ok (.istore_n 3, 1) := by decide +kernel
theorem dX3_meetFreshOutputs_2 : decode cX3_meetFreshOutputs 2 = .ok (.iload_n 3, 1) := by decide +kernel
theorem dX3_meetFreshOutputs_3 : decode cX3_meetFreshOutputs 3 = .ok (.aload_n 0, 1) := by decide +kernel
theorem dX3_meetFreshOutputs_4 : decode cX3_meetFreshOutputs 4 = .ok (.getfield 15, 3) := by decide +kernel
theorem dX3_meetFreshOutputs_7 : decode cX3_meetFreshOutputs 7 = .ok (.if_icmp .ge 52, 3) := by decide +kernel
theorem dX3_meetFreshOutputs_10 : decode cX3_meetFreshOutputs 10 = .ok (.aload_n 2, 1) := by decide +kernel
theorem dX3_meetFreshOutputs_11 : decode cX3_meetFreshOutputs 11 = .ok (.getfield 56, 3) := by decide +kernel
theorem dX3_meetFreshOutputs_14 : decode cX3_meetFreshOutputs 14 = .ok (.iload_n 3, 1) := by decide +kernel
theorem dX3_meetFreshOutputs_15 : decode cX3_meetFreshOutputs 15 = .ok (.iaload, 1) := by decide +kernel
theorem dX3_meetFreshOutputs_16 : decode cX3_meetFreshOutputs 16 = .ok (.ifCond .ne 37, 3) := by decide +kernel
theorem dX3_meetFreshOutputs_19 : decode cX3_meetFreshOutputs 19 = .ok (.aload_n 0, 1) := by decide +kernel
theorem dX3_meetFreshOutputs_20 : decode cX3_meetFreshOutputs 20 = .ok (.aload_n 0, 1) := by decide +kernel
theorem dX3_meetFreshOutputs_21 : decode cX3_meetFreshOutputs 21 = .ok (.getfield 30, 3) := by decide +kernel
theorem dX3_meetFreshOutputs_24 : decode cX3_meetFreshOutputs 24 = .ok (.iload_n 3, 1) := by decide +kernel
theorem dX3_meetFreshOutputs_25 : decode cX3_meetFreshOutputs 25 = .ok (.aaload, 1) := by decide +kernel
theorem dX3_meetFreshOutputs_26 : decode cX3_meetFreshOutputs 26 = .ok (.aload_n 1, 1) := by decide +kernel
theorem dX3_meetFreshOutputs_27 : decode cX3_meetFreshOutputs 27 = .ok (.invokevirtual 59, 3) := by decide +kernel
theorem dX3_meetFreshOutputs_30 : decode cX3_meetFreshOutputs 30 = .ok (.aload_n 0, 1) := by decide +kernel
theorem dX3_meetFreshOutputs_31 : decode cX3_meetFreshOutputs 31 = .ok (.getfield 33, 3) := by decide +kernel
theorem dX3_meetFreshOutputs_34 : decode cX3_meetFreshOutputs 34 = .ok (.iload_n 3, 1) := by decide +kernel
theorem dX3_meetFreshOutputs_35 : decode cX3_meetFreshOutputs 35 = .ok (.iaload, 1) := by decide +kernel
theorem dX3_meetFreshOutputs_36 : decode cX3_meetFreshOutputs 36 = .ok (.i2l, 1) := by decide +kernel
theorem dX3_meetFreshOutputs_37 : decode cX3_meetFreshOutputs 37 = .ok (.invokestatic 52, 3) := by decide +kernel
theorem dX3_meetFreshOutputs_40 : decode cX3_meetFreshOutputs 40 = .ok (.aload_n 2, 1) := by decide +kernel
theorem dX3_meetFreshOutputs_41 : decode cX3_meetFreshOutputs 41 = .ok (.getfield 63, 3) := by decide +kernel
theorem dX3_meetFreshOutputs_44 : decode cX3_meetFreshOutputs 44 = .ok (.iload_n 3, 1) := by decide +kernel
theorem dX3_meetFreshOutputs_45 : decode cX3_meetFreshOutputs 45 = .ok (.iaload, 1) := by decide +kernel
theorem dX3_meetFreshOutputs_46 : decode cX3_meetFreshOutputs 46 = .ok (.i2l, 1) := by decide +kernel
theorem dX3_meetFreshOutputs_47 : decode cX3_meetFreshOutputs 47 = .ok (.lcmp, 1) := by decide +kernel
theorem dX3_meetFreshOutputs_48 : decode cX3_meetFreshOutputs 48 = .ok (.ifCond .eq 5, 3) := by decide +kernel
theorem dX3_meetFreshOutputs_51 : decode cX3_meetFreshOutputs 51 = .ok (.iconst 0, 1) := by decide +kernel
theorem dX3_meetFreshOutputs_52 : decode cX3_meetFreshOutputs 52 = .ok (.ireturn, 1) := by decide +kernel
theorem dX3_meetFreshOutputs_53 : decode cX3_meetFreshOutputs 53 = .ok (.iinc 3 1, 3) := by decide +kernel
theorem dX3_meetFreshOutputs_56 : decode cX3_meetFreshOutputs 56 = .ok (.goto (-54), 3) := by decide +kernel
theorem dX3_meetFreshOutputs_59 : decode cX3_meetFreshOutputs 59 = .ok (.iconst 1, 1) := by decide +kernel
theorem dX3_meetFreshOutputs_60 : decode cX3_meetFreshOutputs 60 = .ok (.ireturn, 1) := by decide +kernel
theorem dX3_explains_0 : decode cX3_explains 0 = .ok (.iconst 0, 1) := by decide +kernel
theorem dX3_explains_1 : decode cX3_explains 1 = .ok (.istore_n 3, 1) := by decide +kernel
theorem dX3_explains_2 : decode cX3_explains 2 = .ok (.iload_n 3, 1) := by decide +kernel
theorem dX3_explains_3 : decode cX3_explains 3 = .ok (.aload_n 0, 1) := by decide +kernel
theorem dX3_explains_4 : decode cX3_explains 4 = .ok (.getfield 9, 3) := by decide +kernel
theorem dX3_explains_7 : decode cX3_explains 7 = .ok (.if_icmp .ge 131, 3) := by decide +kernel
theorem dX3_explains_10 : decode cX3_explains 10 = .ok (.aload_n 0, 1) := by decide +kernel
theorem dX3_explains_11 : decode cX3_explains 11 = .ok (.getfield 27, 3) := by decide +kernel
theorem dX3_explains_14 : decode cX3_explains 14 = .ok (.iload_n 3, 1) := by decide +kernel
theorem dX3_explains_15 : decode cX3_explains 15 = .ok (.iaload, 1) := by decide +kernel
theorem dX3_explains_16 : decode cX3_explains 16 = .ok (.iload_n 1, 1) := by decide +kernel
theorem dX3_explains_17 : decode cX3_explains 17 = .ok (.imul, 1) := by decide +kernel
theorem dX3_explains_18 : decode cX3_explains 18 = .ok (.istore 4, 2) := by decide +kernel
theorem dX3_explains_20 : decode cX3_explains 20 = .ok (.aload_n 0, 1) := by decide +kernel
theorem dX3_explains_21 : decode cX3_explains 21 = .ok (.getfield 23, 3) := by decide +kernel
theorem dX3_explains_24 : decode cX3_explains 24 = .ok (.iload_n 3, 1) := by decide +kernel
theorem dX3_explains_25 : decode cX3_explains 25 = .ok (.iaload, 1) := by decide +kernel
theorem dX3_explains_26 : decode cX3_explains 26 = .ok (.aload_n 2, 1) := by decide +kernel
theorem dX3_explains_27 : decode cX3_explains 27 = .ok (.getfield 66, 3) := by decide +kernel
theorem dX3_explains_30 : decode cX3_explains 30 = .ok (.imul, 1) := by decide +kernel
theorem dX3_explains_31 : decode cX3_explains 31 = .ok (.istore 5, 2) := by decide +kernel
theorem dX3_explains_33 : decode cX3_explains 33 = .ok (.aload_n 2, 1) := by decide +kernel
theorem dX3_explains_34 : decode cX3_explains 34 = .ok (.getfield 49, 3) := by decide +kernel
theorem dX3_explains_37 : decode cX3_explains 37 = .ok (.iload_n 3, 1) := by decide +kernel
theorem dX3_explains_38 : decode cX3_explains 38 = .ok (.iaload, 1) := by decide +kernel
theorem dX3_explains_39 : decode cX3_explains 39 = .ok (.ldc 69, 2) := by decide +kernel
theorem dX3_explains_41 : decode cX3_explains 41 = .ok (.if_icmp .le 28, 3) := by decide +kernel
theorem dX3_explains_44 : decode cX3_explains 44 = .ok (.iload 4, 2) := by decide +kernel
theorem dX3_explains_46 : decode cX3_explains 46 = .ok (.aload_n 2, 1) := by decide +kernel
theorem dX3_explains_47 : decode cX3_explains 47 = .ok (.getfield 49, 3) := by decide +kernel
theorem dX3_explains_50 : decode cX3_explains 50 = .ok (.iload_n 3, 1) := by decide +kernel
theorem dX3_explains_51 : decode cX3_explains 51 = .ok (.iaload, 1) := by decide +kernel
theorem dX3_explains_52 : decode cX3_explains 52 = .ok (.iload 5, 2) := by decide +kernel
theorem dX3_explains_54 : decode cX3_explains 54 = .ok (.isub, 1) := by decide +kernel
theorem dX3_explains_55 : decode cX3_explains 55 = .ok (.aload_n 2, 1) := by decide +kernel
theorem dX3_explains_56 : decode cX3_explains 56 = .ok (.getfield 70, 3) := by decide +kernel
theorem dX3_explains_59 : decode cX3_explains 59 = .ok (.iload_n 3, 1) := by decide +kernel
theorem dX3_explains_60 : decode cX3_explains 60 = .ok (.iaload, 1) := by decide +kernel
theorem dX3_explains_61 : decode cX3_explains 61 = .ok (.isub, 1) := by decide +kernel
theorem dX3_explains_62 : decode cX3_explains 62 = .ok (.if_icmp .ge 7, 3) := by decide +kernel
theorem dX3_explains_65 : decode cX3_explains 65 = .ok (.iconst 1, 1) := by decide +kernel
theorem dX3_explains_66 : decode cX3_explains 66 = .ok (.goto 4, 3) := by decide +kernel
theorem dX3_explains_69 : decode cX3_explains 69 = .ok (.iconst 0, 1) := by decide +kernel
theorem dX3_explains_70 : decode cX3_explains 70 = .ok (.istore 6, 2) := by decide +kernel
theorem dX3_explains_72 : decode cX3_explains 72 = .ok (.aload_n 2, 1) := by decide +kernel
theorem dX3_explains_73 : decode cX3_explains 73 = .ok (.getfield 44, 3) := by decide +kernel
theorem dX3_explains_76 : decode cX3_explains 76 = .ok (.iload_n 3, 1) := by decide +kernel
theorem dX3_explains_77 : decode cX3_explains 77 = .ok (.iaload, 1) := by decide +kernel
theorem dX3_explains_78 : decode cX3_explains 78 = .ok (.ldc 73, 2) := by decide +kernel
theorem dX3_explains_80 : decode cX3_explains 80 = .ok (.if_icmp .ge 28, 3) := by decide +kernel
theorem dX3_explains_83 : decode cX3_explains 83 = .ok (.iload 4, 2) := by decide +kernel
theorem dX3_explains_85 : decode cX3_explains 85 = .ok (.aload_n 2, 1) := by decide +kernel
theorem dX3_explains_86 : decode cX3_explains 86 = .ok (.getfield 44, 3) := by decide +kernel
theorem dX3_explains_89 : decode cX3_explains 89 = .ok (.iload_n 3, 1) := by decide +kernel
theorem dX3_explains_90 : decode cX3_explains 90 = .ok (.iaload, 1) := by decide +kernel
theorem dX3_explains_91 : decode cX3_explains 91 = .ok (.iload 5, 2) := by decide +kernel
theorem dX3_explains_93 : decode cX3_explains 93 = .ok (.isub, 1) := by decide +kernel
theorem dX3_explains_94 : decode cX3_explains 94 = .ok (.aload_n 2, 1) := by decide +kernel
theorem dX3_explains_95 : decode cX3_explains 95 = .ok (.getfield 74, 3) := by decide +kernel
theorem dX3_explains_98 : decode cX3_explains 98 = .ok (.iload_n 3, 1) := by decide +kernel
theorem dX3_explains_99 : decode cX3_explains 99 = .ok (.iaload, 1) := by decide +kernel
theorem dX3_explains_100 : decode cX3_explains 100 = .ok (.isub, 1) := by decide +kernel
theorem dX3_explains_101 : decode cX3_explains 101 = .ok (.if_icmp .le 7, 3) := by decide +kernel
theorem dX3_explains_104 : decode cX3_explains 104 = .ok (.iconst 1, 1) := by decide +kernel
theorem dX3_explains_105 : decode cX3_explains 105 = .ok (.goto 4, 3) := by decide +kernel
theorem dX3_explains_108 : decode cX3_explains 108 = .ok (.iconst 0, 1) := by decide +kernel
theorem dX3_explains_109 : decode cX3_explains 109 = .ok (.istore 7, 2) := by decide +kernel
theorem dX3_explains_111 : decode cX3_explains 111 = .ok (.aload_n 0, 1) := by decide +kernel
theorem dX3_explains_112 : decode cX3_explains 112 = .ok (.getfield 27, 3) := by decide +kernel
theorem dX3_explains_115 : decode cX3_explains 115 = .ok (.iload_n 3, 1) := by decide +kernel
theorem dX3_explains_116 : decode cX3_explains 116 = .ok (.iaload, 1) := by decide +kernel
theorem dX3_explains_117 : decode cX3_explains 117 = .ok (.ifCond .eq 15, 3) := by decide +kernel
theorem dX3_explains_120 : decode cX3_explains 120 = .ok (.iload 6, 2) := by decide +kernel
theorem dX3_explains_122 : decode cX3_explains 122 = .ok (.ifCond .ne 8, 3) := by decide +kernel
theorem dX3_explains_125 : decode cX3_explains 125 = .ok (.iload 7, 2) := by decide +kernel
theorem dX3_explains_127 : decode cX3_explains 127 = .ok (.ifCond .eq 5, 3) := by decide +kernel
theorem dX3_explains_130 : decode cX3_explains 130 = .ok (.iconst 0, 1) := by decide +kernel
theorem dX3_explains_131 : decode cX3_explains 131 = .ok (.ireturn, 1) := by decide +kernel
theorem dX3_explains_132 : decode cX3_explains 132 = .ok (.iinc 3 1, 3) := by decide +kernel
theorem dX3_explains_135 : decode cX3_explains 135 = .ok (.goto (-133), 3) := by decide +kernel
theorem dX3_explains_138 : decode cX3_explains 138 = .ok (.iconst 1, 1) := by decide +kernel
theorem dX3_explains_139 : decode cX3_explains 139 = .ok (.ireturn, 1) := by decide +kernel
theorem dX3_firstActedOn_0 : decode cX3_firstActedOn 0 = .ok (.iconst 0, 1) := by decide +kernel
theorem dX3_firstActedOn_1 : decode cX3_firstActedOn 1 = .ok (.istore_n 1, 1) := by decide +kernel
theorem dX3_firstActedOn_2 : decode cX3_firstActedOn 2 = .ok (.iload_n 1, 1) := by decide +kernel
theorem dX3_firstActedOn_3 : decode cX3_firstActedOn 3 = .ok (.aload_n 0, 1) := by decide +kernel
theorem dX3_firstActedOn_4 : decode cX3_firstActedOn 4 = .ok (.getfield 9, 3) := by decide +kernel
theorem dX3_firstActedOn_7 : decode cX3_firstActedOn 7 = .ok (.if_icmp .ge 20, 3) := by decide +kernel
theorem dX3_firstActedOn_10 : decode cX3_firstActedOn 10 = .ok (.aload_n 0, 1) := by decide +kernel
theorem dX3_firstActedOn_11 : decode cX3_firstActedOn 11 = .ok (.getfield 27, 3) := by decide +kernel
theorem dX3_firstActedOn_14 : decode cX3_firstActedOn 14 = .ok (.iload_n 1, 1) := by decide +kernel
theorem dX3_firstActedOn_15 : decode cX3_firstActedOn 15 = .ok (.iaload, 1) := by decide +kernel
theorem dX3_firstActedOn_16 : decode cX3_firstActedOn 16 = .ok (.ifCond .eq 5, 3) := by decide +kernel
theorem dX3_firstActedOn_19 : decode cX3_firstActedOn 19 = .ok (.iload_n 1, 1) := by decide +kernel
theorem dX3_firstActedOn_20 : decode cX3_firstActedOn 20 = .ok (.ireturn, 1) := by decide +kernel
theorem dX3_firstActedOn_21 : decode cX3_firstActedOn 21 = .ok (.iinc 1 1, 3) := by decide +kernel
theorem dX3_firstActedOn_24 : decode cX3_firstActedOn 24 = .ok (.goto (-22), 3) := by decide +kernel
theorem dX3_firstActedOn_27 : decode cX3_firstActedOn 27 = .ok (.iconst (-1), 1) := by decide +kernel
theorem dX3_firstActedOn_28 : decode cX3_firstActedOn 28 = .ok (.ireturn, 1) := by decide +kernel
theorem dX3_combinations_0 : decode cX3_combinations 0 = .ok (.aload_n 0, 1) := by decide +kernel
theorem dX3_combinations_1 : decode cX3_combinations 1 = .ok (.invokevirtual 77, 3) := by decide +kernel
theorem dX3_combinations_4 : decode cX3_combinations 4 = .ok (.iconst (-1), 1) := by decide +kernel
theorem dX3_combinations_5 : decode cX3_combinations 5 = .ok (.if_icmp .ne 10, 3) := by decide +kernel
theorem dX3_combinations_8 : decode cX3_combinations 8 = .ok (.aload_n 0, 1) := by decide +kernel
theorem dX3_combinations_9 : decode cX3_combinations 9 = .ok (.getfield 9, 3) := by decide +kernel
theorem dX3_combinations_12 : decode cX3_combinations 12 = .ok (.goto 9, 3) := by decide +kernel
theorem dX3_combinations_15 : decode cX3_combinations 15 = .ok (.aload_n 0, 1) := by decide +kernel
theorem dX3_combinations_16 : decode cX3_combinations 16 = .ok (.getfield 9, 3) := by decide +kernel
theorem dX3_combinations_19 : decode cX3_combinations 19 = .ok (.iconst 1, 1) := by decide +kernel
theorem dX3_combinations_20 : decode cX3_combinations 20 = .ok (.isub, 1) := by decide +kernel
theorem dX3_combinations_21 : decode cX3_combinations 21 = .ok (.ireturn, 1) := by decide +kernel
theorem dX3_putCombination_0 : decode cX3_putCombination 0 = .ok (.aload_n 0, 1) := by decide +kernel
theorem dX3_putCombination_1 : decode cX3_putCombination 1 = .ok (.invokevirtual 77, 3) := by decide +kernel
theorem dX3_putCombination_4 : decode cX3_putCombination 4 = .ok (.istore_n 3, 1) := by decide +kernel
theorem dX3_putCombination_5 : decode cX3_putCombination 5 = .ok (.iconst 0, 1) := by decide +kernel
theorem dX3_putCombination_6 : decode cX3_putCombination 6 = .ok (.istore 4, 2) := by decide +kernel
theorem dX3_putCombination_8 : decode cX3_putCombination 8 = .ok (.iload 4, 2) := by decide +kernel
theorem dX3_putCombination_10 : decode cX3_putCombination 10 = .ok (.iconst 4, 1) := by decide +kernel
theorem dX3_putCombination_11 : decode cX3_putCombination 11 = .ok (.if_icmp .ge 14, 3) := by decide +kernel
theorem dX3_putCombination_14 : decode cX3_putCombination 14 = .ok (.aload_n 2, 1) := by decide +kernel
theorem dX3_putCombination_15 : decode cX3_putCombination 15 = .ok (.iload 4, 2) := by decide +kernel
theorem dX3_putCombination_17 : decode cX3_putCombination 17 = .ok (.iconst 0, 1) := by decide +kernel
theorem dX3_putCombination_18 : decode cX3_putCombination 18 = .ok (.iastore, 1) := by decide +kernel
theorem dX3_putCombination_19 : decode cX3_putCombination 19 = .ok (.iinc 4 1, 3) := by decide +kernel
theorem dX3_putCombination_22 : decode cX3_putCombination 22 = .ok (.goto (-14), 3) := by decide +kernel
theorem dX3_putCombination_25 : decode cX3_putCombination 25 = .ok (.iload_n 3, 1) := by decide +kernel
theorem dX3_putCombination_26 : decode cX3_putCombination 26 = .ok (.iconst (-1), 1) := by decide +kernel
theorem dX3_putCombination_27 : decode cX3_putCombination 27 = .ok (.if_icmp .ne 8, 3) := by decide +kernel
theorem dX3_putCombination_30 : decode cX3_putCombination 30 = .ok (.aload_n 2, 1) := by decide +kernel
theorem dX3_putCombination_31 : decode cX3_putCombination 31 = .ok (.iload_n 1, 1) := by decide +kernel
theorem dX3_putCombination_32 : decode cX3_putCombination 32 = .ok (.iconst 1, 1) := by decide +kernel
theorem dX3_putCombination_33 : decode cX3_putCombination 33 = .ok (.iastore, 1) := by decide +kernel
theorem dX3_putCombination_34 : decode cX3_putCombination 34 = .ok (.return_, 1) := by decide +kernel
theorem dX3_putCombination_35 : decode cX3_putCombination 35 = .ok (.iload_n 1, 1) := by decide +kernel
theorem dX3_putCombination_36 : decode cX3_putCombination 36 = .ok (.iload_n 3, 1) := by decide +kernel
theorem dX3_putCombination_37 : decode cX3_putCombination 37 = .ok (.if_icmp .ge 7, 3) := by decide +kernel
theorem dX3_putCombination_40 : decode cX3_putCombination 40 = .ok (.iload_n 1, 1) := by decide +kernel
theorem dX3_putCombination_41 : decode cX3_putCombination 41 = .ok (.goto 6, 3) := by decide +kernel
theorem dX3_putCombination_44 : decode cX3_putCombination 44 = .ok (.iload_n 1, 1) := by decide +kernel
theorem dX3_putCombination_45 : decode cX3_putCombination 45 = .ok (.iconst 1, 1) := by decide +kernel
theorem dX3_putCombination_46 : decode cX3_putCombination 46 = .ok (.iadd, 1) := by decide +kernel
theorem dX3_putCombination_47 : decode cX3_putCombination 47 = .ok (.istore 4, 2) := by decide +kernel
theorem dX3_putCombination_49 : decode cX3_putCombination 49 = .ok (.aload_n 0, 1) := by decide +kernel
theorem dX3_putCombination_50 : decode cX3_putCombination 50 = .ok (.getfield 27, 3) := by decide +kernel
theorem dX3_putCombination_53 : decode cX3_putCombination 53 = .ok (.iload 4, 2) := by decide +kernel
theorem dX3_putCombination_55 : decode cX3_putCombination 55 = .ok (.iaload, 1) := by decide +kernel
theorem dX3_putCombination_56 : decode cX3_putCombination 56 = .ok (.aload_n 0, 1) := by decide +kernel
theorem dX3_putCombination_57 : decode cX3_putCombination 57 = .ok (.getfield 27, 3) := by decide +kernel
theorem dX3_putCombination_60 : decode cX3_putCombination 60 = .ok (.iload_n 3, 1) := by decide +kernel
theorem dX3_putCombination_61 : decode cX3_putCombination 61 = .ok (.iaload, 1) := by decide +kernel
theorem dX3_putCombination_62 : decode cX3_putCombination 62 = .ok (.invokestatic 81, 3) := by decide +kernel
theorem dX3_putCombination_65 : decode cX3_putCombination 65 = .ok (.istore 5, 2) := by decide +kernel
theorem dX3_putCombination_67 : decode cX3_putCombination 67 = .ok (.aload_n 2, 1) := by decide +kernel
theorem dX3_putCombination_68 : decode cX3_putCombination 68 = .ok (.iload 4, 2) := by decide +kernel
theorem dX3_putCombination_70 : decode cX3_putCombination 70 = .ok (.aload_n 0, 1) := by decide +kernel
theorem dX3_putCombination_71 : decode cX3_putCombination 71 = .ok (.getfield 27, 3) := by decide +kernel
theorem dX3_putCombination_74 : decode cX3_putCombination 74 = .ok (.iload_n 3, 1) := by decide +kernel
theorem dX3_putCombination_75 : decode cX3_putCombination 75 = .ok (.iaload, 1) := by decide +kernel
theorem dX3_putCombination_76 : decode cX3_putCombination 76 = .ok (.invokestatic 85, 3) := by decide +kernel
theorem dX3_putCombination_79 : decode cX3_putCombination 79 = .ok (.iload 5, 2) := by decide +kernel
theorem dX3_putCombination_81 : decode cX3_putCombination 81 = .ok (.invokestatic 91, 3) := by decide +kernel
theorem dX3_putCombination_84 : decode cX3_putCombination 84 = .ok (.iastore, 1) := by decide +kernel
theorem dX3_putCombination_85 : decode cX3_putCombination 85 = .ok (.aload_n 2, 1) := by decide +kernel
theorem dX3_putCombination_86 : decode cX3_putCombination 86 = .ok (.iload_n 3, 1) := by decide +kernel
theorem dX3_putCombination_87 : decode cX3_putCombination 87 = .ok (.aload_n 0, 1) := by decide +kernel
theorem dX3_putCombination_88 : decode cX3_putCombination 88 = .ok (.getfield 27, 3) := by decide +kernel
theorem dX3_putCombination_91 : decode cX3_putCombination 91 = .ok (.iload_n 3, 1) := by decide +kernel
theorem dX3_putCombination_92 : decode cX3_putCombination 92 = .ok (.iaload, 1) := by decide +kernel
theorem dX3_putCombination_93 : decode cX3_putCombination 93 = .ok (.ifCond .le 14, 3) := by decide +kernel
theorem dX3_putCombination_96 : decode cX3_putCombination 96 = .ok (.aload_n 0, 1) := by decide +kernel
theorem dX3_putCombination_97 : decode cX3_putCombination 97 = .ok (.getfield 27, 3) := by decide +kernel
theorem dX3_putCombination_100 : decode cX3_putCombination 100 = .ok (.iload 4, 2) := by decide +kernel
theorem dX3_putCombination_102 : decode cX3_putCombination 102 = .ok (.iaload, 1) := by decide +kernel
theorem dX3_putCombination_103 : decode cX3_putCombination 103 = .ok (.ineg, 1) := by decide +kernel
theorem dX3_putCombination_104 : decode cX3_putCombination 104 = .ok (.goto 10, 3) := by decide +kernel
theorem dX3_putCombination_107 : decode cX3_putCombination 107 = .ok (.aload_n 0, 1) := by decide +kernel
theorem dX3_putCombination_108 : decode cX3_putCombination 108 = .ok (.getfield 27, 3) := by decide +kernel
theorem dX3_putCombination_111 : decode cX3_putCombination 111 = .ok (.iload 4, 2) := by decide +kernel
theorem dX3_putCombination_113 : decode cX3_putCombination 113 = .ok (.iaload, 1) := by decide +kernel
theorem dX3_putCombination_114 : decode cX3_putCombination 114 = .ok (.iload 5, 2) := by decide +kernel
theorem dX3_putCombination_116 : decode cX3_putCombination 116 = .ok (.invokestatic 91, 3) := by decide +kernel
theorem dX3_putCombination_119 : decode cX3_putCombination 119 = .ok (.iastore, 1) := by decide +kernel
theorem dX3_putCombination_120 : decode cX3_putCombination 120 = .ok (.return_, 1) := by decide +kernel
theorem dX4_init_0 : decode cX4_init 0 = .ok (.aload_n 0, 1) := by decide +kernel
theorem dX4_init_1 : decode cX4_init 1 = .ok (.invokespecial 3, 3) := by decide +kernel
theorem dX4_init_4 : decode cX4_init 4 = .ok (.aload_n 0, 1) := by decide +kernel
theorem dX4_init_5 : decode cX4_init 5 = .ok (.new 9, 3) := by decide +kernel
theorem dX4_init_8 : decode cX4_init 8 = .ok (.dup, 1) := by decide +kernel
theorem dX4_init_9 : decode cX4_init 9 = .ok (.invokespecial 11, 3) := by decide +kernel
theorem dX4_init_12 : decode cX4_init 12 = .ok (.putfield 12, 3) := by decide +kernel
theorem dX4_init_15 : decode cX4_init 15 = .ok (.aload_n 0, 1) := by decide +kernel
theorem dX4_init_16 : decode cX4_init 16 = .ok (.new 9, 3) := by decide +kernel
theorem dX4_init_19 : decode cX4_init 19 = .ok (.dup, 1) := by decide +kernel
theorem dX4_init_20 : decode cX4_init 20 = .ok (.invokespecial 11, 3) := by decide +kernel
theorem dX4_init_23 : decode cX4_init 23 = .ok (.putfield 18, 3) := by decide +kernel
theorem dX4_init_26 : decode cX4_init 26 = .ok (.aload_n 0, 1) := by decide +kernel
theorem dX4_init_27 : decode cX4_init 27 = .ok (.iconst 3, 1) := by decide +kernel
theorem dX4_init_28 : decode cX4_init 28 = .ok (.iconst 4, 1) := by decide +kernel
theorem dX4_init_29 : decode cX4_init 29 = .ok (.multianewarray 21 2, 4) := by decide +kernel
theorem dX4_init_33 : decode cX4_init 33 = .ok (.putfield 23, 3) := by decide +kernel
theorem dX4_init_36 : decode cX4_init 36 = .ok (.aload_n 0, 1) := by decide +kernel
theorem dX4_init_37 : decode cX4_init 37 = .ok (.iconst 4, 1) := by decide +kernel
theorem dX4_init_38 : decode cX4_init 38 = .ok (.newarray .long, 2) := by decide +kernel
theorem dX4_init_40 : decode cX4_init 40 = .ok (.putfield 26, 3) := by decide +kernel
theorem dX4_init_43 : decode cX4_init 43 = .ok (.aload_n 0, 1) := by decide +kernel
theorem dX4_init_44 : decode cX4_init 44 = .ok (.iconst 4, 1) := by decide +kernel
theorem dX4_init_45 : decode cX4_init 45 = .ok (.newarray .long, 2) := by decide +kernel
theorem dX4_init_47 : decode cX4_init 47 = .ok (.putfield 30, 3) := by decide +kernel
theorem dX4_init_50 : decode cX4_init 50 = .ok (.aload_n 0, 1) := by decide +kernel
theorem dX4_init_51 : decode cX4_init 51 = .ok (.iconst 4, 1) := by decide +kernel
theorem dX4_init_52 : decode cX4_init 52 = .ok (.newarray .long, 2) := by decide +kernel
theorem dX4_init_54 : decode cX4_init 54 = .ok (.putfield 33, 3) := by decide +kernel
theorem dX4_init_57 : decode cX4_init 57 = .ok (.return_, 1) := by decide +kernel
theorem dX4_ofPowers_0 : decode cX4_ofPowers 0 = .ok (.aload_n 0, 1) := by decide +kernel
theorem dX4_ofPowers_1 : decode cX4_ofPowers 1 = .ok (.getfield 12, 3) := by decide +kernel
theorem dX4_ofPowers_4 : decode cX4_ofPowers 4 = .ok (.invokevirtual 36, 3) := by decide +kernel
theorem dX4_ofPowers_7 : decode cX4_ofPowers 7 = .ok (.iconst 0, 1) := by decide +kernel
theorem dX4_ofPowers_8 : decode cX4_ofPowers 8 = .ok (.istore_n 3, 1) := by decide +kernel
theorem dX4_ofPowers_9 : decode cX4_ofPowers 9 = .ok (.iload_n 3, 1) := by decide +kernel
theorem dX4_ofPowers_10 : decode cX4_ofPowers 10 = .ok (.aload_n 1, 1) := by decide +kernel
theorem dX4_ofPowers_11 : decode cX4_ofPowers 11 = .ok (.getfield 39, 3) := by decide +kernel
theorem dX4_ofPowers_14 : decode cX4_ofPowers 14 = .ok (.if_icmp .ge 21, 3) := by decide +kernel
theorem dX4_ofPowers_17 : decode cX4_ofPowers 17 = .ok (.aload_n 0, 1) := by decide +kernel
theorem dX4_ofPowers_18 : decode cX4_ofPowers 18 = .ok (.aload_n 1, 1) := by decide +kernel
theorem dX4_ofPowers_19 : decode cX4_ofPowers 19 = .ok (.iload_n 3, 1) := by decide +kernel
theorem dX4_ofPowers_20 : decode cX4_ofPowers 20 = .ok (.aload_n 0, 1) := by decide +kernel
theorem dX4_ofPowers_21 : decode cX4_ofPowers 21 = .ok (.getfield 23, 3) := by decide +kernel
theorem dX4_ofPowers_24 : decode cX4_ofPowers 24 = .ok (.iload_n 3, 1) := by decide +kernel
theorem dX4_ofPowers_25 : decode cX4_ofPowers 25 = .ok (.aaload, 1) := by decide +kernel
theorem dX4_ofPowers_26 : decode cX4_ofPowers 26 = .ok (.invokevirtual 45, 3) := by decide +kernel
theorem dX4_ofPowers_29 : decode cX4_ofPowers 29 = .ok (.iinc 3 1, 3) := by decide +kernel
theorem dX4_ofPowers_32 : decode cX4_ofPowers 32 = .ok (.goto (-23), 3) := by decide +kernel
theorem dX4_ofPowers_35 : decode cX4_ofPowers 35 = .ok (.iconst 0, 1) := by decide +kernel
theorem dX4_ofPowers_36 : decode cX4_ofPowers 36 = .ok (.istore_n 3, 1) := by decide +kernel
theorem dX4_ofPowers_37 : decode cX4_ofPowers 37 = .ok (.iload_n 3, 1) := by decide +kernel
theorem dX4_ofPowers_38 : decode cX4_ofPowers 38 = .ok (.iload_n 2, 1) := by decide +kernel
theorem dX4_ofPowers_39 : decode cX4_ofPowers 39 = .ok (.if_icmp .ge 68, 3) := by decide +kernel
theorem dX4_ofPowers_42 : decode cX4_ofPowers 42 = .ok (.iconst 0, 1) := by decide +kernel
theorem dX4_ofPowers_43 : decode cX4_ofPowers 43 = .ok (.istore 4, 2) := by decide +kernel
theorem dX4_ofPowers_45 : decode cX4_ofPowers 45 = .ok (.iload 4, 2) := by decide +kernel
theorem dX4_ofPowers_47 : decode cX4_ofPowers 47 = .ok (.aload_n 1, 1) := by decide +kernel
theorem dX4_ofPowers_48 : decode cX4_ofPowers 48 = .ok (.getfield 39, 3) := by decide +kernel
theorem dX4_ofPowers_51 : decode cX4_ofPowers 51 = .ok (.if_icmp .ge 50, 3) := by decide +kernel
theorem dX4_ofPowers_54 : decode cX4_ofPowers 54 = .ok (.aload_n 0, 1) := by decide +kernel
theorem dX4_ofPowers_55 : decode cX4_ofPowers 55 = .ok (.getfield 23, 3) := by decide +kernel
theorem dX4_ofPowers_58 : decode cX4_ofPowers 58 = .ok (.iload 4, 2) := by decide +kernel
theorem dX4_ofPowers_60 : decode cX4_ofPowers 60 = .ok (.aaload, 1) := by decide +kernel
theorem dX4_ofPowers_61 : decode cX4_ofPowers 61 = .ok (.aload_n 0, 1) := by decide +kernel
theorem dX4_ofPowers_62 : decode cX4_ofPowers 62 = .ok (.getfield 26, 3) := by decide +kernel
theorem dX4_ofPowers_65 : decode cX4_ofPowers 65 = .ok (.invokestatic 49, 3) := by decide +kernel
theorem dX4_ofPowers_68 : decode cX4_ofPowers 68 = .ok (.aload_n 0, 1) := by decide +kernel
theorem dX4_ofPowers_69 : decode cX4_ofPowers 69 = .ok (.getfield 12, 3) := by decide +kernel
theorem dX4_ofPowers_72 : decode cX4_ofPowers 72 = .ok (.aload_n 0, 1) := by decide +kernel
theorem dX4_ofPowers_73 : decode cX4_ofPowers 73 = .ok (.getfield 26, 3) := by decide +kernel
theorem dX4_ofPowers_76 : decode cX4_ofPowers 76 = .ok (.aload_n 1, 1) := by decide +kernel
theorem dX4_ofPowers_77 : decode cX4_ofPowers 77 = .ok (.getfield 53, 3) := by decide +kernel
theorem dX4_ofPowers_80 : decode cX4_ofPowers 80 = .ok (.invokevirtual 56, 3) := by decide +kernel
theorem dX4_ofPowers_83 : decode cX4_ofPowers 83 = .ok (.aload_n 0, 1) := by decide +kernel
theorem dX4_ofPowers_84 : decode cX4_ofPowers 84 = .ok (.aload_n 1, 1) := by decide +kernel
theorem dX4_ofPowers_85 : decode cX4_ofPowers 85 = .ok (.aload_n 0, 1) := by decide +kernel
theorem dX4_ofPowers_86 : decode cX4_ofPowers 86 = .ok (.getfield 23, 3) := by decide +kernel
theorem dX4_ofPowers_89 : decode cX4_ofPowers 89 = .ok (.iload 4, 2) := by decide +kernel
theorem dX4_ofPowers_91 : decode cX4_ofPowers 91 = .ok (.aaload, 1) := by decide +kernel
theorem dX4_ofPowers_92 : decode cX4_ofPowers 92 = .ok (.invokevirtual 60, 3) := by decide +kernel
theorem dX4_ofPowers_95 : decode cX4_ofPowers 95 = .ok (.iinc 4 1, 3) := by decide +kernel
theorem dX4_ofPowers_98 : decode cX4_ofPowers 98 = .ok (.goto (-53), 3) := by decide +kernel
theorem dX4_ofPowers_101 : decode cX4_ofPowers 101 = .ok (.iinc 3 1, 3) := by decide +kernel
theorem dX4_ofPowers_104 : decode cX4_ofPowers 104 = .ok (.goto (-67), 3) := by decide +kernel
theorem dX4_ofPowers_107 : decode cX4_ofPowers 107 = .ok (.aload_n 0, 1) := by decide +kernel
theorem dX4_ofPowers_108 : decode cX4_ofPowers 108 = .ok (.getfield 12, 3) := by decide +kernel
theorem dX4_ofPowers_111 : decode cX4_ofPowers 111 = .ok (.getfield 64, 3) := by decide +kernel
theorem dX4_ofPowers_114 : decode cX4_ofPowers 114 = .ok (.ireturn, 1) := by decide +kernel
theorem dX4_ofVisible_0 : decode cX4_ofVisible 0 = .ok (.aload_n 0, 1) := by decide +kernel
theorem dX4_ofVisible_1 : decode cX4_ofVisible 1 = .ok (.getfield 12, 3) := by decide +kernel
theorem dX4_ofVisible_4 : decode cX4_ofVisible 4 = .ok (.invokevirtual 36, 3) := by decide +kernel
theorem dX4_ofVisible_7 : decode cX4_ofVisible 7 = .ok (.iconst 0, 1) := by decide +kernel
theorem dX4_ofVisible_8 : decode cX4_ofVisible 8 = .ok (.istore_n 3, 1) := by decide +kernel
theorem dX4_ofVisible_9 : decode cX4_ofVisible 9 = .ok (.iload_n 3, 1) := by decide +kernel
theorem dX4_ofVisible_10 : decode cX4_ofVisible 10 = .ok (.iload_n 2, 1) := by decide +kernel
theorem dX4_ofVisible_11 : decode cX4_ofVisible 11 = .ok (.if_icmp .ge 76, 3) := by decide +kernel
theorem dX4_ofVisible_14 : decode cX4_ofVisible 14 = .ok (.aload_n 0, 1) := by decide +kernel
theorem dX4_ofVisible_15 : decode cX4_ofVisible 15 = .ok (.getfield 18, 3) := by decide +kernel
theorem dX4_ofVisible_18 : decode cX4_ofVisible 18 = .ok (.invokevirtual 36, 3) := by decide +kernel
theorem dX4_ofVisible_21 : decode cX4_ofVisible 21 = .ok (.iconst 0, 1) := by decide +kernel
theorem dX4_ofVisible_22 : decode cX4_ofVisible 22 = .ok (.istore 4, 2) := by decide +kernel
theorem dX4_ofVisible_24 : decode cX4_ofVisible 24 = .ok (.iload 4, 2) := by decide +kernel
theorem dX4_ofVisible_26 : decode cX4_ofVisible 26 = .ok (.aload_n 1, 1) := by decide +kernel
theorem dX4_ofVisible_27 : decode cX4_ofVisible 27 = .ok (.getfield 39, 3) := by decide +kernel
theorem dX4_ofVisible_30 : decode cX4_ofVisible 30 = .ok (.if_icmp .ge 35, 3) := by decide +kernel
theorem dX4_ofVisible_33 : decode cX4_ofVisible 33 = .ok (.aload_n 0, 1) := by decide +kernel
theorem dX4_ofVisible_34 : decode cX4_ofVisible 34 = .ok (.aload_n 1, 1) := by decide +kernel
theorem dX4_ofVisible_35 : decode cX4_ofVisible 35 = .ok (.iload 4, 2) := by decide +kernel
theorem dX4_ofVisible_37 : decode cX4_ofVisible 37 = .ok (.aload_n 0, 1) := by decide +kernel
theorem dX4_ofVisible_38 : decode cX4_ofVisible 38 = .ok (.getfield 26, 3) := by decide +kernel
theorem dX4_ofVisible_41 : decode cX4_ofVisible 41 = .ok (.invokevirtual 45, 3) := by decide +kernel
theorem dX4_ofVisible_44 : decode cX4_ofVisible 44 = .ok (.aload_n 0, 1) := by decide +kernel
theorem dX4_ofVisible_45 : decode cX4_ofVisible 45 = .ok (.getfield 18, 3) := by decide +kernel
theorem dX4_ofVisible_48 : decode cX4_ofVisible 48 = .ok (.aload_n 0, 1) := by decide +kernel
theorem dX4_ofVisible_49 : decode cX4_ofVisible 49 = .ok (.getfield 26, 3) := by decide +kernel
theorem dX4_ofVisible_52 : decode cX4_ofVisible 52 = .ok (.aload_n 1, 1) := by decide +kernel
theorem dX4_ofVisible_53 : decode cX4_ofVisible 53 = .ok (.getfield 53, 3) := by decide +kernel
theorem dX4_ofVisible_56 : decode cX4_ofVisible 56 = .ok (.invokevirtual 56, 3) := by decide +kernel
theorem dX4_ofVisible_59 : decode cX4_ofVisible 59 = .ok (.iinc 4 1, 3) := by decide +kernel
theorem dX4_ofVisible_62 : decode cX4_ofVisible 62 = .ok (.goto (-38), 3) := by decide +kernel
theorem dX4_ofVisible_65 : decode cX4_ofVisible 65 = .ok (.aload_n 0, 1) := by decide +kernel
theorem dX4_ofVisible_66 : decode cX4_ofVisible 66 = .ok (.aload_n 1, 1) := by decide +kernel
theorem dX4_ofVisible_67 : decode cX4_ofVisible 67 = .ok (.invokevirtual 67, 3) := by decide +kernel
theorem dX4_ofVisible_70 : decode cX4_ofVisible 70 = .ok (.aload_n 0, 1) := by decide +kernel
theorem dX4_ofVisible_71 : decode cX4_ofVisible 71 = .ok (.getfield 12, 3) := by decide +kernel
theorem dX4_ofVisible_74 : decode cX4_ofVisible 74 = .ok (.aload_n 0, 1) := by decide +kernel
theorem dX4_ofVisible_75 : decode cX4_ofVisible 75 = .ok (.getfield 18, 3) := by decide +kernel
theorem dX4_ofVisible_78 : decode cX4_ofVisible 78 = .ok (.invokevirtual 71, 3) := by decide +kernel
theorem dX4_ofVisible_81 : decode cX4_ofVisible 81 = .ok (.iinc 3 1, 3) := by decide +kernel
theorem dX4_ofVisible_84 : decode cX4_ofVisible 84 = .ok (.goto (-75), 3) := by decide +kernel
theorem dX4_ofVisible_87 : decode cX4_ofVisible 87 = .ok (.aload_n 0, 1) := by decide +kernel
theorem dX4_ofVisible_88 : decode cX4_ofVisible 88 = .ok (.getfield 12, 3) := by decide +kernel
theorem dX4_ofVisible_91 : decode cX4_ofVisible 91 = .ok (.getfield 64, 3) := by decide +kernel
theorem dX4_ofVisible_94 : decode cX4_ofVisible 94 = .ok (.ireturn, 1) := by decide +kernel
theorem dX4_includeEarlier_0 : decode cX4_includeEarlier 0 = .ok (.aload_n 0, 1) := by decide +kernel
theorem dX4_includeEarlier_1 : decode cX4_includeEarlier 1 = .ok (.aload_n 1, 1) := by decide +kernel
theorem dX4_includeEarlier_2 : decode cX4_includeEarlier 2 = .ok (.invokevirtual 75, 3) := by decide +kernel
theorem dX4_includeEarlier_5 : decode cX4_includeEarlier 5 = .ok (.istore_n 2, 1) := by decide +kernel
theorem dX4_includeEarlier_6 : decode cX4_includeEarlier 6 = .ok (.iconst 0, 1) := by decide +kernel
theorem dX4_includeEarlier_7 : decode cX4_includeEarlier 7 = .ok (.istore_n 3, 1) := by decide +kernel
theorem dX4_includeEarlier_8 : decode cX4_includeEarlier 8 = .ok (.iload_n 3, 1) := by decide +kernel
theorem dX4_includeEarlier_9 : decode cX4_includeEarlier 9 = .ok (.aload_n 1, 1) := by decide +kernel
theorem dX4_includeEarlier_10 : decode cX4_includeEarlier 10 = .ok (.getfield 53, 3) := by decide +kernel
theorem dX4_includeEarlier_13 : decode cX4_includeEarlier 13 = .ok (.if_icmp .ge 94, 3) := by decide +kernel
theorem dX4_includeEarlier_16 : decode cX4_includeEarlier 16 = .ok (.iload_n 3, 1) := by decide +kernel
theorem dX4_includeEarlier_17 : decode cX4_includeEarlier 17 = .ok (.iload_n 2, 1) := by decide +kernel
theorem dX4_includeEarlier_18 : decode cX4_includeEarlier 18 = .ok (.if_icmp .eq 83, 3) := by decide +kernel
theorem dX4_includeEarlier_21 : decode cX4_includeEarlier 21 = .ok (.aload_n 0, 1) := by decide +kernel
theorem dX4_includeEarlier_22 : decode cX4_includeEarlier 22 = .ok (.getfield 12, 3) := by decide +kernel
theorem dX4_includeEarlier_25 : decode cX4_includeEarlier 25 = .ok (.getfield 79, 3) := by decide +kernel
theorem dX4_includeEarlier_28 : decode cX4_includeEarlier 28 = .ok (.iload_n 3, 1) := by decide +kernel
theorem dX4_includeEarlier_29 : decode cX4_includeEarlier 29 = .ok (.aaload, 1) := by decide +kernel
theorem dX4_includeEarlier_30 : decode cX4_includeEarlier 30 = .ok (.aload_n 0, 1) := by decide +kernel
theorem dX4_includeEarlier_31 : decode cX4_includeEarlier 31 = .ok (.getfield 26, 3) := by decide +kernel
theorem dX4_includeEarlier_34 : decode cX4_includeEarlier 34 = .ok (.invokestatic 49, 3) := by decide +kernel
theorem dX4_includeEarlier_37 : decode cX4_includeEarlier 37 = .ok (.iload_n 2, 1) := by decide +kernel
theorem dX4_includeEarlier_38 : decode cX4_includeEarlier 38 = .ok (.aload_n 1, 1) := by decide +kernel
theorem dX4_includeEarlier_39 : decode cX4_includeEarlier 39 = .ok (.getfield 53, 3) := by decide +kernel
theorem dX4_includeEarlier_42 : decode cX4_includeEarlier 42 = .ok (.if_icmp .ge 35, 3) := by decide +kernel
theorem dX4_includeEarlier_45 : decode cX4_includeEarlier 45 = .ok (.aload_n 0, 1) := by decide +kernel
theorem dX4_includeEarlier_46 : decode cX4_includeEarlier 46 = .ok (.getfield 26, 3) := by decide +kernel
theorem dX4_includeEarlier_49 : decode cX4_includeEarlier 49 = .ok (.aload_n 0, 1) := by decide +kernel
theorem dX4_includeEarlier_50 : decode cX4_includeEarlier 50 = .ok (.getfield 33, 3) := by decide +kernel
theorem dX4_includeEarlier_53 : decode cX4_includeEarlier 53 = .ok (.iload_n 3, 1) := by decide +kernel
theorem dX4_includeEarlier_54 : decode cX4_includeEarlier 54 = .ok (.laload, 1) := by decide +kernel
theorem dX4_includeEarlier_55 : decode cX4_includeEarlier 55 = .ok (.aload_n 0, 1) := by decide +kernel
theorem dX4_includeEarlier_56 : decode cX4_includeEarlier 56 = .ok (.getfield 12, 3) := by decide +kernel
theorem dX4_includeEarlier_59 : decode cX4_includeEarlier 59 = .ok (.getfield 79, 3) := by decide +kernel
theorem dX4_includeEarlier_62 : decode cX4_includeEarlier 62 = .ok (.iload_n 2, 1) := by decide +kernel
theorem dX4_includeEarlier_63 : decode cX4_includeEarlier 63 = .ok (.aaload, 1) := by decide +kernel
theorem dX4_includeEarlier_64 : decode cX4_includeEarlier 64 = .ok (.aload_n 0, 1) := by decide +kernel
theorem dX4_includeEarlier_65 : decode cX4_includeEarlier 65 = .ok (.getfield 33, 3) := by decide +kernel
theorem dX4_includeEarlier_68 : decode cX4_includeEarlier 68 = .ok (.iload_n 2, 1) := by decide +kernel
theorem dX4_includeEarlier_69 : decode cX4_includeEarlier 69 = .ok (.laload, 1) := by decide +kernel
theorem dX4_includeEarlier_70 : decode cX4_includeEarlier 70 = .ok (.aload_n 1, 1) := by decide +kernel
theorem dX4_includeEarlier_71 : decode cX4_includeEarlier 71 = .ok (.getfield 53, 3) := by decide +kernel
theorem dX4_includeEarlier_74 : decode cX4_includeEarlier 74 = .ok (.invokestatic 82, 3) := by decide +kernel
theorem dX4_includeEarlier_77 : decode cX4_includeEarlier 77 = .ok (.aload_n 0, 1) := by decide +kernel
theorem dX4_includeEarlier_78 : decode cX4_includeEarlier 78 = .ok (.aload_n 1, 1) := by decide +kernel
theorem dX4_includeEarlier_79 : decode cX4_includeEarlier 79 = .ok (.aload_n 0, 1) := by decide +kernel
theorem dX4_includeEarlier_80 : decode cX4_includeEarlier 80 = .ok (.getfield 26, 3) := by decide +kernel
theorem dX4_includeEarlier_83 : decode cX4_includeEarlier 83 = .ok (.invokevirtual 60, 3) := by decide +kernel
theorem dX4_includeEarlier_86 : decode cX4_includeEarlier 86 = .ok (.aload_n 0, 1) := by decide +kernel
theorem dX4_includeEarlier_87 : decode cX4_includeEarlier 87 = .ok (.getfield 18, 3) := by decide +kernel
theorem dX4_includeEarlier_90 : decode cX4_includeEarlier 90 = .ok (.aload_n 0, 1) := by decide +kernel
theorem dX4_includeEarlier_91 : decode cX4_includeEarlier 91 = .ok (.getfield 26, 3) := by decide +kernel
theorem dX4_includeEarlier_94 : decode cX4_includeEarlier 94 = .ok (.aload_n 1, 1) := by decide +kernel
theorem dX4_includeEarlier_95 : decode cX4_includeEarlier 95 = .ok (.getfield 53, 3) := by decide +kernel
theorem dX4_includeEarlier_98 : decode cX4_includeEarlier 98 = .ok (.invokevirtual 56, 3) := by decide +kernel
theorem dX4_includeEarlier_101 : decode cX4_includeEarlier 101 = .ok (.iinc 3 1, 3) := by decide +kernel
theorem dX4_includeEarlier_104 : decode cX4_includeEarlier 104 = .ok (.goto (-96), 3) := by decide +kernel
theorem dX4_includeEarlier_107 : decode cX4_includeEarlier 107 = .ok (.return_, 1) := by decide +kernel
theorem dX4_putEffects_0 : decode cX4_putEffects 0 = .ok (.aload_n 1, 1) := by decide +kernel
theorem dX4_putEffects_1 : decode cX4_putEffects 1 = .ok (.getfield 53, 3) := by decide +kernel
theorem dX4_putEffects_4 : decode cX4_putEffects 4 = .ok (.istore_n 2, 1) := by decide +kernel
theorem dX4_putEffects_5 : decode cX4_putEffects 5 = .ok (.aload_n 1, 1) := by decide +kernel
theorem dX4_putEffects_6 : decode cX4_putEffects 6 = .ok (.getfield 53, 3) := by decide +kernel
theorem dX4_putEffects_9 : decode cX4_putEffects 9 = .ok (.iconst 1, 1) := by decide +kernel
theorem dX4_putEffects_10 : decode cX4_putEffects 10 = .ok (.isub, 1) := by decide +kernel
theorem dX4_putEffects_11 : decode cX4_putEffects 11 = .ok (.istore_n 3, 1) := by decide +kernel
theorem dX4_putEffects_12 : decode cX4_putEffects 12 = .ok (.iload_n 3, 1) := by decide +kernel
theorem dX4_putEffects_13 : decode cX4_putEffects 13 = .ok (.ifCond .lt 83, 3) := by decide +kernel
theorem dX4_putEffects_16 : decode cX4_putEffects 16 = .ok (.lconst 0, 1) := by decide +kernel
theorem dX4_putEffects_17 : decode cX4_putEffects 17 = .ok (.lstore 4, 2) := by decide +kernel
theorem dX4_putEffects_19 : decode cX4_putEffects 19 = .ok (.iconst 0, 1) := by decide +kernel
theorem dX4_putEffects_20 : decode cX4_putEffects 20 = .ok (.istore 6, 2) := by decide +kernel
theorem dX4_putEffects_22 : decode cX4_putEffects 22 = .ok (.iload 6, 2) := by decide +kernel
theorem dX4_putEffects_24 : decode cX4_putEffects 24 = .ok (.aload_n 1, 1) := by decide +kernel
theorem dX4_putEffects_25 : decode cX4_putEffects 25 = .ok (.getfield 53, 3) := by decide +kernel
theorem dX4_putEffects_28 : decode cX4_putEffects 28 = .ok (.if_icmp .ge 35, 3) := by decide +kernel
theorem dX4_putEffects_31 : decode cX4_putEffects 31 = .ok (.lload 4, 2) := by decide +kernel
theorem dX4_putEffects_33 : decode cX4_putEffects 33 = .ok (.aload_n 0, 1) := by decide +kernel
theorem dX4_putEffects_34 : decode cX4_putEffects 34 = .ok (.getfield 12, 3) := by decide +kernel
theorem dX4_putEffects_37 : decode cX4_putEffects 37 = .ok (.getfield 79, 3) := by decide +kernel
theorem dX4_putEffects_40 : decode cX4_putEffects 40 = .ok (.iload_n 3, 1) := by decide +kernel
theorem dX4_putEffects_41 : decode cX4_putEffects 41 = .ok (.aaload, 1) := by decide +kernel
theorem dX4_putEffects_42 : decode cX4_putEffects 42 = .ok (.iload 6, 2) := by decide +kernel
theorem dX4_putEffects_44 : decode cX4_putEffects 44 = .ok (.laload, 1) := by decide +kernel
theorem dX4_putEffects_45 : decode cX4_putEffects 45 = .ok (.aload_n 1, 1) := by decide +kernel
theorem dX4_putEffects_46 : decode cX4_putEffects 46 = .ok (.getfield 86, 3) := by decide +kernel
theorem dX4_putEffects_49 : decode cX4_putEffects 49 = .ok (.iload 6, 2) := by decide +kernel
theorem dX4_putEffects_51 : decode cX4_putEffects 51 = .ok (.iaload, 1) := by decide +kernel
theorem dX4_putEffects_52 : decode cX4_putEffects 52 = .ok (.i2l, 1) := by decide +kernel
theorem dX4_putEffects_53 : decode cX4_putEffects 53 = .ok (.lmul, 1) := by decide +kernel
theorem dX4_putEffects_54 : decode cX4_putEffects 54 = .ok (.ladd, 1) := by decide +kernel
theorem dX4_putEffects_55 : decode cX4_putEffects 55 = .ok (.lstore 4, 2) := by decide +kernel
theorem dX4_putEffects_57 : decode cX4_putEffects 57 = .ok (.iinc 6 1, 3) := by decide +kernel
theorem dX4_putEffects_60 : decode cX4_putEffects 60 = .ok (.goto (-38), 3) := by decide +kernel
theorem dX4_putEffects_63 : decode cX4_putEffects 63 = .ok (.aload_n 0, 1) := by decide +kernel
theorem dX4_putEffects_64 : decode cX4_putEffects 64 = .ok (.getfield 33, 3) := by decide +kernel
theorem dX4_putEffects_67 : decode cX4_putEffects 67 = .ok (.iload_n 3, 1) := by decide +kernel
theorem dX4_putEffects_68 : decode cX4_putEffects 68 = .ok (.lload 4, 2) := by decide +kernel
theorem dX4_putEffects_70 : decode cX4_putEffects 70 = .ok (.ldc2_w 90, 3) := by decide +kernel
theorem dX4_putEffects_73 : decode cX4_putEffects 73 = .ok (.invokestatic 92, 3) := by decide +kernel
theorem dX4_putEffects_76 : decode cX4_putEffects 76 = .ok (.lastore, 1) := by decide +kernel
theorem dX4_putEffects_77 : decode cX4_putEffects 77 = .ok (.aload_n 0, 1) := by decide +kernel
theorem dX4_putEffects_78 : decode cX4_putEffects 78 = .ok (.getfield 33, 3) := by decide +kernel
theorem dX4_putEffects_81 : decode cX4_putEffects 81 = .ok (.iload_n 3, 1) := by decide +kernel
theorem dX4_putEffects_82 : decode cX4_putEffects 82 = .ok (.laload, 1) := by decide +kernel
theorem dX4_putEffects_83 : decode cX4_putEffects 83 = .ok (.lconst 0, 1) := by decide +kernel
theorem dX4_putEffects_84 : decode cX4_putEffects 84 = .ok (.lcmp, 1) := by decide +kernel
theorem dX4_putEffects_85 : decode cX4_putEffects 85 = .ok (.ifCond .eq 5, 3) := by decide +kernel
theorem dX4_putEffects_88 : decode cX4_putEffects 88 = .ok (.iload_n 3, 1) := by decide +kernel
theorem dX4_putEffects_89 : decode cX4_putEffects 89 = .ok (.istore_n 2, 1) := by decide +kernel
theorem dX4_putEffects_90 : decode cX4_putEffects 90 = .ok (.iinc 3 (-1), 3) := by decide +kernel
theorem dX4_putEffects_93 : decode cX4_putEffects 93 = .ok (.goto (-81), 3) := by decide +kernel
theorem dX4_putEffects_96 : decode cX4_putEffects 96 = .ok (.iload_n 2, 1) := by decide +kernel
theorem dX4_putEffects_97 : decode cX4_putEffects 97 = .ok (.ireturn, 1) := by decide +kernel
theorem dX4_putOutput_0 : decode cX4_putOutput 0 = .ok (.iconst 0, 1) := by decide +kernel
theorem dX4_putOutput_1 : decode cX4_putOutput 1 = .ok (.istore 4, 2) := by decide +kernel
theorem dX4_putOutput_3 : decode cX4_putOutput 3 = .ok (.iload 4, 2) := by decide +kernel
theorem dX4_putOutput_5 : decode cX4_putOutput 5 = .ok (.aload_n 1, 1) := by decide +kernel
theorem dX4_putOutput_6 : decode cX4_putOutput 6 = .ok (.getfield 53, 3) := by decide +kernel
theorem dX4_putOutput_9 : decode cX4_putOutput 9 = .ok (.if_icmp .ge 29, 3) := by decide +kernel
theorem dX4_putOutput_12 : decode cX4_putOutput 12 = .ok (.aload_n 3, 1) := by decide +kernel
theorem dX4_putOutput_13 : decode cX4_putOutput 13 = .ok (.iload 4, 2) := by decide +kernel
theorem dX4_putOutput_15 : decode cX4_putOutput 15 = .ok (.aload_n 1, 1) := by decide +kernel
theorem dX4_putOutput_16 : decode cX4_putOutput 16 = .ok (.getfield 98, 3) := by decide +kernel
theorem dX4_putOutput_19 : decode cX4_putOutput 19 = .ok (.iload_n 2, 1) := by decide +kernel
theorem dX4_putOutput_20 : decode cX4_putOutput 20 = .ok (.aaload, 1) := by decide +kernel
theorem dX4_putOutput_21 : decode cX4_putOutput 21 = .ok (.iload 4, 2) := by decide +kernel
theorem dX4_putOutput_23 : decode cX4_putOutput 23 = .ok (.iaload, 1) := by decide +kernel
theorem dX4_putOutput_24 : decode cX4_putOutput 24 = .ok (.i2l, 1) := by decide +kernel
theorem dX4_putOutput_25 : decode cX4_putOutput 25 = .ok (.ldc2_w 90, 3) := by decide +kernel
theorem dX4_putOutput_28 : decode cX4_putOutput 28 = .ok (.invokestatic 92, 3) := by decide +kernel
theorem dX4_putOutput_31 : decode cX4_putOutput 31 = .ok (.lastore, 1) := by decide +kernel
theorem dX4_putOutput_32 : decode cX4_putOutput 32 = .ok (.iinc 4 1, 3) := by decide +kernel
theorem dX4_putOutput_35 : decode cX4_putOutput 35 = .ok (.goto (-32), 3) := by decide +kernel
theorem dX4_putOutput_38 : decode cX4_putOutput 38 = .ok (.return_, 1) := by decide +kernel
theorem dX4_multiply_0 : decode cX4_multiply 0 = .ok (.iconst 0, 1) := by decide +kernel
theorem dX4_multiply_1 : decode cX4_multiply 1 = .ok (.istore_n 3, 1) := by decide +kernel
theorem dX4_multiply_2 : decode cX4_multiply 2 = .ok (.iload_n 3, 1) := by decide +kernel
theorem dX4_multiply_3 : decode cX4_multiply 3 = .ok (.aload_n 1, 1) := by decide +kernel
theorem dX4_multiply_4 : decode cX4_multiply 4 = .ok (.getfield 53, 3) := by decide +kernel
theorem dX4_multiply_7 : decode cX4_multiply 7 = .ok (.if_icmp .ge 64, 3) := by decide +kernel
theorem dX4_multiply_10 : decode cX4_multiply 10 = .ok (.lconst 0, 1) := by decide +kernel
theorem dX4_multiply_11 : decode cX4_multiply 11 = .ok (.lstore 4, 2) := by decide +kernel
theorem dX4_multiply_13 : decode cX4_multiply 13 = .ok (.iconst 0, 1) := by decide +kernel
theorem dX4_multiply_14 : decode cX4_multiply 14 = .ok (.istore 6, 2) := by decide +kernel
theorem dX4_multiply_16 : decode cX4_multiply 16 = .ok (.iload 6, 2) := by decide +kernel
theorem dX4_multiply_18 : decode cX4_multiply 18 = .ok (.aload_n 1, 1) := by decide +kernel
theorem dX4_multiply_19 : decode cX4_multiply 19 = .ok (.getfield 53, 3) := by decide +kernel
theorem dX4_multiply_22 : decode cX4_multiply 22 = .ok (.if_icmp .ge 29, 3) := by decide +kernel
theorem dX4_multiply_25 : decode cX4_multiply 25 = .ok (.lload 4, 2) := by decide +kernel
theorem dX4_multiply_27 : decode cX4_multiply 27 = .ok (.aload_n 2, 1) := by decide +kernel
theorem dX4_multiply_28 : decode cX4_multiply 28 = .ok (.iload 6, 2) := by decide +kernel
theorem dX4_multiply_30 : decode cX4_multiply 30 = .ok (.laload, 1) := by decide +kernel
theorem dX4_multiply_31 : decode cX4_multiply 31 = .ok (.aload_n 1, 1) := by decide +kernel
theorem dX4_multiply_32 : decode cX4_multiply 32 = .ok (.getfield 102, 3) := by decide +kernel
theorem dX4_multiply_35 : decode cX4_multiply 35 = .ok (.iload 6, 2) := by decide +kernel
theorem dX4_multiply_37 : decode cX4_multiply 37 = .ok (.aaload, 1) := by decide +kernel
theorem dX4_multiply_38 : decode cX4_multiply 38 = .ok (.iload_n 3, 1) := by decide +kernel
theorem dX4_multiply_39 : decode cX4_multiply 39 = .ok (.iaload, 1) := by decide +kernel
theorem dX4_multiply_40 : decode cX4_multiply 40 = .ok (.i2l, 1) := by decide +kernel
theorem dX4_multiply_41 : decode cX4_multiply 41 = .ok (.lmul, 1) := by decide +kernel
theorem dX4_multiply_42 : decode cX4_multiply 42 = .ok (.ladd, 1) := by decide +kernel
theorem dX4_multiply_43 : decode cX4_multiply 43 = .ok (.lstore 4, 2) := by decide +kernel
theorem dX4_multiply_45 : decode cX4_multiply 45 = .ok (.iinc 6 1, 3) := by decide +kernel
theorem dX4_multiply_48 : decode cX4_multiply 48 = .ok (.goto (-32), 3) := by decide +kernel
theorem dX4_multiply_51 : decode cX4_multiply 51 = .ok (.aload_n 0, 1) := by decide +kernel
theorem dX4_multiply_52 : decode cX4_multiply 52 = .ok (.getfield 30, 3) := by decide +kernel
theorem dX4_multiply_55 : decode cX4_multiply 55 = .ok (.iload_n 3, 1) := by decide +kernel
theorem dX4_multiply_56 : decode cX4_multiply 56 = .ok (.lload 4, 2) := by decide +kernel
theorem dX4_multiply_58 : decode cX4_multiply 58 = .ok (.ldc2_w 90, 3) := by decide +kernel
theorem dX4_multiply_61 : decode cX4_multiply 61 = .ok (.invokestatic 92, 3) := by decide +kernel
theorem dX4_multiply_64 : decode cX4_multiply 64 = .ok (.lastore, 1) := by decide +kernel
theorem dX4_multiply_65 : decode cX4_multiply 65 = .ok (.iinc 3 1, 3) := by decide +kernel
theorem dX4_multiply_68 : decode cX4_multiply 68 = .ok (.goto (-66), 3) := by decide +kernel
theorem dX4_multiply_71 : decode cX4_multiply 71 = .ok (.aload_n 0, 1) := by decide +kernel
theorem dX4_multiply_72 : decode cX4_multiply 72 = .ok (.getfield 30, 3) := by decide +kernel
theorem dX4_multiply_75 : decode cX4_multiply 75 = .ok (.aload_n 2, 1) := by decide +kernel
theorem dX4_multiply_76 : decode cX4_multiply 76 = .ok (.invokestatic 49, 3) := by decide +kernel
theorem dX4_multiply_79 : decode cX4_multiply 79 = .ok (.return_, 1) := by decide +kernel
theorem dX5_init_0 : decode cX5_init 0 = .ok (.aload_n 0, 1) := by decide +kernel
theorem dX5_init_1 : decode cX5_init 1 = .ok (.invokespecial 3, 3) := by decide +kernel
theorem dX5_init_4 : decode cX5_init 4 = .ok (.aload_n 0, 1) := by decide +kernel
theorem dX5_init_5 : decode cX5_init 5 = .ok (.iconst 2, 1) := by decide +kernel
theorem dX5_init_6 : decode cX5_init 6 = .ok (.anewarray 9, 3) := by decide +kernel
theorem dX5_init_9 : decode cX5_init 9 = .ok (.putfield 11, 3) := by decide +kernel
theorem dX5_init_12 : decode cX5_init 12 = .ok (.aload_n 0, 1) := by decide +kernel
theorem dX5_init_13 : decode cX5_init 13 = .ok (.iconst 2, 1) := by decide +kernel
theorem dX5_init_14 : decode cX5_init 14 = .ok (.newarray .boolean, 2) := by decide +kernel
theorem dX5_init_16 : decode cX5_init 16 = .ok (.putfield 17, 3) := by decide +kernel
theorem dX5_init_19 : decode cX5_init 19 = .ok (.iconst 0, 1) := by decide +kernel
theorem dX5_init_20 : decode cX5_init 20 = .ok (.istore_n 1, 1) := by decide +kernel
theorem dX5_init_21 : decode cX5_init 21 = .ok (.iload_n 1, 1) := by decide +kernel
theorem dX5_init_22 : decode cX5_init 22 = .ok (.iconst 2, 1) := by decide +kernel
theorem dX5_init_23 : decode cX5_init 23 = .ok (.if_icmp .ge 22, 3) := by decide +kernel
theorem dX5_init_26 : decode cX5_init 26 = .ok (.aload_n 0, 1) := by decide +kernel
theorem dX5_init_27 : decode cX5_init 27 = .ok (.getfield 11, 3) := by decide +kernel
theorem dX5_init_30 : decode cX5_init 30 = .ok (.iload_n 1, 1) := by decide +kernel
theorem dX5_init_31 : decode cX5_init 31 = .ok (.new 9, 3) := by decide +kernel
theorem dX5_init_34 : decode cX5_init 34 = .ok (.dup, 1) := by decide +kernel
theorem dX5_init_35 : decode cX5_init 35 = .ok (.invokespecial 21, 3) := by decide +kernel
theorem dX5_init_38 : decode cX5_init 38 = .ok (.aastore, 1) := by decide +kernel
theorem dX5_init_39 : decode cX5_init 39 = .ok (.iinc 1 1, 3) := by decide +kernel
theorem dX5_init_42 : decode cX5_init 42 = .ok (.goto (-21), 3) := by decide +kernel
theorem dX5_init_45 : decode cX5_init 45 = .ok (.return_, 1) := by decide +kernel
theorem dX5_forget_0 : decode cX5_forget 0 = .ok (.iconst 0, 1) := by decide +kernel
theorem dX5_forget_1 : decode cX5_forget 1 = .ok (.istore_n 1, 1) := by decide +kernel
theorem dX5_forget_2 : decode cX5_forget 2 = .ok (.iload_n 1, 1) := by decide +kernel
theorem dX5_forget_3 : decode cX5_forget 3 = .ok (.iconst 2, 1) := by decide +kernel
theorem dX5_forget_4 : decode cX5_forget 4 = .ok (.if_icmp .ge 16, 3) := by decide +kernel
theorem dX5_forget_7 : decode cX5_forget 7 = .ok (.aload_n 0, 1) := by decide +kernel
theorem dX5_forget_8 : decode cX5_forget 8 = .ok (.getfield 17, 3) := by decide +kernel
theorem dX5_forget_11 : decode cX5_forget 11 = .ok (.iload_n 1, 1) := by decide +kernel
theorem dX5_forget_12 : decode cX5_forget 12 = .ok (.iconst 0, 1) := by decide +kernel
theorem dX5_forget_13 : decode cX5_forget 13 = .ok (.bastore, 1) := by decide +kernel
theorem dX5_forget_14 : decode cX5_forget 14 = .ok (.iinc 1 1, 3) := by decide +kernel
theorem dX5_forget_17 : decode cX5_forget 17 = .ok (.goto (-15), 3) := by decide +kernel
theorem dX5_forget_20 : decode cX5_forget 20 = .ok (.return_, 1) := by decide +kernel
theorem dX6_init_0 : decode cX6_init 0 = .ok (.aload_n 0, 1) := by decide +kernel
theorem dX6_init_1 : decode cX6_init 1 = .ok (.invokespecial 3, 3) := by decide +kernel
theorem dX6_init_4 : decode cX6_init 4 = .ok (.aload_n 0, 1) := by decide +kernel
theorem dX6_init_5 : decode cX6_init 5 = .ok (.iconst 4, 1) := by decide +kernel
theorem dX6_init_6 : decode cX6_init 6 = .ok (.iconst 4, 1) := by decide +kernel
theorem dX6_init_7 : decode cX6_init 7 = .ok (.multianewarray 9 2, 4) := by decide +kernel
theorem dX6_init_11 : decode cX6_init 11 = .ok (.putfield 11, 3) := by decide +kernel
theorem dX6_init_14 : decode cX6_init 14 = .ok (.return_, 1) := by decide +kernel
theorem dX6_clear_0 : decode cX6_clear 0 = .ok (.aload_n 0, 1) := by decide +kernel
theorem dX6_clear_1 : decode cX6_clear 1 = .ok (.iconst 0, 1) := by decide +kernel
theorem dX6_clear_2 : decode cX6_clear 2 = .ok (.putfield 16, 3) := by decide +kernel
theorem dX6_clear_5 : decode cX6_clear 5 = .ok (.iconst 0, 1) := by decide +kernel
theorem dX6_clear_6 : decode cX6_clear 6 = .ok (.istore_n 1, 1) := by decide +kernel
theorem dX6_clear_7 : decode cX6_clear 7 = .ok (.iload_n 1, 1) := by decide +kernel
theorem dX6_clear_8 : decode cX6_clear 8 = .ok (.iconst 4, 1) := by decide +kernel
theorem dX6_clear_9 : decode cX6_clear 9 = .ok (.if_icmp .ge 31, 3) := by decide +kernel
theorem dX6_clear_12 : decode cX6_clear 12 = .ok (.iconst 0, 1) := by decide +kernel
theorem dX6_clear_13 : decode cX6_clear 13 = .ok (.istore_n 2, 1) := by decide +kernel
theorem dX6_clear_14 : decode cX6_clear 14 = .ok (.iload_n 2, 1) := by decide +kernel
theorem dX6_clear_15 : decode cX6_clear 15 = .ok (.iconst 4, 1) := by decide +kernel
theorem dX6_clear_16 : decode cX6_clear 16 = .ok (.if_icmp .ge 18, 3) := by decide +kernel
theorem dX6_clear_19 : decode cX6_clear 19 = .ok (.aload_n 0, 1) := by decide +kernel
theorem dX6_clear_20 : decode cX6_clear 20 = .ok (.getfield 11, 3) := by decide +kernel
theorem dX6_clear_23 : decode cX6_clear 23 = .ok (.iload_n 1, 1) := by decide +kernel
theorem dX6_clear_24 : decode cX6_clear 24 = .ok (.aaload, 1) := by decide +kernel
theorem dX6_clear_25 : decode cX6_clear 25 = .ok (.iload_n 2, 1) := by decide +kernel
theorem dX6_clear_26 : decode cX6_clear 26 = .ok (.lconst 0, 1) := by decide +kernel
theorem dX6_clear_27 : decode cX6_clear 27 = .ok (.lastore, 1) := by decide +kernel
theorem dX6_clear_28 : decode cX6_clear 28 = .ok (.iinc 2 1, 3) := by decide +kernel
theorem dX6_clear_31 : decode cX6_clear 31 = .ok (.goto (-17), 3) := by decide +kernel
theorem dX6_clear_34 : decode cX6_clear 34 = .ok (.iinc 1 1, 3) := by decide +kernel
theorem dX6_clear_37 : decode cX6_clear 37 = .ok (.goto (-30), 3) := by decide +kernel
theorem dX6_clear_40 : decode cX6_clear 40 = .ok (.return_, 1) := by decide +kernel
theorem dX6_copyFrom_0 : decode cX6_copyFrom 0 = .ok (.aload_n 0, 1) := by decide +kernel
theorem dX6_copyFrom_1 : decode cX6_copyFrom 1 = .ok (.aload_n 1, 1) := by decide +kernel
theorem dX6_copyFrom_2 : decode cX6_copyFrom 2 = .ok (.getfield 16, 3) := by decide +kernel
theorem dX6_copyFrom_5 : decode cX6_copyFrom 5 = .ok (.putfield 16, 3) := by decide +kernel
theorem dX6_copyFrom_8 : decode cX6_copyFrom 8 = .ok (.iconst 0, 1) := by decide +kernel
theorem dX6_copyFrom_9 : decode cX6_copyFrom 9 = .ok (.istore_n 2, 1) := by decide +kernel
theorem dX6_copyFrom_10 : decode cX6_copyFrom 10 = .ok (.iload_n 2, 1) := by decide +kernel
theorem dX6_copyFrom_11 : decode cX6_copyFrom 11 = .ok (.iconst 4, 1) := by decide +kernel
theorem dX6_copyFrom_12 : decode cX6_copyFrom 12 = .ok (.if_icmp .ge 24, 3) := by decide +kernel
theorem dX6_copyFrom_15 : decode cX6_copyFrom 15 = .ok (.aload_n 1, 1) := by decide +kernel
theorem dX6_copyFrom_16 : decode cX6_copyFrom 16 = .ok (.getfield 11, 3) := by decide +kernel
theorem dX6_copyFrom_19 : decode cX6_copyFrom 19 = .ok (.iload_n 2, 1) := by decide +kernel
theorem dX6_copyFrom_20 : decode cX6_copyFrom 20 = .ok (.aaload, 1) := by decide +kernel
theorem dX6_copyFrom_21 : decode cX6_copyFrom 21 = .ok (.aload_n 0, 1) := by decide +kernel
theorem dX6_copyFrom_22 : decode cX6_copyFrom 22 = .ok (.getfield 11, 3) := by decide +kernel
theorem dX6_copyFrom_25 : decode cX6_copyFrom 25 = .ok (.iload_n 2, 1) := by decide +kernel
theorem dX6_copyFrom_26 : decode cX6_copyFrom 26 = .ok (.aaload, 1) := by decide +kernel
theorem dX6_copyFrom_27 : decode cX6_copyFrom 27 = .ok (.invokestatic 20, 3) := by decide +kernel
theorem dX6_copyFrom_30 : decode cX6_copyFrom 30 = .ok (.iinc 2 1, 3) := by decide +kernel
theorem dX6_copyFrom_33 : decode cX6_copyFrom 33 = .ok (.goto (-23), 3) := by decide +kernel
theorem dX6_copyFrom_36 : decode cX6_copyFrom 36 = .ok (.return_, 1) := by decide +kernel
theorem dX6_include_0 : decode cX6_include 0 = .ok (.iconst 0, 1) := by decide +kernel
theorem dX6_include_1 : decode cX6_include 1 = .ok (.istore_n 3, 1) := by decide +kernel
theorem dX6_include_2 : decode cX6_include 2 = .ok (.iload_n 3, 1) := by decide +kernel
theorem dX6_include_3 : decode cX6_include 3 = .ok (.iload_n 2, 1) := by decide +kernel
theorem dX6_include_4 : decode cX6_include 4 = .ok (.if_icmp .ge 81, 3) := by decide +kernel
theorem dX6_include_7 : decode cX6_include 7 = .ok (.aload_n 1, 1) := by decide +kernel
theorem dX6_include_8 : decode cX6_include 8 = .ok (.iload_n 3, 1) := by decide +kernel
theorem dX6_include_9 : decode cX6_include 9 = .ok (.laload, 1) := by decide +kernel
theorem dX6_include_10 : decode cX6_include 10 = .ok (.lconst 0, 1) := by decide +kernel
theorem dX6_include_11 : decode cX6_include 11 = .ok (.lcmp, 1) := by decide +kernel
theorem dX6_include_12 : decode cX6_include 12 = .ok (.ifCond .eq 37, 3) := by decide +kernel
theorem dX6_include_15 : decode cX6_include 15 = .ok (.aload_n 0, 1) := by decide +kernel
theorem dX6_include_16 : decode cX6_include 16 = .ok (.getfield 11, 3) := by decide +kernel
theorem dX6_include_19 : decode cX6_include 19 = .ok (.iload_n 3, 1) := by decide +kernel
theorem dX6_include_20 : decode cX6_include 20 = .ok (.aaload, 1) := by decide +kernel
theorem dX6_include_21 : decode cX6_include 21 = .ok (.iload_n 3, 1) := by decide +kernel
theorem dX6_include_22 : decode cX6_include 22 = .ok (.laload, 1) := by decide +kernel
theorem dX6_include_23 : decode cX6_include 23 = .ok (.lconst 0, 1) := by decide +kernel
theorem dX6_include_24 : decode cX6_include 24 = .ok (.lcmp, 1) := by decide +kernel
theorem dX6_include_25 : decode cX6_include 25 = .ok (.ifCond .ne 24, 3) := by decide +kernel
theorem dX6_include_28 : decode cX6_include 28 = .ok (.aload_n 1, 1) := by decide +kernel
theorem dX6_include_29 : decode cX6_include 29 = .ok (.aload_n 0, 1) := by decide +kernel
theorem dX6_include_30 : decode cX6_include 30 = .ok (.getfield 11, 3) := by decide +kernel
theorem dX6_include_33 : decode cX6_include 33 = .ok (.iload_n 3, 1) := by decide +kernel
theorem dX6_include_34 : decode cX6_include 34 = .ok (.aaload, 1) := by decide +kernel
theorem dX6_include_35 : decode cX6_include 35 = .ok (.invokestatic 20, 3) := by decide +kernel
theorem dX6_include_38 : decode cX6_include 38 = .ok (.aload_n 0, 1) := by decide +kernel
theorem dX6_include_39 : decode cX6_include 39 = .ok (.dup, 1) := by decide +kernel
theorem dX6_include_40 : decode cX6_include 40 = .ok (.getfield 16, 3) := by decide +kernel
theorem dX6_include_43 : decode cX6_include 43 = .ok (.iconst 1, 1) := by decide +kernel
theorem dX6_include_44 : decode cX6_include 44 = .ok (.iadd, 1) := by decide +kernel
theorem dX6_include_45 : decode cX6_include 45 = .ok (.putfield 16, 3) := by decide +kernel
theorem dX6_include_48 : decode cX6_include 48 = .ok (.return_, 1) := by decide +kernel
theorem dX6_include_49 : decode cX6_include 49 = .ok (.aload_n 1, 1) := by decide +kernel
theorem dX6_include_50 : decode cX6_include 50 = .ok (.iload_n 3, 1) := by decide +kernel
theorem dX6_include_51 : decode cX6_include 51 = .ok (.laload, 1) := by decide +kernel
theorem dX6_include_52 : decode cX6_include 52 = .ok (.lconst 0, 1) := by decide +kernel
theorem dX6_include_53 : decode cX6_include 53 = .ok (.lcmp, 1) := by decide +kernel
theorem dX6_include_54 : decode cX6_include 54 = .ok (.ifCond .eq 25, 3) := by decide +kernel
theorem dX6_include_57 : decode cX6_include 57 = .ok (.aload_n 1, 1) := by decide +kernel
theorem dX6_include_58 : decode cX6_include 58 = .ok (.aload_n 1, 1) := by decide +kernel
theorem dX6_include_59 : decode cX6_include 59 = .ok (.iload_n 3, 1) := by decide +kernel
theorem dX6_include_60 : decode cX6_include 60 = .ok (.laload, 1) := by decide +kernel
theorem dX6_include_61 : decode cX6_include 61 = .ok (.aload_n 0, 1) := by decide +kernel
theorem dX6_include_62 : decode cX6_include 62 = .ok (.getfield 11, 3) := by decide +kernel
theorem dX6_include_65 : decode cX6_include 65 = .ok (.iload_n 3, 1) := by decide +kernel
theorem dX6_include_66 : decode cX6_include 66 = .ok (.aaload, 1) := by decide +kernel
theorem dX6_include_67 : decode cX6_include 67 = .ok (.aload_n 0, 1) := by decide +kernel
theorem dX6_include_68 : decode cX6_include 68 = .ok (.getfield 11, 3) := by decide +kernel
theorem dX6_include_71 : decode cX6_include 71 = .ok (.iload_n 3, 1) := by decide +kernel
theorem dX6_include_72 : decode cX6_include 72 = .ok (.aaload, 1) := by decide +kernel
theorem dX6_include_73 : decode cX6_include 73 = .ok (.iload_n 3, 1) := by decide +kernel
theorem dX6_include_74 : decode cX6_include 74 = .ok (.laload, 1) := by decide +kernel
theorem dX6_include_75 : decode cX6_include 75 = .ok (.iload_n 2, 1) := by decide +kernel
theorem dX6_include_76 : decode cX6_include 76 = .ok (.invokestatic 24, 3) := by decide +kernel
theorem dX6_include_79 : decode cX6_include 79 = .ok (.iinc 3 1, 3) := by decide +kernel
theorem dX6_include_82 : decode cX6_include 82 = .ok (.goto (-80), 3) := by decide +kernel
theorem dX6_include_85 : decode cX6_include 85 = .ok (.return_, 1) := by decide +kernel
theorem dX7_init_0 : decode cX7_init 0 = .ok (.aload_n 0, 1) := by decide +kernel
theorem dX7_init_1 : decode cX7_init 1 = .ok (.invokespecial 3, 3) := by decide +kernel
theorem dX7_init_4 : decode cX7_init 4 = .ok (.aload_n 0, 1) := by decide +kernel
theorem dX7_init_5 : decode cX7_init 5 = .ok (.sipush 200, 3) := by decide +kernel
theorem dX7_init_8 : decode cX7_init 8 = .ok (.newarray .char, 2) := by decide +kernel
theorem dX7_init_10 : decode cX7_init 10 = .ok (.putfield 9, 3) := by decide +kernel
theorem dX7_init_13 : decode cX7_init 13 = .ok (.aload_n 0, 1) := by decide +kernel
theorem dX7_init_14 : decode cX7_init 14 = .ok (.new 15, 3) := by decide +kernel
theorem dX7_init_17 : decode cX7_init 17 = .ok (.dup, 1) := by decide +kernel
theorem dX7_init_18 : decode cX7_init 18 = .ok (.invokespecial 17, 3) := by decide +kernel
theorem dX7_init_21 : decode cX7_init 21 = .ok (.putfield 18, 3) := by decide +kernel
theorem dX7_init_24 : decode cX7_init 24 = .ok (.aload_n 0, 1) := by decide +kernel
theorem dX7_init_25 : decode cX7_init 25 = .ok (.new 22, 3) := by decide +kernel
theorem dX7_init_28 : decode cX7_init 28 = .ok (.dup, 1) := by decide +kernel
theorem dX7_init_29 : decode cX7_init 29 = .ok (.invokespecial 24, 3) := by decide +kernel
theorem dX7_init_32 : decode cX7_init 32 = .ok (.putfield 25, 3) := by decide +kernel
theorem dX7_init_35 : decode cX7_init 35 = .ok (.return_, 1) := by decide +kernel
theorem dX7_put_0 : decode cX7_put 0 = .ok (.aload_n 0, 1) := by decide +kernel
theorem dX7_put_1 : decode cX7_put 1 = .ok (.getfield 29, 3) := by decide +kernel
theorem dX7_put_4 : decode cX7_put 4 = .ok (.sipush 200, 3) := by decide +kernel
theorem dX7_put_7 : decode cX7_put 7 = .ok (.if_icmp .ge 23, 3) := by decide +kernel
theorem dX7_put_10 : decode cX7_put 10 = .ok (.aload_n 0, 1) := by decide +kernel
theorem dX7_put_11 : decode cX7_put 11 = .ok (.getfield 9, 3) := by decide +kernel
theorem dX7_put_14 : decode cX7_put 14 = .ok (.aload_n 0, 1) := by decide +kernel
theorem dX7_put_15 : decode cX7_put 15 = .ok (.getfield 29, 3) := by decide +kernel
theorem dX7_put_18 : decode cX7_put 18 = .ok (.iload_n 1, 1) := by decide +kernel
theorem dX7_put_19 : decode cX7_put 19 = .ok (.castore, 1) := by decide +kernel
theorem dX7_put_20 : decode cX7_put 20 = .ok (.aload_n 0, 1) := by decide +kernel
theorem dX7_put_21 : decode cX7_put 21 = .ok (.dup, 1) := by decide +kernel
theorem dX7_put_22 : decode cX7_put 22 = .ok (.getfield 29, 3) := by decide +kernel
theorem dX7_put_25 : decode cX7_put 25 = .ok (.iconst 1, 1) := by decide +kernel
theorem dX7_put_26 : decode cX7_put 26 = .ok (.iadd, 1) := by decide +kernel
theorem dX7_put_27 : decode cX7_put 27 = .ok (.putfield 29, 3) := by decide +kernel
theorem dX7_put_30 : decode cX7_put 30 = .ok (.return_, 1) := by decide +kernel
theorem dX7_firstError_0 : decode cX7_firstError 0 = .ok (.aload_n 0, 1) := by decide +kernel
theorem dX7_firstError_1 : decode cX7_firstError 1 = .ok (.iconst 0, 1) := by decide +kernel
theorem dX7_firstError_2 : decode cX7_firstError 2 = .ok (.putfield 33, 3) := by decide +kernel
theorem dX7_firstError_5 : decode cX7_firstError 5 = .ok (.aload_n 0, 1) := by decide +kernel
theorem dX7_firstError_6 : decode cX7_firstError 6 = .ok (.iconst 0, 1) := by decide +kernel
theorem dX7_firstError_7 : decode cX7_firstError 7 = .ok (.putfield 36, 3) := by decide +kernel
theorem dX7_firstError_10 : decode cX7_firstError 10 = .ok (.aload_n 0, 1) := by decide +kernel
theorem dX7_firstError_11 : decode cX7_firstError 11 = .ok (.invokevirtual 40, 3) := by decide +kernel
theorem dX7_firstError_14 : decode cX7_firstError 14 = .ok (.iconst 0, 1) := by decide +kernel
theorem dX7_firstError_15 : decode cX7_firstError 15 = .ok (.istore_n 1, 1) := by decide +kernel
theorem dX7_firstError_16 : decode cX7_firstError 16 = .ok (.iload_n 1, 1) := by decide +kernel
theorem dX7_firstError_17 : decode cX7_firstError 17 = .ok (.aload_n 0, 1) := by decide +kernel
theorem dX7_firstError_18 : decode cX7_firstError 18 = .ok (.getfield 18, 3) := by decide +kernel
theorem dX7_firstError_21 : decode cX7_firstError 21 = .ok (.getfield 43, 3) := by decide +kernel
theorem dX7_firstError_24 : decode cX7_firstError 24 = .ok (.if_icmp .ge 21, 3) := by decide +kernel
theorem dX7_firstError_27 : decode cX7_firstError 27 = .ok (.aload_n 0, 1) := by decide +kernel
theorem dX7_firstError_28 : decode cX7_firstError 28 = .ok (.getfield 36, 3) := by decide +kernel
theorem dX7_firstError_31 : decode cX7_firstError 31 = .ok (.ifCond .ne 14, 3) := by decide +kernel
theorem dX7_firstError_34 : decode cX7_firstError 34 = .ok (.aload_n 0, 1) := by decide +kernel
theorem dX7_firstError_35 : decode cX7_firstError 35 = .ok (.iload_n 1, 1) := by decide +kernel
theorem dX7_firstError_36 : decode cX7_firstError 36 = .ok (.invokevirtual 46, 3) := by decide +kernel
theorem dX7_firstError_39 : decode cX7_firstError 39 = .ok (.iinc 1 1, 3) := by decide +kernel
theorem dX7_firstError_42 : decode cX7_firstError 42 = .ok (.goto (-26), 3) := by decide +kernel
theorem dX7_firstError_45 : decode cX7_firstError 45 = .ok (.iconst 0, 1) := by decide +kernel
theorem dX7_firstError_46 : decode cX7_firstError 46 = .ok (.istore_n 1, 1) := by decide +kernel
theorem dX7_firstError_47 : decode cX7_firstError 47 = .ok (.iload_n 1, 1) := by decide +kernel
theorem dX7_firstError_48 : decode cX7_firstError 48 = .ok (.aload_n 0, 1) := by decide +kernel
theorem dX7_firstError_49 : decode cX7_firstError 49 = .ok (.getfield 18, 3) := by decide +kernel
theorem dX7_firstError_52 : decode cX7_firstError 52 = .ok (.getfield 50, 3) := by decide +kernel
theorem dX7_firstError_55 : decode cX7_firstError 55 = .ok (.if_icmp .ge 21, 3) := by decide +kernel
theorem dX7_firstError_58 : decode cX7_firstError 58 = .ok (.aload_n 0, 1) := by decide +kernel
theorem dX7_firstError_59 : decode cX7_firstError 59 = .ok (.getfield 36, 3) := by decide +kernel
theorem dX7_firstError_62 : decode cX7_firstError 62 = .ok (.ifCond .ne 14, 3) := by decide +kernel
theorem dX7_firstError_65 : decode cX7_firstError 65 = .ok (.aload_n 0, 1) := by decide +kernel
theorem dX7_firstError_66 : decode cX7_firstError 66 = .ok (.iload_n 1, 1) := by decide +kernel
theorem dX7_firstError_67 : decode cX7_firstError 67 = .ok (.invokevirtual 53, 3) := by decide +kernel
theorem dX7_firstError_70 : decode cX7_firstError 70 = .ok (.iinc 1 1, 3) := by decide +kernel
theorem dX7_firstError_73 : decode cX7_firstError 73 = .ok (.goto (-26), 3) := by decide +kernel
theorem dX7_firstError_76 : decode cX7_firstError 76 = .ok (.aload_n 0, 1) := by decide +kernel
theorem dX7_firstError_77 : decode cX7_firstError 77 = .ok (.getfield 25, 3) := by decide +kernel
theorem dX7_firstError_80 : decode cX7_firstError 80 = .ok (.invokevirtual 56, 3) := by decide +kernel
theorem dX7_firstError_83 : decode cX7_firstError 83 = .ok (.iconst 0, 1) := by decide +kernel
theorem dX7_firstError_84 : decode cX7_firstError 84 = .ok (.istore_n 1, 1) := by decide +kernel
theorem dX7_firstError_85 : decode cX7_firstError 85 = .ok (.iload_n 1, 1) := by decide +kernel
theorem dX7_firstError_86 : decode cX7_firstError 86 = .ok (.sipush 200, 3) := by decide +kernel
theorem dX7_firstError_89 : decode cX7_firstError 89 = .ok (.if_icmp .ge 31, 3) := by decide +kernel
theorem dX7_firstError_92 : decode cX7_firstError 92 = .ok (.aload_n 0, 1) := by decide +kernel
theorem dX7_firstError_93 : decode cX7_firstError 93 = .ok (.getfield 36, 3) := by decide +kernel
theorem dX7_firstError_96 : decode cX7_firstError 96 = .ok (.ifCond .ne 24, 3) := by decide +kernel
theorem dX7_firstError_99 : decode cX7_firstError 99 = .ok (.aload_n 0, 1) := by decide +kernel
theorem dX7_firstError_100 : decode cX7_firstError 100 = .ok (.getfield 33, 3) := by decide +kernel
theorem dX7_firstError_103 : decode cX7_firstError 103 = .ok (.aload_n 0, 1) := by decide +kernel
theorem dX7_firstError_104 : decode cX7_firstError 104 = .ok (.getfield 29, 3) := by decide +kernel
theorem dX7_firstError_107 : decode cX7_firstError 107 = .ok (.if_icmp .ge 13, 3) := by decide +kernel
theorem dX7_firstError_110 : decode cX7_firstError 110 = .ok (.aload_n 0, 1) := by decide +kernel
theorem dX7_firstError_111 : decode cX7_firstError 111 = .ok (.invokevirtual 59, 3) := by decide +kernel
theorem dX7_firstError_114 : decode cX7_firstError 114 = .ok (.iinc 1 1, 3) := by decide +kernel
theorem dX7_firstError_117 : decode cX7_firstError 117 = .ok (.goto (-32), 3) := by decide +kernel
theorem dX7_firstError_120 : decode cX7_firstError 120 = .ok (.aload_n 0, 1) := by decide +kernel
theorem dX7_firstError_121 : decode cX7_firstError 121 = .ok (.getfield 36, 3) := by decide +kernel
theorem dX7_firstError_124 : decode cX7_firstError 124 = .ok (.ifCond .eq 10, 3) := by decide +kernel
theorem dX7_firstError_127 : decode cX7_firstError 127 = .ok (.aload_n 0, 1) := by decide +kernel
theorem dX7_firstError_128 : decode cX7_firstError 128 = .ok (.getfield 33, 3) := by decide +kernel
theorem dX7_firstError_131 : decode cX7_firstError 131 = .ok (.goto 5, 3) := by decide +kernel
theorem dX7_firstError_134 : decode cX7_firstError 134 = .ok (.bipush (-9), 2) := by decide +kernel
theorem dX7_firstError_136 : decode cX7_firstError 136 = .ok (.ireturn, 1) := by decide +kernel
theorem dX7_takeHead_0 : decode cX7_takeHead 0 = .ok (.aload_n 0, 1) := by decide +kernel
theorem dX7_takeHead_1 : decode cX7_takeHead 1 = .ok (.bipush 78, 2) := by decide +kernel
theorem dX7_takeHead_3 : decode cX7_takeHead 3 = .ok (.bipush 78, 2) := by decide +kernel
theorem dX7_takeHead_5 : decode cX7_takeHead 5 = .ok (.invokevirtual 62, 3) := by decide +kernel
theorem dX7_takeHead_8 : decode cX7_takeHead 8 = .ok (.pop, 1) := by decide +kernel
theorem dX7_takeHead_9 : decode cX7_takeHead 9 = .ok (.aload_n 0, 1) := by decide +kernel
theorem dX7_takeHead_10 : decode cX7_takeHead 10 = .ok (.getfield 18, 3) := by decide +kernel
theorem dX7_takeHead_13 : decode cX7_takeHead 13 = .ok (.aload_n 0, 1) := by decide +kernel
theorem dX7_takeHead_14 : decode cX7_takeHead 14 = .ok (.iconst 1, 1) := by decide +kernel
theorem dX7_takeHead_15 : decode cX7_takeHead 15 = .ok (.iconst 4, 1) := by decide +kernel
theorem dX7_takeHead_16 : decode cX7_takeHead 16 = .ok (.invokevirtual 66, 3) := by decide +kernel
theorem dX7_takeHead_19 : decode cX7_takeHead 19 = .ok (.putfield 43, 3) := by decide +kernel
theorem dX7_takeHead_22 : decode cX7_takeHead 22 = .ok (.aload_n 0, 1) := by decide +kernel
theorem dX7_takeHead_23 : decode cX7_takeHead 23 = .ok (.getfield 18, 3) := by decide +kernel
theorem dX7_takeHead_26 : decode cX7_takeHead 26 = .ok (.aload_n 0, 1) := by decide +kernel
theorem dX7_takeHead_27 : decode cX7_takeHead 27 = .ok (.iconst 1, 1) := by decide +kernel
theorem dX7_takeHead_28 : decode cX7_takeHead 28 = .ok (.iconst 3, 1) := by decide +kernel
theorem dX7_takeHead_29 : decode cX7_takeHead 29 = .ok (.invokevirtual 66, 3) := by decide +kernel
theorem dX7_takeHead_32 : decode cX7_takeHead 32 = .ok (.putfield 50, 3) := by decide +kernel
theorem dX7_takeHead_35 : decode cX7_takeHead 35 = .ok (.aload_n 0, 1) := by decide +kernel
theorem dX7_takeHead_36 : decode cX7_takeHead 36 = .ok (.getfield 25, 3) := by decide +kernel
theorem dX7_takeHead_39 : decode cX7_takeHead 39 = .ok (.aload_n 0, 1) := by decide +kernel
theorem dX7_takeHead_40 : decode cX7_takeHead 40 = .ok (.iconst 0, 1) := by decide +kernel
theorem dX7_takeHead_41 : decode cX7_takeHead 41 = .ok (.invokevirtual 70, 3) := by decide +kernel
theorem dX7_takeHead_44 : decode cX7_takeHead 44 = .ok (.putfield 74, 3) := by decide +kernel
theorem dX7_takeHead_47 : decode cX7_takeHead 47 = .ok (.aload_n 0, 1) := by decide +kernel
theorem dX7_takeHead_48 : decode cX7_takeHead 48 = .ok (.getfield 25, 3) := by decide +kernel
theorem dX7_takeHead_51 : decode cX7_takeHead 51 = .ok (.aload_n 0, 1) := by decide +kernel
theorem dX7_takeHead_52 : decode cX7_takeHead 52 = .ok (.iconst 0, 1) := by decide +kernel
theorem dX7_takeHead_53 : decode cX7_takeHead 53 = .ok (.bipush 9, 2) := by decide +kernel
theorem dX7_takeHead_55 : decode cX7_takeHead 55 = .ok (.invokevirtual 66, 3) := by decide +kernel
theorem dX7_takeHead_58 : decode cX7_takeHead 58 = .ok (.putfield 77, 3) := by decide +kernel
theorem dX7_takeHead_61 : decode cX7_takeHead 61 = .ok (.return_, 1) := by decide +kernel
theorem dX7_takeState_0 : decode cX7_takeState 0 = .ok (.aload_n 0, 1) := by decide +kernel
theorem dX7_takeState_1 : decode cX7_takeState 1 = .ok (.bipush 114, 2) := by decide +kernel
theorem dX7_takeState_3 : decode cX7_takeState 3 = .ok (.bipush 114, 2) := by decide +kernel
theorem dX7_takeState_5 : decode cX7_takeState 5 = .ok (.invokevirtual 62, 3) := by decide +kernel
theorem dX7_takeState_8 : decode cX7_takeState 8 = .ok (.pop, 1) := by decide +kernel
theorem dX7_takeState_9 : decode cX7_takeState 9 = .ok (.iconst 0, 1) := by decide +kernel
theorem dX7_takeState_10 : decode cX7_takeState 10 = .ok (.istore_n 2, 1) := by decide +kernel
theorem dX7_takeState_11 : decode cX7_takeState 11 = .ok (.iload_n 2, 1) := by decide +kernel
theorem dX7_takeState_12 : decode cX7_takeState 12 = .ok (.aload_n 0, 1) := by decide +kernel
theorem dX7_takeState_13 : decode cX7_takeState 13 = .ok (.getfield 18, 3) := by decide +kernel
theorem dX7_takeState_16 : decode cX7_takeState 16 = .ok (.getfield 43, 3) := by decide +kernel
theorem dX7_takeState_19 : decode cX7_takeState 19 = .ok (.if_icmp .ge 24, 3) := by decide +kernel
theorem dX7_takeState_22 : decode cX7_takeState 22 = .ok (.aload_n 0, 1) := by decide +kernel
theorem dX7_takeState_23 : decode cX7_takeState 23 = .ok (.getfield 18, 3) := by decide +kernel
theorem dX7_takeState_26 : decode cX7_takeState 26 = .ok (.getfield 80, 3) := by decide +kernel
theorem dX7_takeState_29 : decode cX7_takeState 29 = .ok (.iload_n 1, 1) := by decide +kernel
theorem dX7_takeState_30 : decode cX7_takeState 30 = .ok (.aaload, 1) := by decide +kernel
theorem dX7_takeState_31 : decode cX7_takeState 31 = .ok (.iload_n 2, 1) := by decide +kernel
theorem dX7_takeState_32 : decode cX7_takeState 32 = .ok (.aload_n 0, 1) := by decide +kernel
theorem dX7_takeState_33 : decode cX7_takeState 33 = .ok (.invokevirtual 84, 3) := by decide +kernel
theorem dX7_takeState_36 : decode cX7_takeState 36 = .ok (.iastore, 1) := by decide +kernel
theorem dX7_takeState_37 : decode cX7_takeState 37 = .ok (.iinc 2 1, 3) := by decide +kernel
theorem dX7_takeState_40 : decode cX7_takeState 40 = .ok (.goto (-29), 3) := by decide +kernel
theorem dX7_takeState_43 : decode cX7_takeState 43 = .ok (.aload_n 0, 1) := by decide +kernel
theorem dX7_takeState_44 : decode cX7_takeState 44 = .ok (.getfield 18, 3) := by decide +kernel
theorem dX7_takeState_47 : decode cX7_takeState 47 = .ok (.getfield 88, 3) := by decide +kernel
theorem dX7_takeState_50 : decode cX7_takeState 50 = .ok (.iload_n 1, 1) := by decide +kernel
theorem dX7_takeState_51 : decode cX7_takeState 51 = .ok (.aload_n 0, 1) := by decide +kernel
theorem dX7_takeState_52 : decode cX7_takeState 52 = .ok (.invokevirtual 84, 3) := by decide +kernel
theorem dX7_takeState_55 : decode cX7_takeState 55 = .ok (.iastore, 1) := by decide +kernel
theorem dX7_takeState_56 : decode cX7_takeState 56 = .ok (.aload_n 0, 1) := by decide +kernel
theorem dX7_takeState_57 : decode cX7_takeState 57 = .ok (.getfield 18, 3) := by decide +kernel
theorem dX7_takeState_60 : decode cX7_takeState 60 = .ok (.getfield 92, 3) := by decide +kernel
theorem dX7_takeState_63 : decode cX7_takeState 63 = .ok (.iload_n 1, 1) := by decide +kernel
theorem dX7_takeState_64 : decode cX7_takeState 64 = .ok (.aload_n 0, 1) := by decide +kernel
theorem dX7_takeState_65 : decode cX7_takeState 65 = .ok (.invokevirtual 84, 3) := by decide +kernel
theorem dX7_takeState_68 : decode cX7_takeState 68 = .ok (.iastore, 1) := by decide +kernel
theorem dX7_takeState_69 : decode cX7_takeState 69 = .ok (.return_, 1) := by decide +kernel
theorem dX7_takeOutput_0 : decode cX7_takeOutput 0 = .ok (.aload_n 0, 1) := by decide +kernel
theorem dX7_takeOutput_1 : decode cX7_takeOutput 1 = .ok (.bipush 111, 2) := by decide +kernel
theorem dX7_takeOutput_3 : decode cX7_takeOutput 3 = .ok (.bipush 111, 2) := by decide +kernel
theorem dX7_takeOutput_5 : decode cX7_takeOutput 5 = .ok (.invokevirtual 62, 3) := by decide +kernel
theorem dX7_takeOutput_8 : decode cX7_takeOutput 8 = .ok (.pop, 1) := by decide +kernel
theorem dX7_takeOutput_9 : decode cX7_takeOutput 9 = .ok (.iconst 0, 1) := by decide +kernel
theorem dX7_takeOutput_10 : decode cX7_takeOutput 10 = .ok (.istore_n 2, 1) := by decide +kernel
theorem dX7_takeOutput_11 : decode cX7_takeOutput 11 = .ok (.iload_n 2, 1) := by decide +kernel
theorem dX7_takeOutput_12 : decode cX7_takeOutput 12 = .ok (.aload_n 0, 1) := by decide +kernel
theorem dX7_takeOutput_13 : decode cX7_takeOutput 13 = .ok (.getfield 18, 3) := by decide +kernel
theorem dX7_takeOutput_16 : decode cX7_takeOutput 16 = .ok (.getfield 43, 3) := by decide +kernel
theorem dX7_takeOutput_19 : decode cX7_takeOutput 19 = .ok (.if_icmp .ge 24, 3) := by decide +kernel
theorem dX7_takeOutput_22 : decode cX7_takeOutput 22 = .ok (.aload_n 0, 1) := by decide +kernel
theorem dX7_takeOutput_23 : decode cX7_takeOutput 23 = .ok (.getfield 18, 3) := by decide +kernel
theorem dX7_takeOutput_26 : decode cX7_takeOutput 26 = .ok (.getfield 95, 3) := by decide +kernel
theorem dX7_takeOutput_29 : decode cX7_takeOutput 29 = .ok (.iload_n 1, 1) := by decide +kernel
theorem dX7_takeOutput_30 : decode cX7_takeOutput 30 = .ok (.aaload, 1) := by decide +kernel
theorem dX7_takeOutput_31 : decode cX7_takeOutput 31 = .ok (.iload_n 2, 1) := by decide +kernel
theorem dX7_takeOutput_32 : decode cX7_takeOutput 32 = .ok (.aload_n 0, 1) := by decide +kernel
theorem dX7_takeOutput_33 : decode cX7_takeOutput 33 = .ok (.invokevirtual 84, 3) := by decide +kernel
theorem dX7_takeOutput_36 : decode cX7_takeOutput 36 = .ok (.iastore, 1) := by decide +kernel
theorem dX7_takeOutput_37 : decode cX7_takeOutput 37 = .ok (.iinc 2 1, 3) := by decide +kernel
theorem dX7_takeOutput_40 : decode cX7_takeOutput 40 = .ok (.goto (-29), 3) := by decide +kernel
theorem dX7_takeOutput_43 : decode cX7_takeOutput 43 = .ok (.aload_n 0, 1) := by decide +kernel
theorem dX7_takeOutput_44 : decode cX7_takeOutput 44 = .ok (.getfield 18, 3) := by decide +kernel
theorem dX7_takeOutput_47 : decode cX7_takeOutput 47 = .ok (.getfield 98, 3) := by decide +kernel
theorem dX7_takeOutput_50 : decode cX7_takeOutput 50 = .ok (.iload_n 1, 1) := by decide +kernel
theorem dX7_takeOutput_51 : decode cX7_takeOutput 51 = .ok (.aload_n 0, 1) := by decide +kernel
theorem dX7_takeOutput_52 : decode cX7_takeOutput 52 = .ok (.iconst 1, 1) := by decide +kernel
theorem dX7_takeOutput_53 : decode cX7_takeOutput 53 = .ok (.invokevirtual 70, 3) := by decide +kernel
theorem dX7_takeOutput_56 : decode cX7_takeOutput 56 = .ok (.iastore, 1) := by decide +kernel
theorem dX7_takeOutput_57 : decode cX7_takeOutput 57 = .ok (.return_, 1) := by decide +kernel
theorem dX7_takeGain_0 : decode cX7_takeGain 0 = .ok (.aload_n 0, 1) := by decide +kernel
theorem dX7_takeGain_1 : decode cX7_takeGain 1 = .ok (.bipush 103, 2) := by decide +kernel
theorem dX7_takeGain_3 : decode cX7_takeGain 3 = .ok (.bipush 103, 2) := by decide +kernel
theorem dX7_takeGain_5 : decode cX7_takeGain 5 = .ok (.invokevirtual 62, 3) := by decide +kernel
theorem dX7_takeGain_8 : decode cX7_takeGain 8 = .ok (.pop, 1) := by decide +kernel
theorem dX7_takeGain_9 : decode cX7_takeGain 9 = .ok (.aload_n 0, 1) := by decide +kernel
theorem dX7_takeGain_10 : decode cX7_takeGain 10 = .ok (.iconst 0, 1) := by decide +kernel
theorem dX7_takeGain_11 : decode cX7_takeGain 11 = .ok (.aload_n 0, 1) := by decide +kernel
theorem dX7_takeGain_12 : decode cX7_takeGain 12 = .ok (.getfield 18, 3) := by decide +kernel
theorem dX7_takeGain_15 : decode cX7_takeGain 15 = .ok (.getfield 43, 3) := by decide +kernel
theorem dX7_takeGain_18 : decode cX7_takeGain 18 = .ok (.iconst 1, 1) := by decide +kernel
theorem dX7_takeGain_19 : decode cX7_takeGain 19 = .ok (.isub, 1) := by decide +kernel
theorem dX7_takeGain_20 : decode cX7_takeGain 20 = .ok (.invokevirtual 66, 3) := by decide +kernel
theorem dX7_takeGain_23 : decode cX7_takeGain 23 = .ok (.istore_n 1, 1) := by decide +kernel
theorem dX7_takeGain_24 : decode cX7_takeGain 24 = .ok (.aload_n 0, 1) := by decide +kernel
theorem dX7_takeGain_25 : decode cX7_takeGain 25 = .ok (.iconst 0, 1) := by decide +kernel
theorem dX7_takeGain_26 : decode cX7_takeGain 26 = .ok (.aload_n 0, 1) := by decide +kernel
theorem dX7_takeGain_27 : decode cX7_takeGain 27 = .ok (.getfield 18, 3) := by decide +kernel
theorem dX7_takeGain_30 : decode cX7_takeGain 30 = .ok (.getfield 50, 3) := by decide +kernel
theorem dX7_takeGain_33 : decode cX7_takeGain 33 = .ok (.iconst 1, 1) := by decide +kernel
theorem dX7_takeGain_34 : decode cX7_takeGain 34 = .ok (.isub, 1) := by decide +kernel
theorem dX7_takeGain_35 : decode cX7_takeGain 35 = .ok (.invokevirtual 66, 3) := by decide +kernel
theorem dX7_takeGain_38 : decode cX7_takeGain 38 = .ok (.istore_n 2, 1) := by decide +kernel
theorem dX7_takeGain_39 : decode cX7_takeGain 39 = .ok (.aload_n 0, 1) := by decide +kernel
theorem dX7_takeGain_40 : decode cX7_takeGain 40 = .ok (.getfield 25, 3) := by decide +kernel
theorem dX7_takeGain_43 : decode cX7_takeGain 43 = .ok (.getfield 101, 3) := by decide +kernel
theorem dX7_takeGain_46 : decode cX7_takeGain 46 = .ok (.iload_n 1, 1) := by decide +kernel
theorem dX7_takeGain_47 : decode cX7_takeGain 47 = .ok (.aaload, 1) := by decide +kernel
theorem dX7_takeGain_48 : decode cX7_takeGain 48 = .ok (.iload_n 2, 1) := by decide +kernel
theorem dX7_takeGain_49 : decode cX7_takeGain 49 = .ok (.aload_n 0, 1) := by decide +kernel
theorem dX7_takeGain_50 : decode cX7_takeGain 50 = .ok (.invokevirtual 84, 3) := by decide +kernel
theorem dX7_takeGain_53 : decode cX7_takeGain 53 = .ok (.iastore, 1) := by decide +kernel
theorem dX7_takeGain_54 : decode cX7_takeGain 54 = .ok (.return_, 1) := by decide +kernel
theorem dX7_takeNumber_0 : decode cX7_takeNumber 0 = .ok (.aload_n 0, 1) := by decide +kernel
theorem dX7_takeNumber_1 : decode cX7_takeNumber 1 = .ok (.getfield 33, 3) := by decide +kernel
theorem dX7_takeNumber_4 : decode cX7_takeNumber 4 = .ok (.aload_n 0, 1) := by decide +kernel
theorem dX7_takeNumber_5 : decode cX7_takeNumber 5 = .ok (.getfield 29, 3) := by decide +kernel
theorem dX7_takeNumber_8 : decode cX7_takeNumber 8 = .ok (.if_icmp .ge 21, 3) := by decide +kernel
theorem dX7_takeNumber_11 : decode cX7_takeNumber 11 = .ok (.aload_n 0, 1) := by decide +kernel
theorem dX7_takeNumber_12 : decode cX7_takeNumber 12 = .ok (.getfield 9, 3) := by decide +kernel
theorem dX7_takeNumber_15 : decode cX7_takeNumber 15 = .ok (.aload_n 0, 1) := by decide +kernel
theorem dX7_takeNumber_16 : decode cX7_takeNumber 16 = .ok (.getfield 33, 3) := by decide +kernel
theorem dX7_takeNumber_19 : decode cX7_takeNumber 19 = .ok (.caload, 1) := by decide +kernel
theorem dX7_takeNumber_20 : decode cX7_takeNumber 20 = .ok (.bipush 45, 2) := by decide +kernel
theorem dX7_takeNumber_22 : decode cX7_takeNumber 22 = .ok (.if_icmp .ne 7, 3) := by decide +kernel
theorem dX7_takeNumber_25 : decode cX7_takeNumber 25 = .ok (.iconst 1, 1) := by decide +kernel
theorem dX7_takeNumber_26 : decode cX7_takeNumber 26 = .ok (.goto 4, 3) := by decide +kernel
theorem dX7_takeNumber_29 : decode cX7_takeNumber 29 = .ok (.iconst 0, 1) := by decide +kernel
theorem dX7_takeNumber_30 : decode cX7_takeNumber 30 = .ok (.istore_n 1, 1) := by decide +kernel
theorem dX7_takeNumber_31 : decode cX7_takeNumber 31 = .ok (.aload_n 0, 1) := by decide +kernel
theorem dX7_takeNumber_32 : decode cX7_takeNumber 32 = .ok (.iload_n 1, 1) := by decide +kernel
theorem dX7_takeNumber_33 : decode cX7_takeNumber 33 = .ok (.ifCond .eq 8, 3) := by decide +kernel
theorem dX7_takeNumber_36 : decode cX7_takeNumber 36 = .ok (.bipush 45, 2) := by decide +kernel
theorem dX7_takeNumber_38 : decode cX7_takeNumber 38 = .ok (.goto 5, 3) := by decide +kernel
theorem dX7_takeNumber_41 : decode cX7_takeNumber 41 = .ok (.bipush 43, 2) := by decide +kernel
theorem dX7_takeNumber_43 : decode cX7_takeNumber 43 = .ok (.iload_n 1, 1) := by decide +kernel
theorem dX7_takeNumber_44 : decode cX7_takeNumber 44 = .ok (.ifCond .eq 8, 3) := by decide +kernel
theorem dX7_takeNumber_47 : decode cX7_takeNumber 47 = .ok (.bipush 45, 2) := by decide +kernel
theorem dX7_takeNumber_49 : decode cX7_takeNumber 49 = .ok (.goto 5, 3) := by decide +kernel
theorem dX7_takeNumber_52 : decode cX7_takeNumber 52 = .ok (.bipush 43, 2) := by decide +kernel
theorem dX7_takeNumber_54 : decode cX7_takeNumber 54 = .ok (.invokevirtual 62, 3) := by decide +kernel
theorem dX7_takeNumber_57 : decode cX7_takeNumber 57 = .ok (.pop, 1) := by decide +kernel
theorem dX7_takeNumber_58 : decode cX7_takeNumber 58 = .ok (.aload_n 0, 1) := by decide +kernel
theorem dX7_takeNumber_59 : decode cX7_takeNumber 59 = .ok (.iconst 0, 1) := by decide +kernel
theorem dX7_takeNumber_60 : decode cX7_takeNumber 60 = .ok (.invokevirtual 70, 3) := by decide +kernel
theorem dX7_takeNumber_63 : decode cX7_takeNumber 63 = .ok (.istore_n 2, 1) := by decide +kernel
theorem dX7_takeNumber_64 : decode cX7_takeNumber 64 = .ok (.iload_n 1, 1) := by decide +kernel
theorem dX7_takeNumber_65 : decode cX7_takeNumber 65 = .ok (.ifCond .eq 8, 3) := by decide +kernel
theorem dX7_takeNumber_68 : decode cX7_takeNumber 68 = .ok (.iload_n 2, 1) := by decide +kernel
theorem dX7_takeNumber_69 : decode cX7_takeNumber 69 = .ok (.ineg, 1) := by decide +kernel
theorem dX7_takeNumber_70 : decode cX7_takeNumber 70 = .ok (.goto 4, 3) := by decide +kernel
theorem dX7_takeNumber_73 : decode cX7_takeNumber 73 = .ok (.iload_n 2, 1) := by decide +kernel
theorem dX7_takeNumber_74 : decode cX7_takeNumber 74 = .ok (.ireturn, 1) := by decide +kernel
theorem dX7_takeTwoDigits_0 : decode cX7_takeTwoDigits 0 = .ok (.aload_n 0, 1) := by decide +kernel
theorem dX7_takeTwoDigits_1 : decode cX7_takeTwoDigits 1 = .ok (.iconst 0, 1) := by decide +kernel
theorem dX7_takeTwoDigits_2 : decode cX7_takeTwoDigits 2 = .ok (.bipush 9, 2) := by decide +kernel
theorem dX7_takeTwoDigits_4 : decode cX7_takeTwoDigits 4 = .ok (.invokevirtual 66, 3) := by decide +kernel
theorem dX7_takeTwoDigits_7 : decode cX7_takeTwoDigits 7 = .ok (.istore_n 2, 1) := by decide +kernel
theorem dX7_takeTwoDigits_8 : decode cX7_takeTwoDigits 8 = .ok (.aload_n 0, 1) := by decide +kernel
theorem dX7_takeTwoDigits_9 : decode cX7_takeTwoDigits 9 = .ok (.iload_n 2, 1) := by decide +kernel
theorem dX7_takeTwoDigits_10 : decode cX7_takeTwoDigits 10 = .ok (.ifCond .ne 7, 3) := by decide +kernel
theorem dX7_takeTwoDigits_13 : decode cX7_takeTwoDigits 13 = .ok (.iload_n 1, 1) := by decide +kernel
theorem dX7_takeTwoDigits_14 : decode cX7_takeTwoDigits 14 = .ok (.goto 4, 3) := by decide +kernel
theorem dX7_takeTwoDigits_17 : decode cX7_takeTwoDigits 17 = .ok (.iconst 0, 1) := by decide +kernel
theorem dX7_takeTwoDigits_18 : decode cX7_takeTwoDigits 18 = .ok (.bipush 9, 2) := by decide +kernel
theorem dX7_takeTwoDigits_20 : decode cX7_takeTwoDigits 20 = .ok (.invokevirtual 66, 3) := by decide +kernel
theorem dX7_takeTwoDigits_23 : decode cX7_takeTwoDigits 23 = .ok (.istore_n 3, 1) := by decide +kernel
theorem dX7_takeTwoDigits_24 : decode cX7_takeTwoDigits 24 = .ok (.bipush 10, 2) := by decide +kernel
theorem dX7_takeTwoDigits_26 : decode cX7_takeTwoDigits 26 = .ok (.iload_n 2, 1) := by decide +kernel
theorem dX7_takeTwoDigits_27 : decode cX7_takeTwoDigits 27 = .ok (.imul, 1) := by decide +kernel
theorem dX7_takeTwoDigits_28 : decode cX7_takeTwoDigits 28 = .ok (.iload_n 3, 1) := by decide +kernel
theorem dX7_takeTwoDigits_29 : decode cX7_takeTwoDigits 29 = .ok (.iadd, 1) := by decide +kernel
theorem dX7_takeTwoDigits_30 : decode cX7_takeTwoDigits 30 = .ok (.ireturn, 1) := by decide +kernel
theorem dX7_takeDigit_0 : decode cX7_takeDigit 0 = .ok (.aload_n 0, 1) := by decide +kernel
theorem dX7_takeDigit_1 : decode cX7_takeDigit 1 = .ok (.bipush 48, 2) := by decide +kernel
theorem dX7_takeDigit_3 : decode cX7_takeDigit 3 = .ok (.iload_n 1, 1) := by decide +kernel
theorem dX7_takeDigit_4 : decode cX7_takeDigit 4 = .ok (.iadd, 1) := by decide +kernel
theorem dX7_takeDigit_5 : decode cX7_takeDigit 5 = .ok (.i2c, 1) := by decide +kernel
theorem dX7_takeDigit_6 : decode cX7_takeDigit 6 = .ok (.bipush 48, 2) := by decide +kernel
theorem dX7_takeDigit_8 : decode cX7_takeDigit 8 = .ok (.iload_n 2, 1) := by decide +kernel
theorem dX7_takeDigit_9 : decode cX7_takeDigit 9 = .ok (.iadd, 1) := by decide +kernel
theorem dX7_takeDigit_10 : decode cX7_takeDigit 10 = .ok (.i2c, 1) := by decide +kernel
theorem dX7_takeDigit_11 : decode cX7_takeDigit 11 = .ok (.invokevirtual 62, 3) := by decide +kernel
theorem dX7_takeDigit_14 : decode cX7_takeDigit 14 = .ok (.ifCond .eq 20, 3) := by decide +kernel
theorem dX7_takeDigit_17 : decode cX7_takeDigit 17 = .ok (.aload_n 0, 1) := by decide +kernel
theorem dX7_takeDigit_18 : decode cX7_takeDigit 18 = .ok (.getfield 9, 3) := by decide +kernel
theorem dX7_takeDigit_21 : decode cX7_takeDigit 21 = .ok (.aload_n 0, 1) := by decide +kernel
theorem dX7_takeDigit_22 : decode cX7_takeDigit 22 = .ok (.getfield 33, 3) := by decide +kernel
theorem dX7_takeDigit_25 : decode cX7_takeDigit 25 = .ok (.iconst 1, 1) := by decide +kernel
theorem dX7_takeDigit_26 : decode cX7_takeDigit 26 = .ok (.isub, 1) := by decide +kernel
theorem dX7_takeDigit_27 : decode cX7_takeDigit 27 = .ok (.caload, 1) := by decide +kernel
theorem dX7_takeDigit_28 : decode cX7_takeDigit 28 = .ok (.bipush 48, 2) := by decide +kernel
theorem dX7_takeDigit_30 : decode cX7_takeDigit 30 = .ok (.isub, 1) := by decide +kernel
theorem dX7_takeDigit_31 : decode cX7_takeDigit 31 = .ok (.goto 4, 3) := by decide +kernel
theorem dX7_takeDigit_34 : decode cX7_takeDigit 34 = .ok (.iconst 0, 1) := by decide +kernel
theorem dX7_takeDigit_35 : decode cX7_takeDigit 35 = .ok (.ireturn, 1) := by decide +kernel
theorem dX7_takeCharacter_0 : decode cX7_takeCharacter 0 = .ok (.aload_n 0, 1) := by decide +kernel
theorem dX7_takeCharacter_1 : decode cX7_takeCharacter 1 = .ok (.aload_n 0, 1) := by decide +kernel
theorem dX7_takeCharacter_2 : decode cX7_takeCharacter 2 = .ok (.getfield 36, 3) := by decide +kernel
theorem dX7_takeCharacter_5 : decode cX7_takeCharacter 5 = .ok (.ifCond .ne 40, 3) := by decide +kernel
theorem dX7_takeCharacter_8 : decode cX7_takeCharacter 8 = .ok (.aload_n 0, 1) := by decide +kernel
theorem dX7_takeCharacter_9 : decode cX7_takeCharacter 9 = .ok (.getfield 33, 3) := by decide +kernel
theorem dX7_takeCharacter_12 : decode cX7_takeCharacter 12 = .ok (.aload_n 0, 1) := by decide +kernel
theorem dX7_takeCharacter_13 : decode cX7_takeCharacter 13 = .ok (.getfield 29, 3) := by decide +kernel
theorem dX7_takeCharacter_16 : decode cX7_takeCharacter 16 = .ok (.if_icmp .ge 29, 3) := by decide +kernel
theorem dX7_takeCharacter_19 : decode cX7_takeCharacter 19 = .ok (.aload_n 0, 1) := by decide +kernel
theorem dX7_takeCharacter_20 : decode cX7_takeCharacter 20 = .ok (.getfield 9, 3) := by decide +kernel
theorem dX7_takeCharacter_23 : decode cX7_takeCharacter 23 = .ok (.aload_n 0, 1) := by decide +kernel
theorem dX7_takeCharacter_24 : decode cX7_takeCharacter 24 = .ok (.getfield 33, 3) := by decide +kernel
theorem dX7_takeCharacter_27 : decode cX7_takeCharacter 27 = .ok (.caload, 1) := by decide +kernel
theorem dX7_takeCharacter_28 : decode cX7_takeCharacter 28 = .ok (.iload_n 1, 1) := by decide +kernel
theorem dX7_takeCharacter_29 : decode cX7_takeCharacter 29 = .ok (.if_icmp .lt 16, 3) := by decide +kernel
theorem dX7_takeCharacter_32 : decode cX7_takeCharacter 32 = .ok (.aload_n 0, 1) := by decide +kernel
theorem dX7_takeCharacter_33 : decode cX7_takeCharacter 33 = .ok (.getfield 9, 3) := by decide +kernel
theorem dX7_takeCharacter_36 : decode cX7_takeCharacter 36 = .ok (.aload_n 0, 1) := by decide +kernel
theorem dX7_takeCharacter_37 : decode cX7_takeCharacter 37 = .ok (.getfield 33, 3) := by decide +kernel
theorem dX7_takeCharacter_40 : decode cX7_takeCharacter 40 = .ok (.caload, 1) := by decide +kernel
theorem dX7_takeCharacter_41 : decode cX7_takeCharacter 41 = .ok (.iload_n 2, 1) := by decide +kernel
theorem dX7_takeCharacter_42 : decode cX7_takeCharacter 42 = .ok (.if_icmp .le 7, 3) := by decide +kernel
theorem dX7_takeCharacter_45 : decode cX7_takeCharacter 45 = .ok (.iconst 1, 1) := by decide +kernel
theorem dX7_takeCharacter_46 : decode cX7_takeCharacter 46 = .ok (.goto 4, 3) := by decide +kernel
theorem dX7_takeCharacter_49 : decode cX7_takeCharacter 49 = .ok (.iconst 0, 1) := by decide +kernel
theorem dX7_takeCharacter_50 : decode cX7_takeCharacter 50 = .ok (.putfield 36, 3) := by decide +kernel
theorem dX7_takeCharacter_53 : decode cX7_takeCharacter 53 = .ok (.aload_n 0, 1) := by decide +kernel
theorem dX7_takeCharacter_54 : decode cX7_takeCharacter 54 = .ok (.getfield 36, 3) := by decide +kernel
theorem dX7_takeCharacter_57 : decode cX7_takeCharacter 57 = .ok (.ifCond .ne 13, 3) := by decide +kernel
theorem dX7_takeCharacter_60 : decode cX7_takeCharacter 60 = .ok (.aload_n 0, 1) := by decide +kernel
theorem dX7_takeCharacter_61 : decode cX7_takeCharacter 61 = .ok (.dup, 1) := by decide +kernel
theorem dX7_takeCharacter_62 : decode cX7_takeCharacter 62 = .ok (.getfield 33, 3) := by decide +kernel
theorem dX7_takeCharacter_65 : decode cX7_takeCharacter 65 = .ok (.iconst 1, 1) := by decide +kernel
theorem dX7_takeCharacter_66 : decode cX7_takeCharacter 66 = .ok (.iadd, 1) := by decide +kernel
theorem dX7_takeCharacter_67 : decode cX7_takeCharacter 67 = .ok (.putfield 33, 3) := by decide +kernel
theorem dX7_takeCharacter_70 : decode cX7_takeCharacter 70 = .ok (.aload_n 0, 1) := by decide +kernel
theorem dX7_takeCharacter_71 : decode cX7_takeCharacter 71 = .ok (.getfield 36, 3) := by decide +kernel
theorem dX7_takeCharacter_74 : decode cX7_takeCharacter 74 = .ok (.ifCond .ne 7, 3) := by decide +kernel
theorem dX7_takeCharacter_77 : decode cX7_takeCharacter 77 = .ok (.iconst 1, 1) := by decide +kernel
theorem dX7_takeCharacter_78 : decode cX7_takeCharacter 78 = .ok (.goto 4, 3) := by decide +kernel
theorem dX7_takeCharacter_81 : decode cX7_takeCharacter 81 = .ok (.iconst 0, 1) := by decide +kernel
theorem dX7_takeCharacter_82 : decode cX7_takeCharacter 82 = .ok (.ireturn, 1) := by decide +kernel
theorem dX8_init_0 : decode cX8_init 0 = .ok (.aload_n 0, 1) := by decide +kernel
theorem dX8_init_1 : decode cX8_init 1 = .ok (.invokespecial 1, 3) := by decide +kernel
theorem dX8_init_4 : decode cX8_init 4 = .ok (.aload_n 0, 1) := by decide +kernel
theorem dX8_init_5 : decode cX8_init 5 = .ok (.new 7, 3) := by decide +kernel
theorem dX8_init_8 : decode cX8_init 8 = .ok (.dup, 1) := by decide +kernel
theorem dX8_init_9 : decode cX8_init 9 = .ok (.invokespecial 9, 3) := by decide +kernel
theorem dX8_init_12 : decode cX8_init 12 = .ok (.putfield 10, 3) := by decide +kernel
theorem dX8_init_15 : decode cX8_init 15 = .ok (.aload_n 0, 1) := by decide +kernel
theorem dX8_init_16 : decode cX8_init 16 = .ok (.new 16, 3) := by decide +kernel
theorem dX8_init_19 : decode cX8_init 19 = .ok (.dup, 1) := by decide +kernel
theorem dX8_init_20 : decode cX8_init 20 = .ok (.invokespecial 18, 3) := by decide +kernel
theorem dX8_init_23 : decode cX8_init 23 = .ok (.putfield 19, 3) := by decide +kernel
theorem dX8_init_26 : decode cX8_init 26 = .ok (.aload_n 0, 1) := by decide +kernel
theorem dX8_init_27 : decode cX8_init 27 = .ok (.new 16, 3) := by decide +kernel
theorem dX8_init_30 : decode cX8_init 30 = .ok (.dup, 1) := by decide +kernel
theorem dX8_init_31 : decode cX8_init 31 = .ok (.invokespecial 18, 3) := by decide +kernel
theorem dX8_init_34 : decode cX8_init 34 = .ok (.putfield 23, 3) := by decide +kernel
theorem dX8_init_37 : decode cX8_init 37 = .ok (.aload_n 0, 1) := by decide +kernel
theorem dX8_init_38 : decode cX8_init 38 = .ok (.new 26, 3) := by decide +kernel
theorem dX8_init_41 : decode cX8_init 41 = .ok (.dup, 1) := by decide +kernel
theorem dX8_init_42 : decode cX8_init 42 = .ok (.invokespecial 28, 3) := by decide +kernel
theorem dX8_init_45 : decode cX8_init 45 = .ok (.putfield 29, 3) := by decide +kernel
theorem dX8_init_48 : decode cX8_init 48 = .ok (.aload_n 0, 1) := by decide +kernel
theorem dX8_init_49 : decode cX8_init 49 = .ok (.new 33, 3) := by decide +kernel
theorem dX8_init_52 : decode cX8_init 52 = .ok (.dup, 1) := by decide +kernel
theorem dX8_init_53 : decode cX8_init 53 = .ok (.invokespecial 35, 3) := by decide +kernel
theorem dX8_init_56 : decode cX8_init 56 = .ok (.putfield 36, 3) := by decide +kernel
theorem dX8_init_59 : decode cX8_init 59 = .ok (.aload_n 0, 1) := by decide +kernel
theorem dX8_init_60 : decode cX8_init 60 = .ok (.new 40, 3) := by decide +kernel
theorem dX8_init_63 : decode cX8_init 63 = .ok (.dup, 1) := by decide +kernel
theorem dX8_init_64 : decode cX8_init 64 = .ok (.invokespecial 42, 3) := by decide +kernel
theorem dX8_init_67 : decode cX8_init 67 = .ok (.putfield 43, 3) := by decide +kernel
theorem dX8_init_70 : decode cX8_init 70 = .ok (.aload_n 0, 1) := by decide +kernel
theorem dX8_init_71 : decode cX8_init 71 = .ok (.new 47, 3) := by decide +kernel
theorem dX8_init_74 : decode cX8_init 74 = .ok (.dup, 1) := by decide +kernel
theorem dX8_init_75 : decode cX8_init 75 = .ok (.invokespecial 49, 3) := by decide +kernel
theorem dX8_init_78 : decode cX8_init 78 = .ok (.putfield 50, 3) := by decide +kernel
theorem dX8_init_81 : decode cX8_init 81 = .ok (.aload_n 0, 1) := by decide +kernel
theorem dX8_init_82 : decode cX8_init 82 = .ok (.new 54, 3) := by decide +kernel
theorem dX8_init_85 : decode cX8_init 85 = .ok (.dup, 1) := by decide +kernel
theorem dX8_init_86 : decode cX8_init 86 = .ok (.invokespecial 56, 3) := by decide +kernel
theorem dX8_init_89 : decode cX8_init 89 = .ok (.putfield 57, 3) := by decide +kernel
theorem dX8_init_92 : decode cX8_init 92 = .ok (.aload_n 0, 1) := by decide +kernel
theorem dX8_init_93 : decode cX8_init 93 = .ok (.iconst 4, 1) := by decide +kernel
theorem dX8_init_94 : decode cX8_init 94 = .ok (.newarray .int, 2) := by decide +kernel
theorem dX8_init_96 : decode cX8_init 96 = .ok (.putfield 61, 3) := by decide +kernel
theorem dX8_init_99 : decode cX8_init 99 = .ok (.return_, 1) := by decide +kernel
theorem dX8_append_0 : decode cX8_append 0 = .ok (.iload_n 1, 1) := by decide +kernel
theorem dX8_append_1 : decode cX8_append 1 = .ok (.ifCond .lt 10, 3) := by decide +kernel
theorem dX8_append_4 : decode cX8_append 4 = .ok (.iload_n 1, 1) := by decide +kernel
theorem dX8_append_5 : decode cX8_append 5 = .ok (.sipush 255, 3) := by decide +kernel
theorem dX8_append_8 : decode cX8_append 8 = .ok (.if_icmp .le 13, 3) := by decide +kernel
theorem dX8_append_11 : decode cX8_append 11 = .ok (.new 65, 3) := by decide +kernel
theorem dX8_append_14 : decode cX8_append 14 = .ok (.dup, 1) := by decide +kernel
theorem dX8_append_15 : decode cX8_append 15 = .ok (.ldc 67, 2) := by decide +kernel
theorem dX8_append_17 : decode cX8_append 17 = .ok (.invokespecial 69, 3) := by decide +kernel
theorem dX8_append_20 : decode cX8_append 20 = .ok (.athrow, 1) := by decide +kernel
theorem dX8_append_21 : decode cX8_append 21 = .ok (.aload_n 0, 1) := by decide +kernel
theorem dX8_append_22 : decode cX8_append 22 = .ok (.getfield 43, 3) := by decide +kernel
theorem dX8_append_25 : decode cX8_append 25 = .ok (.getfield 72, 3) := by decide +kernel
theorem dX8_append_28 : decode cX8_append 28 = .ok (.sipush 200, 3) := by decide +kernel
theorem dX8_append_31 : decode cX8_append 31 = .ok (.if_icmp .lt 13, 3) := by decide +kernel
theorem dX8_append_34 : decode cX8_append 34 = .ok (.new 76, 3) := by decide +kernel
theorem dX8_append_37 : decode cX8_append 37 = .ok (.dup, 1) := by decide +kernel
theorem dX8_append_38 : decode cX8_append 38 = .ok (.ldc 78, 2) := by decide +kernel
theorem dX8_append_40 : decode cX8_append 40 = .ok (.invokespecial 80, 3) := by decide +kernel
theorem dX8_append_43 : decode cX8_append 43 = .ok (.athrow, 1) := by decide +kernel
theorem dX8_append_44 : decode cX8_append 44 = .ok (.aload_n 0, 1) := by decide +kernel
theorem dX8_append_45 : decode cX8_append 45 = .ok (.getfield 43, 3) := by decide +kernel
theorem dX8_append_48 : decode cX8_append 48 = .ok (.iload_n 1, 1) := by decide +kernel
theorem dX8_append_49 : decode cX8_append 49 = .ok (.i2c, 1) := by decide +kernel
theorem dX8_append_50 : decode cX8_append 50 = .ok (.invokevirtual 81, 3) := by decide +kernel
theorem dX8_append_53 : decode cX8_append 53 = .ok (.aload_n 0, 1) := by decide +kernel
theorem dX8_append_54 : decode cX8_append 54 = .ok (.getfield 43, 3) := by decide +kernel
theorem dX8_append_57 : decode cX8_append 57 = .ok (.getfield 72, 3) := by decide +kernel
theorem dX8_append_60 : decode cX8_append 60 = .ok (.ireturn, 1) := by decide +kernel
theorem dX8_clearText_0 : decode cX8_clearText 0 = .ok (.aload_n 0, 1) := by decide +kernel
theorem dX8_clearText_1 : decode cX8_clearText 1 = .ok (.getfield 43, 3) := by decide +kernel
theorem dX8_clearText_4 : decode cX8_clearText 4 = .ok (.getfield 72, 3) := by decide +kernel
theorem dX8_clearText_7 : decode cX8_clearText 7 = .ok (.istore_n 1, 1) := by decide +kernel
theorem dX8_clearText_8 : decode cX8_clearText 8 = .ok (.aload_n 0, 1) := by decide +kernel
theorem dX8_clearText_9 : decode cX8_clearText 9 = .ok (.getfield 43, 3) := by decide +kernel
theorem dX8_clearText_12 : decode cX8_clearText 12 = .ok (.iconst 0, 1) := by decide +kernel
theorem dX8_clearText_13 : decode cX8_clearText 13 = .ok (.putfield 72, 3) := by decide +kernel
theorem dX8_clearText_16 : decode cX8_clearText 16 = .ok (.iload_n 1, 1) := by decide +kernel
theorem dX8_clearText_17 : decode cX8_clearText 17 = .ok (.ireturn, 1) := by decide +kernel
theorem dX8_errorPosition_0 : decode cX8_errorPosition 0 = .ok (.aload_n 0, 1) := by decide +kernel
theorem dX8_errorPosition_1 : decode cX8_errorPosition 1 = .ok (.getfield 43, 3) := by decide +kernel
theorem dX8_errorPosition_4 : decode cX8_errorPosition 4 = .ok (.invokevirtual 85, 3) := by decide +kernel
theorem dX8_errorPosition_7 : decode cX8_errorPosition 7 = .ok (.ireturn, 1) := by decide +kernel
theorem dX8_load_0 : decode cX8_load 0 = .ok (.aload_n 0, 1) := by decide +kernel
theorem dX8_load_1 : decode cX8_load 1 = .ok (.getfield 43, 3) := by decide +kernel
theorem dX8_load_4 : decode cX8_load 4 = .ok (.invokevirtual 85, 3) := by decide +kernel
theorem dX8_load_7 : decode cX8_load 7 = .ok (.bipush (-9), 2) := by decide +kernel
theorem dX8_load_9 : decode cX8_load 9 = .ok (.if_icmp .eq 13, 3) := by decide +kernel
theorem dX8_load_12 : decode cX8_load 12 = .ok (.new 76, 3) := by decide +kernel
theorem dX8_load_15 : decode cX8_load 15 = .ok (.dup, 1) := by decide +kernel
theorem dX8_load_16 : decode cX8_load 16 = .ok (.ldc 89, 2) := by decide +kernel
theorem dX8_load_18 : decode cX8_load 18 = .ok (.invokespecial 80, 3) := by decide +kernel
theorem dX8_load_21 : decode cX8_load 21 = .ok (.athrow, 1) := by decide +kernel
theorem dX8_load_22 : decode cX8_load 22 = .ok (.aload_n 0, 1) := by decide +kernel
theorem dX8_load_23 : decode cX8_load 23 = .ok (.getfield 10, 3) := by decide +kernel
theorem dX8_load_26 : decode cX8_load 26 = .ok (.aload_n 0, 1) := by decide +kernel
theorem dX8_load_27 : decode cX8_load 27 = .ok (.getfield 43, 3) := by decide +kernel
theorem dX8_load_30 : decode cX8_load 30 = .ok (.getfield 91, 3) := by decide +kernel
theorem dX8_load_33 : decode cX8_load 33 = .ok (.invokevirtual 92, 3) := by decide +kernel
theorem dX8_load_36 : decode cX8_load 36 = .ok (.aload_n 0, 1) := by decide +kernel
theorem dX8_load_37 : decode cX8_load 37 = .ok (.getfield 19, 3) := by decide +kernel
theorem dX8_load_40 : decode cX8_load 40 = .ok (.aload_n 0, 1) := by decide +kernel
theorem dX8_load_41 : decode cX8_load 41 = .ok (.getfield 43, 3) := by decide +kernel
theorem dX8_load_44 : decode cX8_load 44 = .ok (.getfield 96, 3) := by decide +kernel
theorem dX8_load_47 : decode cX8_load 47 = .ok (.invokevirtual 99, 3) := by decide +kernel
theorem dX8_load_50 : decode cX8_load 50 = .ok (.aload_n 0, 1) := by decide +kernel
theorem dX8_load_51 : decode cX8_load 51 = .ok (.getfield 29, 3) := by decide +kernel
theorem dX8_load_54 : decode cX8_load 54 = .ok (.invokevirtual 102, 3) := by decide +kernel
theorem dX8_load_57 : decode cX8_load 57 = .ok (.aload_n 0, 1) := by decide +kernel
theorem dX8_load_58 : decode cX8_load 58 = .ok (.getfield 36, 3) := by decide +kernel
theorem dX8_load_61 : decode cX8_load 61 = .ok (.invokevirtual 105, 3) := by decide +kernel
theorem dX8_load_64 : decode cX8_load 64 = .ok (.aload_n 0, 1) := by decide +kernel
theorem dX8_load_65 : decode cX8_load 65 = .ok (.getfield 10, 3) := by decide +kernel
theorem dX8_load_68 : decode cX8_load 68 = .ok (.getfield 106, 3) := by decide +kernel
theorem dX8_load_71 : decode cX8_load 71 = .ok (.ireturn, 1) := by decide +kernel
theorem dX8_about_0 : decode cX8_about 0 = .ok (.iload_n 1, 1) := by decide +kernel
theorem dX8_about_1 : decode cX8_about 1 = .ok (.tableswitch 75 0 4 #[35, 43, 51, 59, 67], 35) := by decide +kernel
theorem dX8_about_36 : decode cX8_about 36 = .ok (.aload_n 0, 1) := by decide +kernel
theorem dX8_about_37 : decode cX8_about 37 = .ok (.getfield 10, 3) := by decide +kernel
theorem dX8_about_40 : decode cX8_about 40 = .ok (.getfield 106, 3) := by decide +kernel
theorem dX8_about_43 : decode cX8_about 43 = .ok (.ireturn, 1) := by decide +kernel
theorem dX8_about_44 : decode cX8_about 44 = .ok (.aload_n 0, 1) := by decide +kernel
theorem dX8_about_45 : decode cX8_about 45 = .ok (.getfield 10, 3) := by decide +kernel
theorem dX8_about_48 : decode cX8_about 48 = .ok (.getfield 109, 3) := by decide +kernel
theorem dX8_about_51 : decode cX8_about 51 = .ok (.ireturn, 1) := by decide +kernel
theorem dX8_about_52 : decode cX8_about 52 = .ok (.aload_n 0, 1) := by decide +kernel
theorem dX8_about_53 : decode cX8_about 53 = .ok (.getfield 19, 3) := by decide +kernel
theorem dX8_about_56 : decode cX8_about 56 = .ok (.getfield 112, 3) := by decide +kernel
theorem dX8_about_59 : decode cX8_about 59 = .ok (.ireturn, 1) := by decide +kernel
theorem dX8_about_60 : decode cX8_about 60 = .ok (.aload_n 0, 1) := by decide +kernel
theorem dX8_about_61 : decode cX8_about 61 = .ok (.getfield 19, 3) := by decide +kernel
theorem dX8_about_64 : decode cX8_about 64 = .ok (.getfield 115, 3) := by decide +kernel
theorem dX8_about_67 : decode cX8_about 67 = .ok (.ireturn, 1) := by decide +kernel
theorem dX8_about_68 : decode cX8_about 68 = .ok (.aload_n 0, 1) := by decide +kernel
theorem dX8_about_69 : decode cX8_about 69 = .ok (.getfield 19, 3) := by decide +kernel
theorem dX8_about_72 : decode cX8_about 72 = .ok (.getfield 118, 3) := by decide +kernel
theorem dX8_about_75 : decode cX8_about 75 = .ok (.ireturn, 1) := by decide +kernel
theorem dX8_about_76 : decode cX8_about 76 = .ok (.new 65, 3) := by decide +kernel
theorem dX8_about_79 : decode cX8_about 79 = .ok (.dup, 1) := by decide +kernel
theorem dX8_about_80 : decode cX8_about 80 = .ok (.ldc 121, 2) := by decide +kernel
theorem dX8_about_82 : decode cX8_about 82 = .ok (.invokespecial 69, 3) := by decide +kernel
theorem dX8_about_85 : decode cX8_about 85 = .ok (.athrow, 1) := by decide +kernel
theorem dX8_coefficient_0 : decode cX8_coefficient 0 = .ok (.iload_n 1, 1) := by decide +kernel
theorem dX8_coefficient_1 : decode cX8_coefficient 1 = .ok (.ifCond .lt 8, 3) := by decide +kernel
theorem dX8_coefficient_4 : decode cX8_coefficient 4 = .ok (.iload_n 1, 1) := by decide +kernel
theorem dX8_coefficient_5 : decode cX8_coefficient 5 = .ok (.iconst 5, 1) := by decide +kernel
theorem dX8_coefficient_6 : decode cX8_coefficient 6 = .ok (.if_icmp .le 13, 3) := by decide +kernel
theorem dX8_coefficient_9 : decode cX8_coefficient 9 = .ok (.new 65, 3) := by decide +kernel
theorem dX8_coefficient_12 : decode cX8_coefficient 12 = .ok (.dup, 1) := by decide +kernel
theorem dX8_coefficient_13 : decode cX8_coefficient 13 = .ok (.ldc 123, 2) := by decide +kernel
theorem dX8_coefficient_15 : decode cX8_coefficient 15 = .ok (.invokespecial 69, 3) := by decide +kernel
theorem dX8_coefficient_18 : decode cX8_coefficient 18 = .ok (.athrow, 1) := by decide +kernel
theorem dX8_coefficient_19 : decode cX8_coefficient 19 = .ok (.iload_n 1, 1) := by decide +kernel
theorem dX8_coefficient_20 : decode cX8_coefficient 20 = .ok (.iconst 3, 1) := by decide +kernel
theorem dX8_coefficient_21 : decode cX8_coefficient 21 = .ok (.if_icmp .eq 8, 3) := by decide +kernel
theorem dX8_coefficient_24 : decode cX8_coefficient 24 = .ok (.iload_n 1, 1) := by decide +kernel
theorem dX8_coefficient_25 : decode cX8_coefficient 25 = .ok (.iconst 4, 1) := by decide +kernel
theorem dX8_coefficient_26 : decode cX8_coefficient 26 = .ok (.if_icmp .ne 7, 3) := by decide +kernel
theorem dX8_coefficient_29 : decode cX8_coefficient 29 = .ok (.iconst 1, 1) := by decide +kernel
theorem dX8_coefficient_30 : decode cX8_coefficient 30 = .ok (.goto 4, 3) := by decide +kernel
theorem dX8_coefficient_33 : decode cX8_coefficient 33 = .ok (.iconst 0, 1) := by decide +kernel
theorem dX8_coefficient_34 : decode cX8_coefficient 34 = .ok (.istore 4, 2) := by decide +kernel
theorem dX8_coefficient_36 : decode cX8_coefficient 36 = .ok (.iload 4, 2) := by decide +kernel
theorem dX8_coefficient_38 : decode cX8_coefficient 38 = .ok (.ifCond .eq 14, 3) := by decide +kernel
theorem dX8_coefficient_41 : decode cX8_coefficient 41 = .ok (.aload_n 0, 1) := by decide +kernel
theorem dX8_coefficient_42 : decode cX8_coefficient 42 = .ok (.iload_n 2, 1) := by decide +kernel
theorem dX8_coefficient_43 : decode cX8_coefficient 43 = .ok (.invokevirtual 125, 3) := by decide +kernel
theorem dX8_coefficient_46 : decode cX8_coefficient 46 = .ok (.ifCond .ne 24, 3) := by decide +kernel
theorem dX8_coefficient_49 : decode cX8_coefficient 49 = .ok (.goto 11, 3) := by decide +kernel
theorem dX8_coefficient_52 : decode cX8_coefficient 52 = .ok (.aload_n 0, 1) := by decide +kernel
theorem dX8_coefficient_53 : decode cX8_coefficient 53 = .ok (.iload_n 2, 1) := by decide +kernel
theorem dX8_coefficient_54 : decode cX8_coefficient 54 = .ok (.invokevirtual 129, 3) := by decide +kernel
theorem dX8_coefficient_57 : decode cX8_coefficient 57 = .ok (.ifCond .ne 13, 3) := by decide +kernel
theorem dX8_coefficient_60 : decode cX8_coefficient 60 = .ok (.new 132, 3) := by decide +kernel
theorem dX8_coefficient_63 : decode cX8_coefficient 63 = .ok (.dup, 1) := by decide +kernel
theorem dX8_coefficient_64 : decode cX8_coefficient 64 = .ok (.ldc 134, 2) := by decide +kernel
theorem dX8_coefficient_66 : decode cX8_coefficient 66 = .ok (.invokespecial 136, 3) := by decide +kernel
theorem dX8_coefficient_69 : decode cX8_coefficient 69 = .ok (.athrow, 1) := by decide +kernel
theorem dX8_coefficient_70 : decode cX8_coefficient 70 = .ok (.iload_n 3, 1) := by decide +kernel
theorem dX8_coefficient_71 : decode cX8_coefficient 71 = .ok (.ifCond .lt 12, 3) := by decide +kernel
theorem dX8_coefficient_74 : decode cX8_coefficient 74 = .ok (.iload_n 3, 1) := by decide +kernel
theorem dX8_coefficient_75 : decode cX8_coefficient 75 = .ok (.aload_n 0, 1) := by decide +kernel
theorem dX8_coefficient_76 : decode cX8_coefficient 76 = .ok (.iload_n 1, 1) := by decide +kernel
theorem dX8_coefficient_77 : decode cX8_coefficient 77 = .ok (.invokevirtual 137, 3) := by decide +kernel
theorem dX8_coefficient_80 : decode cX8_coefficient 80 = .ok (.if_icmp .lt 13, 3) := by decide +kernel
theorem dX8_coefficient_83 : decode cX8_coefficient 83 = .ok (.new 132, 3) := by decide +kernel
theorem dX8_coefficient_86 : decode cX8_coefficient 86 = .ok (.dup, 1) := by decide +kernel
theorem dX8_coefficient_87 : decode cX8_coefficient 87 = .ok (.ldc 141, 2) := by decide +kernel
theorem dX8_coefficient_89 : decode cX8_coefficient 89 = .ok (.invokespecial 136, 3) := by decide +kernel
theorem dX8_coefficient_92 : decode cX8_coefficient 92 = .ok (.athrow, 1) := by decide +kernel
theorem dX8_coefficient_93 : decode cX8_coefficient 93 = .ok (.iload_n 1, 1) := by decide +kernel
theorem dX8_coefficient_94 : decode cX8_coefficient 94 = .ok (.tableswitch 88 0 4 #[34, 46, 56, 66, 78], 34) := by decide +kernel
theorem dX8_coefficient_128 : decode cX8_coefficient 128 = .ok (.aload_n 0, 1) := by decide +kernel
theorem dX8_coefficient_129 : decode cX8_coefficient 129 = .ok (.getfield 10, 3) := by decide +kernel
theorem dX8_coefficient_132 : decode cX8_coefficient 132 = .ok (.getfield 143, 3) := by decide +kernel
theorem dX8_coefficient_135 : decode cX8_coefficient 135 = .ok (.iload_n 2, 1) := by decide +kernel
theorem dX8_coefficient_136 : decode cX8_coefficient 136 = .ok (.aaload, 1) := by decide +kernel
theorem dX8_coefficient_137 : decode cX8_coefficient 137 = .ok (.iload_n 3, 1) := by decide +kernel
theorem dX8_coefficient_138 : decode cX8_coefficient 138 = .ok (.iaload, 1) := by decide +kernel
theorem dX8_coefficient_139 : decode cX8_coefficient 139 = .ok (.ireturn, 1) := by decide +kernel
theorem dX8_coefficient_140 : decode cX8_coefficient 140 = .ok (.aload_n 0, 1) := by decide +kernel
theorem dX8_coefficient_141 : decode cX8_coefficient 141 = .ok (.getfield 10, 3) := by decide +kernel
theorem dX8_coefficient_144 : decode cX8_coefficient 144 = .ok (.getfield 147, 3) := by decide +kernel
theorem dX8_coefficient_147 : decode cX8_coefficient 147 = .ok (.iload_n 2, 1) := by decide +kernel
theorem dX8_coefficient_148 : decode cX8_coefficient 148 = .ok (.iaload, 1) := by decide +kernel
theorem dX8_coefficient_149 : decode cX8_coefficient 149 = .ok (.ireturn, 1) := by decide +kernel
theorem dX8_coefficient_150 : decode cX8_coefficient 150 = .ok (.aload_n 0, 1) := by decide +kernel
theorem dX8_coefficient_151 : decode cX8_coefficient 151 = .ok (.getfield 10, 3) := by decide +kernel
theorem dX8_coefficient_154 : decode cX8_coefficient 154 = .ok (.getfield 150, 3) := by decide +kernel
theorem dX8_coefficient_157 : decode cX8_coefficient 157 = .ok (.iload_n 2, 1) := by decide +kernel
theorem dX8_coefficient_158 : decode cX8_coefficient 158 = .ok (.iaload, 1) := by decide +kernel
theorem dX8_coefficient_159 : decode cX8_coefficient 159 = .ok (.ireturn, 1) := by decide +kernel
theorem dX8_coefficient_160 : decode cX8_coefficient 160 = .ok (.aload_n 0, 1) := by decide +kernel
theorem dX8_coefficient_161 : decode cX8_coefficient 161 = .ok (.getfield 10, 3) := by decide +kernel
theorem dX8_coefficient_164 : decode cX8_coefficient 164 = .ok (.getfield 153, 3) := by decide +kernel
theorem dX8_coefficient_167 : decode cX8_coefficient 167 = .ok (.iload_n 2, 1) := by decide +kernel
theorem dX8_coefficient_168 : decode cX8_coefficient 168 = .ok (.aaload, 1) := by decide +kernel
theorem dX8_coefficient_169 : decode cX8_coefficient 169 = .ok (.iload_n 3, 1) := by decide +kernel
theorem dX8_coefficient_170 : decode cX8_coefficient 170 = .ok (.iaload, 1) := by decide +kernel
theorem dX8_coefficient_171 : decode cX8_coefficient 171 = .ok (.ireturn, 1) := by decide +kernel
theorem dX8_coefficient_172 : decode cX8_coefficient 172 = .ok (.aload_n 0, 1) := by decide +kernel
theorem dX8_coefficient_173 : decode cX8_coefficient 173 = .ok (.getfield 10, 3) := by decide +kernel
theorem dX8_coefficient_176 : decode cX8_coefficient 176 = .ok (.getfield 156, 3) := by decide +kernel
theorem dX8_coefficient_179 : decode cX8_coefficient 179 = .ok (.iload_n 2, 1) := by decide +kernel
theorem dX8_coefficient_180 : decode cX8_coefficient 180 = .ok (.iaload, 1) := by decide +kernel
theorem dX8_coefficient_181 : decode cX8_coefficient 181 = .ok (.ireturn, 1) := by decide +kernel
theorem dX8_coefficient_182 : decode cX8_coefficient 182 = .ok (.aload_n 0, 1) := by decide +kernel
theorem dX8_coefficient_183 : decode cX8_coefficient 183 = .ok (.getfield 19, 3) := by decide +kernel
theorem dX8_coefficient_186 : decode cX8_coefficient 186 = .ok (.getfield 159, 3) := by decide +kernel
theorem dX8_coefficient_189 : decode cX8_coefficient 189 = .ok (.iload_n 2, 1) := by decide +kernel
theorem dX8_coefficient_190 : decode cX8_coefficient 190 = .ok (.aaload, 1) := by decide +kernel
theorem dX8_coefficient_191 : decode cX8_coefficient 191 = .ok (.iload_n 3, 1) := by decide +kernel
theorem dX8_coefficient_192 : decode cX8_coefficient 192 = .ok (.iaload, 1) := by decide +kernel
theorem dX8_coefficient_193 : decode cX8_coefficient 193 = .ok (.ireturn, 1) := by decide +kernel
theorem dX8_state_0 : decode cX8_state 0 = .ok (.aload_n 0, 1) := by decide +kernel
theorem dX8_state_1 : decode cX8_state 1 = .ok (.iload_n 1, 1) := by decide +kernel
theorem dX8_state_2 : decode cX8_state 2 = .ok (.invokevirtual 129, 3) := by decide +kernel
theorem dX8_state_5 : decode cX8_state 5 = .ok (.ifCond .ne 13, 3) := by decide +kernel
theorem dX8_state_8 : decode cX8_state 8 = .ok (.new 132, 3) := by decide +kernel
theorem dX8_state_11 : decode cX8_state 11 = .ok (.dup, 1) := by decide +kernel
theorem dX8_state_12 : decode cX8_state 12 = .ok (.ldc 162, 2) := by decide +kernel
theorem dX8_state_14 : decode cX8_state 14 = .ok (.invokespecial 136, 3) := by decide +kernel
theorem dX8_state_17 : decode cX8_state 17 = .ok (.athrow, 1) := by decide +kernel
theorem dX8_state_18 : decode cX8_state 18 = .ok (.iload_n 2, 1) := by decide +kernel
theorem dX8_state_19 : decode cX8_state 19 = .ok (.tableswitch 113 0 4 #[33, 43, 53, 63, 73], 33) := by decide +kernel
theorem dX8_state_52 : decode cX8_state 52 = .ok (.aload_n 0, 1) := by decide +kernel
theorem dX8_state_53 : decode cX8_state 53 = .ok (.getfield 19, 3) := by decide +kernel
theorem dX8_state_56 : decode cX8_state 56 = .ok (.getfield 164, 3) := by decide +kernel
theorem dX8_state_59 : decode cX8_state 59 = .ok (.iload_n 1, 1) := by decide +kernel
theorem dX8_state_60 : decode cX8_state 60 = .ok (.iaload, 1) := by decide +kernel
theorem dX8_state_61 : decode cX8_state 61 = .ok (.ireturn, 1) := by decide +kernel
theorem dX8_state_62 : decode cX8_state 62 = .ok (.aload_n 0, 1) := by decide +kernel
theorem dX8_state_63 : decode cX8_state 63 = .ok (.getfield 19, 3) := by decide +kernel
theorem dX8_state_66 : decode cX8_state 66 = .ok (.getfield 167, 3) := by decide +kernel
theorem dX8_state_69 : decode cX8_state 69 = .ok (.iload_n 1, 1) := by decide +kernel
theorem dX8_state_70 : decode cX8_state 70 = .ok (.iaload, 1) := by decide +kernel
theorem dX8_state_71 : decode cX8_state 71 = .ok (.ireturn, 1) := by decide +kernel
theorem dX8_state_72 : decode cX8_state 72 = .ok (.aload_n 0, 1) := by decide +kernel
theorem dX8_state_73 : decode cX8_state 73 = .ok (.getfield 19, 3) := by decide +kernel
theorem dX8_state_76 : decode cX8_state 76 = .ok (.getfield 170, 3) := by decide +kernel
theorem dX8_state_79 : decode cX8_state 79 = .ok (.iload_n 1, 1) := by decide +kernel
theorem dX8_state_80 : decode cX8_state 80 = .ok (.iaload, 1) := by decide +kernel
theorem dX8_state_81 : decode cX8_state 81 = .ok (.ireturn, 1) := by decide +kernel
theorem dX8_state_82 : decode cX8_state 82 = .ok (.aload_n 0, 1) := by decide +kernel
theorem dX8_state_83 : decode cX8_state 83 = .ok (.getfield 19, 3) := by decide +kernel
theorem dX8_state_86 : decode cX8_state 86 = .ok (.getfield 173, 3) := by decide +kernel
theorem dX8_state_89 : decode cX8_state 89 = .ok (.iload_n 1, 1) := by decide +kernel
theorem dX8_state_90 : decode cX8_state 90 = .ok (.iaload, 1) := by decide +kernel
theorem dX8_state_91 : decode cX8_state 91 = .ok (.ireturn, 1) := by decide +kernel
theorem dX8_state_92 : decode cX8_state 92 = .ok (.bipush 16, 2) := by decide +kernel
theorem dX8_state_94 : decode cX8_state 94 = .ok (.aload_n 0, 1) := by decide +kernel
theorem dX8_state_95 : decode cX8_state 95 = .ok (.getfield 19, 3) := by decide +kernel
theorem dX8_state_98 : decode cX8_state 98 = .ok (.getfield 167, 3) := by decide +kernel
theorem dX8_state_101 : decode cX8_state 101 = .ok (.iload_n 1, 1) := by decide +kernel
theorem dX8_state_102 : decode cX8_state 102 = .ok (.iaload, 1) := by decide +kernel
theorem dX8_state_103 : decode cX8_state 103 = .ok (.imul, 1) := by decide +kernel
theorem dX8_state_104 : decode cX8_state 104 = .ok (.bipush 16, 2) := by decide +kernel
theorem dX8_state_106 : decode cX8_state 106 = .ok (.aload_n 0, 1) := by decide +kernel
theorem dX8_state_107 : decode cX8_state 107 = .ok (.getfield 19, 3) := by decide +kernel
theorem dX8_state_110 : decode cX8_state 110 = .ok (.getfield 170, 3) := by decide +kernel
theorem dX8_state_113 : decode cX8_state 113 = .ok (.iload_n 1, 1) := by decide +kernel
theorem dX8_state_114 : decode cX8_state 114 = .ok (.iaload, 1) := by decide +kernel
theorem dX8_state_115 : decode cX8_state 115 = .ok (.imul, 1) := by decide +kernel
theorem dX8_state_116 : decode cX8_state 116 = .ok (.aload_n 0, 1) := by decide +kernel
theorem dX8_state_117 : decode cX8_state 117 = .ok (.getfield 19, 3) := by decide +kernel
theorem dX8_state_120 : decode cX8_state 120 = .ok (.getfield 173, 3) := by decide +kernel
theorem dX8_state_123 : decode cX8_state 123 = .ok (.iload_n 1, 1) := by decide +kernel
theorem dX8_state_124 : decode cX8_state 124 = .ok (.iaload, 1) := by decide +kernel
theorem dX8_state_125 : decode cX8_state 125 = .ok (.invokestatic 176, 3) := by decide +kernel
theorem dX8_state_128 : decode cX8_state 128 = .ok (.invokestatic 182, 3) := by decide +kernel
theorem dX8_state_131 : decode cX8_state 131 = .ok (.ireturn, 1) := by decide +kernel
theorem dX8_state_132 : decode cX8_state 132 = .ok (.new 65, 3) := by decide +kernel
theorem dX8_state_135 : decode cX8_state 135 = .ok (.dup, 1) := by decide +kernel
theorem dX8_state_136 : decode cX8_state 136 = .ok (.ldc 185, 2) := by decide +kernel
theorem dX8_state_138 : decode cX8_state 138 = .ok (.invokespecial 69, 3) := by decide +kernel
theorem dX8_state_141 : decode cX8_state 141 = .ok (.athrow, 1) := by decide +kernel
theorem dX8_output_0 : decode cX8_output 0 = .ok (.aload_n 0, 1) := by decide +kernel
theorem dX8_output_1 : decode cX8_output 1 = .ok (.iload_n 1, 1) := by decide +kernel
theorem dX8_output_2 : decode cX8_output 2 = .ok (.invokevirtual 125, 3) := by decide +kernel
theorem dX8_output_5 : decode cX8_output 5 = .ok (.ifCond .ne 13, 3) := by decide +kernel
theorem dX8_output_8 : decode cX8_output 8 = .ok (.new 132, 3) := by decide +kernel
theorem dX8_output_11 : decode cX8_output 11 = .ok (.dup, 1) := by decide +kernel
theorem dX8_output_12 : decode cX8_output 12 = .ok (.ldc 187, 2) := by decide +kernel
theorem dX8_output_14 : decode cX8_output 14 = .ok (.invokespecial 136, 3) := by decide +kernel
theorem dX8_output_17 : decode cX8_output 17 = .ok (.athrow, 1) := by decide +kernel
theorem dX8_output_18 : decode cX8_output 18 = .ok (.iload_n 2, 1) := by decide +kernel
theorem dX8_output_19 : decode cX8_output 19 = .ok (.ifCond .lt 8, 3) := by decide +kernel
theorem dX8_output_22 : decode cX8_output 22 = .ok (.iload_n 2, 1) := by decide +kernel
theorem dX8_output_23 : decode cX8_output 23 = .ok (.iconst 3, 1) := by decide +kernel
theorem dX8_output_24 : decode cX8_output 24 = .ok (.if_icmp .le 13, 3) := by decide +kernel
theorem dX8_output_27 : decode cX8_output 27 = .ok (.new 65, 3) := by decide +kernel
theorem dX8_output_30 : decode cX8_output 30 = .ok (.dup, 1) := by decide +kernel
theorem dX8_output_31 : decode cX8_output 31 = .ok (.ldc 189, 2) := by decide +kernel
theorem dX8_output_33 : decode cX8_output 33 = .ok (.invokespecial 69, 3) := by decide +kernel
theorem dX8_output_36 : decode cX8_output 36 = .ok (.athrow, 1) := by decide +kernel
theorem dX8_output_37 : decode cX8_output 37 = .ok (.iload_n 2, 1) := by decide +kernel
theorem dX8_output_38 : decode cX8_output 38 = .ok (.iconst 1, 1) := by decide +kernel
theorem dX8_output_39 : decode cX8_output 39 = .ok (.if_icmp .gt 26, 3) := by decide +kernel
theorem dX8_output_42 : decode cX8_output 42 = .ok (.aload_n 0, 1) := by decide +kernel
theorem dX8_output_43 : decode cX8_output 43 = .ok (.getfield 19, 3) := by decide +kernel
theorem dX8_output_46 : decode cX8_output 46 = .ok (.getfield 191, 3) := by decide +kernel
theorem dX8_output_49 : decode cX8_output 49 = .ok (.iload_n 1, 1) := by decide +kernel
theorem dX8_output_50 : decode cX8_output 50 = .ok (.iaload, 1) := by decide +kernel
theorem dX8_output_51 : decode cX8_output 51 = .ok (.iconst (-1), 1) := by decide +kernel
theorem dX8_output_52 : decode cX8_output 52 = .ok (.if_icmp .ne 13, 3) := by decide +kernel
theorem dX8_output_55 : decode cX8_output 55 = .ok (.new 76, 3) := by decide +kernel
theorem dX8_output_58 : decode cX8_output 58 = .ok (.dup, 1) := by decide +kernel
theorem dX8_output_59 : decode cX8_output 59 = .ok (.ldc 194, 2) := by decide +kernel
theorem dX8_output_61 : decode cX8_output 61 = .ok (.invokespecial 80, 3) := by decide +kernel
theorem dX8_output_64 : decode cX8_output 64 = .ok (.athrow, 1) := by decide +kernel
theorem dX8_output_65 : decode cX8_output 65 = .ok (.iload_n 2, 1) := by decide +kernel
theorem dX8_output_66 : decode cX8_output 66 = .ok (.lookupswitch 46 #[(0, 26), (1, 36)], 26) := by decide +kernel
theorem dX8_output_92 : decode cX8_output 92 = .ok (.aload_n 0, 1) := by decide +kernel
theorem dX8_output_93 : decode cX8_output 93 = .ok (.getfield 19, 3) := by decide +kernel
theorem dX8_output_96 : decode cX8_output 96 = .ok (.getfield 196, 3) := by decide +kernel
theorem dX8_output_99 : decode cX8_output 99 = .ok (.iload_n 1, 1) := by decide +kernel
theorem dX8_output_100 : decode cX8_output 100 = .ok (.iaload, 1) := by decide +kernel
theorem dX8_output_101 : decode cX8_output 101 = .ok (.ireturn, 1) := by decide +kernel
theorem dX8_output_102 : decode cX8_output 102 = .ok (.aload_n 0, 1) := by decide +kernel
theorem dX8_output_103 : decode cX8_output 103 = .ok (.getfield 19, 3) := by decide +kernel
theorem dX8_output_106 : decode cX8_output 106 = .ok (.getfield 191, 3) := by decide +kernel
theorem dX8_output_109 : decode cX8_output 109 = .ok (.iload_n 1, 1) := by decide +kernel
theorem dX8_output_110 : decode cX8_output 110 = .ok (.iaload, 1) := by decide +kernel
theorem dX8_output_111 : decode cX8_output 111 = .ok (.ireturn, 1) := by decide +kernel
theorem dX8_output_112 : decode cX8_output 112 = .ok (.aload_n 0, 1) := by decide +kernel
theorem dX8_output_113 : decode cX8_output 113 = .ok (.getfield 10, 3) := by decide +kernel
theorem dX8_output_116 : decode cX8_output 116 = .ok (.iload_n 1, 1) := by decide +kernel
theorem dX8_output_117 : decode cX8_output 117 = .ok (.aload_n 0, 1) := by decide +kernel
theorem dX8_output_118 : decode cX8_output 118 = .ok (.getfield 10, 3) := by decide +kernel
theorem dX8_output_121 : decode cX8_output 121 = .ok (.aload_n 0, 1) := by decide +kernel
theorem dX8_output_122 : decode cX8_output 122 = .ok (.getfield 10, 3) := by decide +kernel
theorem dX8_output_125 : decode cX8_output 125 = .ok (.getfield 153, 3) := by decide +kernel
theorem dX8_output_128 : decode cX8_output 128 = .ok (.iload_n 1, 1) := by decide +kernel
theorem dX8_output_129 : decode cX8_output 129 = .ok (.aaload, 1) := by decide +kernel
theorem dX8_output_130 : decode cX8_output 130 = .ok (.aload_n 0, 1) := by decide +kernel
theorem dX8_output_131 : decode cX8_output 131 = .ok (.getfield 19, 3) := by decide +kernel
theorem dX8_output_134 : decode cX8_output 134 = .ok (.iconst (-1), 1) := by decide +kernel
theorem dX8_output_135 : decode cX8_output 135 = .ok (.iload_n 2, 1) := by decide +kernel
theorem dX8_output_136 : decode cX8_output 136 = .ok (.iconst 3, 1) := by decide +kernel
theorem dX8_output_137 : decode cX8_output 137 = .ok (.if_icmp .ne 7, 3) := by decide +kernel
theorem dX8_output_140 : decode cX8_output 140 = .ok (.iconst 1, 1) := by decide +kernel
theorem dX8_output_141 : decode cX8_output 141 = .ok (.goto 4, 3) := by decide +kernel
theorem dX8_output_144 : decode cX8_output 144 = .ok (.iconst 0, 1) := by decide +kernel
theorem dX8_output_145 : decode cX8_output 145 = .ok (.invokevirtual 199, 3) := by decide +kernel
theorem dX8_output_148 : decode cX8_output 148 = .ok (.invokevirtual 203, 3) := by decide +kernel
theorem dX8_output_151 : decode cX8_output 151 = .ok (.ireturn, 1) := by decide +kernel
theorem dX8_width_0 : decode cX8_width 0 = .ok (.aload_n 0, 1) := by decide +kernel
theorem dX8_width_1 : decode cX8_width 1 = .ok (.getfield 10, 3) := by decide +kernel
theorem dX8_width_4 : decode cX8_width 4 = .ok (.aload_n 0, 1) := by decide +kernel
theorem dX8_width_5 : decode cX8_width 5 = .ok (.getfield 19, 3) := by decide +kernel
theorem dX8_width_8 : decode cX8_width 8 = .ok (.invokevirtual 207, 3) := by decide +kernel
theorem dX8_width_11 : decode cX8_width 11 = .ok (.ireturn, 1) := by decide +kernel
theorem dX8_place_0 : decode cX8_place 0 = .ok (.aload_n 0, 1) := by decide +kernel
theorem dX8_place_1 : decode cX8_place 1 = .ok (.iload_n 1, 1) := by decide +kernel
theorem dX8_place_2 : decode cX8_place 2 = .ok (.invokevirtual 129, 3) := by decide +kernel
theorem dX8_place_5 : decode cX8_place 5 = .ok (.ifCond .ne 13, 3) := by decide +kernel
theorem dX8_place_8 : decode cX8_place 8 = .ok (.new 132, 3) := by decide +kernel
theorem dX8_place_11 : decode cX8_place 11 = .ok (.dup, 1) := by decide +kernel
theorem dX8_place_12 : decode cX8_place 12 = .ok (.ldc 162, 2) := by decide +kernel
theorem dX8_place_14 : decode cX8_place 14 = .ok (.invokespecial 136, 3) := by decide +kernel
theorem dX8_place_17 : decode cX8_place 17 = .ok (.athrow, 1) := by decide +kernel
theorem dX8_place_18 : decode cX8_place 18 = .ok (.aload_n 0, 1) := by decide +kernel
theorem dX8_place_19 : decode cX8_place 19 = .ok (.getfield 19, 3) := by decide +kernel
theorem dX8_place_22 : decode cX8_place 22 = .ok (.getfield 164, 3) := by decide +kernel
theorem dX8_place_25 : decode cX8_place 25 = .ok (.aload_n 0, 1) := by decide +kernel
theorem dX8_place_26 : decode cX8_place 26 = .ok (.getfield 61, 3) := by decide +kernel
theorem dX8_place_29 : decode cX8_place 29 = .ok (.invokestatic 211, 3) := by decide +kernel
theorem dX8_place_32 : decode cX8_place 32 = .ok (.aload_n 0, 1) := by decide +kernel
theorem dX8_place_33 : decode cX8_place 33 = .ok (.getfield 61, 3) := by decide +kernel
theorem dX8_place_36 : decode cX8_place 36 = .ok (.iload_n 1, 1) := by decide +kernel
theorem dX8_place_37 : decode cX8_place 37 = .ok (.iload_n 2, 1) := by decide +kernel
theorem dX8_place_38 : decode cX8_place 38 = .ok (.iastore, 1) := by decide +kernel
theorem dX8_place_39 : decode cX8_place 39 = .ok (.iload_n 2, 1) := by decide +kernel
theorem dX8_place_40 : decode cX8_place 40 = .ok (.aload_n 0, 1) := by decide +kernel
theorem dX8_place_41 : decode cX8_place 41 = .ok (.getfield 19, 3) := by decide +kernel
theorem dX8_place_44 : decode cX8_place 44 = .ok (.getfield 167, 3) := by decide +kernel
theorem dX8_place_47 : decode cX8_place 47 = .ok (.iload_n 1, 1) := by decide +kernel
theorem dX8_place_48 : decode cX8_place 48 = .ok (.iaload, 1) := by decide +kernel
theorem dX8_place_49 : decode cX8_place 49 = .ok (.if_icmp .lt 34, 3) := by decide +kernel
theorem dX8_place_52 : decode cX8_place 52 = .ok (.iload_n 2, 1) := by decide +kernel
theorem dX8_place_53 : decode cX8_place 53 = .ok (.aload_n 0, 1) := by decide +kernel
theorem dX8_place_54 : decode cX8_place 54 = .ok (.getfield 19, 3) := by decide +kernel
theorem dX8_place_57 : decode cX8_place 57 = .ok (.getfield 170, 3) := by decide +kernel
theorem dX8_place_60 : decode cX8_place 60 = .ok (.iload_n 1, 1) := by decide +kernel
theorem dX8_place_61 : decode cX8_place 61 = .ok (.iaload, 1) := by decide +kernel
theorem dX8_place_62 : decode cX8_place 62 = .ok (.if_icmp .gt 21, 3) := by decide +kernel
theorem dX8_place_65 : decode cX8_place 65 = .ok (.aload_n 0, 1) := by decide +kernel
theorem dX8_place_66 : decode cX8_place 66 = .ok (.getfield 10, 3) := by decide +kernel
theorem dX8_place_69 : decode cX8_place 69 = .ok (.aload_n 0, 1) := by decide +kernel
theorem dX8_place_70 : decode cX8_place 70 = .ok (.getfield 61, 3) := by decide +kernel
theorem dX8_place_73 : decode cX8_place 73 = .ok (.aload_n 0, 1) := by decide +kernel
theorem dX8_place_74 : decode cX8_place 74 = .ok (.getfield 19, 3) := by decide +kernel
theorem dX8_place_77 : decode cX8_place 77 = .ok (.invokevirtual 215, 3) := by decide +kernel
theorem dX8_place_80 : decode cX8_place 80 = .ok (.ifCond .ne 13, 3) := by decide +kernel
theorem dX8_place_83 : decode cX8_place 83 = .ok (.new 76, 3) := by decide +kernel
theorem dX8_place_86 : decode cX8_place 86 = .ok (.dup, 1) := by decide +kernel
theorem dX8_place_87 : decode cX8_place 87 = .ok (.ldc 219, 2) := by decide +kernel
theorem dX8_place_89 : decode cX8_place 89 = .ok (.invokespecial 80, 3) := by decide +kernel
theorem dX8_place_92 : decode cX8_place 92 = .ok (.athrow, 1) := by decide +kernel
theorem dX8_place_93 : decode cX8_place 93 = .ok (.aload_n 0, 1) := by decide +kernel
theorem dX8_place_94 : decode cX8_place 94 = .ok (.getfield 29, 3) := by decide +kernel
theorem dX8_place_97 : decode cX8_place 97 = .ok (.aload_n 0, 1) := by decide +kernel
theorem dX8_place_98 : decode cX8_place 98 = .ok (.getfield 19, 3) := by decide +kernel
theorem dX8_place_101 : decode cX8_place 101 = .ok (.invokevirtual 221, 3) := by decide +kernel
theorem dX8_place_104 : decode cX8_place 104 = .ok (.aload_n 0, 1) := by decide +kernel
theorem dX8_place_105 : decode cX8_place 105 = .ok (.getfield 19, 3) := by decide +kernel
theorem dX8_place_108 : decode cX8_place 108 = .ok (.getfield 164, 3) := by decide +kernel
theorem dX8_place_111 : decode cX8_place 111 = .ok (.iload_n 1, 1) := by decide +kernel
theorem dX8_place_112 : decode cX8_place 112 = .ok (.iaload, 1) := by decide +kernel
theorem dX8_place_113 : decode cX8_place 113 = .ok (.istore_n 3, 1) := by decide +kernel
theorem dX8_place_114 : decode cX8_place 114 = .ok (.aload_n 0, 1) := by decide +kernel
theorem dX8_place_115 : decode cX8_place 115 = .ok (.getfield 19, 3) := by decide +kernel
theorem dX8_place_118 : decode cX8_place 118 = .ok (.getfield 164, 3) := by decide +kernel
theorem dX8_place_121 : decode cX8_place 121 = .ok (.iload_n 1, 1) := by decide +kernel
theorem dX8_place_122 : decode cX8_place 122 = .ok (.iload_n 2, 1) := by decide +kernel
theorem dX8_place_123 : decode cX8_place 123 = .ok (.iastore, 1) := by decide +kernel
theorem dX8_place_124 : decode cX8_place 124 = .ok (.iload_n 3, 1) := by decide +kernel
theorem dX8_place_125 : decode cX8_place 125 = .ok (.ireturn, 1) := by decide +kernel
theorem dX8_step_0 : decode cX8_step 0 = .ok (.iload_n 1, 1) := by decide +kernel
theorem dX8_step_1 : decode cX8_step 1 = .ok (.invokestatic 224, 3) := by decide +kernel
theorem dX8_step_4 : decode cX8_step 4 = .ok (.ifCond .eq 26, 3) := by decide +kernel
theorem dX8_step_7 : decode cX8_step 7 = .ok (.iload_n 2, 1) := by decide +kernel
theorem dX8_step_8 : decode cX8_step 8 = .ok (.aload_n 0, 1) := by decide +kernel
theorem dX8_step_9 : decode cX8_step 9 = .ok (.getfield 19, 3) := by decide +kernel
theorem dX8_step_12 : decode cX8_step 12 = .ok (.getfield 112, 3) := by decide +kernel
theorem dX8_step_15 : decode cX8_step 15 = .ok (.ineg, 1) := by decide +kernel
theorem dX8_step_16 : decode cX8_step 16 = .ok (.if_icmp .lt 14, 3) := by decide +kernel
theorem dX8_step_19 : decode cX8_step 19 = .ok (.iload_n 2, 1) := by decide +kernel
theorem dX8_step_20 : decode cX8_step 20 = .ok (.aload_n 0, 1) := by decide +kernel
theorem dX8_step_21 : decode cX8_step 21 = .ok (.getfield 19, 3) := by decide +kernel
theorem dX8_step_24 : decode cX8_step 24 = .ok (.getfield 112, 3) := by decide +kernel
theorem dX8_step_27 : decode cX8_step 27 = .ok (.if_icmp .le 13, 3) := by decide +kernel
theorem dX8_step_30 : decode cX8_step 30 = .ok (.new 65, 3) := by decide +kernel
theorem dX8_step_33 : decode cX8_step 33 = .ok (.dup, 1) := by decide +kernel
theorem dX8_step_34 : decode cX8_step 34 = .ok (.ldc 227, 2) := by decide +kernel
theorem dX8_step_36 : decode cX8_step 36 = .ok (.invokespecial 69, 3) := by decide +kernel
theorem dX8_step_39 : decode cX8_step 39 = .ok (.athrow, 1) := by decide +kernel
theorem dX8_step_40 : decode cX8_step 40 = .ok (.aload_n 0, 1) := by decide +kernel
theorem dX8_step_41 : decode cX8_step 41 = .ok (.getfield 29, 3) := by decide +kernel
theorem dX8_step_44 : decode cX8_step 44 = .ok (.aload_n 0, 1) := by decide +kernel
theorem dX8_step_45 : decode cX8_step 45 = .ok (.getfield 19, 3) := by decide +kernel
theorem dX8_step_48 : decode cX8_step 48 = .ok (.invokevirtual 221, 3) := by decide +kernel
theorem dX8_step_51 : decode cX8_step 51 = .ok (.aload_n 0, 1) := by decide +kernel
theorem dX8_step_52 : decode cX8_step 52 = .ok (.getfield 50, 3) := by decide +kernel
theorem dX8_step_55 : decode cX8_step 55 = .ok (.aload_n 0, 1) := by decide +kernel
theorem dX8_step_56 : decode cX8_step 56 = .ok (.getfield 10, 3) := by decide +kernel
theorem dX8_step_59 : decode cX8_step 59 = .ok (.aload_n 0, 1) := by decide +kernel
theorem dX8_step_60 : decode cX8_step 60 = .ok (.getfield 19, 3) := by decide +kernel
theorem dX8_step_63 : decode cX8_step 63 = .ok (.iload_n 1, 1) := by decide +kernel
theorem dX8_step_64 : decode cX8_step 64 = .ok (.iload_n 2, 1) := by decide +kernel
theorem dX8_step_65 : decode cX8_step 65 = .ok (.invokevirtual 229, 3) := by decide +kernel
theorem dX8_step_68 : decode cX8_step 68 = .ok (.aload_n 0, 1) := by decide +kernel
theorem dX8_step_69 : decode cX8_step 69 = .ok (.getfield 19, 3) := by decide +kernel
theorem dX8_step_72 : decode cX8_step 72 = .ok (.getfield 118, 3) := by decide +kernel
theorem dX8_step_75 : decode cX8_step 75 = .ok (.ireturn, 1) := by decide +kernel
theorem dX8_read_0 : decode cX8_read 0 = .ok (.aload_n 0, 1) := by decide +kernel
theorem dX8_read_1 : decode cX8_read 1 = .ok (.iload_n 1, 1) := by decide +kernel
theorem dX8_read_2 : decode cX8_read 2 = .ok (.invokevirtual 125, 3) := by decide +kernel
theorem dX8_read_5 : decode cX8_read 5 = .ok (.ifCond .ne 13, 3) := by decide +kernel
theorem dX8_read_8 : decode cX8_read 8 = .ok (.new 132, 3) := by decide +kernel
theorem dX8_read_11 : decode cX8_read 11 = .ok (.dup, 1) := by decide +kernel
theorem dX8_read_12 : decode cX8_read 12 = .ok (.ldc 187, 2) := by decide +kernel
theorem dX8_read_14 : decode cX8_read 14 = .ok (.invokespecial 136, 3) := by decide +kernel
theorem dX8_read_17 : decode cX8_read 17 = .ok (.athrow, 1) := by decide +kernel
theorem dX8_read_18 : decode cX8_read 18 = .ok (.aload_n 0, 1) := by decide +kernel
theorem dX8_read_19 : decode cX8_read 19 = .ok (.getfield 29, 3) := by decide +kernel
theorem dX8_read_22 : decode cX8_read 22 = .ok (.aload_n 0, 1) := by decide +kernel
theorem dX8_read_23 : decode cX8_read 23 = .ok (.getfield 19, 3) := by decide +kernel
theorem dX8_read_26 : decode cX8_read 26 = .ok (.invokevirtual 221, 3) := by decide +kernel
theorem dX8_read_29 : decode cX8_read 29 = .ok (.aload_n 0, 1) := by decide +kernel
theorem dX8_read_30 : decode cX8_read 30 = .ok (.getfield 50, 3) := by decide +kernel
theorem dX8_read_33 : decode cX8_read 33 = .ok (.aload_n 0, 1) := by decide +kernel
theorem dX8_read_34 : decode cX8_read 34 = .ok (.getfield 10, 3) := by decide +kernel
theorem dX8_read_37 : decode cX8_read 37 = .ok (.aload_n 0, 1) := by decide +kernel
theorem dX8_read_38 : decode cX8_read 38 = .ok (.getfield 19, 3) := by decide +kernel
theorem dX8_read_41 : decode cX8_read 41 = .ok (.iload_n 1, 1) := by decide +kernel
theorem dX8_read_42 : decode cX8_read 42 = .ok (.invokevirtual 233, 3) := by decide +kernel
theorem dX8_read_45 : decode cX8_read 45 = .ok (.aload_n 0, 1) := by decide +kernel
theorem dX8_read_46 : decode cX8_read 46 = .ok (.getfield 19, 3) := by decide +kernel
theorem dX8_read_49 : decode cX8_read 49 = .ok (.getfield 196, 3) := by decide +kernel
theorem dX8_read_52 : decode cX8_read 52 = .ok (.iload_n 1, 1) := by decide +kernel
theorem dX8_read_53 : decode cX8_read 53 = .ok (.iaload, 1) := by decide +kernel
theorem dX8_read_54 : decode cX8_read 54 = .ok (.ireturn, 1) := by decide +kernel
theorem dX8_shave_0 : decode cX8_shave 0 = .ok (.aload_n 0, 1) := by decide +kernel
theorem dX8_shave_1 : decode cX8_shave 1 = .ok (.iload_n 1, 1) := by decide +kernel
theorem dX8_shave_2 : decode cX8_shave 2 = .ok (.invokevirtual 129, 3) := by decide +kernel
theorem dX8_shave_5 : decode cX8_shave 5 = .ok (.ifCond .ne 13, 3) := by decide +kernel
theorem dX8_shave_8 : decode cX8_shave 8 = .ok (.new 132, 3) := by decide +kernel
theorem dX8_shave_11 : decode cX8_shave 11 = .ok (.dup, 1) := by decide +kernel
theorem dX8_shave_12 : decode cX8_shave 12 = .ok (.ldc 162, 2) := by decide +kernel
theorem dX8_shave_14 : decode cX8_shave 14 = .ok (.invokespecial 136, 3) := by decide +kernel
theorem dX8_shave_17 : decode cX8_shave 17 = .ok (.athrow, 1) := by decide +kernel
theorem dX8_shave_18 : decode cX8_shave 18 = .ok (.iload_n 2, 1) := by decide +kernel
theorem dX8_shave_19 : decode cX8_shave 19 = .ok (.iconst 1, 1) := by decide +kernel
theorem dX8_shave_20 : decode cX8_shave 20 = .ok (.if_icmp .lt 9, 3) := by decide +kernel
theorem dX8_shave_23 : decode cX8_shave 23 = .ok (.iload_n 2, 1) := by decide +kernel
theorem dX8_shave_24 : decode cX8_shave 24 = .ok (.bipush 100, 2) := by decide +kernel
theorem dX8_shave_26 : decode cX8_shave 26 = .ok (.if_icmp .le 13, 3) := by decide +kernel
theorem dX8_shave_29 : decode cX8_shave 29 = .ok (.new 65, 3) := by decide +kernel
theorem dX8_shave_32 : decode cX8_shave 32 = .ok (.dup, 1) := by decide +kernel
theorem dX8_shave_33 : decode cX8_shave 33 = .ok (.ldc 237, 2) := by decide +kernel
theorem dX8_shave_35 : decode cX8_shave 35 = .ok (.invokespecial 69, 3) := by decide +kernel
theorem dX8_shave_38 : decode cX8_shave 38 = .ok (.athrow, 1) := by decide +kernel
theorem dX8_shave_39 : decode cX8_shave 39 = .ok (.aload_n 0, 1) := by decide +kernel
theorem dX8_shave_40 : decode cX8_shave 40 = .ok (.getfield 29, 3) := by decide +kernel
theorem dX8_shave_43 : decode cX8_shave 43 = .ok (.aload_n 0, 1) := by decide +kernel
theorem dX8_shave_44 : decode cX8_shave 44 = .ok (.getfield 19, 3) := by decide +kernel
theorem dX8_shave_47 : decode cX8_shave 47 = .ok (.invokevirtual 221, 3) := by decide +kernel
theorem dX8_shave_50 : decode cX8_shave 50 = .ok (.iconst 0, 1) := by decide +kernel
theorem dX8_shave_51 : decode cX8_shave 51 = .ok (.istore_n 3, 1) := by decide +kernel
theorem dX8_shave_52 : decode cX8_shave 52 = .ok (.iconst 0, 1) := by decide +kernel
theorem dX8_shave_53 : decode cX8_shave 53 = .ok (.istore 4, 2) := by decide +kernel
theorem dX8_shave_55 : decode cX8_shave 55 = .ok (.iload 4, 2) := by decide +kernel
theorem dX8_shave_57 : decode cX8_shave 57 = .ok (.iload_n 2, 1) := by decide +kernel
theorem dX8_shave_58 : decode cX8_shave 58 = .ok (.if_icmp .ge 42, 3) := by decide +kernel
theorem dX8_shave_61 : decode cX8_shave 61 = .ok (.aload_n 0, 1) := by decide +kernel
theorem dX8_shave_62 : decode cX8_shave 62 = .ok (.iload_n 1, 1) := by decide +kernel
theorem dX8_shave_63 : decode cX8_shave 63 = .ok (.aload_n 0, 1) := by decide +kernel
theorem dX8_shave_64 : decode cX8_shave 64 = .ok (.getfield 19, 3) := by decide +kernel
theorem dX8_shave_67 : decode cX8_shave 67 = .ok (.getfield 167, 3) := by decide +kernel
theorem dX8_shave_70 : decode cX8_shave 70 = .ok (.iload_n 1, 1) := by decide +kernel
theorem dX8_shave_71 : decode cX8_shave 71 = .ok (.iaload, 1) := by decide +kernel
theorem dX8_shave_72 : decode cX8_shave 72 = .ok (.invokevirtual 239, 3) := by decide +kernel
theorem dX8_shave_75 : decode cX8_shave 75 = .ok (.ifCond .eq 25, 3) := by decide +kernel
theorem dX8_shave_78 : decode cX8_shave 78 = .ok (.aload_n 0, 1) := by decide +kernel
theorem dX8_shave_79 : decode cX8_shave 79 = .ok (.getfield 19, 3) := by decide +kernel
theorem dX8_shave_82 : decode cX8_shave 82 = .ok (.getfield 167, 3) := by decide +kernel
theorem dX8_shave_85 : decode cX8_shave 85 = .ok (.iload_n 1, 1) := by decide +kernel
theorem dX8_shave_86 : decode cX8_shave 86 = .ok (.dup2, 1) := by decide +kernel
theorem dX8_shave_87 : decode cX8_shave 87 = .ok (.iaload, 1) := by decide +kernel
theorem dX8_shave_88 : decode cX8_shave 88 = .ok (.iconst 1, 1) := by decide +kernel
theorem dX8_shave_89 : decode cX8_shave 89 = .ok (.iadd, 1) := by decide +kernel
theorem dX8_shave_90 : decode cX8_shave 90 = .ok (.iastore, 1) := by decide +kernel
theorem dX8_shave_91 : decode cX8_shave 91 = .ok (.iinc 3 1, 3) := by decide +kernel
theorem dX8_shave_94 : decode cX8_shave 94 = .ok (.iinc 4 1, 3) := by decide +kernel
theorem dX8_shave_97 : decode cX8_shave 97 = .ok (.goto (-42), 3) := by decide +kernel
theorem dX8_shave_100 : decode cX8_shave 100 = .ok (.iconst 0, 1) := by decide +kernel
theorem dX8_shave_101 : decode cX8_shave 101 = .ok (.istore 4, 2) := by decide +kernel
theorem dX8_shave_103 : decode cX8_shave 103 = .ok (.iload 4, 2) := by decide +kernel
theorem dX8_shave_105 : decode cX8_shave 105 = .ok (.iload_n 2, 1) := by decide +kernel
theorem dX8_shave_106 : decode cX8_shave 106 = .ok (.if_icmp .ge 42, 3) := by decide +kernel
theorem dX8_shave_109 : decode cX8_shave 109 = .ok (.aload_n 0, 1) := by decide +kernel
theorem dX8_shave_110 : decode cX8_shave 110 = .ok (.iload_n 1, 1) := by decide +kernel
theorem dX8_shave_111 : decode cX8_shave 111 = .ok (.aload_n 0, 1) := by decide +kernel
theorem dX8_shave_112 : decode cX8_shave 112 = .ok (.getfield 19, 3) := by decide +kernel
theorem dX8_shave_115 : decode cX8_shave 115 = .ok (.getfield 170, 3) := by decide +kernel
theorem dX8_shave_118 : decode cX8_shave 118 = .ok (.iload_n 1, 1) := by decide +kernel
theorem dX8_shave_119 : decode cX8_shave 119 = .ok (.iaload, 1) := by decide +kernel
theorem dX8_shave_120 : decode cX8_shave 120 = .ok (.invokevirtual 239, 3) := by decide +kernel
theorem dX8_shave_123 : decode cX8_shave 123 = .ok (.ifCond .eq 25, 3) := by decide +kernel
theorem dX8_shave_126 : decode cX8_shave 126 = .ok (.aload_n 0, 1) := by decide +kernel
theorem dX8_shave_127 : decode cX8_shave 127 = .ok (.getfield 19, 3) := by decide +kernel
theorem dX8_shave_130 : decode cX8_shave 130 = .ok (.getfield 170, 3) := by decide +kernel
theorem dX8_shave_133 : decode cX8_shave 133 = .ok (.iload_n 1, 1) := by decide +kernel
theorem dX8_shave_134 : decode cX8_shave 134 = .ok (.dup2, 1) := by decide +kernel
theorem dX8_shave_135 : decode cX8_shave 135 = .ok (.iaload, 1) := by decide +kernel
theorem dX8_shave_136 : decode cX8_shave 136 = .ok (.iconst 1, 1) := by decide +kernel
theorem dX8_shave_137 : decode cX8_shave 137 = .ok (.isub, 1) := by decide +kernel
theorem dX8_shave_138 : decode cX8_shave 138 = .ok (.iastore, 1) := by decide +kernel
theorem dX8_shave_139 : decode cX8_shave 139 = .ok (.iinc 3 1, 3) := by decide +kernel
theorem dX8_shave_142 : decode cX8_shave 142 = .ok (.iinc 4 1, 3) := by decide +kernel
theorem dX8_shave_145 : decode cX8_shave 145 = .ok (.goto (-42), 3) := by decide +kernel
theorem dX8_shave_148 : decode cX8_shave 148 = .ok (.iload_n 3, 1) := by decide +kernel
theorem dX8_shave_149 : decode cX8_shave 149 = .ok (.ireturn, 1) := by decide +kernel
theorem dX8_setGain_0 : decode cX8_setGain 0 = .ok (.aload_n 0, 1) := by decide +kernel
theorem dX8_setGain_1 : decode cX8_setGain 1 = .ok (.iload_n 1, 1) := by decide +kernel
theorem dX8_setGain_2 : decode cX8_setGain 2 = .ok (.invokevirtual 129, 3) := by decide +kernel
theorem dX8_setGain_5 : decode cX8_setGain 5 = .ok (.ifCond .eq 11, 3) := by decide +kernel
theorem dX8_setGain_8 : decode cX8_setGain 8 = .ok (.aload_n 0, 1) := by decide +kernel
theorem dX8_setGain_9 : decode cX8_setGain 9 = .ok (.iload_n 2, 1) := by decide +kernel
theorem dX8_setGain_10 : decode cX8_setGain 10 = .ok (.invokevirtual 125, 3) := by decide +kernel
theorem dX8_setGain_13 : decode cX8_setGain 13 = .ok (.ifCond .ne 13, 3) := by decide +kernel
theorem dX8_setGain_16 : decode cX8_setGain 16 = .ok (.new 132, 3) := by decide +kernel
theorem dX8_setGain_19 : decode cX8_setGain 19 = .ok (.dup, 1) := by decide +kernel
theorem dX8_setGain_20 : decode cX8_setGain 20 = .ok (.ldc 243, 2) := by decide +kernel
theorem dX8_setGain_22 : decode cX8_setGain 22 = .ok (.invokespecial 136, 3) := by decide +kernel
theorem dX8_setGain_25 : decode cX8_setGain 25 = .ok (.athrow, 1) := by decide +kernel
theorem dX8_setGain_26 : decode cX8_setGain 26 = .ok (.iload_n 3, 1) := by decide +kernel
theorem dX8_setGain_27 : decode cX8_setGain 27 = .ok (.invokestatic 224, 3) := by decide +kernel
theorem dX8_setGain_30 : decode cX8_setGain 30 = .ok (.ifCond .ne 13, 3) := by decide +kernel
theorem dX8_setGain_33 : decode cX8_setGain 33 = .ok (.new 65, 3) := by decide +kernel
theorem dX8_setGain_36 : decode cX8_setGain 36 = .ok (.dup, 1) := by decide +kernel
theorem dX8_setGain_37 : decode cX8_setGain 37 = .ok (.ldc 245, 2) := by decide +kernel
theorem dX8_setGain_39 : decode cX8_setGain 39 = .ok (.invokespecial 69, 3) := by decide +kernel
theorem dX8_setGain_42 : decode cX8_setGain 42 = .ok (.athrow, 1) := by decide +kernel
theorem dX8_setGain_43 : decode cX8_setGain 43 = .ok (.aload_n 0, 1) := by decide +kernel
theorem dX8_setGain_44 : decode cX8_setGain 44 = .ok (.getfield 29, 3) := by decide +kernel
theorem dX8_setGain_47 : decode cX8_setGain 47 = .ok (.aload_n 0, 1) := by decide +kernel
theorem dX8_setGain_48 : decode cX8_setGain 48 = .ok (.getfield 19, 3) := by decide +kernel
theorem dX8_setGain_51 : decode cX8_setGain 51 = .ok (.invokevirtual 221, 3) := by decide +kernel
theorem dX8_setGain_54 : decode cX8_setGain 54 = .ok (.aload_n 0, 1) := by decide +kernel
theorem dX8_setGain_55 : decode cX8_setGain 55 = .ok (.getfield 19, 3) := by decide +kernel
theorem dX8_setGain_58 : decode cX8_setGain 58 = .ok (.getfield 159, 3) := by decide +kernel
theorem dX8_setGain_61 : decode cX8_setGain 61 = .ok (.iload_n 1, 1) := by decide +kernel
theorem dX8_setGain_62 : decode cX8_setGain 62 = .ok (.aaload, 1) := by decide +kernel
theorem dX8_setGain_63 : decode cX8_setGain 63 = .ok (.iload_n 2, 1) := by decide +kernel
theorem dX8_setGain_64 : decode cX8_setGain 64 = .ok (.iaload, 1) := by decide +kernel
theorem dX8_setGain_65 : decode cX8_setGain 65 = .ok (.istore 4, 2) := by decide +kernel
theorem dX8_setGain_67 : decode cX8_setGain 67 = .ok (.aload_n 0, 1) := by decide +kernel
theorem dX8_setGain_68 : decode cX8_setGain 68 = .ok (.getfield 19, 3) := by decide +kernel
theorem dX8_setGain_71 : decode cX8_setGain 71 = .ok (.getfield 159, 3) := by decide +kernel
theorem dX8_setGain_74 : decode cX8_setGain 74 = .ok (.iload_n 1, 1) := by decide +kernel
theorem dX8_setGain_75 : decode cX8_setGain 75 = .ok (.aaload, 1) := by decide +kernel
theorem dX8_setGain_76 : decode cX8_setGain 76 = .ok (.iload_n 2, 1) := by decide +kernel
theorem dX8_setGain_77 : decode cX8_setGain 77 = .ok (.iload_n 3, 1) := by decide +kernel
theorem dX8_setGain_78 : decode cX8_setGain 78 = .ok (.iastore, 1) := by decide +kernel
theorem dX8_setGain_79 : decode cX8_setGain 79 = .ok (.iload 4, 2) := by decide +kernel
theorem dX8_setGain_81 : decode cX8_setGain 81 = .ok (.ireturn, 1) := by decide +kernel
theorem dX8_setHold_0 : decode cX8_setHold 0 = .ok (.iload_n 1, 1) := by decide +kernel
theorem dX8_setHold_1 : decode cX8_setHold 1 = .ok (.ifCond .lt 9, 3) := by decide +kernel
theorem dX8_setHold_4 : decode cX8_setHold 4 = .ok (.iload_n 1, 1) := by decide +kernel
theorem dX8_setHold_5 : decode cX8_setHold 5 = .ok (.bipush 9, 2) := by decide +kernel
theorem dX8_setHold_7 : decode cX8_setHold 7 = .ok (.if_icmp .le 13, 3) := by decide +kernel
theorem dX8_setHold_10 : decode cX8_setHold 10 = .ok (.new 65, 3) := by decide +kernel
theorem dX8_setHold_13 : decode cX8_setHold 13 = .ok (.dup, 1) := by decide +kernel
theorem dX8_setHold_14 : decode cX8_setHold 14 = .ok (.ldc 247, 2) := by decide +kernel
theorem dX8_setHold_16 : decode cX8_setHold 16 = .ok (.invokespecial 69, 3) := by decide +kernel
theorem dX8_setHold_19 : decode cX8_setHold 19 = .ok (.athrow, 1) := by decide +kernel
theorem dX8_setHold_20 : decode cX8_setHold 20 = .ok (.aload_n 0, 1) := by decide +kernel
theorem dX8_setHold_21 : decode cX8_setHold 21 = .ok (.getfield 29, 3) := by decide +kernel
theorem dX8_setHold_24 : decode cX8_setHold 24 = .ok (.aload_n 0, 1) := by decide +kernel
theorem dX8_setHold_25 : decode cX8_setHold 25 = .ok (.getfield 19, 3) := by decide +kernel
theorem dX8_setHold_28 : decode cX8_setHold 28 = .ok (.invokevirtual 221, 3) := by decide +kernel
theorem dX8_setHold_31 : decode cX8_setHold 31 = .ok (.aload_n 0, 1) := by decide +kernel
theorem dX8_setHold_32 : decode cX8_setHold 32 = .ok (.getfield 19, 3) := by decide +kernel
theorem dX8_setHold_35 : decode cX8_setHold 35 = .ok (.getfield 115, 3) := by decide +kernel
theorem dX8_setHold_38 : decode cX8_setHold 38 = .ok (.istore_n 2, 1) := by decide +kernel
theorem dX8_setHold_39 : decode cX8_setHold 39 = .ok (.aload_n 0, 1) := by decide +kernel
theorem dX8_setHold_40 : decode cX8_setHold 40 = .ok (.getfield 19, 3) := by decide +kernel
theorem dX8_setHold_43 : decode cX8_setHold 43 = .ok (.iload_n 1, 1) := by decide +kernel
theorem dX8_setHold_44 : decode cX8_setHold 44 = .ok (.putfield 115, 3) := by decide +kernel
theorem dX8_setHold_47 : decode cX8_setHold 47 = .ok (.iload_n 2, 1) := by decide +kernel
theorem dX8_setHold_48 : decode cX8_setHold 48 = .ok (.ireturn, 1) := by decide +kernel
theorem dX8_setBound_0 : decode cX8_setBound 0 = .ok (.iload_n 1, 1) := by decide +kernel
theorem dX8_setBound_1 : decode cX8_setBound 1 = .ok (.ifCond .lt 9, 3) := by decide +kernel
theorem dX8_setBound_4 : decode cX8_setBound 4 = .ok (.iload_n 1, 1) := by decide +kernel
theorem dX8_setBound_5 : decode cX8_setBound 5 = .ok (.bipush 99, 2) := by decide +kernel
theorem dX8_setBound_7 : decode cX8_setBound 7 = .ok (.if_icmp .le 13, 3) := by decide +kernel
theorem dX8_setBound_10 : decode cX8_setBound 10 = .ok (.new 65, 3) := by decide +kernel
theorem dX8_setBound_13 : decode cX8_setBound 13 = .ok (.dup, 1) := by decide +kernel
theorem dX8_setBound_14 : decode cX8_setBound 14 = .ok (.ldc 249, 2) := by decide +kernel
theorem dX8_setBound_16 : decode cX8_setBound 16 = .ok (.invokespecial 69, 3) := by decide +kernel
theorem dX8_setBound_19 : decode cX8_setBound 19 = .ok (.athrow, 1) := by decide +kernel
theorem dX8_setBound_20 : decode cX8_setBound 20 = .ok (.aload_n 0, 1) := by decide +kernel
theorem dX8_setBound_21 : decode cX8_setBound 21 = .ok (.getfield 29, 3) := by decide +kernel
theorem dX8_setBound_24 : decode cX8_setBound 24 = .ok (.aload_n 0, 1) := by decide +kernel
theorem dX8_setBound_25 : decode cX8_setBound 25 = .ok (.getfield 19, 3) := by decide +kernel
theorem dX8_setBound_28 : decode cX8_setBound 28 = .ok (.invokevirtual 221, 3) := by decide +kernel
theorem dX8_setBound_31 : decode cX8_setBound 31 = .ok (.aload_n 0, 1) := by decide +kernel
theorem dX8_setBound_32 : decode cX8_setBound 32 = .ok (.getfield 19, 3) := by decide +kernel
theorem dX8_setBound_35 : decode cX8_setBound 35 = .ok (.getfield 112, 3) := by decide +kernel
theorem dX8_setBound_38 : decode cX8_setBound 38 = .ok (.istore_n 2, 1) := by decide +kernel
theorem dX8_setBound_39 : decode cX8_setBound 39 = .ok (.aload_n 0, 1) := by decide +kernel
theorem dX8_setBound_40 : decode cX8_setBound 40 = .ok (.getfield 19, 3) := by decide +kernel
theorem dX8_setBound_43 : decode cX8_setBound 43 = .ok (.iload_n 1, 1) := by decide +kernel
theorem dX8_setBound_44 : decode cX8_setBound 44 = .ok (.putfield 112, 3) := by decide +kernel
theorem dX8_setBound_47 : decode cX8_setBound 47 = .ok (.iload_n 2, 1) := by decide +kernel
theorem dX8_setBound_48 : decode cX8_setBound 48 = .ok (.ireturn, 1) := by decide +kernel
theorem dX8_undo_0 : decode cX8_undo 0 = .ok (.aload_n 0, 1) := by decide +kernel
theorem dX8_undo_1 : decode cX8_undo 1 = .ok (.getfield 29, 3) := by decide +kernel
theorem dX8_undo_4 : decode cX8_undo 4 = .ok (.getfield 251, 3) := by decide +kernel
theorem dX8_undo_7 : decode cX8_undo 7 = .ok (.ifCond .ne 13, 3) := by decide +kernel
theorem dX8_undo_10 : decode cX8_undo 10 = .ok (.new 76, 3) := by decide +kernel
theorem dX8_undo_13 : decode cX8_undo 13 = .ok (.dup, 1) := by decide +kernel
theorem dX8_undo_14 : decode cX8_undo 14 = .ok (.ldc 254, 2) := by decide +kernel
theorem dX8_undo_16 : decode cX8_undo 16 = .ok (.invokespecial 80, 3) := by decide +kernel
theorem dX8_undo_19 : decode cX8_undo 19 = .ok (.athrow, 1) := by decide +kernel
theorem dX8_undo_20 : decode cX8_undo 20 = .ok (.aload_n 0, 1) := by decide +kernel
theorem dX8_undo_21 : decode cX8_undo 21 = .ok (.getfield 29, 3) := by decide +kernel
theorem dX8_undo_24 : decode cX8_undo 24 = .ok (.aload_n 0, 1) := by decide +kernel
theorem dX8_undo_25 : decode cX8_undo 25 = .ok (.getfield 19, 3) := by decide +kernel
theorem dX8_undo_28 : decode cX8_undo 28 = .ok (.invokevirtual 256, 3) := by decide +kernel
theorem dX8_undo_31 : decode cX8_undo 31 = .ok (.aload_n 0, 1) := by decide +kernel
theorem dX8_undo_32 : decode cX8_undo 32 = .ok (.getfield 29, 3) := by decide +kernel
theorem dX8_undo_35 : decode cX8_undo 35 = .ok (.getfield 251, 3) := by decide +kernel
theorem dX8_undo_38 : decode cX8_undo 38 = .ok (.ireturn, 1) := by decide +kernel
theorem dX8_canBe_0 : decode cX8_canBe 0 = .ok (.aload_n 0, 1) := by decide +kernel
theorem dX8_canBe_1 : decode cX8_canBe 1 = .ok (.getfield 61, 3) := by decide +kernel
theorem dX8_canBe_4 : decode cX8_canBe 4 = .ok (.iconst 0, 1) := by decide +kernel
theorem dX8_canBe_5 : decode cX8_canBe 5 = .ok (.iload_n 1, 1) := by decide +kernel
theorem dX8_canBe_6 : decode cX8_canBe 6 = .ok (.iastore, 1) := by decide +kernel
theorem dX8_canBe_7 : decode cX8_canBe 7 = .ok (.aload_n 0, 1) := by decide +kernel
theorem dX8_canBe_8 : decode cX8_canBe 8 = .ok (.getfield 61, 3) := by decide +kernel
theorem dX8_canBe_11 : decode cX8_canBe 11 = .ok (.iconst 1, 1) := by decide +kernel
theorem dX8_canBe_12 : decode cX8_canBe 12 = .ok (.iload_n 2, 1) := by decide +kernel
theorem dX8_canBe_13 : decode cX8_canBe 13 = .ok (.iastore, 1) := by decide +kernel
theorem dX8_canBe_14 : decode cX8_canBe 14 = .ok (.aload_n 0, 1) := by decide +kernel
theorem dX8_canBe_15 : decode cX8_canBe 15 = .ok (.getfield 61, 3) := by decide +kernel
theorem dX8_canBe_18 : decode cX8_canBe 18 = .ok (.iconst 2, 1) := by decide +kernel
theorem dX8_canBe_19 : decode cX8_canBe 19 = .ok (.iload_n 3, 1) := by decide +kernel
theorem dX8_canBe_20 : decode cX8_canBe 20 = .ok (.iastore, 1) := by decide +kernel
theorem dX8_canBe_21 : decode cX8_canBe 21 = .ok (.aload_n 0, 1) := by decide +kernel
theorem dX8_canBe_22 : decode cX8_canBe 22 = .ok (.getfield 61, 3) := by decide +kernel
theorem dX8_canBe_25 : decode cX8_canBe 25 = .ok (.iconst 3, 1) := by decide +kernel
theorem dX8_canBe_26 : decode cX8_canBe 26 = .ok (.iload 4, 2) := by decide +kernel
theorem dX8_canBe_28 : decode cX8_canBe 28 = .ok (.iastore, 1) := by decide +kernel
theorem dX8_canBe_29 : decode cX8_canBe 29 = .ok (.aload_n 0, 1) := by decide +kernel
theorem dX8_canBe_30 : decode cX8_canBe 30 = .ok (.getfield 10, 3) := by decide +kernel
theorem dX8_canBe_33 : decode cX8_canBe 33 = .ok (.getfield 106, 3) := by decide +kernel
theorem dX8_canBe_36 : decode cX8_canBe 36 = .ok (.istore 5, 2) := by decide +kernel
theorem dX8_canBe_38 : decode cX8_canBe 38 = .ok (.iload 5, 2) := by decide +kernel
theorem dX8_canBe_40 : decode cX8_canBe 40 = .ok (.iconst 4, 1) := by decide +kernel
theorem dX8_canBe_41 : decode cX8_canBe 41 = .ok (.if_icmp .ge 30, 3) := by decide +kernel
theorem dX8_canBe_44 : decode cX8_canBe 44 = .ok (.aload_n 0, 1) := by decide +kernel
theorem dX8_canBe_45 : decode cX8_canBe 45 = .ok (.getfield 61, 3) := by decide +kernel
theorem dX8_canBe_48 : decode cX8_canBe 48 = .ok (.iload 5, 2) := by decide +kernel
theorem dX8_canBe_50 : decode cX8_canBe 50 = .ok (.iaload, 1) := by decide +kernel
theorem dX8_canBe_51 : decode cX8_canBe 51 = .ok (.ifCond .eq 14, 3) := by decide +kernel
theorem dX8_canBe_54 : decode cX8_canBe 54 = .ok (.new 65, 3) := by decide +kernel
theorem dX8_canBe_57 : decode cX8_canBe 57 = .ok (.dup, 1) := by decide +kernel
theorem dX8_canBe_58 : decode cX8_canBe 58 = .ok (.ldc_w 259, 3) := by decide +kernel
theorem dX8_canBe_61 : decode cX8_canBe 61 = .ok (.invokespecial 69, 3) := by decide +kernel
theorem dX8_canBe_64 : decode cX8_canBe 64 = .ok (.athrow, 1) := by decide +kernel
theorem dX8_canBe_65 : decode cX8_canBe 65 = .ok (.iinc 5 1, 3) := by decide +kernel
theorem dX8_canBe_68 : decode cX8_canBe 68 = .ok (.goto (-30), 3) := by decide +kernel
theorem dX8_canBe_71 : decode cX8_canBe 71 = .ok (.iconst 0, 1) := by decide +kernel
theorem dX8_canBe_72 : decode cX8_canBe 72 = .ok (.istore 5, 2) := by decide +kernel
theorem dX8_canBe_74 : decode cX8_canBe 74 = .ok (.iload 5, 2) := by decide +kernel
theorem dX8_canBe_76 : decode cX8_canBe 76 = .ok (.aload_n 0, 1) := by decide +kernel
theorem dX8_canBe_77 : decode cX8_canBe 77 = .ok (.getfield 10, 3) := by decide +kernel
theorem dX8_canBe_80 : decode cX8_canBe 80 = .ok (.getfield 106, 3) := by decide +kernel
theorem dX8_canBe_83 : decode cX8_canBe 83 = .ok (.if_icmp .ge 51, 3) := by decide +kernel
theorem dX8_canBe_86 : decode cX8_canBe 86 = .ok (.aload_n 0, 1) := by decide +kernel
theorem dX8_canBe_87 : decode cX8_canBe 87 = .ok (.getfield 61, 3) := by decide +kernel
theorem dX8_canBe_90 : decode cX8_canBe 90 = .ok (.iload 5, 2) := by decide +kernel
theorem dX8_canBe_92 : decode cX8_canBe 92 = .ok (.iaload, 1) := by decide +kernel
theorem dX8_canBe_93 : decode cX8_canBe 93 = .ok (.aload_n 0, 1) := by decide +kernel
theorem dX8_canBe_94 : decode cX8_canBe 94 = .ok (.getfield 19, 3) := by decide +kernel
theorem dX8_canBe_97 : decode cX8_canBe 97 = .ok (.getfield 167, 3) := by decide +kernel
theorem dX8_canBe_100 : decode cX8_canBe 100 = .ok (.iload 5, 2) := by decide +kernel
theorem dX8_canBe_102 : decode cX8_canBe 102 = .ok (.iaload, 1) := by decide +kernel
theorem dX8_canBe_103 : decode cX8_canBe 103 = .ok (.if_icmp .lt 23, 3) := by decide +kernel
theorem dX8_canBe_106 : decode cX8_canBe 106 = .ok (.aload_n 0, 1) := by decide +kernel
theorem dX8_canBe_107 : decode cX8_canBe 107 = .ok (.getfield 61, 3) := by decide +kernel
theorem dX8_canBe_110 : decode cX8_canBe 110 = .ok (.iload 5, 2) := by decide +kernel
theorem dX8_canBe_112 : decode cX8_canBe 112 = .ok (.iaload, 1) := by decide +kernel
theorem dX8_canBe_113 : decode cX8_canBe 113 = .ok (.aload_n 0, 1) := by decide +kernel
theorem dX8_canBe_114 : decode cX8_canBe 114 = .ok (.getfield 19, 3) := by decide +kernel
theorem dX8_canBe_117 : decode cX8_canBe 117 = .ok (.getfield 170, 3) := by decide +kernel
theorem dX8_canBe_120 : decode cX8_canBe 120 = .ok (.iload 5, 2) := by decide +kernel
theorem dX8_canBe_122 : decode cX8_canBe 122 = .ok (.iaload, 1) := by decide +kernel
theorem dX8_canBe_123 : decode cX8_canBe 123 = .ok (.if_icmp .le 5, 3) := by decide +kernel
theorem dX8_canBe_126 : decode cX8_canBe 126 = .ok (.iconst 0, 1) := by decide +kernel
theorem dX8_canBe_127 : decode cX8_canBe 127 = .ok (.ireturn, 1) := by decide +kernel
theorem dX8_canBe_128 : decode cX8_canBe 128 = .ok (.iinc 5 1, 3) := by decide +kernel
theorem dX8_canBe_131 : decode cX8_canBe 131 = .ok (.goto (-57), 3) := by decide +kernel
theorem dX8_canBe_134 : decode cX8_canBe 134 = .ok (.aload_n 0, 1) := by decide +kernel
theorem dX8_canBe_135 : decode cX8_canBe 135 = .ok (.getfield 10, 3) := by decide +kernel
theorem dX8_canBe_138 : decode cX8_canBe 138 = .ok (.aload_n 0, 1) := by decide +kernel
theorem dX8_canBe_139 : decode cX8_canBe 139 = .ok (.getfield 61, 3) := by decide +kernel
theorem dX8_canBe_142 : decode cX8_canBe 142 = .ok (.aload_n 0, 1) := by decide +kernel
theorem dX8_canBe_143 : decode cX8_canBe 143 = .ok (.getfield 19, 3) := by decide +kernel
theorem dX8_canBe_146 : decode cX8_canBe 146 = .ok (.invokevirtual 215, 3) := by decide +kernel
theorem dX8_canBe_149 : decode cX8_canBe 149 = .ok (.ireturn, 1) := by decide +kernel
theorem dX8_widthIf_0 : decode cX8_widthIf 0 = .ok (.aload_n 0, 1) := by decide +kernel
theorem dX8_widthIf_1 : decode cX8_widthIf 1 = .ok (.iload_n 1, 1) := by decide +kernel
theorem dX8_widthIf_2 : decode cX8_widthIf 2 = .ok (.invokevirtual 125, 3) := by decide +kernel
theorem dX8_widthIf_5 : decode cX8_widthIf 5 = .ok (.ifCond .ne 13, 3) := by decide +kernel
theorem dX8_widthIf_8 : decode cX8_widthIf 8 = .ok (.new 132, 3) := by decide +kernel
theorem dX8_widthIf_11 : decode cX8_widthIf 11 = .ok (.dup, 1) := by decide +kernel
theorem dX8_widthIf_12 : decode cX8_widthIf 12 = .ok (.ldc 187, 2) := by decide +kernel
theorem dX8_widthIf_14 : decode cX8_widthIf 14 = .ok (.invokespecial 136, 3) := by decide +kernel
theorem dX8_widthIf_17 : decode cX8_widthIf 17 = .ok (.athrow, 1) := by decide +kernel
theorem dX8_widthIf_18 : decode cX8_widthIf 18 = .ok (.iload_n 2, 1) := by decide +kernel
theorem dX8_widthIf_19 : decode cX8_widthIf 19 = .ok (.ldc_w 261, 3) := by decide +kernel
theorem dX8_widthIf_22 : decode cX8_widthIf 22 = .ok (.if_icmp .lt 10, 3) := by decide +kernel
theorem dX8_widthIf_25 : decode cX8_widthIf 25 = .ok (.iload_n 2, 1) := by decide +kernel
theorem dX8_widthIf_26 : decode cX8_widthIf 26 = .ok (.ldc_w 262, 3) := by decide +kernel
theorem dX8_widthIf_29 : decode cX8_widthIf 29 = .ok (.if_icmp .le 14, 3) := by decide +kernel
theorem dX8_widthIf_32 : decode cX8_widthIf 32 = .ok (.new 65, 3) := by decide +kernel
theorem dX8_widthIf_35 : decode cX8_widthIf 35 = .ok (.dup, 1) := by decide +kernel
theorem dX8_widthIf_36 : decode cX8_widthIf 36 = .ok (.ldc_w 263, 3) := by decide +kernel
theorem dX8_widthIf_39 : decode cX8_widthIf 39 = .ok (.invokespecial 69, 3) := by decide +kernel
theorem dX8_widthIf_42 : decode cX8_widthIf 42 = .ok (.athrow, 1) := by decide +kernel
theorem dX8_widthIf_43 : decode cX8_widthIf 43 = .ok (.aload_n 0, 1) := by decide +kernel
theorem dX8_widthIf_44 : decode cX8_widthIf 44 = .ok (.getfield 23, 3) := by decide +kernel
theorem dX8_widthIf_47 : decode cX8_widthIf 47 = .ok (.aload_n 0, 1) := by decide +kernel
theorem dX8_widthIf_48 : decode cX8_widthIf 48 = .ok (.getfield 19, 3) := by decide +kernel
theorem dX8_widthIf_51 : decode cX8_widthIf 51 = .ok (.invokevirtual 99, 3) := by decide +kernel
theorem dX8_widthIf_54 : decode cX8_widthIf 54 = .ok (.aload_n 0, 1) := by decide +kernel
theorem dX8_widthIf_55 : decode cX8_widthIf 55 = .ok (.getfield 23, 3) := by decide +kernel
theorem dX8_widthIf_58 : decode cX8_widthIf 58 = .ok (.getfield 196, 3) := by decide +kernel
theorem dX8_widthIf_61 : decode cX8_widthIf 61 = .ok (.iload_n 1, 1) := by decide +kernel
theorem dX8_widthIf_62 : decode cX8_widthIf 62 = .ok (.iload_n 2, 1) := by decide +kernel
theorem dX8_widthIf_63 : decode cX8_widthIf 63 = .ok (.iastore, 1) := by decide +kernel
theorem dX8_widthIf_64 : decode cX8_widthIf 64 = .ok (.aload_n 0, 1) := by decide +kernel
theorem dX8_widthIf_65 : decode cX8_widthIf 65 = .ok (.getfield 23, 3) := by decide +kernel
theorem dX8_widthIf_68 : decode cX8_widthIf 68 = .ok (.getfield 191, 3) := by decide +kernel
theorem dX8_widthIf_71 : decode cX8_widthIf 71 = .ok (.iload_n 1, 1) := by decide +kernel
theorem dX8_widthIf_72 : decode cX8_widthIf 72 = .ok (.iconst 0, 1) := by decide +kernel
theorem dX8_widthIf_73 : decode cX8_widthIf 73 = .ok (.iastore, 1) := by decide +kernel
theorem dX8_widthIf_74 : decode cX8_widthIf 74 = .ok (.aload_n 0, 1) := by decide +kernel
theorem dX8_widthIf_75 : decode cX8_widthIf 75 = .ok (.getfield 50, 3) := by decide +kernel
theorem dX8_widthIf_78 : decode cX8_widthIf 78 = .ok (.aload_n 0, 1) := by decide +kernel
theorem dX8_widthIf_79 : decode cX8_widthIf 79 = .ok (.getfield 10, 3) := by decide +kernel
theorem dX8_widthIf_82 : decode cX8_widthIf 82 = .ok (.aload_n 0, 1) := by decide +kernel
theorem dX8_widthIf_83 : decode cX8_widthIf 83 = .ok (.getfield 23, 3) := by decide +kernel
theorem dX8_widthIf_86 : decode cX8_widthIf 86 = .ok (.invokevirtual 265, 3) := by decide +kernel
theorem dX8_widthIf_89 : decode cX8_widthIf 89 = .ok (.ifCond .eq 17, 3) := by decide +kernel
theorem dX8_widthIf_92 : decode cX8_widthIf 92 = .ok (.aload_n 0, 1) := by decide +kernel
theorem dX8_widthIf_93 : decode cX8_widthIf 93 = .ok (.getfield 10, 3) := by decide +kernel
theorem dX8_widthIf_96 : decode cX8_widthIf 96 = .ok (.aload_n 0, 1) := by decide +kernel
theorem dX8_widthIf_97 : decode cX8_widthIf 97 = .ok (.getfield 23, 3) := by decide +kernel
theorem dX8_widthIf_100 : decode cX8_widthIf 100 = .ok (.invokevirtual 207, 3) := by decide +kernel
theorem dX8_widthIf_103 : decode cX8_widthIf 103 = .ok (.goto 5, 3) := by decide +kernel
theorem dX8_widthIf_106 : decode cX8_widthIf 106 = .ok (.bipush (-9), 2) := by decide +kernel
theorem dX8_widthIf_108 : decode cX8_widthIf 108 = .ok (.ireturn, 1) := by decide +kernel
theorem dX8_ahead_0 : decode cX8_ahead 0 = .ok (.aload_n 0, 1) := by decide +kernel
theorem dX8_ahead_1 : decode cX8_ahead 1 = .ok (.iload_n 3, 1) := by decide +kernel
theorem dX8_ahead_2 : decode cX8_ahead 2 = .ok (.invokevirtual 129, 3) := by decide +kernel
theorem dX8_ahead_5 : decode cX8_ahead 5 = .ok (.ifCond .ne 13, 3) := by decide +kernel
theorem dX8_ahead_8 : decode cX8_ahead 8 = .ok (.new 132, 3) := by decide +kernel
theorem dX8_ahead_11 : decode cX8_ahead 11 = .ok (.dup, 1) := by decide +kernel
theorem dX8_ahead_12 : decode cX8_ahead 12 = .ok (.ldc 162, 2) := by decide +kernel
theorem dX8_ahead_14 : decode cX8_ahead 14 = .ok (.invokespecial 136, 3) := by decide +kernel
theorem dX8_ahead_17 : decode cX8_ahead 17 = .ok (.athrow, 1) := by decide +kernel
theorem dX8_ahead_18 : decode cX8_ahead 18 = .ok (.iload_n 1, 1) := by decide +kernel
theorem dX8_ahead_19 : decode cX8_ahead 19 = .ok (.ifCond .lt 16, 3) := by decide +kernel
theorem dX8_ahead_22 : decode cX8_ahead 22 = .ok (.iload_n 1, 1) := by decide +kernel
theorem dX8_ahead_23 : decode cX8_ahead 23 = .ok (.bipush 60, 2) := by decide +kernel
theorem dX8_ahead_25 : decode cX8_ahead 25 = .ok (.if_icmp .gt 10, 3) := by decide +kernel
theorem dX8_ahead_28 : decode cX8_ahead 28 = .ok (.iload_n 2, 1) := by decide +kernel
theorem dX8_ahead_29 : decode cX8_ahead 29 = .ok (.invokestatic 224, 3) := by decide +kernel
theorem dX8_ahead_32 : decode cX8_ahead 32 = .ok (.ifCond .ne 14, 3) := by decide +kernel
theorem dX8_ahead_35 : decode cX8_ahead 35 = .ok (.new 65, 3) := by decide +kernel
theorem dX8_ahead_38 : decode cX8_ahead 38 = .ok (.dup, 1) := by decide +kernel
theorem dX8_ahead_39 : decode cX8_ahead 39 = .ok (.ldc_w 269, 3) := by decide +kernel
theorem dX8_ahead_42 : decode cX8_ahead 42 = .ok (.invokespecial 69, 3) := by decide +kernel
theorem dX8_ahead_45 : decode cX8_ahead 45 = .ok (.athrow, 1) := by decide +kernel
theorem dX8_ahead_46 : decode cX8_ahead 46 = .ok (.aload_n 0, 1) := by decide +kernel
theorem dX8_ahead_47 : decode cX8_ahead 47 = .ok (.getfield 23, 3) := by decide +kernel
theorem dX8_ahead_50 : decode cX8_ahead 50 = .ok (.aload_n 0, 1) := by decide +kernel
theorem dX8_ahead_51 : decode cX8_ahead 51 = .ok (.getfield 19, 3) := by decide +kernel
theorem dX8_ahead_54 : decode cX8_ahead 54 = .ok (.invokevirtual 99, 3) := by decide +kernel
theorem dX8_ahead_57 : decode cX8_ahead 57 = .ok (.iconst 0, 1) := by decide +kernel
theorem dX8_ahead_58 : decode cX8_ahead 58 = .ok (.istore 5, 2) := by decide +kernel
theorem dX8_ahead_60 : decode cX8_ahead 60 = .ok (.iload 5, 2) := by decide +kernel
theorem dX8_ahead_62 : decode cX8_ahead 62 = .ok (.iload_n 1, 1) := by decide +kernel
theorem dX8_ahead_63 : decode cX8_ahead 63 = .ok (.if_icmp .ge 26, 3) := by decide +kernel
theorem dX8_ahead_66 : decode cX8_ahead 66 = .ok (.aload_n 0, 1) := by decide +kernel
theorem dX8_ahead_67 : decode cX8_ahead 67 = .ok (.getfield 50, 3) := by decide +kernel
theorem dX8_ahead_70 : decode cX8_ahead 70 = .ok (.aload_n 0, 1) := by decide +kernel
theorem dX8_ahead_71 : decode cX8_ahead 71 = .ok (.getfield 10, 3) := by decide +kernel
theorem dX8_ahead_74 : decode cX8_ahead 74 = .ok (.aload_n 0, 1) := by decide +kernel
theorem dX8_ahead_75 : decode cX8_ahead 75 = .ok (.getfield 23, 3) := by decide +kernel
theorem dX8_ahead_78 : decode cX8_ahead 78 = .ok (.iload_n 2, 1) := by decide +kernel
theorem dX8_ahead_79 : decode cX8_ahead 79 = .ok (.iconst 0, 1) := by decide +kernel
theorem dX8_ahead_80 : decode cX8_ahead 80 = .ok (.invokevirtual 229, 3) := by decide +kernel
theorem dX8_ahead_83 : decode cX8_ahead 83 = .ok (.iinc 5 1, 3) := by decide +kernel
theorem dX8_ahead_86 : decode cX8_ahead 86 = .ok (.goto (-26), 3) := by decide +kernel
theorem dX8_ahead_89 : decode cX8_ahead 89 = .ok (.iload 4, 2) := by decide +kernel
theorem dX8_ahead_91 : decode cX8_ahead 91 = .ok (.ifCond .eq 15, 3) := by decide +kernel
theorem dX8_ahead_94 : decode cX8_ahead 94 = .ok (.aload_n 0, 1) := by decide +kernel
theorem dX8_ahead_95 : decode cX8_ahead 95 = .ok (.getfield 23, 3) := by decide +kernel
theorem dX8_ahead_98 : decode cX8_ahead 98 = .ok (.getfield 170, 3) := by decide +kernel
theorem dX8_ahead_101 : decode cX8_ahead 101 = .ok (.iload_n 3, 1) := by decide +kernel
theorem dX8_ahead_102 : decode cX8_ahead 102 = .ok (.iaload, 1) := by decide +kernel
theorem dX8_ahead_103 : decode cX8_ahead 103 = .ok (.goto 12, 3) := by decide +kernel
theorem dX8_ahead_106 : decode cX8_ahead 106 = .ok (.aload_n 0, 1) := by decide +kernel
theorem dX8_ahead_107 : decode cX8_ahead 107 = .ok (.getfield 23, 3) := by decide +kernel
theorem dX8_ahead_110 : decode cX8_ahead 110 = .ok (.getfield 167, 3) := by decide +kernel
theorem dX8_ahead_113 : decode cX8_ahead 113 = .ok (.iload_n 3, 1) := by decide +kernel
theorem dX8_ahead_114 : decode cX8_ahead 114 = .ok (.iaload, 1) := by decide +kernel
theorem dX8_ahead_115 : decode cX8_ahead 115 = .ok (.ireturn, 1) := by decide +kernel
theorem dX8_earliest_0 : decode cX8_earliest 0 = .ok (.aload_n 0, 1) := by decide +kernel
theorem dX8_earliest_1 : decode cX8_earliest 1 = .ok (.iload_n 1, 1) := by decide +kernel
theorem dX8_earliest_2 : decode cX8_earliest 2 = .ok (.invokevirtual 129, 3) := by decide +kernel
theorem dX8_earliest_5 : decode cX8_earliest 5 = .ok (.ifCond .ne 13, 3) := by decide +kernel
theorem dX8_earliest_8 : decode cX8_earliest 8 = .ok (.new 132, 3) := by decide +kernel
theorem dX8_earliest_11 : decode cX8_earliest 11 = .ok (.dup, 1) := by decide +kernel
theorem dX8_earliest_12 : decode cX8_earliest 12 = .ok (.ldc 162, 2) := by decide +kernel
theorem dX8_earliest_14 : decode cX8_earliest 14 = .ok (.invokespecial 136, 3) := by decide +kernel
theorem dX8_earliest_17 : decode cX8_earliest 17 = .ok (.athrow, 1) := by decide +kernel
theorem dX8_earliest_18 : decode cX8_earliest 18 = .ok (.iload_n 3, 1) := by decide +kernel
theorem dX8_earliest_19 : decode cX8_earliest 19 = .ok (.invokestatic 224, 3) := by decide +kernel
theorem dX8_earliest_22 : decode cX8_earliest 22 = .ok (.ifCond .ne 14, 3) := by decide +kernel
theorem dX8_earliest_25 : decode cX8_earliest 25 = .ok (.new 65, 3) := by decide +kernel
theorem dX8_earliest_28 : decode cX8_earliest 28 = .ok (.dup, 1) := by decide +kernel
theorem dX8_earliest_29 : decode cX8_earliest 29 = .ok (.ldc_w 271, 3) := by decide +kernel
theorem dX8_earliest_32 : decode cX8_earliest 32 = .ok (.invokespecial 69, 3) := by decide +kernel
theorem dX8_earliest_35 : decode cX8_earliest 35 = .ok (.athrow, 1) := by decide +kernel
theorem dX8_earliest_36 : decode cX8_earliest 36 = .ok (.aload_n 0, 1) := by decide +kernel
theorem dX8_earliest_37 : decode cX8_earliest 37 = .ok (.getfield 23, 3) := by decide +kernel
theorem dX8_earliest_40 : decode cX8_earliest 40 = .ok (.aload_n 0, 1) := by decide +kernel
theorem dX8_earliest_41 : decode cX8_earliest 41 = .ok (.getfield 19, 3) := by decide +kernel
theorem dX8_earliest_44 : decode cX8_earliest 44 = .ok (.invokevirtual 99, 3) := by decide +kernel
theorem dX8_earliest_47 : decode cX8_earliest 47 = .ok (.iconst 0, 1) := by decide +kernel
theorem dX8_earliest_48 : decode cX8_earliest 48 = .ok (.istore 5, 2) := by decide +kernel
theorem dX8_earliest_50 : decode cX8_earliest 50 = .ok (.iload 5, 2) := by decide +kernel
theorem dX8_earliest_52 : decode cX8_earliest 52 = .ok (.bipush 60, 2) := by decide +kernel
theorem dX8_earliest_54 : decode cX8_earliest 54 = .ok (.if_icmp .gt 63, 3) := by decide +kernel
theorem dX8_earliest_57 : decode cX8_earliest 57 = .ok (.iload 4, 2) := by decide +kernel
theorem dX8_earliest_59 : decode cX8_earliest 59 = .ok (.ifCond .eq 15, 3) := by decide +kernel
theorem dX8_earliest_62 : decode cX8_earliest 62 = .ok (.aload_n 0, 1) := by decide +kernel
theorem dX8_earliest_63 : decode cX8_earliest 63 = .ok (.getfield 23, 3) := by decide +kernel
theorem dX8_earliest_66 : decode cX8_earliest 66 = .ok (.getfield 167, 3) := by decide +kernel
theorem dX8_earliest_69 : decode cX8_earliest 69 = .ok (.iload_n 1, 1) := by decide +kernel
theorem dX8_earliest_70 : decode cX8_earliest 70 = .ok (.iaload, 1) := by decide +kernel
theorem dX8_earliest_71 : decode cX8_earliest 71 = .ok (.goto 12, 3) := by decide +kernel
theorem dX8_earliest_74 : decode cX8_earliest 74 = .ok (.aload_n 0, 1) := by decide +kernel
theorem dX8_earliest_75 : decode cX8_earliest 75 = .ok (.getfield 23, 3) := by decide +kernel
theorem dX8_earliest_78 : decode cX8_earliest 78 = .ok (.getfield 170, 3) := by decide +kernel
theorem dX8_earliest_81 : decode cX8_earliest 81 = .ok (.iload_n 1, 1) := by decide +kernel
theorem dX8_earliest_82 : decode cX8_earliest 82 = .ok (.iaload, 1) := by decide +kernel
theorem dX8_earliest_83 : decode cX8_earliest 83 = .ok (.istore 6, 2) := by decide +kernel
theorem dX8_earliest_85 : decode cX8_earliest 85 = .ok (.iload 6, 2) := by decide +kernel
theorem dX8_earliest_87 : decode cX8_earliest 87 = .ok (.iload_n 2, 1) := by decide +kernel
theorem dX8_earliest_88 : decode cX8_earliest 88 = .ok (.if_icmp .lt 6, 3) := by decide +kernel
theorem dX8_earliest_91 : decode cX8_earliest 91 = .ok (.iload 5, 2) := by decide +kernel
theorem dX8_earliest_93 : decode cX8_earliest 93 = .ok (.ireturn, 1) := by decide +kernel
theorem dX8_earliest_94 : decode cX8_earliest 94 = .ok (.aload_n 0, 1) := by decide +kernel
theorem dX8_earliest_95 : decode cX8_earliest 95 = .ok (.getfield 50, 3) := by decide +kernel
theorem dX8_earliest_98 : decode cX8_earliest 98 = .ok (.aload_n 0, 1) := by decide +kernel
theorem dX8_earliest_99 : decode cX8_earliest 99 = .ok (.getfield 10, 3) := by decide +kernel
theorem dX8_earliest_102 : decode cX8_earliest 102 = .ok (.aload_n 0, 1) := by decide +kernel
theorem dX8_earliest_103 : decode cX8_earliest 103 = .ok (.getfield 23, 3) := by decide +kernel
theorem dX8_earliest_106 : decode cX8_earliest 106 = .ok (.iload_n 3, 1) := by decide +kernel
theorem dX8_earliest_107 : decode cX8_earliest 107 = .ok (.iconst 0, 1) := by decide +kernel
theorem dX8_earliest_108 : decode cX8_earliest 108 = .ok (.invokevirtual 229, 3) := by decide +kernel
theorem dX8_earliest_111 : decode cX8_earliest 111 = .ok (.iinc 5 1, 3) := by decide +kernel
theorem dX8_earliest_114 : decode cX8_earliest 114 = .ok (.goto (-64), 3) := by decide +kernel
theorem dX8_earliest_117 : decode cX8_earliest 117 = .ok (.bipush (-9), 2) := by decide +kernel
theorem dX8_earliest_119 : decode cX8_earliest 119 = .ok (.ireturn, 1) := by decide +kernel
theorem dX8_unknown_0 : decode cX8_unknown 0 = .ok (.aload_n 0, 1) := by decide +kernel
theorem dX8_unknown_1 : decode cX8_unknown 1 = .ok (.getfield 19, 3) := by decide +kernel
theorem dX8_unknown_4 : decode cX8_unknown 4 = .ok (.getfield 118, 3) := by decide +kernel
theorem dX8_unknown_7 : decode cX8_unknown 7 = .ok (.ifCond .ne 14, 3) := by decide +kernel
theorem dX8_unknown_10 : decode cX8_unknown 10 = .ok (.new 76, 3) := by decide +kernel
theorem dX8_unknown_13 : decode cX8_unknown 13 = .ok (.dup, 1) := by decide +kernel
theorem dX8_unknown_14 : decode cX8_unknown 14 = .ok (.ldc_w 273, 3) := by decide +kernel
theorem dX8_unknown_17 : decode cX8_unknown 17 = .ok (.invokespecial 80, 3) := by decide +kernel
theorem dX8_unknown_20 : decode cX8_unknown 20 = .ok (.athrow, 1) := by decide +kernel
theorem dX8_unknown_21 : decode cX8_unknown 21 = .ok (.aload_n 0, 1) := by decide +kernel
theorem dX8_unknown_22 : decode cX8_unknown 22 = .ok (.getfield 19, 3) := by decide +kernel
theorem dX8_unknown_25 : decode cX8_unknown 25 = .ok (.getfield 275, 3) := by decide +kernel
theorem dX8_unknown_28 : decode cX8_unknown 28 = .ok (.istore_n 2, 1) := by decide +kernel
theorem dX8_unknown_29 : decode cX8_unknown 29 = .ok (.iload_n 2, 1) := by decide +kernel
theorem dX8_unknown_30 : decode cX8_unknown 30 = .ok (.aload_n 0, 1) := by decide +kernel
theorem dX8_unknown_31 : decode cX8_unknown 31 = .ok (.getfield 19, 3) := by decide +kernel
theorem dX8_unknown_34 : decode cX8_unknown 34 = .ok (.getfield 275, 3) := by decide +kernel
theorem dX8_unknown_37 : decode cX8_unknown 37 = .ok (.ineg, 1) := by decide +kernel
theorem dX8_unknown_38 : decode cX8_unknown 38 = .ok (.if_icmp .lt 37, 3) := by decide +kernel
theorem dX8_unknown_41 : decode cX8_unknown 41 = .ok (.iload_n 1, 1) := by decide +kernel
theorem dX8_unknown_42 : decode cX8_unknown 42 = .ok (.ifCond .eq 7, 3) := by decide +kernel
theorem dX8_unknown_45 : decode cX8_unknown 45 = .ok (.iload_n 2, 1) := by decide +kernel
theorem dX8_unknown_46 : decode cX8_unknown 46 = .ok (.goto 5, 3) := by decide +kernel
theorem dX8_unknown_49 : decode cX8_unknown 49 = .ok (.iload_n 2, 1) := by decide +kernel
theorem dX8_unknown_50 : decode cX8_unknown 50 = .ok (.ineg, 1) := by decide +kernel
theorem dX8_unknown_51 : decode cX8_unknown 51 = .ok (.istore_n 3, 1) := by decide +kernel
theorem dX8_unknown_52 : decode cX8_unknown 52 = .ok (.aload_n 0, 1) := by decide +kernel
theorem dX8_unknown_53 : decode cX8_unknown 53 = .ok (.getfield 10, 3) := by decide +kernel
theorem dX8_unknown_56 : decode cX8_unknown 56 = .ok (.iload_n 3, 1) := by decide +kernel
theorem dX8_unknown_57 : decode cX8_unknown 57 = .ok (.aload_n 0, 1) := by decide +kernel
theorem dX8_unknown_58 : decode cX8_unknown 58 = .ok (.getfield 19, 3) := by decide +kernel
theorem dX8_unknown_61 : decode cX8_unknown 61 = .ok (.invokevirtual 278, 3) := by decide +kernel
theorem dX8_unknown_64 : decode cX8_unknown 64 = .ok (.ifCond .eq 5, 3) := by decide +kernel
theorem dX8_unknown_67 : decode cX8_unknown 67 = .ok (.iload_n 3, 1) := by decide +kernel
theorem dX8_unknown_68 : decode cX8_unknown 68 = .ok (.ireturn, 1) := by decide +kernel
theorem dX8_unknown_69 : decode cX8_unknown 69 = .ok (.iinc 2 (-1), 3) := by decide +kernel
theorem dX8_unknown_72 : decode cX8_unknown 72 = .ok (.goto (-43), 3) := by decide +kernel
theorem dX8_unknown_75 : decode cX8_unknown 75 = .ok (.new 76, 3) := by decide +kernel
theorem dX8_unknown_78 : decode cX8_unknown 78 = .ok (.dup, 1) := by decide +kernel
theorem dX8_unknown_79 : decode cX8_unknown 79 = .ok (.ldc_w 282, 3) := by decide +kernel
theorem dX8_unknown_82 : decode cX8_unknown 82 = .ok (.invokespecial 80, 3) := by decide +kernel
theorem dX8_unknown_85 : decode cX8_unknown 85 = .ok (.athrow, 1) := by decide +kernel
theorem dX8_rankAfter_0 : decode cX8_rankAfter 0 = .ok (.iload_n 1, 1) := by decide +kernel
theorem dX8_rankAfter_1 : decode cX8_rankAfter 1 = .ok (.iconst 1, 1) := by decide +kernel
theorem dX8_rankAfter_2 : decode cX8_rankAfter 2 = .ok (.if_icmp .lt 9, 3) := by decide +kernel
theorem dX8_rankAfter_5 : decode cX8_rankAfter 5 = .ok (.iload_n 1, 1) := by decide +kernel
theorem dX8_rankAfter_6 : decode cX8_rankAfter 6 = .ok (.bipush 8, 2) := by decide +kernel
theorem dX8_rankAfter_8 : decode cX8_rankAfter 8 = .ok (.if_icmp .le 14, 3) := by decide +kernel
theorem dX8_rankAfter_11 : decode cX8_rankAfter 11 = .ok (.new 65, 3) := by decide +kernel
theorem dX8_rankAfter_14 : decode cX8_rankAfter 14 = .ok (.dup, 1) := by decide +kernel
theorem dX8_rankAfter_15 : decode cX8_rankAfter 15 = .ok (.ldc_w 284, 3) := by decide +kernel
theorem dX8_rankAfter_18 : decode cX8_rankAfter 18 = .ok (.invokespecial 69, 3) := by decide +kernel
theorem dX8_rankAfter_21 : decode cX8_rankAfter 21 = .ok (.athrow, 1) := by decide +kernel
theorem dX8_rankAfter_22 : decode cX8_rankAfter 22 = .ok (.aload_n 0, 1) := by decide +kernel
theorem dX8_rankAfter_23 : decode cX8_rankAfter 23 = .ok (.getfield 57, 3) := by decide +kernel
theorem dX8_rankAfter_26 : decode cX8_rankAfter 26 = .ok (.aload_n 0, 1) := by decide +kernel
theorem dX8_rankAfter_27 : decode cX8_rankAfter 27 = .ok (.getfield 10, 3) := by decide +kernel
theorem dX8_rankAfter_30 : decode cX8_rankAfter 30 = .ok (.iload_n 1, 1) := by decide +kernel
theorem dX8_rankAfter_31 : decode cX8_rankAfter 31 = .ok (.invokevirtual 286, 3) := by decide +kernel
theorem dX8_rankAfter_34 : decode cX8_rankAfter 34 = .ok (.ireturn, 1) := by decide +kernel
theorem dX8_observabilityIndex_0 : decode cX8_observabilityIndex 0 = .ok (.iconst 1, 1) := by decide +kernel
theorem dX8_observabilityIndex_1 : decode cX8_observabilityIndex 1 = .ok (.istore_n 1, 1) := by decide +kernel
theorem dX8_observabilityIndex_2 : decode cX8_observabilityIndex 2 = .ok (.iload_n 1, 1) := by decide +kernel
theorem dX8_observabilityIndex_3 : decode cX8_observabilityIndex 3 = .ok (.aload_n 0, 1) := by decide +kernel
theorem dX8_observabilityIndex_4 : decode cX8_observabilityIndex 4 = .ok (.getfield 10, 3) := by decide +kernel
theorem dX8_observabilityIndex_7 : decode cX8_observabilityIndex 7 = .ok (.getfield 106, 3) := by decide +kernel
theorem dX8_observabilityIndex_10 : decode cX8_observabilityIndex 10 = .ok (.if_icmp .gt 33, 3) := by decide +kernel
theorem dX8_observabilityIndex_13 : decode cX8_observabilityIndex 13 = .ok (.aload_n 0, 1) := by decide +kernel
theorem dX8_observabilityIndex_14 : decode cX8_observabilityIndex 14 = .ok (.getfield 57, 3) := by decide +kernel
theorem dX8_observabilityIndex_17 : decode cX8_observabilityIndex 17 = .ok (.aload_n 0, 1) := by decide +kernel
theorem dX8_observabilityIndex_18 : decode cX8_observabilityIndex 18 = .ok (.getfield 10, 3) := by decide +kernel
theorem dX8_observabilityIndex_21 : decode cX8_observabilityIndex 21 = .ok (.iload_n 1, 1) := by decide +kernel
theorem dX8_observabilityIndex_22 : decode cX8_observabilityIndex 22 = .ok (.invokevirtual 286, 3) := by decide +kernel
theorem dX8_observabilityIndex_25 : decode cX8_observabilityIndex 25 = .ok (.aload_n 0, 1) := by decide +kernel
theorem dX8_observabilityIndex_26 : decode cX8_observabilityIndex 26 = .ok (.getfield 10, 3) := by decide +kernel
theorem dX8_observabilityIndex_29 : decode cX8_observabilityIndex 29 = .ok (.getfield 106, 3) := by decide +kernel
theorem dX8_observabilityIndex_32 : decode cX8_observabilityIndex 32 = .ok (.if_icmp .ne 5, 3) := by decide +kernel
theorem dX8_observabilityIndex_35 : decode cX8_observabilityIndex 35 = .ok (.iload_n 1, 1) := by decide +kernel
theorem dX8_observabilityIndex_36 : decode cX8_observabilityIndex 36 = .ok (.ireturn, 1) := by decide +kernel
theorem dX8_observabilityIndex_37 : decode cX8_observabilityIndex 37 = .ok (.iinc 1 1, 3) := by decide +kernel
theorem dX8_observabilityIndex_40 : decode cX8_observabilityIndex 40 = .ok (.goto (-38), 3) := by decide +kernel
theorem dX8_observabilityIndex_43 : decode cX8_observabilityIndex 43 = .ok (.bipush (-9), 2) := by decide +kernel
theorem dX8_observabilityIndex_45 : decode cX8_observabilityIndex 45 = .ok (.ireturn, 1) := by decide +kernel
theorem dX8_hiddenDimension_0 : decode cX8_hiddenDimension 0 = .ok (.iload_n 1, 1) := by decide +kernel
theorem dX8_hiddenDimension_1 : decode cX8_hiddenDimension 1 = .ok (.ifCond .lt 9, 3) := by decide +kernel
theorem dX8_hiddenDimension_4 : decode cX8_hiddenDimension 4 = .ok (.iload_n 1, 1) := by decide +kernel
theorem dX8_hiddenDimension_5 : decode cX8_hiddenDimension 5 = .ok (.bipush 8, 2) := by decide +kernel
theorem dX8_hiddenDimension_7 : decode cX8_hiddenDimension 7 = .ok (.if_icmp .le 14, 3) := by decide +kernel
theorem dX8_hiddenDimension_10 : decode cX8_hiddenDimension 10 = .ok (.new 65, 3) := by decide +kernel
theorem dX8_hiddenDimension_13 : decode cX8_hiddenDimension 13 = .ok (.dup, 1) := by decide +kernel
theorem dX8_hiddenDimension_14 : decode cX8_hiddenDimension 14 = .ok (.ldc_w 290, 3) := by decide +kernel
theorem dX8_hiddenDimension_17 : decode cX8_hiddenDimension 17 = .ok (.invokespecial 69, 3) := by decide +kernel
theorem dX8_hiddenDimension_20 : decode cX8_hiddenDimension 20 = .ok (.athrow, 1) := by decide +kernel
theorem dX8_hiddenDimension_21 : decode cX8_hiddenDimension 21 = .ok (.aload_n 0, 1) := by decide +kernel
theorem dX8_hiddenDimension_22 : decode cX8_hiddenDimension 22 = .ok (.getfield 10, 3) := by decide +kernel
theorem dX8_hiddenDimension_25 : decode cX8_hiddenDimension 25 = .ok (.getfield 106, 3) := by decide +kernel
theorem dX8_hiddenDimension_28 : decode cX8_hiddenDimension 28 = .ok (.aload_n 0, 1) := by decide +kernel
theorem dX8_hiddenDimension_29 : decode cX8_hiddenDimension 29 = .ok (.getfield 57, 3) := by decide +kernel
theorem dX8_hiddenDimension_32 : decode cX8_hiddenDimension 32 = .ok (.aload_n 0, 1) := by decide +kernel
theorem dX8_hiddenDimension_33 : decode cX8_hiddenDimension 33 = .ok (.getfield 10, 3) := by decide +kernel
theorem dX8_hiddenDimension_36 : decode cX8_hiddenDimension 36 = .ok (.iload_n 1, 1) := by decide +kernel
theorem dX8_hiddenDimension_37 : decode cX8_hiddenDimension 37 = .ok (.invokevirtual 292, 3) := by decide +kernel
theorem dX8_hiddenDimension_40 : decode cX8_hiddenDimension 40 = .ok (.isub, 1) := by decide +kernel
theorem dX8_hiddenDimension_41 : decode cX8_hiddenDimension 41 = .ok (.ireturn, 1) := by decide +kernel
theorem dX8_touched_0 : decode cX8_touched 0 = .ok (.iconst 0, 1) := by decide +kernel
theorem dX8_touched_1 : decode cX8_touched 1 = .ok (.istore_n 1, 1) := by decide +kernel
theorem dX8_touched_2 : decode cX8_touched 2 = .ok (.iconst 0, 1) := by decide +kernel
theorem dX8_touched_3 : decode cX8_touched 3 = .ok (.istore_n 2, 1) := by decide +kernel
theorem dX8_touched_4 : decode cX8_touched 4 = .ok (.iload_n 2, 1) := by decide +kernel
theorem dX8_touched_5 : decode cX8_touched 5 = .ok (.aload_n 0, 1) := by decide +kernel
theorem dX8_touched_6 : decode cX8_touched 6 = .ok (.getfield 10, 3) := by decide +kernel
theorem dX8_touched_9 : decode cX8_touched 9 = .ok (.getfield 109, 3) := by decide +kernel
theorem dX8_touched_12 : decode cX8_touched 12 = .ok (.if_icmp .ge 43, 3) := by decide +kernel
theorem dX8_touched_15 : decode cX8_touched 15 = .ok (.aload_n 0, 1) := by decide +kernel
theorem dX8_touched_16 : decode cX8_touched 16 = .ok (.getfield 10, 3) := by decide +kernel
theorem dX8_touched_19 : decode cX8_touched 19 = .ok (.aload_n 0, 1) := by decide +kernel
theorem dX8_touched_20 : decode cX8_touched 20 = .ok (.getfield 10, 3) := by decide +kernel
theorem dX8_touched_23 : decode cX8_touched 23 = .ok (.getfield 153, 3) := by decide +kernel
theorem dX8_touched_26 : decode cX8_touched 26 = .ok (.iload_n 2, 1) := by decide +kernel
theorem dX8_touched_27 : decode cX8_touched 27 = .ok (.aaload, 1) := by decide +kernel
theorem dX8_touched_28 : decode cX8_touched 28 = .ok (.aload_n 0, 1) := by decide +kernel
theorem dX8_touched_29 : decode cX8_touched 29 = .ok (.getfield 10, 3) := by decide +kernel
theorem dX8_touched_32 : decode cX8_touched 32 = .ok (.getfield 150, 3) := by decide +kernel
theorem dX8_touched_35 : decode cX8_touched 35 = .ok (.invokevirtual 295, 3) := by decide +kernel
theorem dX8_touched_38 : decode cX8_touched 38 = .ok (.lconst 0, 1) := by decide +kernel
theorem dX8_touched_39 : decode cX8_touched 39 = .ok (.lcmp, 1) := by decide +kernel
theorem dX8_touched_40 : decode cX8_touched 40 = .ok (.ifCond .eq 9, 3) := by decide +kernel
theorem dX8_touched_43 : decode cX8_touched 43 = .ok (.iload_n 1, 1) := by decide +kernel
theorem dX8_touched_44 : decode cX8_touched 44 = .ok (.iconst 1, 1) := by decide +kernel
theorem dX8_touched_45 : decode cX8_touched 45 = .ok (.iload_n 2, 1) := by decide +kernel
theorem dX8_touched_46 : decode cX8_touched 46 = .ok (.ishl, 1) := by decide +kernel
theorem dX8_touched_47 : decode cX8_touched 47 = .ok (.ior, 1) := by decide +kernel
theorem dX8_touched_48 : decode cX8_touched 48 = .ok (.istore_n 1, 1) := by decide +kernel
theorem dX8_touched_49 : decode cX8_touched 49 = .ok (.iinc 2 1, 3) := by decide +kernel
theorem dX8_touched_52 : decode cX8_touched 52 = .ok (.goto (-48), 3) := by decide +kernel
theorem dX8_touched_55 : decode cX8_touched 55 = .ok (.iload_n 1, 1) := by decide +kernel
theorem dX8_touched_56 : decode cX8_touched 56 = .ok (.ireturn, 1) := by decide +kernel
theorem dX8_free_0 : decode cX8_free 0 = .ok (.aload_n 0, 1) := by decide +kernel
theorem dX8_free_1 : decode cX8_free 1 = .ok (.iload_n 2, 1) := by decide +kernel
theorem dX8_free_2 : decode cX8_free 2 = .ok (.invokevirtual 129, 3) := by decide +kernel
theorem dX8_free_5 : decode cX8_free 5 = .ok (.ifCond .eq 18, 3) := by decide +kernel
theorem dX8_free_8 : decode cX8_free 8 = .ok (.iload_n 1, 1) := by decide +kernel
theorem dX8_free_9 : decode cX8_free 9 = .ok (.ifCond .lt 14, 3) := by decide +kernel
theorem dX8_free_12 : decode cX8_free 12 = .ok (.iload_n 1, 1) := by decide +kernel
theorem dX8_free_13 : decode cX8_free 13 = .ok (.aload_n 0, 1) := by decide +kernel
theorem dX8_free_14 : decode cX8_free 14 = .ok (.getfield 10, 3) := by decide +kernel
theorem dX8_free_17 : decode cX8_free 17 = .ok (.invokevirtual 299, 3) := by decide +kernel
theorem dX8_free_20 : decode cX8_free 20 = .ok (.if_icmp .lt 14, 3) := by decide +kernel
theorem dX8_free_23 : decode cX8_free 23 = .ok (.new 132, 3) := by decide +kernel
theorem dX8_free_26 : decode cX8_free 26 = .ok (.dup, 1) := by decide +kernel
theorem dX8_free_27 : decode cX8_free 27 = .ok (.ldc_w 302, 3) := by decide +kernel
theorem dX8_free_30 : decode cX8_free 30 = .ok (.invokespecial 136, 3) := by decide +kernel
theorem dX8_free_33 : decode cX8_free 33 = .ok (.athrow, 1) := by decide +kernel
theorem dX8_free_34 : decode cX8_free 34 = .ok (.aload_n 0, 1) := by decide +kernel
theorem dX8_free_35 : decode cX8_free 35 = .ok (.getfield 10, 3) := by decide +kernel
theorem dX8_free_38 : decode cX8_free 38 = .ok (.iload_n 1, 1) := by decide +kernel
theorem dX8_free_39 : decode cX8_free 39 = .ok (.aload_n 0, 1) := by decide +kernel
theorem dX8_free_40 : decode cX8_free 40 = .ok (.getfield 61, 3) := by decide +kernel
theorem dX8_free_43 : decode cX8_free 43 = .ok (.invokevirtual 304, 3) := by decide +kernel
theorem dX8_free_46 : decode cX8_free 46 = .ok (.aload_n 0, 1) := by decide +kernel
theorem dX8_free_47 : decode cX8_free 47 = .ok (.getfield 61, 3) := by decide +kernel
theorem dX8_free_50 : decode cX8_free 50 = .ok (.iload_n 2, 1) := by decide +kernel
theorem dX8_free_51 : decode cX8_free 51 = .ok (.iaload, 1) := by decide +kernel
theorem dX8_free_52 : decode cX8_free 52 = .ok (.ireturn, 1) := by decide +kernel
theorem dX8_freeRange_0 : decode cX8_freeRange 0 = .ok (.iload_n 1, 1) := by decide +kernel
theorem dX8_freeRange_1 : decode cX8_freeRange 1 = .ok (.ifCond .lt 14, 3) := by decide +kernel
theorem dX8_freeRange_4 : decode cX8_freeRange 4 = .ok (.iload_n 1, 1) := by decide +kernel
theorem dX8_freeRange_5 : decode cX8_freeRange 5 = .ok (.aload_n 0, 1) := by decide +kernel
theorem dX8_freeRange_6 : decode cX8_freeRange 6 = .ok (.getfield 10, 3) := by decide +kernel
theorem dX8_freeRange_9 : decode cX8_freeRange 9 = .ok (.invokevirtual 299, 3) := by decide +kernel
theorem dX8_freeRange_12 : decode cX8_freeRange 12 = .ok (.if_icmp .lt 14, 3) := by decide +kernel
theorem dX8_freeRange_15 : decode cX8_freeRange 15 = .ok (.new 132, 3) := by decide +kernel
theorem dX8_freeRange_18 : decode cX8_freeRange 18 = .ok (.dup, 1) := by decide +kernel
theorem dX8_freeRange_19 : decode cX8_freeRange 19 = .ok (.ldc_w 308, 3) := by decide +kernel
theorem dX8_freeRange_22 : decode cX8_freeRange 22 = .ok (.invokespecial 136, 3) := by decide +kernel
theorem dX8_freeRange_25 : decode cX8_freeRange 25 = .ok (.athrow, 1) := by decide +kernel
theorem dX8_freeRange_26 : decode cX8_freeRange 26 = .ok (.aload_n 0, 1) := by decide +kernel
theorem dX8_freeRange_27 : decode cX8_freeRange 27 = .ok (.getfield 10, 3) := by decide +kernel
theorem dX8_freeRange_30 : decode cX8_freeRange 30 = .ok (.iload_n 1, 1) := by decide +kernel
theorem dX8_freeRange_31 : decode cX8_freeRange 31 = .ok (.aload_n 0, 1) := by decide +kernel
theorem dX8_freeRange_32 : decode cX8_freeRange 32 = .ok (.getfield 61, 3) := by decide +kernel
theorem dX8_freeRange_35 : decode cX8_freeRange 35 = .ok (.invokevirtual 304, 3) := by decide +kernel
theorem dX8_freeRange_38 : decode cX8_freeRange 38 = .ok (.aload_n 0, 1) := by decide +kernel
theorem dX8_freeRange_39 : decode cX8_freeRange 39 = .ok (.getfield 10, 3) := by decide +kernel
theorem dX8_freeRange_42 : decode cX8_freeRange 42 = .ok (.aload_n 0, 1) := by decide +kernel
theorem dX8_freeRange_43 : decode cX8_freeRange 43 = .ok (.getfield 61, 3) := by decide +kernel
theorem dX8_freeRange_46 : decode cX8_freeRange 46 = .ok (.aload_n 0, 1) := by decide +kernel
theorem dX8_freeRange_47 : decode cX8_freeRange 47 = .ok (.getfield 19, 3) := by decide +kernel
theorem dX8_freeRange_50 : decode cX8_freeRange 50 = .ok (.iconst (-1), 1) := by decide +kernel
theorem dX8_freeRange_51 : decode cX8_freeRange 51 = .ok (.iload_n 2, 1) := by decide +kernel
theorem dX8_freeRange_52 : decode cX8_freeRange 52 = .ok (.invokevirtual 199, 3) := by decide +kernel
theorem dX8_freeRange_55 : decode cX8_freeRange 55 = .ok (.l2i, 1) := by decide +kernel
theorem dX8_freeRange_56 : decode cX8_freeRange 56 = .ok (.ireturn, 1) := by decide +kernel
theorem dX8_runScript_0 : decode cX8_runScript 0 = .ok (.iload_n 1, 1) := by decide +kernel
theorem dX8_runScript_1 : decode cX8_runScript 1 = .ok (.iconst 1, 1) := by decide +kernel
theorem dX8_runScript_2 : decode cX8_runScript 2 = .ok (.if_icmp .lt 8, 3) := by decide +kernel
theorem dX8_runScript_5 : decode cX8_runScript 5 = .ok (.iload_n 1, 1) := by decide +kernel
theorem dX8_runScript_6 : decode cX8_runScript 6 = .ok (.iconst 4, 1) := by decide +kernel
theorem dX8_runScript_7 : decode cX8_runScript 7 = .ok (.if_icmp .le 14, 3) := by decide +kernel
theorem dX8_runScript_10 : decode cX8_runScript 10 = .ok (.new 65, 3) := by decide +kernel
theorem dX8_runScript_13 : decode cX8_runScript 13 = .ok (.dup, 1) := by decide +kernel
theorem dX8_runScript_14 : decode cX8_runScript 14 = .ok (.ldc_w 310, 3) := by decide +kernel
theorem dX8_runScript_17 : decode cX8_runScript 17 = .ok (.invokespecial 69, 3) := by decide +kernel
theorem dX8_runScript_20 : decode cX8_runScript 20 = .ok (.athrow, 1) := by decide +kernel
theorem dX8_runScript_21 : decode cX8_runScript 21 = .ok (.lconst 1, 1) := by decide +kernel
theorem dX8_runScript_22 : decode cX8_runScript 22 = .ok (.lstore 4, 2) := by decide +kernel
theorem dX8_runScript_24 : decode cX8_runScript 24 = .ok (.iconst 0, 1) := by decide +kernel
theorem dX8_runScript_25 : decode cX8_runScript 25 = .ok (.istore 6, 2) := by decide +kernel
theorem dX8_runScript_27 : decode cX8_runScript 27 = .ok (.iload 6, 2) := by decide +kernel
theorem dX8_runScript_29 : decode cX8_runScript 29 = .ok (.iload_n 1, 1) := by decide +kernel
theorem dX8_runScript_30 : decode cX8_runScript 30 = .ok (.if_icmp .ge 17, 3) := by decide +kernel
theorem dX8_runScript_33 : decode cX8_runScript 33 = .ok (.lload 4, 2) := by decide +kernel
theorem dX8_runScript_35 : decode cX8_runScript 35 = .ok (.ldc2_w 312, 3) := by decide +kernel
theorem dX8_runScript_38 : decode cX8_runScript 38 = .ok (.lmul, 1) := by decide +kernel
theorem dX8_runScript_39 : decode cX8_runScript 39 = .ok (.lstore 4, 2) := by decide +kernel
theorem dX8_runScript_41 : decode cX8_runScript 41 = .ok (.iinc 6 1, 3) := by decide +kernel
theorem dX8_runScript_44 : decode cX8_runScript 44 = .ok (.goto (-17), 3) := by decide +kernel
theorem dX8_runScript_47 : decode cX8_runScript 47 = .ok (.lload_n 2, 1) := by decide +kernel
theorem dX8_runScript_48 : decode cX8_runScript 48 = .ok (.lconst 0, 1) := by decide +kernel
theorem dX8_runScript_49 : decode cX8_runScript 49 = .ok (.lcmp, 1) := by decide +kernel
theorem dX8_runScript_50 : decode cX8_runScript 50 = .ok (.ifCond .lt 10, 3) := by decide +kernel
theorem dX8_runScript_53 : decode cX8_runScript 53 = .ok (.lload_n 2, 1) := by decide +kernel
theorem dX8_runScript_54 : decode cX8_runScript 54 = .ok (.lload 4, 2) := by decide +kernel
theorem dX8_runScript_56 : decode cX8_runScript 56 = .ok (.lcmp, 1) := by decide +kernel
theorem dX8_runScript_57 : decode cX8_runScript 57 = .ok (.ifCond .lt 14, 3) := by decide +kernel
theorem dX8_runScript_60 : decode cX8_runScript 60 = .ok (.new 65, 3) := by decide +kernel
theorem dX8_runScript_63 : decode cX8_runScript 63 = .ok (.dup, 1) := by decide +kernel
theorem dX8_runScript_64 : decode cX8_runScript 64 = .ok (.ldc_w 314, 3) := by decide +kernel
theorem dX8_runScript_67 : decode cX8_runScript 67 = .ok (.invokespecial 69, 3) := by decide +kernel
theorem dX8_runScript_70 : decode cX8_runScript 70 = .ok (.athrow, 1) := by decide +kernel
theorem dX8_runScript_71 : decode cX8_runScript 71 = .ok (.lload_n 2, 1) := by decide +kernel
theorem dX8_runScript_72 : decode cX8_runScript 72 = .ok (.lstore 6, 2) := by decide +kernel
theorem dX8_runScript_74 : decode cX8_runScript 74 = .ok (.iload_n 1, 1) := by decide +kernel
theorem dX8_runScript_75 : decode cX8_runScript 75 = .ok (.istore 8, 2) := by decide +kernel
theorem dX8_runScript_77 : decode cX8_runScript 77 = .ok (.iload 8, 2) := by decide +kernel
theorem dX8_runScript_79 : decode cX8_runScript 79 = .ok (.iconst 4, 1) := by decide +kernel
theorem dX8_runScript_80 : decode cX8_runScript 80 = .ok (.if_icmp .ge 17, 3) := by decide +kernel
theorem dX8_runScript_83 : decode cX8_runScript 83 = .ok (.lload 6, 2) := by decide +kernel
theorem dX8_runScript_85 : decode cX8_runScript 85 = .ok (.ldc2_w 312, 3) := by decide +kernel
theorem dX8_runScript_88 : decode cX8_runScript 88 = .ok (.lmul, 1) := by decide +kernel
theorem dX8_runScript_89 : decode cX8_runScript 89 = .ok (.lstore 6, 2) := by decide +kernel
theorem dX8_runScript_91 : decode cX8_runScript 91 = .ok (.iinc 8 1, 3) := by decide +kernel
theorem dX8_runScript_94 : decode cX8_runScript 94 = .ok (.goto (-17), 3) := by decide +kernel
theorem dX8_runScript_97 : decode cX8_runScript 97 = .ok (.aload_n 0, 1) := by decide +kernel
theorem dX8_runScript_98 : decode cX8_runScript 98 = .ok (.getfield 23, 3) := by decide +kernel
theorem dX8_runScript_101 : decode cX8_runScript 101 = .ok (.aload_n 0, 1) := by decide +kernel
theorem dX8_runScript_102 : decode cX8_runScript 102 = .ok (.getfield 19, 3) := by decide +kernel
theorem dX8_runScript_105 : decode cX8_runScript 105 = .ok (.invokevirtual 99, 3) := by decide +kernel
theorem dX8_runScript_108 : decode cX8_runScript 108 = .ok (.iconst 0, 1) := by decide +kernel
theorem dX8_runScript_109 : decode cX8_runScript 109 = .ok (.istore 8, 2) := by decide +kernel
theorem dX8_runScript_111 : decode cX8_runScript 111 = .ok (.iload 8, 2) := by decide +kernel
theorem dX8_runScript_113 : decode cX8_runScript 113 = .ok (.iload_n 1, 1) := by decide +kernel
theorem dX8_runScript_114 : decode cX8_runScript 114 = .ok (.if_icmp .ge 38, 3) := by decide +kernel
theorem dX8_runScript_117 : decode cX8_runScript 117 = .ok (.aload_n 0, 1) := by decide +kernel
theorem dX8_runScript_118 : decode cX8_runScript 118 = .ok (.lload 6, 2) := by decide +kernel
theorem dX8_runScript_120 : decode cX8_runScript 120 = .ok (.ldc2_w 316, 3) := by decide +kernel
theorem dX8_runScript_123 : decode cX8_runScript 123 = .ok (.ldiv, 1) := by decide +kernel
theorem dX8_runScript_124 : decode cX8_runScript 124 = .ok (.l2i, 1) := by decide +kernel
theorem dX8_runScript_125 : decode cX8_runScript 125 = .ok (.invokevirtual 318, 3) := by decide +kernel
theorem dX8_runScript_128 : decode cX8_runScript 128 = .ok (.ifCond .ne 6, 3) := by decide +kernel
theorem dX8_runScript_131 : decode cX8_runScript 131 = .ok (.iload 8, 2) := by decide +kernel
theorem dX8_runScript_133 : decode cX8_runScript 133 = .ok (.ireturn, 1) := by decide +kernel
theorem dX8_runScript_134 : decode cX8_runScript 134 = .ok (.lload 6, 2) := by decide +kernel
theorem dX8_runScript_136 : decode cX8_runScript 136 = .ok (.ldc2_w 316, 3) := by decide +kernel
theorem dX8_runScript_139 : decode cX8_runScript 139 = .ok (.lrem, 1) := by decide +kernel
theorem dX8_runScript_140 : decode cX8_runScript 140 = .ok (.ldc2_w 312, 3) := by decide +kernel
theorem dX8_runScript_143 : decode cX8_runScript 143 = .ok (.lmul, 1) := by decide +kernel
theorem dX8_runScript_144 : decode cX8_runScript 144 = .ok (.lstore 6, 2) := by decide +kernel
theorem dX8_runScript_146 : decode cX8_runScript 146 = .ok (.iinc 8 1, 3) := by decide +kernel
theorem dX8_runScript_149 : decode cX8_runScript 149 = .ok (.goto (-38), 3) := by decide +kernel
theorem dX8_runScript_152 : decode cX8_runScript 152 = .ok (.bipush (-9), 2) := by decide +kernel
theorem dX8_runScript_154 : decode cX8_runScript 154 = .ok (.ireturn, 1) := by decide +kernel
theorem dX8_simulate_0 : decode cX8_simulate 0 = .ok (.iload_n 3, 1) := by decide +kernel
theorem dX8_simulate_1 : decode cX8_simulate 1 = .ok (.iconst 1, 1) := by decide +kernel
theorem dX8_simulate_2 : decode cX8_simulate 2 = .ok (.if_icmp .lt 9, 3) := by decide +kernel
theorem dX8_simulate_5 : decode cX8_simulate 5 = .ok (.iload_n 3, 1) := by decide +kernel
theorem dX8_simulate_6 : decode cX8_simulate 6 = .ok (.bipush 100, 2) := by decide +kernel
theorem dX8_simulate_8 : decode cX8_simulate 8 = .ok (.if_icmp .le 14, 3) := by decide +kernel
theorem dX8_simulate_11 : decode cX8_simulate 11 = .ok (.new 65, 3) := by decide +kernel
theorem dX8_simulate_14 : decode cX8_simulate 14 = .ok (.dup, 1) := by decide +kernel
theorem dX8_simulate_15 : decode cX8_simulate 15 = .ok (.ldc_w 321, 3) := by decide +kernel
theorem dX8_simulate_18 : decode cX8_simulate 18 = .ok (.invokespecial 69, 3) := by decide +kernel
theorem dX8_simulate_21 : decode cX8_simulate 21 = .ok (.athrow, 1) := by decide +kernel
theorem dX8_simulate_22 : decode cX8_simulate 22 = .ok (.aload_n 0, 1) := by decide +kernel
theorem dX8_simulate_23 : decode cX8_simulate 23 = .ok (.getfield 23, 3) := by decide +kernel
theorem dX8_simulate_26 : decode cX8_simulate 26 = .ok (.aload_n 0, 1) := by decide +kernel
theorem dX8_simulate_27 : decode cX8_simulate 27 = .ok (.getfield 19, 3) := by decide +kernel
theorem dX8_simulate_30 : decode cX8_simulate 30 = .ok (.invokevirtual 99, 3) := by decide +kernel
theorem dX8_simulate_33 : decode cX8_simulate 33 = .ok (.lload_n 1, 1) := by decide +kernel
theorem dX8_simulate_34 : decode cX8_simulate 34 = .ok (.lstore 4, 2) := by decide +kernel
theorem dX8_simulate_36 : decode cX8_simulate 36 = .ok (.lconst 0, 1) := by decide +kernel
theorem dX8_simulate_37 : decode cX8_simulate 37 = .ok (.lstore 6, 2) := by decide +kernel
theorem dX8_simulate_39 : decode cX8_simulate 39 = .ok (.iconst 0, 1) := by decide +kernel
theorem dX8_simulate_40 : decode cX8_simulate 40 = .ok (.istore 8, 2) := by decide +kernel
theorem dX8_simulate_42 : decode cX8_simulate 42 = .ok (.iload 8, 2) := by decide +kernel
theorem dX8_simulate_44 : decode cX8_simulate 44 = .ok (.iload_n 3, 1) := by decide +kernel
theorem dX8_simulate_45 : decode cX8_simulate 45 = .ok (.if_icmp .ge 142, 3) := by decide +kernel
theorem dX8_simulate_48 : decode cX8_simulate 48 = .ok (.lload 4, 2) := by decide +kernel
theorem dX8_simulate_50 : decode cX8_simulate 50 = .ok (.ldc2_w 323, 3) := by decide +kernel
theorem dX8_simulate_53 : decode cX8_simulate 53 = .ok (.lmul, 1) := by decide +kernel
theorem dX8_simulate_54 : decode cX8_simulate 54 = .ok (.ldc2_w 325, 3) := by decide +kernel
theorem dX8_simulate_57 : decode cX8_simulate 57 = .ok (.ladd, 1) := by decide +kernel
theorem dX8_simulate_58 : decode cX8_simulate 58 = .ok (.lstore 4, 2) := by decide +kernel
theorem dX8_simulate_60 : decode cX8_simulate 60 = .ok (.lload 4, 2) := by decide +kernel
theorem dX8_simulate_62 : decode cX8_simulate 62 = .ok (.bipush 33, 2) := by decide +kernel
theorem dX8_simulate_64 : decode cX8_simulate 64 = .ok (.lushr, 1) := by decide +kernel
theorem dX8_simulate_65 : decode cX8_simulate 65 = .ok (.l2i, 1) := by decide +kernel
theorem dX8_simulate_66 : decode cX8_simulate 66 = .ok (.istore 9, 2) := by decide +kernel
theorem dX8_simulate_68 : decode cX8_simulate 68 = .ok (.iload 9, 2) := by decide +kernel
theorem dX8_simulate_70 : decode cX8_simulate 70 = .ok (.bipush 32, 2) := by decide +kernel
theorem dX8_simulate_72 : decode cX8_simulate 72 = .ok (.idiv, 1) := by decide +kernel
theorem dX8_simulate_73 : decode cX8_simulate 73 = .ok (.iconst 2, 1) := by decide +kernel
theorem dX8_simulate_74 : decode cX8_simulate 74 = .ok (.aload_n 0, 1) := by decide +kernel
theorem dX8_simulate_75 : decode cX8_simulate 75 = .ok (.getfield 23, 3) := by decide +kernel
theorem dX8_simulate_78 : decode cX8_simulate 78 = .ok (.getfield 112, 3) := by decide +kernel
theorem dX8_simulate_81 : decode cX8_simulate 81 = .ok (.imul, 1) := by decide +kernel
theorem dX8_simulate_82 : decode cX8_simulate 82 = .ok (.iconst 1, 1) := by decide +kernel
theorem dX8_simulate_83 : decode cX8_simulate 83 = .ok (.iadd, 1) := by decide +kernel
theorem dX8_simulate_84 : decode cX8_simulate 84 = .ok (.invokestatic 327, 3) := by decide +kernel
theorem dX8_simulate_87 : decode cX8_simulate 87 = .ok (.aload_n 0, 1) := by decide +kernel
theorem dX8_simulate_88 : decode cX8_simulate 88 = .ok (.getfield 23, 3) := by decide +kernel
theorem dX8_simulate_91 : decode cX8_simulate 91 = .ok (.getfield 112, 3) := by decide +kernel
theorem dX8_simulate_94 : decode cX8_simulate 94 = .ok (.isub, 1) := by decide +kernel
theorem dX8_simulate_95 : decode cX8_simulate 95 = .ok (.istore 10, 2) := by decide +kernel
theorem dX8_simulate_97 : decode cX8_simulate 97 = .ok (.aload_n 0, 1) := by decide +kernel
theorem dX8_simulate_98 : decode cX8_simulate 98 = .ok (.getfield 50, 3) := by decide +kernel
theorem dX8_simulate_101 : decode cX8_simulate 101 = .ok (.aload_n 0, 1) := by decide +kernel
theorem dX8_simulate_102 : decode cX8_simulate 102 = .ok (.getfield 10, 3) := by decide +kernel
theorem dX8_simulate_105 : decode cX8_simulate 105 = .ok (.aload_n 0, 1) := by decide +kernel
theorem dX8_simulate_106 : decode cX8_simulate 106 = .ok (.getfield 23, 3) := by decide +kernel
theorem dX8_simulate_109 : decode cX8_simulate 109 = .ok (.iload 9, 2) := by decide +kernel
theorem dX8_simulate_111 : decode cX8_simulate 111 = .ok (.bipush 21, 2) := by decide +kernel
theorem dX8_simulate_113 : decode cX8_simulate 113 = .ok (.irem, 1) := by decide +kernel
theorem dX8_simulate_114 : decode cX8_simulate 114 = .ok (.bipush 10, 2) := by decide +kernel
theorem dX8_simulate_116 : decode cX8_simulate 116 = .ok (.isub, 1) := by decide +kernel
theorem dX8_simulate_117 : decode cX8_simulate 117 = .ok (.iload 10, 2) := by decide +kernel
theorem dX8_simulate_119 : decode cX8_simulate 119 = .ok (.invokevirtual 229, 3) := by decide +kernel
theorem dX8_simulate_122 : decode cX8_simulate 122 = .ok (.iload 9, 2) := by decide +kernel
theorem dX8_simulate_124 : decode cX8_simulate 124 = .ok (.sipush 8192, 3) := by decide +kernel
theorem dX8_simulate_127 : decode cX8_simulate 127 = .ok (.idiv, 1) := by decide +kernel
theorem dX8_simulate_128 : decode cX8_simulate 128 = .ok (.iconst 4, 1) := by decide +kernel
theorem dX8_simulate_129 : decode cX8_simulate 129 = .ok (.irem, 1) := by decide +kernel
theorem dX8_simulate_130 : decode cX8_simulate 130 = .ok (.ifCond .eq 34, 3) := by decide +kernel
theorem dX8_simulate_133 : decode cX8_simulate 133 = .ok (.aload_n 0, 1) := by decide +kernel
theorem dX8_simulate_134 : decode cX8_simulate 134 = .ok (.getfield 50, 3) := by decide +kernel
theorem dX8_simulate_137 : decode cX8_simulate 137 = .ok (.aload_n 0, 1) := by decide +kernel
theorem dX8_simulate_138 : decode cX8_simulate 138 = .ok (.getfield 10, 3) := by decide +kernel
theorem dX8_simulate_141 : decode cX8_simulate 141 = .ok (.aload_n 0, 1) := by decide +kernel
theorem dX8_simulate_142 : decode cX8_simulate 142 = .ok (.getfield 23, 3) := by decide +kernel
theorem dX8_simulate_145 : decode cX8_simulate 145 = .ok (.iload 9, 2) := by decide +kernel
theorem dX8_simulate_147 : decode cX8_simulate 147 = .ok (.ldc_w 330, 3) := by decide +kernel
theorem dX8_simulate_150 : decode cX8_simulate 150 = .ok (.idiv, 1) := by decide +kernel
theorem dX8_simulate_151 : decode cX8_simulate 151 = .ok (.aload_n 0, 1) := by decide +kernel
theorem dX8_simulate_152 : decode cX8_simulate 152 = .ok (.getfield 10, 3) := by decide +kernel
theorem dX8_simulate_155 : decode cX8_simulate 155 = .ok (.getfield 109, 3) := by decide +kernel
theorem dX8_simulate_158 : decode cX8_simulate 158 = .ok (.invokestatic 327, 3) := by decide +kernel
theorem dX8_simulate_161 : decode cX8_simulate 161 = .ok (.invokevirtual 233, 3) := by decide +kernel
theorem dX8_simulate_164 : decode cX8_simulate 164 = .ok (.lload 6, 2) := by decide +kernel
theorem dX8_simulate_166 : decode cX8_simulate 166 = .ok (.aload_n 0, 1) := by decide +kernel
theorem dX8_simulate_167 : decode cX8_simulate 167 = .ok (.getfield 10, 3) := by decide +kernel
theorem dX8_simulate_170 : decode cX8_simulate 170 = .ok (.aload_n 0, 1) := by decide +kernel
theorem dX8_simulate_171 : decode cX8_simulate 171 = .ok (.getfield 23, 3) := by decide +kernel
theorem dX8_simulate_174 : decode cX8_simulate 174 = .ok (.invokevirtual 207, 3) := by decide +kernel
theorem dX8_simulate_177 : decode cX8_simulate 177 = .ok (.i2l, 1) := by decide +kernel
theorem dX8_simulate_178 : decode cX8_simulate 178 = .ok (.ladd, 1) := by decide +kernel
theorem dX8_simulate_179 : decode cX8_simulate 179 = .ok (.lstore 6, 2) := by decide +kernel
theorem dX8_simulate_181 : decode cX8_simulate 181 = .ok (.iinc 8 1, 3) := by decide +kernel
theorem dX8_simulate_184 : decode cX8_simulate 184 = .ok (.goto (-142), 3) := by decide +kernel
theorem dX8_simulate_187 : decode cX8_simulate 187 = .ok (.lload 6, 2) := by decide +kernel
theorem dX8_simulate_189 : decode cX8_simulate 189 = .ok (.lreturn, 1) := by decide +kernel
theorem dX8_save_0 : decode cX8_save 0 = .ok (.iload_n 1, 1) := by decide +kernel
theorem dX8_save_1 : decode cX8_save 1 = .ok (.ifCond .lt 8, 3) := by decide +kernel
theorem dX8_save_4 : decode cX8_save 4 = .ok (.iload_n 1, 1) := by decide +kernel
theorem dX8_save_5 : decode cX8_save 5 = .ok (.iconst 2, 1) := by decide +kernel
theorem dX8_save_6 : decode cX8_save 6 = .ok (.if_icmp .lt 14, 3) := by decide +kernel
theorem dX8_save_9 : decode cX8_save 9 = .ok (.new 132, 3) := by decide +kernel
theorem dX8_save_12 : decode cX8_save 12 = .ok (.dup, 1) := by decide +kernel
theorem dX8_save_13 : decode cX8_save 13 = .ok (.ldc_w 331, 3) := by decide +kernel
theorem dX8_save_16 : decode cX8_save 16 = .ok (.invokespecial 136, 3) := by decide +kernel
theorem dX8_save_19 : decode cX8_save 19 = .ok (.athrow, 1) := by decide +kernel
theorem dX8_save_20 : decode cX8_save 20 = .ok (.aload_n 0, 1) := by decide +kernel
theorem dX8_save_21 : decode cX8_save 21 = .ok (.getfield 36, 3) := by decide +kernel
theorem dX8_save_24 : decode cX8_save 24 = .ok (.getfield 333, 3) := by decide +kernel
theorem dX8_save_27 : decode cX8_save 27 = .ok (.iload_n 1, 1) := by decide +kernel
theorem dX8_save_28 : decode cX8_save 28 = .ok (.aaload, 1) := by decide +kernel
theorem dX8_save_29 : decode cX8_save 29 = .ok (.aload_n 0, 1) := by decide +kernel
theorem dX8_save_30 : decode cX8_save 30 = .ok (.getfield 19, 3) := by decide +kernel
theorem dX8_save_33 : decode cX8_save 33 = .ok (.invokevirtual 99, 3) := by decide +kernel
theorem dX8_save_36 : decode cX8_save 36 = .ok (.aload_n 0, 1) := by decide +kernel
theorem dX8_save_37 : decode cX8_save 37 = .ok (.getfield 36, 3) := by decide +kernel
theorem dX8_save_40 : decode cX8_save 40 = .ok (.getfield 337, 3) := by decide +kernel
theorem dX8_save_43 : decode cX8_save 43 = .ok (.iload_n 1, 1) := by decide +kernel
theorem dX8_save_44 : decode cX8_save 44 = .ok (.iconst 1, 1) := by decide +kernel
theorem dX8_save_45 : decode cX8_save 45 = .ok (.bastore, 1) := by decide +kernel
theorem dX8_save_46 : decode cX8_save 46 = .ok (.aload_n 0, 1) := by decide +kernel
theorem dX8_save_47 : decode cX8_save 47 = .ok (.getfield 19, 3) := by decide +kernel
theorem dX8_save_50 : decode cX8_save 50 = .ok (.getfield 118, 3) := by decide +kernel
theorem dX8_save_53 : decode cX8_save 53 = .ok (.ireturn, 1) := by decide +kernel
theorem dX8_restore_0 : decode cX8_restore 0 = .ok (.iload_n 1, 1) := by decide +kernel
theorem dX8_restore_1 : decode cX8_restore 1 = .ok (.ifCond .lt 8, 3) := by decide +kernel
theorem dX8_restore_4 : decode cX8_restore 4 = .ok (.iload_n 1, 1) := by decide +kernel
theorem dX8_restore_5 : decode cX8_restore 5 = .ok (.iconst 2, 1) := by decide +kernel
theorem dX8_restore_6 : decode cX8_restore 6 = .ok (.if_icmp .lt 14, 3) := by decide +kernel
theorem dX8_restore_9 : decode cX8_restore 9 = .ok (.new 132, 3) := by decide +kernel
theorem dX8_restore_12 : decode cX8_restore 12 = .ok (.dup, 1) := by decide +kernel
theorem dX8_restore_13 : decode cX8_restore 13 = .ok (.ldc_w 331, 3) := by decide +kernel
theorem dX8_restore_16 : decode cX8_restore 16 = .ok (.invokespecial 136, 3) := by decide +kernel
theorem dX8_restore_19 : decode cX8_restore 19 = .ok (.athrow, 1) := by decide +kernel
theorem dX8_restore_20 : decode cX8_restore 20 = .ok (.aload_n 0, 1) := by decide +kernel
theorem dX8_restore_21 : decode cX8_restore 21 = .ok (.getfield 36, 3) := by decide +kernel
theorem dX8_restore_24 : decode cX8_restore 24 = .ok (.getfield 337, 3) := by decide +kernel
theorem dX8_restore_27 : decode cX8_restore 27 = .ok (.iload_n 1, 1) := by decide +kernel
theorem dX8_restore_28 : decode cX8_restore 28 = .ok (.baload, 1) := by decide +kernel
theorem dX8_restore_29 : decode cX8_restore 29 = .ok (.ifCond .ne 14, 3) := by decide +kernel
theorem dX8_restore_32 : decode cX8_restore 32 = .ok (.new 76, 3) := by decide +kernel
theorem dX8_restore_35 : decode cX8_restore 35 = .ok (.dup, 1) := by decide +kernel
theorem dX8_restore_36 : decode cX8_restore 36 = .ok (.ldc_w 341, 3) := by decide +kernel
theorem dX8_restore_39 : decode cX8_restore 39 = .ok (.invokespecial 80, 3) := by decide +kernel
theorem dX8_restore_42 : decode cX8_restore 42 = .ok (.athrow, 1) := by decide +kernel
theorem dX8_restore_43 : decode cX8_restore 43 = .ok (.aload_n 0, 1) := by decide +kernel
theorem dX8_restore_44 : decode cX8_restore 44 = .ok (.getfield 19, 3) := by decide +kernel
theorem dX8_restore_47 : decode cX8_restore 47 = .ok (.aload_n 0, 1) := by decide +kernel
theorem dX8_restore_48 : decode cX8_restore 48 = .ok (.getfield 36, 3) := by decide +kernel
theorem dX8_restore_51 : decode cX8_restore 51 = .ok (.getfield 333, 3) := by decide +kernel
theorem dX8_restore_54 : decode cX8_restore 54 = .ok (.iload_n 1, 1) := by decide +kernel
theorem dX8_restore_55 : decode cX8_restore 55 = .ok (.aaload, 1) := by decide +kernel
theorem dX8_restore_56 : decode cX8_restore 56 = .ok (.invokevirtual 99, 3) := by decide +kernel
theorem dX8_restore_59 : decode cX8_restore 59 = .ok (.aload_n 0, 1) := by decide +kernel
theorem dX8_restore_60 : decode cX8_restore 60 = .ok (.getfield 29, 3) := by decide +kernel
theorem dX8_restore_63 : decode cX8_restore 63 = .ok (.invokevirtual 102, 3) := by decide +kernel
theorem dX8_restore_66 : decode cX8_restore 66 = .ok (.aload_n 0, 1) := by decide +kernel
theorem dX8_restore_67 : decode cX8_restore 67 = .ok (.getfield 19, 3) := by decide +kernel
theorem dX8_restore_70 : decode cX8_restore 70 = .ok (.getfield 118, 3) := by decide +kernel
theorem dX8_restore_73 : decode cX8_restore 73 = .ok (.ireturn, 1) := by decide +kernel
theorem dX8_isState_0 : decode cX8_isState 0 = .ok (.iload_n 1, 1) := by decide +kernel
theorem dX8_isState_1 : decode cX8_isState 1 = .ok (.ifCond .lt 18, 3) := by decide +kernel
theorem dX8_isState_4 : decode cX8_isState 4 = .ok (.iload_n 1, 1) := by decide +kernel
theorem dX8_isState_5 : decode cX8_isState 5 = .ok (.aload_n 0, 1) := by decide +kernel
theorem dX8_isState_6 : decode cX8_isState 6 = .ok (.getfield 10, 3) := by decide +kernel
theorem dX8_isState_9 : decode cX8_isState 9 = .ok (.getfield 106, 3) := by decide +kernel
theorem dX8_isState_12 : decode cX8_isState 12 = .ok (.if_icmp .ge 7, 3) := by decide +kernel
theorem dX8_isState_15 : decode cX8_isState 15 = .ok (.iconst 1, 1) := by decide +kernel
theorem dX8_isState_16 : decode cX8_isState 16 = .ok (.goto 4, 3) := by decide +kernel
theorem dX8_isState_19 : decode cX8_isState 19 = .ok (.iconst 0, 1) := by decide +kernel
theorem dX8_isState_20 : decode cX8_isState 20 = .ok (.ireturn, 1) := by decide +kernel
theorem dX8_isOutput_0 : decode cX8_isOutput 0 = .ok (.iload_n 1, 1) := by decide +kernel
theorem dX8_isOutput_1 : decode cX8_isOutput 1 = .ok (.ifCond .lt 18, 3) := by decide +kernel
theorem dX8_isOutput_4 : decode cX8_isOutput 4 = .ok (.iload_n 1, 1) := by decide +kernel
theorem dX8_isOutput_5 : decode cX8_isOutput 5 = .ok (.aload_n 0, 1) := by decide +kernel
theorem dX8_isOutput_6 : decode cX8_isOutput 6 = .ok (.getfield 10, 3) := by decide +kernel
theorem dX8_isOutput_9 : decode cX8_isOutput 9 = .ok (.getfield 109, 3) := by decide +kernel
theorem dX8_isOutput_12 : decode cX8_isOutput 12 = .ok (.if_icmp .ge 7, 3) := by decide +kernel
theorem dX8_isOutput_15 : decode cX8_isOutput 15 = .ok (.iconst 1, 1) := by decide +kernel
theorem dX8_isOutput_16 : decode cX8_isOutput 16 = .ok (.goto 4, 3) := by decide +kernel
theorem dX8_isOutput_19 : decode cX8_isOutput 19 = .ok (.iconst 0, 1) := by decide +kernel
theorem dX8_isOutput_20 : decode cX8_isOutput 20 = .ok (.ireturn, 1) := by decide +kernel
theorem dX8_isFactor_0 : decode cX8_isFactor 0 = .ok (.iload_n 0, 1) := by decide +kernel
theorem dX8_isFactor_1 : decode cX8_isFactor 1 = .ok (.bipush (-99), 2) := by decide +kernel
theorem dX8_isFactor_3 : decode cX8_isFactor 3 = .ok (.if_icmp .lt 13, 3) := by decide +kernel
theorem dX8_isFactor_6 : decode cX8_isFactor 6 = .ok (.iload_n 0, 1) := by decide +kernel
theorem dX8_isFactor_7 : decode cX8_isFactor 7 = .ok (.bipush 99, 2) := by decide +kernel
theorem dX8_isFactor_9 : decode cX8_isFactor 9 = .ok (.if_icmp .gt 7, 3) := by decide +kernel
theorem dX8_isFactor_12 : decode cX8_isFactor 12 = .ok (.iconst 1, 1) := by decide +kernel
theorem dX8_isFactor_13 : decode cX8_isFactor 13 = .ok (.goto 4, 3) := by decide +kernel
theorem dX8_isFactor_16 : decode cX8_isFactor 16 = .ok (.iconst 0, 1) := by decide +kernel
theorem dX8_isFactor_17 : decode cX8_isFactor 17 = .ok (.ireturn, 1) := by decide +kernel
theorem dX8_columnsOf_0 : decode cX8_columnsOf 0 = .ok (.iload_n 1, 1) := by decide +kernel
theorem dX8_columnsOf_1 : decode cX8_columnsOf 1 = .ok (.ifCond .eq 8, 3) := by decide +kernel
theorem dX8_columnsOf_4 : decode cX8_columnsOf 4 = .ok (.iload_n 1, 1) := by decide +kernel
theorem dX8_columnsOf_5 : decode cX8_columnsOf 5 = .ok (.iconst 3, 1) := by decide +kernel
theorem dX8_columnsOf_6 : decode cX8_columnsOf 6 = .ok (.if_icmp .ne 11, 3) := by decide +kernel
theorem dX8_columnsOf_9 : decode cX8_columnsOf 9 = .ok (.aload_n 0, 1) := by decide +kernel
theorem dX8_columnsOf_10 : decode cX8_columnsOf 10 = .ok (.getfield 10, 3) := by decide +kernel
theorem dX8_columnsOf_13 : decode cX8_columnsOf 13 = .ok (.getfield 106, 3) := by decide +kernel
theorem dX8_columnsOf_16 : decode cX8_columnsOf 16 = .ok (.ireturn, 1) := by decide +kernel
theorem dX8_columnsOf_17 : decode cX8_columnsOf 17 = .ok (.iload_n 1, 1) := by decide +kernel
theorem dX8_columnsOf_18 : decode cX8_columnsOf 18 = .ok (.iconst 5, 1) := by decide +kernel
theorem dX8_columnsOf_19 : decode cX8_columnsOf 19 = .ok (.if_icmp .ne 13, 3) := by decide +kernel
theorem dX8_columnsOf_22 : decode cX8_columnsOf 22 = .ok (.aload_n 0, 1) := by decide +kernel
theorem dX8_columnsOf_23 : decode cX8_columnsOf 23 = .ok (.getfield 10, 3) := by decide +kernel
theorem dX8_columnsOf_26 : decode cX8_columnsOf 26 = .ok (.getfield 109, 3) := by decide +kernel
theorem dX8_columnsOf_29 : decode cX8_columnsOf 29 = .ok (.goto 4, 3) := by decide +kernel
theorem dX8_columnsOf_32 : decode cX8_columnsOf 32 = .ok (.iconst 1, 1) := by decide +kernel
theorem dX8_columnsOf_33 : decode cX8_columnsOf 33 = .ok (.ireturn, 1) := by decide +kernel
theorem dX8_cannotHave_0 : decode cX8_cannotHave 0 = .ok (.aload_n 0, 1) := by decide +kernel
theorem dX8_cannotHave_1 : decode cX8_cannotHave 1 = .ok (.getfield 23, 3) := by decide +kernel
theorem dX8_cannotHave_4 : decode cX8_cannotHave 4 = .ok (.aload_n 0, 1) := by decide +kernel
theorem dX8_cannotHave_5 : decode cX8_cannotHave 5 = .ok (.getfield 19, 3) := by decide +kernel
theorem dX8_cannotHave_8 : decode cX8_cannotHave 8 = .ok (.invokevirtual 99, 3) := by decide +kernel
theorem dX8_cannotHave_11 : decode cX8_cannotHave 11 = .ok (.aload_n 0, 1) := by decide +kernel
theorem dX8_cannotHave_12 : decode cX8_cannotHave 12 = .ok (.getfield 23, 3) := by decide +kernel
theorem dX8_cannotHave_15 : decode cX8_cannotHave 15 = .ok (.getfield 167, 3) := by decide +kernel
theorem dX8_cannotHave_18 : decode cX8_cannotHave 18 = .ok (.iload_n 1, 1) := by decide +kernel
theorem dX8_cannotHave_19 : decode cX8_cannotHave 19 = .ok (.iload_n 2, 1) := by decide +kernel
theorem dX8_cannotHave_20 : decode cX8_cannotHave 20 = .ok (.iastore, 1) := by decide +kernel
theorem dX8_cannotHave_21 : decode cX8_cannotHave 21 = .ok (.aload_n 0, 1) := by decide +kernel
theorem dX8_cannotHave_22 : decode cX8_cannotHave 22 = .ok (.getfield 23, 3) := by decide +kernel
theorem dX8_cannotHave_25 : decode cX8_cannotHave 25 = .ok (.getfield 170, 3) := by decide +kernel
theorem dX8_cannotHave_28 : decode cX8_cannotHave 28 = .ok (.iload_n 1, 1) := by decide +kernel
theorem dX8_cannotHave_29 : decode cX8_cannotHave 29 = .ok (.iload_n 2, 1) := by decide +kernel
theorem dX8_cannotHave_30 : decode cX8_cannotHave 30 = .ok (.iastore, 1) := by decide +kernel
theorem dX8_cannotHave_31 : decode cX8_cannotHave 31 = .ok (.aload_n 0, 1) := by decide +kernel
theorem dX8_cannotHave_32 : decode cX8_cannotHave 32 = .ok (.getfield 50, 3) := by decide +kernel
theorem dX8_cannotHave_35 : decode cX8_cannotHave 35 = .ok (.aload_n 0, 1) := by decide +kernel
theorem dX8_cannotHave_36 : decode cX8_cannotHave 36 = .ok (.getfield 10, 3) := by decide +kernel
theorem dX8_cannotHave_39 : decode cX8_cannotHave 39 = .ok (.aload_n 0, 1) := by decide +kernel
theorem dX8_cannotHave_40 : decode cX8_cannotHave 40 = .ok (.getfield 23, 3) := by decide +kernel
theorem dX8_cannotHave_43 : decode cX8_cannotHave 43 = .ok (.invokevirtual 265, 3) := by decide +kernel
theorem dX8_cannotHave_46 : decode cX8_cannotHave 46 = .ok (.ifCond .ne 7, 3) := by decide +kernel
theorem dX8_cannotHave_49 : decode cX8_cannotHave 49 = .ok (.iconst 1, 1) := by decide +kernel
theorem dX8_cannotHave_50 : decode cX8_cannotHave 50 = .ok (.goto 4, 3) := by decide +kernel
theorem dX8_cannotHave_53 : decode cX8_cannotHave 53 = .ok (.iconst 0, 1) := by decide +kernel
theorem dX8_cannotHave_54 : decode cX8_cannotHave 54 = .ok (.ireturn, 1) := by decide +kernel
theorem dX8_succeeds_0 : decode cX8_succeeds 0 = .ok (.iload_n 1, 1) := by decide +kernel
theorem dX8_succeeds_1 : decode cX8_succeeds 1 = .ok (.bipush 100, 2) := by decide +kernel
theorem dX8_succeeds_3 : decode cX8_succeeds 3 = .ok (.idiv, 1) := by decide +kernel
theorem dX8_succeeds_4 : decode cX8_succeeds 4 = .ok (.bipush 10, 2) := by decide +kernel
theorem dX8_succeeds_6 : decode cX8_succeeds 6 = .ok (.irem, 1) := by decide +kernel
theorem dX8_succeeds_7 : decode cX8_succeeds 7 = .ok (.istore_n 2, 1) := by decide +kernel
theorem dX8_succeeds_8 : decode cX8_succeeds 8 = .ok (.iload_n 1, 1) := by decide +kernel
theorem dX8_succeeds_9 : decode cX8_succeeds 9 = .ok (.bipush 100, 2) := by decide +kernel
theorem dX8_succeeds_11 : decode cX8_succeeds 11 = .ok (.irem, 1) := by decide +kernel
theorem dX8_succeeds_12 : decode cX8_succeeds 12 = .ok (.istore_n 3, 1) := by decide +kernel
theorem dX8_succeeds_13 : decode cX8_succeeds 13 = .ok (.iload_n 1, 1) := by decide +kernel
theorem dX8_succeeds_14 : decode cX8_succeeds 14 = .ok (.sipush 1000, 3) := by decide +kernel
theorem dX8_succeeds_17 : decode cX8_succeeds 17 = .ok (.idiv, 1) := by decide +kernel
theorem dX8_succeeds_18 : decode cX8_succeeds 18 = .ok (.tableswitch 232 1 7 #[42, 59, 76, 108, 145, 172, 205], 42) := by decide +kernel
theorem dX8_succeeds_60 : decode cX8_succeeds 60 = .ok (.aload_n 0, 1) := by decide +kernel
theorem dX8_succeeds_61 : decode cX8_succeeds 61 = .ok (.iload_n 1, 1) := by decide +kernel
theorem dX8_succeeds_62 : decode cX8_succeeds 62 = .ok (.bipush 10, 2) := by decide +kernel
theorem dX8_succeeds_64 : decode cX8_succeeds 64 = .ok (.idiv, 1) := by decide +kernel
theorem dX8_succeeds_65 : decode cX8_succeeds 65 = .ok (.bipush 100, 2) := by decide +kernel
theorem dX8_succeeds_67 : decode cX8_succeeds 67 = .ok (.irem, 1) := by decide +kernel
theorem dX8_succeeds_68 : decode cX8_succeeds 68 = .ok (.iload_n 1, 1) := by decide +kernel
theorem dX8_succeeds_69 : decode cX8_succeeds 69 = .ok (.bipush 10, 2) := by decide +kernel
theorem dX8_succeeds_71 : decode cX8_succeeds 71 = .ok (.irem, 1) := by decide +kernel
theorem dX8_succeeds_72 : decode cX8_succeeds 72 = .ok (.iconst 1, 1) := by decide +kernel
theorem dX8_succeeds_73 : decode cX8_succeeds 73 = .ok (.invokevirtual 343, 3) := by decide +kernel
theorem dX8_succeeds_76 : decode cX8_succeeds 76 = .ok (.ireturn, 1) := by decide +kernel
theorem dX8_succeeds_77 : decode cX8_succeeds 77 = .ok (.aload_n 0, 1) := by decide +kernel
theorem dX8_succeeds_78 : decode cX8_succeeds 78 = .ok (.iload_n 1, 1) := by decide +kernel
theorem dX8_succeeds_79 : decode cX8_succeeds 79 = .ok (.bipush 10, 2) := by decide +kernel
theorem dX8_succeeds_81 : decode cX8_succeeds 81 = .ok (.idiv, 1) := by decide +kernel
theorem dX8_succeeds_82 : decode cX8_succeeds 82 = .ok (.bipush 100, 2) := by decide +kernel
theorem dX8_succeeds_84 : decode cX8_succeeds 84 = .ok (.irem, 1) := by decide +kernel
theorem dX8_succeeds_85 : decode cX8_succeeds 85 = .ok (.iload_n 1, 1) := by decide +kernel
theorem dX8_succeeds_86 : decode cX8_succeeds 86 = .ok (.bipush 10, 2) := by decide +kernel
theorem dX8_succeeds_88 : decode cX8_succeeds 88 = .ok (.irem, 1) := by decide +kernel
theorem dX8_succeeds_89 : decode cX8_succeeds 89 = .ok (.iconst (-1), 1) := by decide +kernel
theorem dX8_succeeds_90 : decode cX8_succeeds 90 = .ok (.invokevirtual 343, 3) := by decide +kernel
theorem dX8_succeeds_93 : decode cX8_succeeds 93 = .ok (.ireturn, 1) := by decide +kernel
theorem dX8_succeeds_94 : decode cX8_succeeds 94 = .ok (.iload_n 2, 1) := by decide +kernel
theorem dX8_succeeds_95 : decode cX8_succeeds 95 = .ok (.ifCond .ne 11, 3) := by decide +kernel
theorem dX8_succeeds_98 : decode cX8_succeeds 98 = .ok (.aload_n 0, 1) := by decide +kernel
theorem dX8_succeeds_99 : decode cX8_succeeds 99 = .ok (.iload_n 3, 1) := by decide +kernel
theorem dX8_succeeds_100 : decode cX8_succeeds 100 = .ok (.invokevirtual 125, 3) := by decide +kernel
theorem dX8_succeeds_103 : decode cX8_succeeds 103 = .ok (.ifCond .ne 5, 3) := by decide +kernel
theorem dX8_succeeds_106 : decode cX8_succeeds 106 = .ok (.iconst 0, 1) := by decide +kernel
theorem dX8_succeeds_107 : decode cX8_succeeds 107 = .ok (.ireturn, 1) := by decide +kernel
theorem dX8_succeeds_108 : decode cX8_succeeds 108 = .ok (.aload_n 0, 1) := by decide +kernel
theorem dX8_succeeds_109 : decode cX8_succeeds 109 = .ok (.getfield 50, 3) := by decide +kernel
theorem dX8_succeeds_112 : decode cX8_succeeds 112 = .ok (.aload_n 0, 1) := by decide +kernel
theorem dX8_succeeds_113 : decode cX8_succeeds 113 = .ok (.getfield 10, 3) := by decide +kernel
theorem dX8_succeeds_116 : decode cX8_succeeds 116 = .ok (.aload_n 0, 1) := by decide +kernel
theorem dX8_succeeds_117 : decode cX8_succeeds 117 = .ok (.getfield 23, 3) := by decide +kernel
theorem dX8_succeeds_120 : decode cX8_succeeds 120 = .ok (.iload_n 3, 1) := by decide +kernel
theorem dX8_succeeds_121 : decode cX8_succeeds 121 = .ok (.invokevirtual 233, 3) := by decide +kernel
theorem dX8_succeeds_124 : decode cX8_succeeds 124 = .ok (.iconst 1, 1) := by decide +kernel
theorem dX8_succeeds_125 : decode cX8_succeeds 125 = .ok (.ireturn, 1) := by decide +kernel
theorem dX8_succeeds_126 : decode cX8_succeeds 126 = .ok (.aload_n 0, 1) := by decide +kernel
theorem dX8_succeeds_127 : decode cX8_succeeds 127 = .ok (.iload_n 2, 1) := by decide +kernel
theorem dX8_succeeds_128 : decode cX8_succeeds 128 = .ok (.invokevirtual 129, 3) := by decide +kernel
theorem dX8_succeeds_131 : decode cX8_succeeds 131 = .ok (.ifCond .eq 30, 3) := by decide +kernel
theorem dX8_succeeds_134 : decode cX8_succeeds 134 = .ok (.aload_n 0, 1) := by decide +kernel
theorem dX8_succeeds_135 : decode cX8_succeeds 135 = .ok (.getfield 23, 3) := by decide +kernel
theorem dX8_succeeds_138 : decode cX8_succeeds 138 = .ok (.getfield 170, 3) := by decide +kernel
theorem dX8_succeeds_141 : decode cX8_succeeds 141 = .ok (.iload_n 2, 1) := by decide +kernel
theorem dX8_succeeds_142 : decode cX8_succeeds 142 = .ok (.iaload, 1) := by decide +kernel
theorem dX8_succeeds_143 : decode cX8_succeeds 143 = .ok (.aload_n 0, 1) := by decide +kernel
theorem dX8_succeeds_144 : decode cX8_succeeds 144 = .ok (.getfield 23, 3) := by decide +kernel
theorem dX8_succeeds_147 : decode cX8_succeeds 147 = .ok (.getfield 167, 3) := by decide +kernel
theorem dX8_succeeds_150 : decode cX8_succeeds 150 = .ok (.iload_n 2, 1) := by decide +kernel
theorem dX8_succeeds_151 : decode cX8_succeeds 151 = .ok (.iaload, 1) := by decide +kernel
theorem dX8_succeeds_152 : decode cX8_succeeds 152 = .ok (.isub, 1) := by decide +kernel
theorem dX8_succeeds_153 : decode cX8_succeeds 153 = .ok (.iload_n 3, 1) := by decide +kernel
theorem dX8_succeeds_154 : decode cX8_succeeds 154 = .ok (.if_icmp .gt 7, 3) := by decide +kernel
theorem dX8_succeeds_157 : decode cX8_succeeds 157 = .ok (.iconst 1, 1) := by decide +kernel
theorem dX8_succeeds_158 : decode cX8_succeeds 158 = .ok (.goto 4, 3) := by decide +kernel
theorem dX8_succeeds_161 : decode cX8_succeeds 161 = .ok (.iconst 0, 1) := by decide +kernel
theorem dX8_succeeds_162 : decode cX8_succeeds 162 = .ok (.ireturn, 1) := by decide +kernel
theorem dX8_succeeds_163 : decode cX8_succeeds 163 = .ok (.aload_n 0, 1) := by decide +kernel
theorem dX8_succeeds_164 : decode cX8_succeeds 164 = .ok (.iload_n 2, 1) := by decide +kernel
theorem dX8_succeeds_165 : decode cX8_succeeds 165 = .ok (.invokevirtual 129, 3) := by decide +kernel
theorem dX8_succeeds_168 : decode cX8_succeeds 168 = .ok (.ifCond .eq 20, 3) := by decide +kernel
theorem dX8_succeeds_171 : decode cX8_succeeds 171 = .ok (.aload_n 0, 1) := by decide +kernel
theorem dX8_succeeds_172 : decode cX8_succeeds 172 = .ok (.getfield 23, 3) := by decide +kernel
theorem dX8_succeeds_175 : decode cX8_succeeds 175 = .ok (.getfield 167, 3) := by decide +kernel
theorem dX8_succeeds_178 : decode cX8_succeeds 178 = .ok (.iload_n 2, 1) := by decide +kernel
theorem dX8_succeeds_179 : decode cX8_succeeds 179 = .ok (.iaload, 1) := by decide +kernel
theorem dX8_succeeds_180 : decode cX8_succeeds 180 = .ok (.iload_n 3, 1) := by decide +kernel
theorem dX8_succeeds_181 : decode cX8_succeeds 181 = .ok (.if_icmp .lt 7, 3) := by decide +kernel
theorem dX8_succeeds_184 : decode cX8_succeeds 184 = .ok (.iconst 1, 1) := by decide +kernel
theorem dX8_succeeds_185 : decode cX8_succeeds 185 = .ok (.goto 4, 3) := by decide +kernel
theorem dX8_succeeds_188 : decode cX8_succeeds 188 = .ok (.iconst 0, 1) := by decide +kernel
theorem dX8_succeeds_189 : decode cX8_succeeds 189 = .ok (.ireturn, 1) := by decide +kernel
theorem dX8_succeeds_190 : decode cX8_succeeds 190 = .ok (.iload_n 3, 1) := by decide +kernel
theorem dX8_succeeds_191 : decode cX8_succeeds 191 = .ok (.bipush 10, 2) := by decide +kernel
theorem dX8_succeeds_193 : decode cX8_succeeds 193 = .ok (.if_icmp .ge 28, 3) := by decide +kernel
theorem dX8_succeeds_196 : decode cX8_succeeds 196 = .ok (.aload_n 0, 1) := by decide +kernel
theorem dX8_succeeds_197 : decode cX8_succeeds 197 = .ok (.iload_n 2, 1) := by decide +kernel
theorem dX8_succeeds_198 : decode cX8_succeeds 198 = .ok (.invokevirtual 125, 3) := by decide +kernel
theorem dX8_succeeds_201 : decode cX8_succeeds 201 = .ok (.ifCond .eq 20, 3) := by decide +kernel
theorem dX8_succeeds_204 : decode cX8_succeeds 204 = .ok (.aload_n 0, 1) := by decide +kernel
theorem dX8_succeeds_205 : decode cX8_succeeds 205 = .ok (.getfield 23, 3) := by decide +kernel
theorem dX8_succeeds_208 : decode cX8_succeeds 208 = .ok (.getfield 191, 3) := by decide +kernel
theorem dX8_succeeds_211 : decode cX8_succeeds 211 = .ok (.iload_n 2, 1) := by decide +kernel
theorem dX8_succeeds_212 : decode cX8_succeeds 212 = .ok (.iaload, 1) := by decide +kernel
theorem dX8_succeeds_213 : decode cX8_succeeds 213 = .ok (.iload_n 3, 1) := by decide +kernel
theorem dX8_succeeds_214 : decode cX8_succeeds 214 = .ok (.if_icmp .ne 7, 3) := by decide +kernel
theorem dX8_succeeds_217 : decode cX8_succeeds 217 = .ok (.iconst 1, 1) := by decide +kernel
theorem dX8_succeeds_218 : decode cX8_succeeds 218 = .ok (.goto 4, 3) := by decide +kernel
theorem dX8_succeeds_221 : decode cX8_succeeds 221 = .ok (.iconst 0, 1) := by decide +kernel
theorem dX8_succeeds_222 : decode cX8_succeeds 222 = .ok (.ireturn, 1) := by decide +kernel
theorem dX8_succeeds_223 : decode cX8_succeeds 223 = .ok (.aload_n 0, 1) := by decide +kernel
theorem dX8_succeeds_224 : decode cX8_succeeds 224 = .ok (.iload_n 2, 1) := by decide +kernel
theorem dX8_succeeds_225 : decode cX8_succeeds 225 = .ok (.invokevirtual 129, 3) := by decide +kernel
theorem dX8_succeeds_228 : decode cX8_succeeds 228 = .ok (.ifCond .eq 20, 3) := by decide +kernel
theorem dX8_succeeds_231 : decode cX8_succeeds 231 = .ok (.aload_n 0, 1) := by decide +kernel
theorem dX8_succeeds_232 : decode cX8_succeeds 232 = .ok (.getfield 23, 3) := by decide +kernel
theorem dX8_succeeds_235 : decode cX8_succeeds 235 = .ok (.getfield 164, 3) := by decide +kernel
theorem dX8_succeeds_238 : decode cX8_succeeds 238 = .ok (.iload_n 2, 1) := by decide +kernel
theorem dX8_succeeds_239 : decode cX8_succeeds 239 = .ok (.iaload, 1) := by decide +kernel
theorem dX8_succeeds_240 : decode cX8_succeeds 240 = .ok (.iload_n 3, 1) := by decide +kernel
theorem dX8_succeeds_241 : decode cX8_succeeds 241 = .ok (.if_icmp .gt 7, 3) := by decide +kernel
theorem dX8_succeeds_244 : decode cX8_succeeds 244 = .ok (.iconst 1, 1) := by decide +kernel
theorem dX8_succeeds_245 : decode cX8_succeeds 245 = .ok (.goto 4, 3) := by decide +kernel
theorem dX8_succeeds_248 : decode cX8_succeeds 248 = .ok (.iconst 0, 1) := by decide +kernel
theorem dX8_succeeds_249 : decode cX8_succeeds 249 = .ok (.ireturn, 1) := by decide +kernel
theorem dX8_succeeds_250 : decode cX8_succeeds 250 = .ok (.iconst 0, 1) := by decide +kernel
theorem dX8_succeeds_251 : decode cX8_succeeds 251 = .ok (.ireturn, 1) := by decide +kernel
theorem dX8_advancesCopy_0 : decode cX8_advancesCopy 0 = .ok (.iload_n 2, 1) := by decide +kernel
theorem dX8_advancesCopy_1 : decode cX8_advancesCopy 1 = .ok (.aload_n 0, 1) := by decide +kernel
theorem dX8_advancesCopy_2 : decode cX8_advancesCopy 2 = .ok (.getfield 23, 3) := by decide +kernel
theorem dX8_advancesCopy_5 : decode cX8_advancesCopy 5 = .ok (.getfield 112, 3) := by decide +kernel
theorem dX8_advancesCopy_8 : decode cX8_advancesCopy 8 = .ok (.if_icmp .le 5, 3) := by decide +kernel
theorem dX8_advancesCopy_11 : decode cX8_advancesCopy 11 = .ok (.iconst 0, 1) := by decide +kernel
theorem dX8_advancesCopy_12 : decode cX8_advancesCopy 12 = .ok (.ireturn, 1) := by decide +kernel
theorem dX8_advancesCopy_13 : decode cX8_advancesCopy 13 = .ok (.aload_n 0, 1) := by decide +kernel
theorem dX8_advancesCopy_14 : decode cX8_advancesCopy 14 = .ok (.getfield 50, 3) := by decide +kernel
theorem dX8_advancesCopy_17 : decode cX8_advancesCopy 17 = .ok (.aload_n 0, 1) := by decide +kernel
theorem dX8_advancesCopy_18 : decode cX8_advancesCopy 18 = .ok (.getfield 10, 3) := by decide +kernel
theorem dX8_advancesCopy_21 : decode cX8_advancesCopy 21 = .ok (.aload_n 0, 1) := by decide +kernel
theorem dX8_advancesCopy_22 : decode cX8_advancesCopy 22 = .ok (.getfield 23, 3) := by decide +kernel
theorem dX8_advancesCopy_25 : decode cX8_advancesCopy 25 = .ok (.iload_n 3, 1) := by decide +kernel
theorem dX8_advancesCopy_26 : decode cX8_advancesCopy 26 = .ok (.iload_n 1, 1) := by decide +kernel
theorem dX8_advancesCopy_27 : decode cX8_advancesCopy 27 = .ok (.imul, 1) := by decide +kernel
theorem dX8_advancesCopy_28 : decode cX8_advancesCopy 28 = .ok (.iload_n 3, 1) := by decide +kernel
theorem dX8_advancesCopy_29 : decode cX8_advancesCopy 29 = .ok (.iload_n 2, 1) := by decide +kernel
theorem dX8_advancesCopy_30 : decode cX8_advancesCopy 30 = .ok (.imul, 1) := by decide +kernel
theorem dX8_advancesCopy_31 : decode cX8_advancesCopy 31 = .ok (.invokevirtual 229, 3) := by decide +kernel
theorem dX8_advancesCopy_34 : decode cX8_advancesCopy 34 = .ok (.iconst 1, 1) := by decide +kernel
theorem dX8_advancesCopy_35 : decode cX8_advancesCopy 35 = .ok (.ireturn, 1) := by decide +kernel
theorem dX8_floorQuotient_0 : decode cX8_floorQuotient 0 = .ok (.lload_n 2, 1) := by decide +kernel
theorem dX8_floorQuotient_1 : decode cX8_floorQuotient 1 = .ok (.lconst 0, 1) := by decide +kernel
theorem dX8_floorQuotient_2 : decode cX8_floorQuotient 2 = .ok (.lcmp, 1) := by decide +kernel
theorem dX8_floorQuotient_3 : decode cX8_floorQuotient 3 = .ok (.ifCond .ne 7, 3) := by decide +kernel
theorem dX8_floorQuotient_6 : decode cX8_floorQuotient 6 = .ok (.lconst 0, 1) := by decide +kernel
theorem dX8_floorQuotient_7 : decode cX8_floorQuotient 7 = .ok (.goto 8, 3) := by decide +kernel
theorem dX8_floorQuotient_10 : decode cX8_floorQuotient 10 = .ok (.lload_n 0, 1) := by decide +kernel
theorem dX8_floorQuotient_11 : decode cX8_floorQuotient 11 = .ok (.lload_n 2, 1) := by decide +kernel
theorem dX8_floorQuotient_12 : decode cX8_floorQuotient 12 = .ok (.invokestatic 347, 3) := by decide +kernel
theorem dX8_floorQuotient_15 : decode cX8_floorQuotient 15 = .ok (.lreturn, 1) := by decide +kernel
theorem dX8_quotient_0 : decode cX8_quotient 0 = .ok (.iload_n 1, 1) := by decide +kernel
theorem dX8_quotient_1 : decode cX8_quotient 1 = .ok (.ifCond .ne 7, 3) := by decide +kernel
theorem dX8_quotient_4 : decode cX8_quotient 4 = .ok (.iconst 0, 1) := by decide +kernel
theorem dX8_quotient_5 : decode cX8_quotient 5 = .ok (.goto 6, 3) := by decide +kernel
theorem dX8_quotient_8 : decode cX8_quotient 8 = .ok (.iload_n 0, 1) := by decide +kernel
theorem dX8_quotient_9 : decode cX8_quotient 9 = .ok (.iload_n 1, 1) := by decide +kernel
theorem dX8_quotient_10 : decode cX8_quotient 10 = .ok (.idiv, 1) := by decide +kernel
theorem dX8_quotient_11 : decode cX8_quotient 11 = .ok (.ireturn, 1) := by decide +kernel
theorem dX8_remainder_0 : decode cX8_remainder 0 = .ok (.iload_n 1, 1) := by decide +kernel
theorem dX8_remainder_1 : decode cX8_remainder 1 = .ok (.ifCond .ne 7, 3) := by decide +kernel
theorem dX8_remainder_4 : decode cX8_remainder 4 = .ok (.iconst 0, 1) := by decide +kernel
theorem dX8_remainder_5 : decode cX8_remainder 5 = .ok (.goto 6, 3) := by decide +kernel
theorem dX8_remainder_8 : decode cX8_remainder 8 = .ok (.iload_n 0, 1) := by decide +kernel
theorem dX8_remainder_9 : decode cX8_remainder 9 = .ok (.iload_n 1, 1) := by decide +kernel
theorem dX8_remainder_10 : decode cX8_remainder 10 = .ok (.irem, 1) := by decide +kernel
theorem dX8_remainder_11 : decode cX8_remainder 11 = .ok (.ireturn, 1) := by decide +kernel
theorem dX8_limited_0 : decode cX8_limited 0 = .ok (.iload_n 2, 1) := by decide +kernel
theorem dX8_limited_1 : decode cX8_limited 1 = .ok (.ineg, 1) := by decide +kernel
theorem dX8_limited_2 : decode cX8_limited 2 = .ok (.i2l, 1) := by decide +kernel
theorem dX8_limited_3 : decode cX8_limited 3 = .ok (.iload_n 2, 1) := by decide +kernel
theorem dX8_limited_4 : decode cX8_limited 4 = .ok (.i2l, 1) := by decide +kernel
theorem dX8_limited_5 : decode cX8_limited 5 = .ok (.lload_n 0, 1) := by decide +kernel
theorem dX8_limited_6 : decode cX8_limited 6 = .ok (.invokestatic 351, 3) := by decide +kernel
theorem dX8_limited_9 : decode cX8_limited 9 = .ok (.invokestatic 353, 3) := by decide +kernel
theorem dX8_limited_12 : decode cX8_limited 12 = .ok (.l2i, 1) := by decide +kernel
theorem dX8_limited_13 : decode cX8_limited 13 = .ok (.ireturn, 1) := by decide +kernel
theorem dX8_commonDivisor_0 : decode cX8_commonDivisor 0 = .ok (.bipush 99, 2) := by decide +kernel
theorem dX8_commonDivisor_2 : decode cX8_commonDivisor 2 = .ok (.istore_n 2, 1) := by decide +kernel
theorem dX8_commonDivisor_3 : decode cX8_commonDivisor 3 = .ok (.iload_n 2, 1) := by decide +kernel
theorem dX8_commonDivisor_4 : decode cX8_commonDivisor 4 = .ok (.iconst 1, 1) := by decide +kernel
theorem dX8_commonDivisor_5 : decode cX8_commonDivisor 5 = .ok (.if_icmp .le 23, 3) := by decide +kernel
theorem dX8_commonDivisor_8 : decode cX8_commonDivisor 8 = .ok (.iload_n 0, 1) := by decide +kernel
theorem dX8_commonDivisor_9 : decode cX8_commonDivisor 9 = .ok (.iload_n 2, 1) := by decide +kernel
theorem dX8_commonDivisor_10 : decode cX8_commonDivisor 10 = .ok (.irem, 1) := by decide +kernel
theorem dX8_commonDivisor_11 : decode cX8_commonDivisor 11 = .ok (.ifCond .ne 11, 3) := by decide +kernel
theorem dX8_commonDivisor_14 : decode cX8_commonDivisor 14 = .ok (.iload_n 1, 1) := by decide +kernel
theorem dX8_commonDivisor_15 : decode cX8_commonDivisor 15 = .ok (.iload_n 2, 1) := by decide +kernel
theorem dX8_commonDivisor_16 : decode cX8_commonDivisor 16 = .ok (.irem, 1) := by decide +kernel
theorem dX8_commonDivisor_17 : decode cX8_commonDivisor 17 = .ok (.ifCond .ne 5, 3) := by decide +kernel
theorem dX8_commonDivisor_20 : decode cX8_commonDivisor 20 = .ok (.iload_n 2, 1) := by decide +kernel
theorem dX8_commonDivisor_21 : decode cX8_commonDivisor 21 = .ok (.ireturn, 1) := by decide +kernel
theorem dX8_commonDivisor_22 : decode cX8_commonDivisor 22 = .ok (.iinc 2 (-1), 3) := by decide +kernel
theorem dX8_commonDivisor_25 : decode cX8_commonDivisor 25 = .ok (.goto (-22), 3) := by decide +kernel
theorem dX8_commonDivisor_28 : decode cX8_commonDivisor 28 = .ok (.iconst 1, 1) := by decide +kernel
theorem dX8_commonDivisor_29 : decode cX8_commonDivisor 29 = .ok (.ireturn, 1) := by decide +kernel
theorem dX8_removeLead_0 : decode cX8_removeLead 0 = .ok (.iconst 0, 1) := by decide +kernel
theorem dX8_removeLead_1 : decode cX8_removeLead 1 = .ok (.istore 7, 2) := by decide +kernel
theorem dX8_removeLead_3 : decode cX8_removeLead 3 = .ok (.iload 7, 2) := by decide +kernel
theorem dX8_removeLead_5 : decode cX8_removeLead 5 = .ok (.iload 6, 2) := by decide +kernel
theorem dX8_removeLead_7 : decode cX8_removeLead 7 = .ok (.if_icmp .ge 33, 3) := by decide +kernel
theorem dX8_removeLead_10 : decode cX8_removeLead 10 = .ok (.aload_n 0, 1) := by decide +kernel
theorem dX8_removeLead_11 : decode cX8_removeLead 11 = .ok (.iload 7, 2) := by decide +kernel
theorem dX8_removeLead_13 : decode cX8_removeLead 13 = .ok (.aload_n 0, 1) := by decide +kernel
theorem dX8_removeLead_14 : decode cX8_removeLead 14 = .ok (.iload 7, 2) := by decide +kernel
theorem dX8_removeLead_16 : decode cX8_removeLead 16 = .ok (.laload, 1) := by decide +kernel
theorem dX8_removeLead_17 : decode cX8_removeLead 17 = .ok (.lload 4, 2) := by decide +kernel
theorem dX8_removeLead_19 : decode cX8_removeLead 19 = .ok (.lmul, 1) := by decide +kernel
theorem dX8_removeLead_20 : decode cX8_removeLead 20 = .ok (.aload_n 3, 1) := by decide +kernel
theorem dX8_removeLead_21 : decode cX8_removeLead 21 = .ok (.iload 7, 2) := by decide +kernel
theorem dX8_removeLead_23 : decode cX8_removeLead 23 = .ok (.laload, 1) := by decide +kernel
theorem dX8_removeLead_24 : decode cX8_removeLead 24 = .ok (.lload_n 1, 1) := by decide +kernel
theorem dX8_removeLead_25 : decode cX8_removeLead 25 = .ok (.lmul, 1) := by decide +kernel
theorem dX8_removeLead_26 : decode cX8_removeLead 26 = .ok (.lsub, 1) := by decide +kernel
theorem dX8_removeLead_27 : decode cX8_removeLead 27 = .ok (.ldc2_w 355, 3) := by decide +kernel
theorem dX8_removeLead_30 : decode cX8_removeLead 30 = .ok (.invokestatic 357, 3) := by decide +kernel
theorem dX8_removeLead_33 : decode cX8_removeLead 33 = .ok (.lastore, 1) := by decide +kernel
theorem dX8_removeLead_34 : decode cX8_removeLead 34 = .ok (.iinc 7 1, 3) := by decide +kernel
theorem dX8_removeLead_37 : decode cX8_removeLead 37 = .ok (.goto (-34), 3) := by decide +kernel
theorem dX8_removeLead_40 : decode cX8_removeLead 40 = .ok (.return_, 1) := by decide +kernel
theorem dX8_copyRow_0 : decode cX8_copyRow 0 = .ok (.aload_n 0, 1) := by decide +kernel
theorem dX8_copyRow_1 : decode cX8_copyRow 1 = .ok (.iconst 0, 1) := by decide +kernel
theorem dX8_copyRow_2 : decode cX8_copyRow 2 = .ok (.aload_n 1, 1) := by decide +kernel
theorem dX8_copyRow_3 : decode cX8_copyRow 3 = .ok (.iconst 0, 1) := by decide +kernel
theorem dX8_copyRow_4 : decode cX8_copyRow 4 = .ok (.aload_n 0, 1) := by decide +kernel
theorem dX8_copyRow_5 : decode cX8_copyRow 5 = .ok (.arraylength, 1) := by decide +kernel
theorem dX8_copyRow_6 : decode cX8_copyRow 6 = .ok (.aload_n 1, 1) := by decide +kernel
theorem dX8_copyRow_7 : decode cX8_copyRow 7 = .ok (.arraylength, 1) := by decide +kernel
theorem dX8_copyRow_8 : decode cX8_copyRow 8 = .ok (.invokestatic 176, 3) := by decide +kernel
theorem dX8_copyRow_11 : decode cX8_copyRow 11 = .ok (.invokestatic 360, 3) := by decide +kernel
theorem dX8_copyRow_14 : decode cX8_copyRow 14 = .ok (.return_, 1) := by decide +kernel
theorem dX8_copyRow__0 : decode cX8_copyRow_ 0 = .ok (.aload_n 0, 1) := by decide +kernel
theorem dX8_copyRow__1 : decode cX8_copyRow_ 1 = .ok (.iconst 0, 1) := by decide +kernel
theorem dX8_copyRow__2 : decode cX8_copyRow_ 2 = .ok (.aload_n 1, 1) := by decide +kernel
theorem dX8_copyRow__3 : decode cX8_copyRow_ 3 = .ok (.iconst 0, 1) := by decide +kernel
theorem dX8_copyRow__4 : decode cX8_copyRow_ 4 = .ok (.aload_n 0, 1) := by decide +kernel
theorem dX8_copyRow__5 : decode cX8_copyRow_ 5 = .ok (.arraylength, 1) := by decide +kernel
theorem dX8_copyRow__6 : decode cX8_copyRow_ 6 = .ok (.aload_n 1, 1) := by decide +kernel
theorem dX8_copyRow__7 : decode cX8_copyRow_ 7 = .ok (.arraylength, 1) := by decide +kernel
theorem dX8_copyRow__8 : decode cX8_copyRow_ 8 = .ok (.invokestatic 176, 3) := by decide +kernel
theorem dX8_copyRow__11 : decode cX8_copyRow_ 11 = .ok (.invokestatic 360, 3) := by decide +kernel
theorem dX8_copyRow__14 : decode cX8_copyRow_ 14 = .ok (.return_, 1) := by decide +kernel
theorem dX8_copyRows_0 : decode cX8_copyRows 0 = .ok (.iconst 0, 1) := by decide +kernel
theorem dX8_copyRows_1 : decode cX8_copyRows 1 = .ok (.istore_n 2, 1) := by decide +kernel
theorem dX8_copyRows_2 : decode cX8_copyRows 2 = .ok (.iload_n 2, 1) := by decide +kernel
theorem dX8_copyRows_3 : decode cX8_copyRows 3 = .ok (.aload_n 0, 1) := by decide +kernel
theorem dX8_copyRows_4 : decode cX8_copyRows 4 = .ok (.arraylength, 1) := by decide +kernel
theorem dX8_copyRows_5 : decode cX8_copyRows 5 = .ok (.if_icmp .ge 24, 3) := by decide +kernel
theorem dX8_copyRows_8 : decode cX8_copyRows 8 = .ok (.iload_n 2, 1) := by decide +kernel
theorem dX8_copyRows_9 : decode cX8_copyRows 9 = .ok (.aload_n 1, 1) := by decide +kernel
theorem dX8_copyRows_10 : decode cX8_copyRows 10 = .ok (.arraylength, 1) := by decide +kernel
theorem dX8_copyRows_11 : decode cX8_copyRows 11 = .ok (.if_icmp .ge 18, 3) := by decide +kernel
theorem dX8_copyRows_14 : decode cX8_copyRows 14 = .ok (.aload_n 0, 1) := by decide +kernel
theorem dX8_copyRows_15 : decode cX8_copyRows 15 = .ok (.iload_n 2, 1) := by decide +kernel
theorem dX8_copyRows_16 : decode cX8_copyRows 16 = .ok (.aaload, 1) := by decide +kernel
theorem dX8_copyRows_17 : decode cX8_copyRows 17 = .ok (.aload_n 1, 1) := by decide +kernel
theorem dX8_copyRows_18 : decode cX8_copyRows 18 = .ok (.iload_n 2, 1) := by decide +kernel
theorem dX8_copyRows_19 : decode cX8_copyRows 19 = .ok (.aaload, 1) := by decide +kernel
theorem dX8_copyRows_20 : decode cX8_copyRows 20 = .ok (.invokestatic 211, 3) := by decide +kernel
theorem dX8_copyRows_23 : decode cX8_copyRows 23 = .ok (.iinc 2 1, 3) := by decide +kernel
theorem dX8_copyRows_26 : decode cX8_copyRows 26 = .ok (.goto (-24), 3) := by decide +kernel
theorem dX8_copyRows_29 : decode cX8_copyRows 29 = .ok (.return_, 1) := by decide +kernel
