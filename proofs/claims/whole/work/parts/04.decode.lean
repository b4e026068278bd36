theorem dJ9_floorDiv_f86c9_0 : decode cJ9_floorDiv_f86c9 0 = .ok (.lload_n 0, 1) := by decide +kernel
theorem dJ9_floorDiv_f86c9_1 : decode cJ9_floorDiv_f86c9 1 = .ok (.lload_n 2, 1) := by decide +kernel
theorem dJ9_floorDiv_f86c9_2 : decode cJ9_floorDiv_f86c9 2 = .ok (.ldiv, 1) := by decide +kernel
theorem dJ9_floorDiv_f86c9_3 : decode cJ9_floorDiv_f86c9 3 = .ok (.lstore 4, 2) := by decide +kernel
theorem dJ9_floorDiv_f86c9_5 : decode cJ9_floorDiv_f86c9 5 = .ok (.lload_n 0, 1) := by decide +kernel
theorem dJ9_floorDiv_f86c9_6 : decode cJ9_floorDiv_f86c9 6 = .ok (.lload_n 2, 1) := by decide +kernel
theorem dJ9_floorDiv_f86c9_7 : decode cJ9_floorDiv_f86c9 7 = .ok (.lxor, 1) := by decide +kernel
theorem dJ9_floorDiv_f86c9_8 : decode cJ9_floorDiv_f86c9 8 = .ok (.lconst 0, 1) := by decide +kernel
theorem dJ9_floorDiv_f86c9_9 : decode cJ9_floorDiv_f86c9 9 = .ok (.lcmp, 1) := by decide +kernel
theorem dJ9_floorDiv_f86c9_10 : decode cJ9_floorDiv_f86c9 10 = .ok (.ifCond .ge 17, 3) := by decide +kernel
theorem dJ9_floorDiv_f86c9_13 : decode cJ9_floorDiv_f86c9 13 = .ok (.lload 4, 2) := by decide +kernel
theorem dJ9_floorDiv_f86c9_15 : decode cJ9_floorDiv_f86c9 15 = .ok (.lload_n 2, 1) := by decide +kernel
theorem dJ9_floorDiv_f86c9_16 : decode cJ9_floorDiv_f86c9 16 = .ok (.lmul, 1) := by decide +kernel
theorem dJ9_floorDiv_f86c9_17 : decode cJ9_floorDiv_f86c9 17 = .ok (.lload_n 0, 1) := by decide +kernel
theorem dJ9_floorDiv_f86c9_18 : decode cJ9_floorDiv_f86c9 18 = .ok (.lcmp, 1) := by decide +kernel
theorem dJ9_floorDiv_f86c9_19 : decode cJ9_floorDiv_f86c9 19 = .ok (.ifCond .eq 8, 3) := by decide +kernel
theorem dJ9_floorDiv_f86c9_22 : decode cJ9_floorDiv_f86c9 22 = .ok (.lload 4, 2) := by decide +kernel
theorem dJ9_floorDiv_f86c9_24 : decode cJ9_floorDiv_f86c9 24 = .ok (.lconst 1, 1) := by decide +kernel
theorem dJ9_floorDiv_f86c9_25 : decode cJ9_floorDiv_f86c9 25 = .ok (.lsub, 1) := by decide +kernel
theorem dJ9_floorDiv_f86c9_26 : decode cJ9_floorDiv_f86c9 26 = .ok (.lreturn, 1) := by decide +kernel
theorem dJ9_floorDiv_f86c9_27 : decode cJ9_floorDiv_f86c9 27 = .ok (.lload 4, 2) := by decide +kernel
theorem dJ9_floorDiv_f86c9_29 : decode cJ9_floorDiv_f86c9 29 = .ok (.lreturn, 1) := by decide +kernel
theorem dJ9_floorMod_f86c9_0 : decode cJ9_floorMod_f86c9 0 = .ok (.lload_n 0, 1) := by decide +kernel
theorem dJ9_floorMod_f86c9_1 : decode cJ9_floorMod_f86c9 1 = .ok (.lload_n 2, 1) := by decide +kernel
theorem dJ9_floorMod_f86c9_2 : decode cJ9_floorMod_f86c9 2 = .ok (.lrem, 1) := by decide +kernel
theorem dJ9_floorMod_f86c9_3 : decode cJ9_floorMod_f86c9 3 = .ok (.lstore 4, 2) := by decide +kernel
theorem dJ9_floorMod_f86c9_5 : decode cJ9_floorMod_f86c9 5 = .ok (.lload_n 0, 1) := by decide +kernel
theorem dJ9_floorMod_f86c9_6 : decode cJ9_floorMod_f86c9 6 = .ok (.lload_n 2, 1) := by decide +kernel
theorem dJ9_floorMod_f86c9_7 : decode cJ9_floorMod_f86c9 7 = .ok (.lxor, 1) := by decide +kernel
theorem dJ9_floorMod_f86c9_8 : decode cJ9_floorMod_f86c9 8 = .ok (.lconst 0, 1) := by decide +kernel
theorem dJ9_floorMod_f86c9_9 : decode cJ9_floorMod_f86c9 9 = .ok (.lcmp, 1) := by decide +kernel
theorem dJ9_floorMod_f86c9_10 : decode cJ9_floorMod_f86c9 10 = .ok (.ifCond .ge 15, 3) := by decide +kernel
theorem dJ9_floorMod_f86c9_13 : decode cJ9_floorMod_f86c9 13 = .ok (.lload 4, 2) := by decide +kernel
theorem dJ9_floorMod_f86c9_15 : decode cJ9_floorMod_f86c9 15 = .ok (.lconst 0, 1) := by decide +kernel
theorem dJ9_floorMod_f86c9_16 : decode cJ9_floorMod_f86c9 16 = .ok (.lcmp, 1) := by decide +kernel
theorem dJ9_floorMod_f86c9_17 : decode cJ9_floorMod_f86c9 17 = .ok (.ifCond .eq 8, 3) := by decide +kernel
theorem dJ9_floorMod_f86c9_20 : decode cJ9_floorMod_f86c9 20 = .ok (.lload 4, 2) := by decide +kernel
theorem dJ9_floorMod_f86c9_22 : decode cJ9_floorMod_f86c9 22 = .ok (.lload_n 2, 1) := by decide +kernel
theorem dJ9_floorMod_f86c9_23 : decode cJ9_floorMod_f86c9 23 = .ok (.ladd, 1) := by decide +kernel
theorem dJ9_floorMod_f86c9_24 : decode cJ9_floorMod_f86c9 24 = .ok (.lreturn, 1) := by decide +kernel
theorem dJ9_floorMod_f86c9_25 : decode cJ9_floorMod_f86c9 25 = .ok (.lload 4, 2) := by decide +kernel
theorem dJ9_floorMod_f86c9_27 : decode cJ9_floorMod_f86c9 27 = .ok (.lreturn, 1) := by decide +kernel
theorem dJ9_abs_0f7a4_0 : decode cJ9_abs_0f7a4 0 = .ok (.iload_n 0, 1) := by decide +kernel
theorem dJ9_abs_0f7a4_1 : decode cJ9_abs_0f7a4 1 = .ok (.ifCond .ge 8, 3) := by decide +kernel
theorem dJ9_abs_0f7a4_4 : decode cJ9_abs_0f7a4 4 = .ok (.iload_n 0, 1) := by decide +kernel
theorem dJ9_abs_0f7a4_5 : decode cJ9_abs_0f7a4 5 = .ok (.ineg, 1) := by decide +kernel
theorem dJ9_abs_0f7a4_6 : decode cJ9_abs_0f7a4 6 = .ok (.goto 4, 3) := by decide +kernel
theorem dJ9_abs_0f7a4_9 : decode cJ9_abs_0f7a4 9 = .ok (.iload_n 0, 1) := by decide +kernel
theorem dJ9_abs_0f7a4_10 : decode cJ9_abs_0f7a4 10 = .ok (.ireturn, 1) := by decide +kernel
theorem dJ9_max_7cf53_0 : decode cJ9_max_7cf53 0 = .ok (.iload_n 0, 1) := by decide +kernel
theorem dJ9_max_7cf53_1 : decode cJ9_max_7cf53 1 = .ok (.iload_n 1, 1) := by decide +kernel
theorem dJ9_max_7cf53_2 : decode cJ9_max_7cf53 2 = .ok (.if_icmp .lt 7, 3) := by decide +kernel
theorem dJ9_max_7cf53_5 : decode cJ9_max_7cf53 5 = .ok (.iload_n 0, 1) := by decide +kernel
theorem dJ9_max_7cf53_6 : decode cJ9_max_7cf53 6 = .ok (.goto 4, 3) := by decide +kernel
theorem dJ9_max_7cf53_9 : decode cJ9_max_7cf53 9 = .ok (.iload_n 1, 1) := by decide +kernel
theorem dJ9_max_7cf53_10 : decode cJ9_max_7cf53 10 = .ok (.ireturn, 1) := by decide +kernel
theorem dJ9_max_f86c9_0 : decode cJ9_max_f86c9 0 = .ok (.lload_n 0, 1) := by decide +kernel
theorem dJ9_max_f86c9_1 : decode cJ9_max_f86c9 1 = .ok (.lload_n 2, 1) := by decide +kernel
theorem dJ9_max_f86c9_2 : decode cJ9_max_f86c9 2 = .ok (.lcmp, 1) := by decide +kernel
theorem dJ9_max_f86c9_3 : decode cJ9_max_f86c9 3 = .ok (.ifCond .lt 7, 3) := by decide +kernel
theorem dJ9_max_f86c9_6 : decode cJ9_max_f86c9 6 = .ok (.lload_n 0, 1) := by decide +kernel
theorem dJ9_max_f86c9_7 : decode cJ9_max_f86c9 7 = .ok (.goto 4, 3) := by decide +kernel
theorem dJ9_max_f86c9_10 : decode cJ9_max_f86c9 10 = .ok (.lload_n 2, 1) := by decide +kernel
theorem dJ9_max_f86c9_11 : decode cJ9_max_f86c9 11 = .ok (.lreturn, 1) := by decide +kernel
theorem dJ9_min_7cf53_0 : decode cJ9_min_7cf53 0 = .ok (.iload_n 0, 1) := by decide +kernel
theorem dJ9_min_7cf53_1 : decode cJ9_min_7cf53 1 = .ok (.iload_n 1, 1) := by decide +kernel
theorem dJ9_min_7cf53_2 : decode cJ9_min_7cf53 2 = .ok (.if_icmp .gt 7, 3) := by decide +kernel
theorem dJ9_min_7cf53_5 : decode cJ9_min_7cf53 5 = .ok (.iload_n 0, 1) := by decide +kernel
theorem dJ9_min_7cf53_6 : decode cJ9_min_7cf53 6 = .ok (.goto 4, 3) := by decide +kernel
theorem dJ9_min_7cf53_9 : decode cJ9_min_7cf53 9 = .ok (.iload_n 1, 1) := by decide +kernel
theorem dJ9_min_7cf53_10 : decode cJ9_min_7cf53 10 = .ok (.ireturn, 1) := by decide +kernel
theorem dJ9_min_f86c9_0 : decode cJ9_min_f86c9 0 = .ok (.lload_n 0, 1) := by decide +kernel
theorem dJ9_min_f86c9_1 : decode cJ9_min_f86c9 1 = .ok (.lload_n 2, 1) := by decide +kernel
theorem dJ9_min_f86c9_2 : decode cJ9_min_f86c9 2 = .ok (.lcmp, 1) := by decide +kernel
theorem dJ9_min_f86c9_3 : decode cJ9_min_f86c9 3 = .ok (.ifCond .gt 7, 3) := by decide +kernel
theorem dJ9_min_f86c9_6 : decode cJ9_min_f86c9 6 = .ok (.lload_n 0, 1) := by decide +kernel
theorem dJ9_min_f86c9_7 : decode cJ9_min_f86c9 7 = .ok (.goto 4, 3) := by decide +kernel
theorem dJ9_min_f86c9_10 : decode cJ9_min_f86c9 10 = .ok (.lload_n 2, 1) := by decide +kernel
theorem dJ9_min_f86c9_11 : decode cJ9_min_f86c9 11 = .ok (.lreturn, 1) := by decide +kernel
theorem dX0_init_0 : decode cX0_init 0 = .ok (.aload_n 0, 1) := by decide +kernel
theorem dX0_init_1 : decode cX0_init 1 = .ok (.invokespecial 3, 3) := by decide +kernel
theorem dX0_init_4 : decode cX0_init 4 = .ok (.aload_n 0, 1) := by decide +kernel
theorem dX0_init_5 : decode cX0_init 5 = .ok (.bipush 14, 2) := by decide +kernel
theorem dX0_init_7 : decode cX0_init 7 = .ok (.anewarray 9, 3) := by decide +kernel
theorem dX0_init_10 : decode cX0_init 10 = .ok (.putfield 11, 3) := by decide +kernel
theorem dX0_init_13 : decode cX0_init 13 = .ok (.iconst 0, 1) := by decide +kernel
theorem dX0_init_14 : decode cX0_init 14 = .ok (.istore_n 1, 1) := by decide +kernel
theorem dX0_init_15 : decode cX0_init 15 = .ok (.iload_n 1, 1) := by decide +kernel
theorem dX0_init_16 : decode cX0_init 16 = .ok (.bipush 14, 2) := by decide +kernel
theorem dX0_init_18 : decode cX0_init 18 = .ok (.if_icmp .ge 22, 3) := by decide +kernel
theorem dX0_init_21 : decode cX0_init 21 = .ok (.aload_n 0, 1) := by decide +kernel
theorem dX0_init_22 : decode cX0_init 22 = .ok (.getfield 11, 3) := by decide +kernel
theorem dX0_init_25 : decode cX0_init 25 = .ok (.iload_n 1, 1) := by decide +kernel
theorem dX0_init_26 : decode cX0_init 26 = .ok (.new 9, 3) := by decide +kernel
theorem dX0_init_29 : decode cX0_init 29 = .ok (.dup, 1) := by decide +kernel
theorem dX0_init_30 : decode cX0_init 30 = .ok (.invokespecial 17, 3) := by decide +kernel
theorem dX0_init_33 : decode cX0_init 33 = .ok (.aastore, 1) := by decide +kernel
theorem dX0_init_34 : decode cX0_init 34 = .ok (.iinc 1 1, 3) := by decide +kernel
theorem dX0_init_37 : decode cX0_init 37 = .ok (.goto (-22), 3) := by decide +kernel
theorem dX0_init_40 : decode cX0_init 40 = .ok (.return_, 1) := by decide +kernel
theorem dX0_remember_0 : decode cX0_remember 0 = .ok (.aload_n 0, 1) := by decide +kernel
theorem dX0_remember_1 : decode cX0_remember 1 = .ok (.getfield 11, 3) := by decide +kernel
theorem dX0_remember_4 : decode cX0_remember 4 = .ok (.aload_n 0, 1) := by decide +kernel
theorem dX0_remember_5 : decode cX0_remember 5 = .ok (.getfield 18, 3) := by decide +kernel
theorem dX0_remember_8 : decode cX0_remember 8 = .ok (.aaload, 1) := by decide +kernel
theorem dX0_remember_9 : decode cX0_remember 9 = .ok (.aload_n 1, 1) := by decide +kernel
theorem dX0_remember_10 : decode cX0_remember 10 = .ok (.invokevirtual 22, 3) := by decide +kernel
theorem dX0_remember_13 : decode cX0_remember 13 = .ok (.aload_n 0, 1) := by decide +kernel
theorem dX0_remember_14 : decode cX0_remember 14 = .ok (.aload_n 0, 1) := by decide +kernel
theorem dX0_remember_15 : decode cX0_remember 15 = .ok (.getfield 18, 3) := by decide +kernel
theorem dX0_remember_18 : decode cX0_remember 18 = .ok (.iconst 1, 1) := by decide +kernel
theorem dX0_remember_19 : decode cX0_remember 19 = .ok (.iadd, 1) := by decide +kernel
theorem dX0_remember_20 : decode cX0_remember 20 = .ok (.bipush 14, 2) := by decide +kernel
theorem dX0_remember_22 : decode cX0_remember 22 = .ok (.irem, 1) := by decide +kernel
theorem dX0_remember_23 : decode cX0_remember 23 = .ok (.putfield 18, 3) := by decide +kernel
theorem dX0_remember_26 : decode cX0_remember 26 = .ok (.aload_n 0, 1) := by decide +kernel
theorem dX0_remember_27 : decode cX0_remember 27 = .ok (.aload_n 0, 1) := by decide +kernel
theorem dX0_remember_28 : decode cX0_remember 28 = .ok (.getfield 26, 3) := by decide +kernel
theorem dX0_remember_31 : decode cX0_remember 31 = .ok (.iconst 1, 1) := by decide +kernel
theorem dX0_remember_32 : decode cX0_remember 32 = .ok (.iadd, 1) := by decide +kernel
theorem dX0_remember_33 : decode cX0_remember 33 = .ok (.bipush 14, 2) := by decide +kernel
theorem dX0_remember_35 : decode cX0_remember 35 = .ok (.invokestatic 29, 3) := by decide +kernel
theorem dX0_remember_38 : decode cX0_remember 38 = .ok (.putfield 26, 3) := by decide +kernel
theorem dX0_remember_41 : decode cX0_remember 41 = .ok (.return_, 1) := by decide +kernel
theorem dX0_takeBack_0 : decode cX0_takeBack 0 = .ok (.aload_n 0, 1) := by decide +kernel
theorem dX0_takeBack_1 : decode cX0_takeBack 1 = .ok (.aload_n 0, 1) := by decide +kernel
theorem dX0_takeBack_2 : decode cX0_takeBack 2 = .ok (.getfield 18, 3) := by decide +kernel
theorem dX0_takeBack_5 : decode cX0_takeBack 5 = .ok (.bipush 14, 2) := by decide +kernel
theorem dX0_takeBack_7 : decode cX0_takeBack 7 = .ok (.iadd, 1) := by decide +kernel
theorem dX0_takeBack_8 : decode cX0_takeBack 8 = .ok (.iconst 1, 1) := by decide +kernel
theorem dX0_takeBack_9 : decode cX0_takeBack 9 = .ok (.isub, 1) := by decide +kernel
theorem dX0_takeBack_10 : decode cX0_takeBack 10 = .ok (.bipush 14, 2) := by decide +kernel
theorem dX0_takeBack_12 : decode cX0_takeBack 12 = .ok (.irem, 1) := by decide +kernel
theorem dX0_takeBack_13 : decode cX0_takeBack 13 = .ok (.putfield 18, 3) := by decide +kernel
theorem dX0_takeBack_16 : decode cX0_takeBack 16 = .ok (.aload_n 0, 1) := by decide +kernel
theorem dX0_takeBack_17 : decode cX0_takeBack 17 = .ok (.dup, 1) := by decide +kernel
theorem dX0_takeBack_18 : decode cX0_takeBack 18 = .ok (.getfield 26, 3) := by decide +kernel
theorem dX0_takeBack_21 : decode cX0_takeBack 21 = .ok (.iconst 1, 1) := by decide +kernel
theorem dX0_takeBack_22 : decode cX0_takeBack 22 = .ok (.isub, 1) := by decide +kernel
theorem dX0_takeBack_23 : decode cX0_takeBack 23 = .ok (.putfield 26, 3) := by decide +kernel
theorem dX0_takeBack_26 : decode cX0_takeBack 26 = .ok (.aload_n 1, 1) := by decide +kernel
theorem dX0_takeBack_27 : decode cX0_takeBack 27 = .ok (.aload_n 0, 1) := by decide +kernel
theorem dX0_takeBack_28 : decode cX0_takeBack 28 = .ok (.getfield 11, 3) := by decide +kernel
theorem dX0_takeBack_31 : decode cX0_takeBack 31 = .ok (.aload_n 0, 1) := by decide +kernel
theorem dX0_takeBack_32 : decode cX0_takeBack 32 = .ok (.getfield 18, 3) := by decide +kernel
theorem dX0_takeBack_35 : decode cX0_takeBack 35 = .ok (.aaload, 1) := by decide +kernel
theorem dX0_takeBack_36 : decode cX0_takeBack 36 = .ok (.invokevirtual 22, 3) := by decide +kernel
theorem dX0_takeBack_39 : decode cX0_takeBack 39 = .ok (.return_, 1) := by decide +kernel
theorem dX0_forget_0 : decode cX0_forget 0 = .ok (.aload_n 0, 1) := by decide +kernel
theorem dX0_forget_1 : decode cX0_forget 1 = .ok (.iconst 0, 1) := by decide +kernel
theorem dX0_forget_2 : decode cX0_forget 2 = .ok (.putfield 26, 3) := by decide +kernel
theorem dX0_forget_5 : decode cX0_forget 5 = .ok (.return_, 1) := by decide +kernel
theorem dX1_init_0 : decode cX1_init 0 = .ok (.aload_n 0, 1) := by decide +kernel
theorem dX1_init_1 : decode cX1_init 1 = .ok (.invokespecial 3, 3) := by decide +kernel
theorem dX1_init_4 : decode cX1_init 4 = .ok (.aload_n 0, 1) := by decide +kernel
theorem dX1_init_5 : decode cX1_init 5 = .ok (.iconst 4, 1) := by decide +kernel
theorem dX1_init_6 : decode cX1_init 6 = .ok (.newarray .int, 2) := by decide +kernel
theorem dX1_init_8 : decode cX1_init 8 = .ok (.putfield 9, 3) := by decide +kernel
theorem dX1_init_11 : decode cX1_init 11 = .ok (.aload_n 0, 1) := by decide +kernel
theorem dX1_init_12 : decode cX1_init 12 = .ok (.iconst 4, 1) := by decide +kernel
theorem dX1_init_13 : decode cX1_init 13 = .ok (.newarray .int, 2) := by decide +kernel
theorem dX1_init_15 : decode cX1_init 15 = .ok (.putfield 15, 3) := by decide +kernel
theorem dX1_init_18 : decode cX1_init 18 = .ok (.aload_n 0, 1) := by decide +kernel
theorem dX1_init_19 : decode cX1_init 19 = .ok (.iconst 4, 1) := by decide +kernel
theorem dX1_init_20 : decode cX1_init 20 = .ok (.newarray .int, 2) := by decide +kernel
theorem dX1_init_22 : decode cX1_init 22 = .ok (.putfield 18, 3) := by decide +kernel
theorem dX1_init_25 : decode cX1_init 25 = .ok (.aload_n 0, 1) := by decide +kernel
theorem dX1_init_26 : decode cX1_init 26 = .ok (.iconst 4, 1) := by decide +kernel
theorem dX1_init_27 : decode cX1_init 27 = .ok (.newarray .int, 2) := by decide +kernel
theorem dX1_init_29 : decode cX1_init 29 = .ok (.putfield 21, 3) := by decide +kernel
theorem dX1_init_32 : decode cX1_init 32 = .ok (.aload_n 0, 1) := by decide +kernel
theorem dX1_init_33 : decode cX1_init 33 = .ok (.iconst 4, 1) := by decide +kernel
theorem dX1_init_34 : decode cX1_init 34 = .ok (.iconst 3, 1) := by decide +kernel
theorem dX1_init_35 : decode cX1_init 35 = .ok (.multianewarray 24 2, 4) := by decide +kernel
theorem dX1_init_39 : decode cX1_init 39 = .ok (.putfield 26, 3) := by decide +kernel
theorem dX1_init_42 : decode cX1_init 42 = .ok (.aload_n 0, 1) := by decide +kernel
theorem dX1_init_43 : decode cX1_init 43 = .ok (.iconst 3, 1) := by decide +kernel
theorem dX1_init_44 : decode cX1_init 44 = .ok (.newarray .int, 2) := by decide +kernel
theorem dX1_init_46 : decode cX1_init 46 = .ok (.putfield 29, 3) := by decide +kernel
theorem dX1_init_49 : decode cX1_init 49 = .ok (.aload_n 0, 1) := by decide +kernel
theorem dX1_init_50 : decode cX1_init 50 = .ok (.iconst 3, 1) := by decide +kernel
theorem dX1_init_51 : decode cX1_init 51 = .ok (.newarray .int, 2) := by decide +kernel
theorem dX1_init_53 : decode cX1_init 53 = .ok (.putfield 32, 3) := by decide +kernel
theorem dX1_init_56 : decode cX1_init 56 = .ok (.aload_n 0, 1) := by decide +kernel
theorem dX1_init_57 : decode cX1_init 57 = .ok (.iconst 4, 1) := by decide +kernel
theorem dX1_init_58 : decode cX1_init 58 = .ok (.newarray .int, 2) := by decide +kernel
theorem dX1_init_60 : decode cX1_init 60 = .ok (.putfield 35, 3) := by decide +kernel
theorem dX1_init_63 : decode cX1_init 63 = .ok (.aload_n 0, 1) := by decide +kernel
theorem dX1_init_64 : decode cX1_init 64 = .ok (.iconst 4, 1) := by decide +kernel
theorem dX1_init_65 : decode cX1_init 65 = .ok (.newarray .int, 2) := by decide +kernel
theorem dX1_init_67 : decode cX1_init 67 = .ok (.putfield 38, 3) := by decide +kernel
theorem dX1_init_70 : decode cX1_init 70 = .ok (.iconst 0, 1) := by decide +kernel
theorem dX1_init_71 : decode cX1_init 71 = .ok (.istore_n 1, 1) := by decide +kernel
theorem dX1_init_72 : decode cX1_init 72 = .ok (.iload_n 1, 1) := by decide +kernel
theorem dX1_init_73 : decode cX1_init 73 = .ok (.iconst 4, 1) := by decide +kernel
theorem dX1_init_74 : decode cX1_init 74 = .ok (.if_icmp .ge 27, 3) := by decide +kernel
theorem dX1_init_77 : decode cX1_init 77 = .ok (.aload_n 0, 1) := by decide +kernel
theorem dX1_init_78 : decode cX1_init 78 = .ok (.getfield 15, 3) := by decide +kernel
theorem dX1_init_81 : decode cX1_init 81 = .ok (.iload_n 1, 1) := by decide +kernel
theorem dX1_init_82 : decode cX1_init 82 = .ok (.sipush (-1000), 3) := by decide +kernel
theorem dX1_init_85 : decode cX1_init 85 = .ok (.iastore, 1) := by decide +kernel
theorem dX1_init_86 : decode cX1_init 86 = .ok (.aload_n 0, 1) := by decide +kernel
theorem dX1_init_87 : decode cX1_init 87 = .ok (.getfield 18, 3) := by decide +kernel
theorem dX1_init_90 : decode cX1_init 90 = .ok (.iload_n 1, 1) := by decide +kernel
theorem dX1_init_91 : decode cX1_init 91 = .ok (.sipush 1000, 3) := by decide +kernel
theorem dX1_init_94 : decode cX1_init 94 = .ok (.iastore, 1) := by decide +kernel
theorem dX1_init_95 : decode cX1_init 95 = .ok (.iinc 1 1, 3) := by decide +kernel
theorem dX1_init_98 : decode cX1_init 98 = .ok (.goto (-26), 3) := by decide +kernel
theorem dX1_init_101 : decode cX1_init 101 = .ok (.iconst 0, 1) := by decide +kernel
theorem dX1_init_102 : decode cX1_init 102 = .ok (.istore_n 1, 1) := by decide +kernel
theorem dX1_init_103 : decode cX1_init 103 = .ok (.iload_n 1, 1) := by decide +kernel
theorem dX1_init_104 : decode cX1_init 104 = .ok (.iconst 3, 1) := by decide +kernel
theorem dX1_init_105 : decode cX1_init 105 = .ok (.if_icmp .ge 16, 3) := by decide +kernel
theorem dX1_init_108 : decode cX1_init 108 = .ok (.aload_n 0, 1) := by decide +kernel
theorem dX1_init_109 : decode cX1_init 109 = .ok (.getfield 32, 3) := by decide +kernel
theorem dX1_init_112 : decode cX1_init 112 = .ok (.iload_n 1, 1) := by decide +kernel
theorem dX1_init_113 : decode cX1_init 113 = .ok (.iconst (-1), 1) := by decide +kernel
theorem dX1_init_114 : decode cX1_init 114 = .ok (.iastore, 1) := by decide +kernel
theorem dX1_init_115 : decode cX1_init 115 = .ok (.iinc 1 1, 3) := by decide +kernel
theorem dX1_init_118 : decode cX1_init 118 = .ok (.goto (-15), 3) := by decide +kernel
theorem dX1_init_121 : decode cX1_init 121 = .ok (.return_, 1) := by decide +kernel
theorem dX1_copyFrom_0 : decode cX1_copyFrom 0 = .ok (.aload_n 1, 1) := by decide +kernel
theorem dX1_copyFrom_1 : decode cX1_copyFrom 1 = .ok (.getfield 9, 3) := by decide +kernel
theorem dX1_copyFrom_4 : decode cX1_copyFrom 4 = .ok (.aload_n 0, 1) := by decide +kernel
theorem dX1_copyFrom_5 : decode cX1_copyFrom 5 = .ok (.getfield 9, 3) := by decide +kernel
theorem dX1_copyFrom_8 : decode cX1_copyFrom 8 = .ok (.invokestatic 41, 3) := by decide +kernel
theorem dX1_copyFrom_11 : decode cX1_copyFrom 11 = .ok (.aload_n 1, 1) := by decide +kernel
theorem dX1_copyFrom_12 : decode cX1_copyFrom 12 = .ok (.getfield 15, 3) := by decide +kernel
theorem dX1_copyFrom_15 : decode cX1_copyFrom 15 = .ok (.aload_n 0, 1) := by decide +kernel
theorem dX1_copyFrom_16 : decode cX1_copyFrom 16 = .ok (.getfield 15, 3) := by decide +kernel
theorem dX1_copyFrom_19 : decode cX1_copyFrom 19 = .ok (.invokestatic 41, 3) := by decide +kernel
theorem dX1_copyFrom_22 : decode cX1_copyFrom 22 = .ok (.aload_n 1, 1) := by decide +kernel
theorem dX1_copyFrom_23 : decode cX1_copyFrom 23 = .ok (.getfield 18, 3) := by decide +kernel
theorem dX1_copyFrom_26 : decode cX1_copyFrom 26 = .ok (.aload_n 0, 1) := by decide +kernel
theorem dX1_copyFrom_27 : decode cX1_copyFrom 27 = .ok (.getfield 18, 3) := by decide +kernel
theorem dX1_copyFrom_30 : decode cX1_copyFrom 30 = .ok (.invokestatic 41, 3) := by decide +kernel
theorem dX1_copyFrom_33 : decode cX1_copyFrom 33 = .ok (.aload_n 1, 1) := by decide +kernel
theorem dX1_copyFrom_34 : decode cX1_copyFrom 34 = .ok (.getfield 21, 3) := by decide +kernel
theorem dX1_copyFrom_37 : decode cX1_copyFrom 37 = .ok (.aload_n 0, 1) := by decide +kernel
theorem dX1_copyFrom_38 : decode cX1_copyFrom 38 = .ok (.getfield 21, 3) := by decide +kernel
theorem dX1_copyFrom_41 : decode cX1_copyFrom 41 = .ok (.invokestatic 41, 3) := by decide +kernel
theorem dX1_copyFrom_44 : decode cX1_copyFrom 44 = .ok (.aload_n 1, 1) := by decide +kernel
theorem dX1_copyFrom_45 : decode cX1_copyFrom 45 = .ok (.getfield 26, 3) := by decide +kernel
theorem dX1_copyFrom_48 : decode cX1_copyFrom 48 = .ok (.aload_n 0, 1) := by decide +kernel
theorem dX1_copyFrom_49 : decode cX1_copyFrom 49 = .ok (.getfield 26, 3) := by decide +kernel
theorem dX1_copyFrom_52 : decode cX1_copyFrom 52 = .ok (.invokestatic 45, 3) := by decide +kernel
theorem dX1_copyFrom_55 : decode cX1_copyFrom 55 = .ok (.aload_n 1, 1) := by decide +kernel
theorem dX1_copyFrom_56 : decode cX1_copyFrom 56 = .ok (.getfield 29, 3) := by decide +kernel
theorem dX1_copyFrom_59 : decode cX1_copyFrom 59 = .ok (.aload_n 0, 1) := by decide +kernel
theorem dX1_copyFrom_60 : decode cX1_copyFrom 60 = .ok (.getfield 29, 3) := by decide +kernel
theorem dX1_copyFrom_63 : decode cX1_copyFrom 63 = .ok (.invokestatic 41, 3) := by decide +kernel
theorem dX1_copyFrom_66 : decode cX1_copyFrom 66 = .ok (.aload_n 1, 1) := by decide +kernel
theorem dX1_copyFrom_67 : decode cX1_copyFrom 67 = .ok (.getfield 32, 3) := by decide +kernel
theorem dX1_copyFrom_70 : decode cX1_copyFrom 70 = .ok (.aload_n 0, 1) := by decide +kernel
theorem dX1_copyFrom_71 : decode cX1_copyFrom 71 = .ok (.getfield 32, 3) := by decide +kernel
theorem dX1_copyFrom_74 : decode cX1_copyFrom 74 = .ok (.invokestatic 41, 3) := by decide +kernel
theorem dX1_copyFrom_77 : decode cX1_copyFrom 77 = .ok (.aload_n 0, 1) := by decide +kernel
theorem dX1_copyFrom_78 : decode cX1_copyFrom 78 = .ok (.aload_n 1, 1) := by decide +kernel
theorem dX1_copyFrom_79 : decode cX1_copyFrom 79 = .ok (.getfield 49, 3) := by decide +kernel
theorem dX1_copyFrom_82 : decode cX1_copyFrom 82 = .ok (.putfield 49, 3) := by decide +kernel
theorem dX1_copyFrom_85 : decode cX1_copyFrom 85 = .ok (.aload_n 0, 1) := by decide +kernel
theorem dX1_copyFrom_86 : decode cX1_copyFrom 86 = .ok (.aload_n 1, 1) := by decide +kernel
theorem dX1_copyFrom_87 : decode cX1_copyFrom 87 = .ok (.getfield 53, 3) := by decide +kernel
theorem dX1_copyFrom_90 : decode cX1_copyFrom 90 = .ok (.putfield 53, 3) := by decide +kernel
theorem dX1_copyFrom_93 : decode cX1_copyFrom 93 = .ok (.aload_n 0, 1) := by decide +kernel
theorem dX1_copyFrom_94 : decode cX1_copyFrom 94 = .ok (.aload_n 1, 1) := by decide +kernel
theorem dX1_copyFrom_95 : decode cX1_copyFrom 95 = .ok (.getfield 56, 3) := by decide +kernel
theorem dX1_copyFrom_98 : decode cX1_copyFrom 98 = .ok (.putfield 56, 3) := by decide +kernel
theorem dX1_copyFrom_101 : decode cX1_copyFrom 101 = .ok (.aload_n 0, 1) := by decide +kernel
theorem dX1_copyFrom_102 : decode cX1_copyFrom 102 = .ok (.aload_n 1, 1) := by decide +kernel
theorem dX1_copyFrom_103 : decode cX1_copyFrom 103 = .ok (.getfield 59, 3) := by decide +kernel
theorem dX1_copyFrom_106 : decode cX1_copyFrom 106 = .ok (.putfield 59, 3) := by decide +kernel
theorem dX1_copyFrom_109 : decode cX1_copyFrom 109 = .ok (.aload_n 0, 1) := by decide +kernel
theorem dX1_copyFrom_110 : decode cX1_copyFrom 110 = .ok (.aload_n 1, 1) := by decide +kernel
theorem dX1_copyFrom_111 : decode cX1_copyFrom 111 = .ok (.getfield 62, 3) := by decide +kernel
theorem dX1_copyFrom_114 : decode cX1_copyFrom 114 = .ok (.putfield 62, 3) := by decide +kernel
theorem dX1_copyFrom_117 : decode cX1_copyFrom 117 = .ok (.aload_n 1, 1) := by decide +kernel
theorem dX1_copyFrom_118 : decode cX1_copyFrom 118 = .ok (.getfield 35, 3) := by decide +kernel
theorem dX1_copyFrom_121 : decode cX1_copyFrom 121 = .ok (.aload_n 0, 1) := by decide +kernel
theorem dX1_copyFrom_122 : decode cX1_copyFrom 122 = .ok (.getfield 35, 3) := by decide +kernel
theorem dX1_copyFrom_125 : decode cX1_copyFrom 125 = .ok (.invokestatic 41, 3) := by decide +kernel
theorem dX1_copyFrom_128 : decode cX1_copyFrom 128 = .ok (.aload_n 1, 1) := by decide +kernel
theorem dX1_copyFrom_129 : decode cX1_copyFrom 129 = .ok (.getfield 38, 3) := by decide +kernel
theorem dX1_copyFrom_132 : decode cX1_copyFrom 132 = .ok (.aload_n 0, 1) := by decide +kernel
theorem dX1_copyFrom_133 : decode cX1_copyFrom 133 = .ok (.getfield 38, 3) := by decide +kernel
theorem dX1_copyFrom_136 : decode cX1_copyFrom 136 = .ok (.invokestatic 41, 3) := by decide +kernel
theorem dX1_copyFrom_139 : decode cX1_copyFrom 139 = .ok (.return_, 1) := by decide +kernel
theorem dX1_clearGains_0 : decode cX1_clearGains 0 = .ok (.iconst 0, 1) := by decide +kernel
theorem dX1_clearGains_1 : decode cX1_clearGains 1 = .ok (.istore_n 1, 1) := by decide +kernel
theorem dX1_clearGains_2 : decode cX1_clearGains 2 = .ok (.iload_n 1, 1) := by decide +kernel
theorem dX1_clearGains_3 : decode cX1_clearGains 3 = .ok (.iconst 4, 1) := by decide +kernel
theorem dX1_clearGains_4 : decode cX1_clearGains 4 = .ok (.if_icmp .ge 31, 3) := by decide +kernel
theorem dX1_clearGains_7 : decode cX1_clearGains 7 = .ok (.iconst 0, 1) := by decide +kernel
theorem dX1_clearGains_8 : decode cX1_clearGains 8 = .ok (.istore_n 2, 1) := by decide +kernel
theorem dX1_clearGains_9 : decode cX1_clearGains 9 = .ok (.iload_n 2, 1) := by decide +kernel
theorem dX1_clearGains_10 : decode cX1_clearGains 10 = .ok (.iconst 3, 1) := by decide +kernel
theorem dX1_clearGains_11 : decode cX1_clearGains 11 = .ok (.if_icmp .ge 18, 3) := by decide +kernel
theorem dX1_clearGains_14 : decode cX1_clearGains 14 = .ok (.aload_n 0, 1) := by decide +kernel
theorem dX1_clearGains_15 : decode cX1_clearGains 15 = .ok (.getfield 26, 3) := by decide +kernel
theorem dX1_clearGains_18 : decode cX1_clearGains 18 = .ok (.iload_n 1, 1) := by decide +kernel
theorem dX1_clearGains_19 : decode cX1_clearGains 19 = .ok (.aaload, 1) := by decide +kernel
theorem dX1_clearGains_20 : decode cX1_clearGains 20 = .ok (.iload_n 2, 1) := by decide +kernel
theorem dX1_clearGains_21 : decode cX1_clearGains 21 = .ok (.iconst 0, 1) := by decide +kernel
theorem dX1_clearGains_22 : decode cX1_clearGains 22 = .ok (.iastore, 1) := by decide +kernel
theorem dX1_clearGains_23 : decode cX1_clearGains 23 = .ok (.iinc 2 1, 3) := by decide +kernel
theorem dX1_clearGains_26 : decode cX1_clearGains 26 = .ok (.goto (-17), 3) := by decide +kernel
theorem dX1_clearGains_29 : decode cX1_clearGains 29 = .ok (.iinc 1 1, 3) := by decide +kernel
theorem dX1_clearGains_32 : decode cX1_clearGains 32 = .ok (.goto (-30), 3) := by decide +kernel
theorem dX1_clearGains_35 : decode cX1_clearGains 35 = .ok (.return_, 1) := by decide +kernel
theorem dX2_init_0 : decode cX2_init 0 = .ok (.aload_n 0, 1) := by decide +kernel
theorem dX2_init_1 : decode cX2_init 1 = .ok (.invokespecial 3, 3) := by decide +kernel
theorem dX2_init_4 : decode cX2_init 4 = .ok (.aload_n 0, 1) := by decide +kernel
theorem dX2_init_5 : decode cX2_init 5 = .ok (.iconst 4, 1) := by decide +kernel
theorem dX2_init_6 : decode cX2_init 6 = .ok (.newarray .int, 2) := by decide +kernel
theorem dX2_init_8 : decode cX2_init 8 = .ok (.putfield 9, 3) := by decide +kernel
theorem dX2_init_11 : decode cX2_init 11 = .ok (.aload_n 0, 1) := by decide +kernel
theorem dX2_init_12 : decode cX2_init 12 = .ok (.iconst 3, 1) := by decide +kernel
theorem dX2_init_13 : decode cX2_init 13 = .ok (.newarray .long, 2) := by decide +kernel
theorem dX2_init_15 : decode cX2_init 15 = .ok (.putfield 15, 3) := by decide +kernel
theorem dX2_init_18 : decode cX2_init 18 = .ok (.return_, 1) := by decide +kernel
theorem dX2_advance_0 : decode cX2_advance 0 = .ok (.aload_n 0, 1) := by decide +kernel
theorem dX2_advance_1 : decode cX2_advance 1 = .ok (.aload_n 1, 1) := by decide +kernel
theorem dX2_advance_2 : decode cX2_advance 2 = .ok (.aload_n 2, 1) := by decide +kernel
theorem dX2_advance_3 : decode cX2_advance 3 = .ok (.iload_n 3, 1) := by decide +kernel
theorem dX2_advance_4 : decode cX2_advance 4 = .ok (.invokevirtual 19, 3) := by decide +kernel
theorem dX2_advance_7 : decode cX2_advance 7 = .ok (.aload_n 0, 1) := by decide +kernel
theorem dX2_advance_8 : decode cX2_advance 8 = .ok (.aload_n 1, 1) := by decide +kernel
theorem dX2_advance_9 : decode cX2_advance 9 = .ok (.aload_n 2, 1) := by decide +kernel
theorem dX2_advance_10 : decode cX2_advance 10 = .ok (.iload_n 3, 1) := by decide +kernel
theorem dX2_advance_11 : decode cX2_advance 11 = .ok (.iload 4, 2) := by decide +kernel
theorem dX2_advance_13 : decode cX2_advance 13 = .ok (.invokevirtual 23, 3) := by decide +kernel
theorem dX2_advance_16 : decode cX2_advance 16 = .ok (.aload_n 0, 1) := by decide +kernel
theorem dX2_advance_17 : decode cX2_advance 17 = .ok (.aload_n 1, 1) := by decide +kernel
theorem dX2_advance_18 : decode cX2_advance 18 = .ok (.aload_n 2, 1) := by decide +kernel
theorem dX2_advance_19 : decode cX2_advance 19 = .ok (.iload_n 3, 1) := by decide +kernel
theorem dX2_advance_20 : decode cX2_advance 20 = .ok (.invokevirtual 27, 3) := by decide +kernel
theorem dX2_advance_23 : decode cX2_advance 23 = .ok (.iconst 0, 1) := by decide +kernel
theorem dX2_advance_24 : decode cX2_advance 24 = .ok (.istore 5, 2) := by decide +kernel
theorem dX2_advance_26 : decode cX2_advance 26 = .ok (.iload 5, 2) := by decide +kernel
theorem dX2_advance_28 : decode cX2_advance 28 = .ok (.aload_n 1, 1) := by decide +kernel
theorem dX2_advance_29 : decode cX2_advance 29 = .ok (.getfield 30, 3) := by decide +kernel
theorem dX2_advance_32 : decode cX2_advance 32 = .ok (.if_icmp .ge 31, 3) := by decide +kernel
theorem dX2_advance_35 : decode cX2_advance 35 = .ok (.aload_n 2, 1) := by decide +kernel
theorem dX2_advance_36 : decode cX2_advance 36 = .ok (.getfield 36, 3) := by decide +kernel
theorem dX2_advance_39 : decode cX2_advance 39 = .ok (.iload 5, 2) := by decide +kernel
theorem dX2_advance_41 : decode cX2_advance 41 = .ok (.iaload, 1) := by decide +kernel
theorem dX2_advance_42 : decode cX2_advance 42 = .ok (.iconst (-1), 1) := by decide +kernel
theorem dX2_advance_43 : decode cX2_advance 43 = .ok (.if_icmp .eq 14, 3) := by decide +kernel
theorem dX2_advance_46 : decode cX2_advance 46 = .ok (.aload_n 2, 1) := by decide +kernel
theorem dX2_advance_47 : decode cX2_advance 47 = .ok (.getfield 36, 3) := by decide +kernel
theorem dX2_advance_50 : decode cX2_advance 50 = .ok (.iload 5, 2) := by decide +kernel
theorem dX2_advance_52 : decode cX2_advance 52 = .ok (.dup2, 1) := by decide +kernel
theorem dX2_advance_53 : decode cX2_advance 53 = .ok (.iaload, 1) := by decide +kernel
theorem dX2_advance_54 : decode cX2_advance 54 = .ok (.iconst 1, 1) := by decide +kernel
theorem dX2_advance_55 : decode cX2_advance 55 = .ok (.iadd, 1) := by decide +kernel
theorem dX2_advance_56 : decode cX2_advance 56 = .ok (.iastore, 1) := by decide +kernel
theorem dX2_advance_57 : decode cX2_advance 57 = .ok (.iinc 5 1, 3) := by decide +kernel
theorem dX2_advance_60 : decode cX2_advance 60 = .ok (.goto (-34), 3) := by decide +kernel
theorem dX2_advance_63 : decode cX2_advance 63 = .ok (.aload_n 2, 1) := by decide +kernel
theorem dX2_advance_64 : decode cX2_advance 64 = .ok (.iload_n 3, 1) := by decide +kernel
theorem dX2_advance_65 : decode cX2_advance 65 = .ok (.putfield 41, 3) := by decide +kernel
theorem dX2_advance_68 : decode cX2_advance 68 = .ok (.aload_n 2, 1) := by decide +kernel
theorem dX2_advance_69 : decode cX2_advance 69 = .ok (.aload_n 2, 1) := by decide +kernel
theorem dX2_advance_70 : decode cX2_advance 70 = .ok (.getfield 44, 3) := by decide +kernel
theorem dX2_advance_73 : decode cX2_advance 73 = .ok (.putfield 47, 3) := by decide +kernel
theorem dX2_advance_76 : decode cX2_advance 76 = .ok (.aload_n 2, 1) := by decide +kernel
theorem dX2_advance_77 : decode cX2_advance 77 = .ok (.dup, 1) := by decide +kernel
theorem dX2_advance_78 : decode cX2_advance 78 = .ok (.getfield 50, 3) := by decide +kernel
theorem dX2_advance_81 : decode cX2_advance 81 = .ok (.iconst 1, 1) := by decide +kernel
theorem dX2_advance_82 : decode cX2_advance 82 = .ok (.iadd, 1) := by decide +kernel
theorem dX2_advance_83 : decode cX2_advance 83 = .ok (.putfield 50, 3) := by decide +kernel
theorem dX2_advance_86 : decode cX2_advance 86 = .ok (.return_, 1) := by decide +kernel
theorem dX2_advanceTruth_0 : decode cX2_advanceTruth 0 = .ok (.iconst 0, 1) := by decide +kernel
theorem dX2_advanceTruth_1 : decode cX2_advanceTruth 1 = .ok (.istore 5, 2) := by decide +kernel
theorem dX2_advanceTruth_3 : decode cX2_advanceTruth 3 = .ok (.iload 5, 2) := by decide +kernel
theorem dX2_advanceTruth_5 : decode cX2_advanceTruth 5 = .ok (.aload_n 1, 1) := by decide +kernel
theorem dX2_advanceTruth_6 : decode cX2_advanceTruth 6 = .ok (.getfield 53, 3) := by decide +kernel
theorem dX2_advanceTruth_9 : decode cX2_advanceTruth 9 = .ok (.if_icmp .ge 69, 3) := by decide +kernel
theorem dX2_advanceTruth_12 : decode cX2_advanceTruth 12 = .ok (.aload_n 1, 1) := by decide +kernel
theorem dX2_advanceTruth_13 : decode cX2_advanceTruth 13 = .ok (.aload_n 1, 1) := by decide +kernel
theorem dX2_advanceTruth_14 : decode cX2_advanceTruth 14 = .ok (.getfield 56, 3) := by decide +kernel
theorem dX2_advanceTruth_17 : decode cX2_advanceTruth 17 = .ok (.iload 5, 2) := by decide +kernel
theorem dX2_advanceTruth_19 : decode cX2_advanceTruth 19 = .ok (.aaload, 1) := by decide +kernel
theorem dX2_advanceTruth_20 : decode cX2_advanceTruth 20 = .ok (.aload_n 2, 1) := by decide +kernel
theorem dX2_advanceTruth_21 : decode cX2_advanceTruth 21 = .ok (.getfield 60, 3) := by decide +kernel
theorem dX2_advanceTruth_24 : decode cX2_advanceTruth 24 = .ok (.invokevirtual 63, 3) := by decide +kernel
theorem dX2_advanceTruth_27 : decode cX2_advanceTruth 27 = .ok (.ldc2_w 67, 3) := by decide +kernel
theorem dX2_advanceTruth_30 : decode cX2_advanceTruth 30 = .ok (.invokestatic 69, 3) := by decide +kernel
theorem dX2_advanceTruth_33 : decode cX2_advanceTruth 33 = .ok (.lstore 6, 2) := by decide +kernel
theorem dX2_advanceTruth_35 : decode cX2_advanceTruth 35 = .ok (.aload_n 0, 1) := by decide +kernel
theorem dX2_advanceTruth_36 : decode cX2_advanceTruth 36 = .ok (.getfield 9, 3) := by decide +kernel
theorem dX2_advanceTruth_39 : decode cX2_advanceTruth 39 = .ok (.iload 5, 2) := by decide +kernel
theorem dX2_advanceTruth_41 : decode cX2_advanceTruth 41 = .ok (.lload 6, 2) := by decide +kernel
theorem dX2_advanceTruth_43 : decode cX2_advanceTruth 43 = .ok (.aload_n 1, 1) := by decide +kernel
theorem dX2_advanceTruth_44 : decode cX2_advanceTruth 44 = .ok (.getfield 73, 3) := by decide +kernel
theorem dX2_advanceTruth_47 : decode cX2_advanceTruth 47 = .ok (.iload 5, 2) := by decide +kernel
theorem dX2_advanceTruth_49 : decode cX2_advanceTruth 49 = .ok (.iaload, 1) := by decide +kernel
theorem dX2_advanceTruth_50 : decode cX2_advanceTruth 50 = .ok (.iload_n 3, 1) := by decide +kernel
theorem dX2_advanceTruth_51 : decode cX2_advanceTruth 51 = .ok (.imul, 1) := by decide +kernel
theorem dX2_advanceTruth_52 : decode cX2_advanceTruth 52 = .ok (.i2l, 1) := by decide +kernel
theorem dX2_advanceTruth_53 : decode cX2_advanceTruth 53 = .ok (.ladd, 1) := by decide +kernel
theorem dX2_advanceTruth_54 : decode cX2_advanceTruth 54 = .ok (.aload_n 1, 1) := by decide +kernel
theorem dX2_advanceTruth_55 : decode cX2_advanceTruth 55 = .ok (.getfield 76, 3) := by decide +kernel
theorem dX2_advanceTruth_58 : decode cX2_advanceTruth 58 = .ok (.iload 5, 2) := by decide +kernel
theorem dX2_advanceTruth_60 : decode cX2_advanceTruth 60 = .ok (.iaload, 1) := by decide +kernel
theorem dX2_advanceTruth_61 : decode cX2_advanceTruth 61 = .ok (.iload 4, 2) := by decide +kernel
theorem dX2_advanceTruth_63 : decode cX2_advanceTruth 63 = .ok (.imul, 1) := by decide +kernel
theorem dX2_advanceTruth_64 : decode cX2_advanceTruth 64 = .ok (.i2l, 1) := by decide +kernel
theorem dX2_advanceTruth_65 : decode cX2_advanceTruth 65 = .ok (.ladd, 1) := by decide +kernel
theorem dX2_advanceTruth_66 : decode cX2_advanceTruth 66 = .ok (.ldc 79, 2) := by decide +kernel
theorem dX2_advanceTruth_68 : decode cX2_advanceTruth 68 = .ok (.invokestatic 80, 3) := by decide +kernel
theorem dX2_advanceTruth_71 : decode cX2_advanceTruth 71 = .ok (.iastore, 1) := by decide +kernel
theorem dX2_advanceTruth_72 : decode cX2_advanceTruth 72 = .ok (.iinc 5 1, 3) := by decide +kernel
theorem dX2_advanceTruth_75 : decode cX2_advanceTruth 75 = .ok (.goto (-72), 3) := by decide +kernel
theorem dX2_advanceTruth_78 : decode cX2_advanceTruth 78 = .ok (.aload_n 0, 1) := by decide +kernel
theorem dX2_advanceTruth_79 : decode cX2_advanceTruth 79 = .ok (.getfield 9, 3) := by decide +kernel
theorem dX2_advanceTruth_82 : decode cX2_advanceTruth 82 = .ok (.aload_n 2, 1) := by decide +kernel
theorem dX2_advanceTruth_83 : decode cX2_advanceTruth 83 = .ok (.getfield 60, 3) := by decide +kernel
theorem dX2_advanceTruth_86 : decode cX2_advanceTruth 86 = .ok (.invokestatic 84, 3) := by decide +kernel
theorem dX2_advanceTruth_89 : decode cX2_advanceTruth 89 = .ok (.return_, 1) := by decide +kernel
theorem dX2_advanceIntervals_0 : decode cX2_advanceIntervals 0 = .ok (.iconst 0, 1) := by decide +kernel
theorem dX2_advanceIntervals_1 : decode cX2_advanceIntervals 1 = .ok (.istore 4, 2) := by decide +kernel
theorem dX2_advanceIntervals_3 : decode cX2_advanceIntervals 3 = .ok (.iload 4, 2) := by decide +kernel
theorem dX2_advanceIntervals_5 : decode cX2_advanceIntervals 5 = .ok (.aload_n 1, 1) := by decide +kernel
theorem dX2_advanceIntervals_6 : decode cX2_advanceIntervals 6 = .ok (.getfield 53, 3) := by decide +kernel
theorem dX2_advanceIntervals_9 : decode cX2_advanceIntervals 9 = .ok (.if_icmp .ge 65, 3) := by decide +kernel
theorem dX2_advanceIntervals_12 : decode cX2_advanceIntervals 12 = .ok (.aload_n 2, 1) := by decide +kernel
theorem dX2_advanceIntervals_13 : decode cX2_advanceIntervals 13 = .ok (.getfield 88, 3) := by decide +kernel
theorem dX2_advanceIntervals_16 : decode cX2_advanceIntervals 16 = .ok (.iload 4, 2) := by decide +kernel
theorem dX2_advanceIntervals_18 : decode cX2_advanceIntervals 18 = .ok (.aload_n 1, 1) := by decide +kernel
theorem dX2_advanceIntervals_19 : decode cX2_advanceIntervals 19 = .ok (.aload_n 1, 1) := by decide +kernel
theorem dX2_advanceIntervals_20 : decode cX2_advanceIntervals 20 = .ok (.getfield 56, 3) := by decide +kernel
theorem dX2_advanceIntervals_23 : decode cX2_advanceIntervals 23 = .ok (.iload 4, 2) := by decide +kernel
theorem dX2_advanceIntervals_25 : decode cX2_advanceIntervals 25 = .ok (.aaload, 1) := by decide +kernel
theorem dX2_advanceIntervals_26 : decode cX2_advanceIntervals 26 = .ok (.aload_n 2, 1) := by decide +kernel
theorem dX2_advanceIntervals_27 : decode cX2_advanceIntervals 27 = .ok (.iconst (-1), 1) := by decide +kernel
theorem dX2_advanceIntervals_28 : decode cX2_advanceIntervals 28 = .ok (.iconst 0, 1) := by decide +kernel
theorem dX2_advanceIntervals_29 : decode cX2_advanceIntervals 29 = .ok (.invokevirtual 91, 3) := by decide +kernel
theorem dX2_advanceIntervals_32 : decode cX2_advanceIntervals 32 = .ok (.ldc2_w 67, 3) := by decide +kernel
theorem dX2_advanceIntervals_35 : decode cX2_advanceIntervals 35 = .ok (.invokestatic 69, 3) := by decide +kernel
theorem dX2_advanceIntervals_38 : decode cX2_advanceIntervals 38 = .ok (.l2i, 1) := by decide +kernel
theorem dX2_advanceIntervals_39 : decode cX2_advanceIntervals 39 = .ok (.iastore, 1) := by decide +kernel
theorem dX2_advanceIntervals_40 : decode cX2_advanceIntervals 40 = .ok (.aload_n 2, 1) := by decide +kernel
theorem dX2_advanceIntervals_41 : decode cX2_advanceIntervals 41 = .ok (.getfield 95, 3) := by decide +kernel
theorem dX2_advanceIntervals_44 : decode cX2_advanceIntervals 44 = .ok (.iload 4, 2) := by decide +kernel
theorem dX2_advanceIntervals_46 : decode cX2_advanceIntervals 46 = .ok (.aload_n 1, 1) := by decide +kernel
theorem dX2_advanceIntervals_47 : decode cX2_advanceIntervals 47 = .ok (.aload_n 1, 1) := by decide +kernel
theorem dX2_advanceIntervals_48 : decode cX2_advanceIntervals 48 = .ok (.getfield 56, 3) := by decide +kernel
theorem dX2_advanceIntervals_51 : decode cX2_advanceIntervals 51 = .ok (.iload 4, 2) := by decide +kernel
theorem dX2_advanceIntervals_53 : decode cX2_advanceIntervals 53 = .ok (.aaload, 1) := by decide +kernel
theorem dX2_advanceIntervals_54 : decode cX2_advanceIntervals 54 = .ok (.aload_n 2, 1) := by decide +kernel
theorem dX2_advanceIntervals_55 : decode cX2_advanceIntervals 55 = .ok (.iconst (-1), 1) := by decide +kernel
theorem dX2_advanceIntervals_56 : decode cX2_advanceIntervals 56 = .ok (.iconst 1, 1) := by decide +kernel
theorem dX2_advanceIntervals_57 : decode cX2_advanceIntervals 57 = .ok (.invokevirtual 91, 3) := by decide +kernel
theorem dX2_advanceIntervals_60 : decode cX2_advanceIntervals 60 = .ok (.ldc2_w 67, 3) := by decide +kernel
theorem dX2_advanceIntervals_63 : decode cX2_advanceIntervals 63 = .ok (.invokestatic 69, 3) := by decide +kernel
theorem dX2_advanceIntervals_66 : decode cX2_advanceIntervals 66 = .ok (.l2i, 1) := by decide +kernel
theorem dX2_advanceIntervals_67 : decode cX2_advanceIntervals 67 = .ok (.iastore, 1) := by decide +kernel
theorem dX2_advanceIntervals_68 : decode cX2_advanceIntervals 68 = .ok (.iinc 4 1, 3) := by decide +kernel
theorem dX2_advanceIntervals_71 : decode cX2_advanceIntervals 71 = .ok (.goto (-68), 3) := by decide +kernel
theorem dX2_advanceIntervals_74 : decode cX2_advanceIntervals 74 = .ok (.iconst 0, 1) := by decide +kernel
theorem dX2_advanceIntervals_75 : decode cX2_advanceIntervals 75 = .ok (.istore 4, 2) := by decide +kernel
theorem dX2_advanceIntervals_77 : decode cX2_advanceIntervals 77 = .ok (.iload 4, 2) := by decide +kernel
theorem dX2_advanceIntervals_79 : decode cX2_advanceIntervals 79 = .ok (.aload_n 1, 1) := by decide +kernel
theorem dX2_advanceIntervals_80 : decode cX2_advanceIntervals 80 = .ok (.getfield 53, 3) := by decide +kernel
theorem dX2_advanceIntervals_83 : decode cX2_advanceIntervals 83 = .ok (.if_icmp .ge 89, 3) := by decide +kernel
theorem dX2_advanceIntervals_86 : decode cX2_advanceIntervals 86 = .ok (.aload_n 1, 1) := by decide +kernel
theorem dX2_advanceIntervals_87 : decode cX2_advanceIntervals 87 = .ok (.getfield 73, 3) := by decide +kernel
theorem dX2_advanceIntervals_90 : decode cX2_advanceIntervals 90 = .ok (.iload 4, 2) := by decide +kernel
theorem dX2_advanceIntervals_92 : decode cX2_advanceIntervals 92 = .ok (.iaload, 1) := by decide +kernel
theorem dX2_advanceIntervals_93 : decode cX2_advanceIntervals 93 = .ok (.iload_n 3, 1) := by decide +kernel
theorem dX2_advanceIntervals_94 : decode cX2_advanceIntervals 94 = .ok (.imul, 1) := by decide +kernel
theorem dX2_advanceIntervals_95 : decode cX2_advanceIntervals 95 = .ok (.istore 5, 2) := by decide +kernel
theorem dX2_advanceIntervals_97 : decode cX2_advanceIntervals 97 = .ok (.aload_n 1, 1) := by decide +kernel
theorem dX2_advanceIntervals_98 : decode cX2_advanceIntervals 98 = .ok (.getfield 76, 3) := by decide +kernel
theorem dX2_advanceIntervals_101 : decode cX2_advanceIntervals 101 = .ok (.iload 4, 2) := by decide +kernel
theorem dX2_advanceIntervals_103 : decode cX2_advanceIntervals 103 = .ok (.iaload, 1) := by decide +kernel
theorem dX2_advanceIntervals_104 : decode cX2_advanceIntervals 104 = .ok (.invokestatic 98, 3) := by decide +kernel
theorem dX2_advanceIntervals_107 : decode cX2_advanceIntervals 107 = .ok (.aload_n 2, 1) := by decide +kernel
theorem dX2_advanceIntervals_108 : decode cX2_advanceIntervals 108 = .ok (.getfield 44, 3) := by decide +kernel
theorem dX2_advanceIntervals_111 : decode cX2_advanceIntervals 111 = .ok (.imul, 1) := by decide +kernel
theorem dX2_advanceIntervals_112 : decode cX2_advanceIntervals 112 = .ok (.istore 6, 2) := by decide +kernel
theorem dX2_advanceIntervals_114 : decode cX2_advanceIntervals 114 = .ok (.aload_n 2, 1) := by decide +kernel
theorem dX2_advanceIntervals_115 : decode cX2_advanceIntervals 115 = .ok (.getfield 104, 3) := by decide +kernel
theorem dX2_advanceIntervals_118 : decode cX2_advanceIntervals 118 = .ok (.iload 4, 2) := by decide +kernel
theorem dX2_advanceIntervals_120 : decode cX2_advanceIntervals 120 = .ok (.aload_n 2, 1) := by decide +kernel
theorem dX2_advanceIntervals_121 : decode cX2_advanceIntervals 121 = .ok (.getfield 88, 3) := by decide +kernel
theorem dX2_advanceIntervals_124 : decode cX2_advanceIntervals 124 = .ok (.iload 4, 2) := by decide +kernel
theorem dX2_advanceIntervals_126 : decode cX2_advanceIntervals 126 = .ok (.iaload, 1) := by decide +kernel
theorem dX2_advanceIntervals_127 : decode cX2_advanceIntervals 127 = .ok (.iload 5, 2) := by decide +kernel
theorem dX2_advanceIntervals_129 : decode cX2_advanceIntervals 129 = .ok (.iadd, 1) := by decide +kernel
theorem dX2_advanceIntervals_130 : decode cX2_advanceIntervals 130 = .ok (.iload 6, 2) := by decide +kernel
theorem dX2_advanceIntervals_132 : decode cX2_advanceIntervals 132 = .ok (.isub, 1) := by decide +kernel
theorem dX2_advanceIntervals_133 : decode cX2_advanceIntervals 133 = .ok (.i2l, 1) := by decide +kernel
theorem dX2_advanceIntervals_134 : decode cX2_advanceIntervals 134 = .ok (.ldc 79, 2) := by decide +kernel
theorem dX2_advanceIntervals_136 : decode cX2_advanceIntervals 136 = .ok (.invokestatic 80, 3) := by decide +kernel
theorem dX2_advanceIntervals_139 : decode cX2_advanceIntervals 139 = .ok (.iastore, 1) := by decide +kernel
theorem dX2_advanceIntervals_140 : decode cX2_advanceIntervals 140 = .ok (.aload_n 2, 1) := by decide +kernel
theorem dX2_advanceIntervals_141 : decode cX2_advanceIntervals 141 = .ok (.getfield 107, 3) := by decide +kernel
theorem dX2_advanceIntervals_144 : decode cX2_advanceIntervals 144 = .ok (.iload 4, 2) := by decide +kernel
theorem dX2_advanceIntervals_146 : decode cX2_advanceIntervals 146 = .ok (.aload_n 2, 1) := by decide +kernel
theorem dX2_advanceIntervals_147 : decode cX2_advanceIntervals 147 = .ok (.getfield 95, 3) := by decide +kernel
theorem dX2_advanceIntervals_150 : decode cX2_advanceIntervals 150 = .ok (.iload 4, 2) := by decide +kernel
theorem dX2_advanceIntervals_152 : decode cX2_advanceIntervals 152 = .ok (.iaload, 1) := by decide +kernel
theorem dX2_advanceIntervals_153 : decode cX2_advanceIntervals 153 = .ok (.iload 5, 2) := by decide +kernel
theorem dX2_advanceIntervals_155 : decode cX2_advanceIntervals 155 = .ok (.iadd, 1) := by decide +kernel
theorem dX2_advanceIntervals_156 : decode cX2_advanceIntervals 156 = .ok (.iload 6, 2) := by decide +kernel
theorem dX2_advanceIntervals_158 : decode cX2_advanceIntervals 158 = .ok (.iadd, 1) := by decide +kernel
theorem dX2_advanceIntervals_159 : decode cX2_advanceIntervals 159 = .ok (.i2l, 1) := by decide +kernel
theorem dX2_advanceIntervals_160 : decode cX2_advanceIntervals 160 = .ok (.ldc 79, 2) := by decide +kernel
theorem dX2_advanceIntervals_162 : decode cX2_advanceIntervals 162 = .ok (.invokestatic 80, 3) := by decide +kernel
theorem dX2_advanceIntervals_165 : decode cX2_advanceIntervals 165 = .ok (.iastore, 1) := by decide +kernel
theorem dX2_advanceIntervals_166 : decode cX2_advanceIntervals 166 = .ok (.iinc 4 1, 3) := by decide +kernel
theorem dX2_advanceIntervals_169 : decode cX2_advanceIntervals 169 = .ok (.goto (-92), 3) := by decide +kernel
theorem dX2_advanceIntervals_172 : decode cX2_advanceIntervals 172 = .ok (.return_, 1) := by decide +kernel
theorem dX2_advanceEstimates_0 : decode cX2_advanceEstimates 0 = .ok (.iconst 0, 1) := by decide +kernel
theorem dX2_advanceEstimates_1 : decode cX2_advanceEstimates 1 = .ok (.istore 4, 2) := by decide +kernel
theorem dX2_advanceEstimates_3 : decode cX2_advanceEstimates 3 = .ok (.iload 4, 2) := by decide +kernel
theorem dX2_advanceEstimates_5 : decode cX2_advanceEstimates 5 = .ok (.aload_n 1, 1) := by decide +kernel
theorem dX2_advanceEstimates_6 : decode cX2_advanceEstimates 6 = .ok (.getfield 30, 3) := by decide +kernel
theorem dX2_advanceEstimates_9 : decode cX2_advanceEstimates 9 = .ok (.if_icmp .ge 24, 3) := by decide +kernel
theorem dX2_advanceEstimates_12 : decode cX2_advanceEstimates 12 = .ok (.aload_n 0, 1) := by decide +kernel
theorem dX2_advanceEstimates_13 : decode cX2_advanceEstimates 13 = .ok (.getfield 15, 3) := by decide +kernel
theorem dX2_advanceEstimates_16 : decode cX2_advanceEstimates 16 = .ok (.iload 4, 2) := by decide +kernel
theorem dX2_advanceEstimates_18 : decode cX2_advanceEstimates 18 = .ok (.aload_n 0, 1) := by decide +kernel
theorem dX2_advanceEstimates_19 : decode cX2_advanceEstimates 19 = .ok (.aload_n 1, 1) := by decide +kernel
theorem dX2_advanceEstimates_20 : decode cX2_advanceEstimates 20 = .ok (.aload_n 2, 1) := by decide +kernel
theorem dX2_advanceEstimates_21 : decode cX2_advanceEstimates 21 = .ok (.iload 4, 2) := by decide +kernel
theorem dX2_advanceEstimates_23 : decode cX2_advanceEstimates 23 = .ok (.invokevirtual 110, 3) := by decide +kernel
theorem dX2_advanceEstimates_26 : decode cX2_advanceEstimates 26 = .ok (.lastore, 1) := by decide +kernel
theorem dX2_advanceEstimates_27 : decode cX2_advanceEstimates 27 = .ok (.iinc 4 1, 3) := by decide +kernel
theorem dX2_advanceEstimates_30 : decode cX2_advanceEstimates 30 = .ok (.goto (-27), 3) := by decide +kernel
theorem dX2_advanceEstimates_33 : decode cX2_advanceEstimates 33 = .ok (.iconst 0, 1) := by decide +kernel
theorem dX2_advanceEstimates_34 : decode cX2_advanceEstimates 34 = .ok (.istore 4, 2) := by decide +kernel
theorem dX2_advanceEstimates_36 : decode cX2_advanceEstimates 36 = .ok (.iload 4, 2) := by decide +kernel
theorem dX2_advanceEstimates_38 : decode cX2_advanceEstimates 38 = .ok (.aload_n 1, 1) := by decide +kernel
theorem dX2_advanceEstimates_39 : decode cX2_advanceEstimates 39 = .ok (.getfield 53, 3) := by decide +kernel
theorem dX2_advanceEstimates_42 : decode cX2_advanceEstimates 42 = .ok (.if_icmp .ge 118, 3) := by decide +kernel
theorem dX2_advanceEstimates_45 : decode cX2_advanceEstimates 45 = .ok (.aload_n 1, 1) := by decide +kernel
theorem dX2_advanceEstimates_46 : decode cX2_advanceEstimates 46 = .ok (.aload_n 1, 1) := by decide +kernel
theorem dX2_advanceEstimates_47 : decode cX2_advanceEstimates 47 = .ok (.getfield 56, 3) := by decide +kernel
theorem dX2_advanceEstimates_50 : decode cX2_advanceEstimates 50 = .ok (.iload 4, 2) := by decide +kernel
theorem dX2_advanceEstimates_52 : decode cX2_advanceEstimates 52 = .ok (.aaload, 1) := by decide +kernel
theorem dX2_advanceEstimates_53 : decode cX2_advanceEstimates 53 = .ok (.aload_n 2, 1) := by decide +kernel
theorem dX2_advanceEstimates_54 : decode cX2_advanceEstimates 54 = .ok (.getfield 114, 3) := by decide +kernel
theorem dX2_advanceEstimates_57 : decode cX2_advanceEstimates 57 = .ok (.invokevirtual 63, 3) := by decide +kernel
theorem dX2_advanceEstimates_60 : decode cX2_advanceEstimates 60 = .ok (.ldc2_w 67, 3) := by decide +kernel
theorem dX2_advanceEstimates_63 : decode cX2_advanceEstimates 63 = .ok (.invokestatic 69, 3) := by decide +kernel
theorem dX2_advanceEstimates_66 : decode cX2_advanceEstimates 66 = .ok (.lstore 5, 2) := by decide +kernel
theorem dX2_advanceEstimates_68 : decode cX2_advanceEstimates 68 = .ok (.lconst 0, 1) := by decide +kernel
theorem dX2_advanceEstimates_69 : decode cX2_advanceEstimates 69 = .ok (.lstore 7, 2) := by decide +kernel
theorem dX2_advanceEstimates_71 : decode cX2_advanceEstimates 71 = .ok (.iconst 0, 1) := by decide +kernel
theorem dX2_advanceEstimates_72 : decode cX2_advanceEstimates 72 = .ok (.istore 9, 2) := by decide +kernel
theorem dX2_advanceEstimates_74 : decode cX2_advanceEstimates 74 = .ok (.iload 9, 2) := by decide +kernel
theorem dX2_advanceEstimates_76 : decode cX2_advanceEstimates 76 = .ok (.aload_n 1, 1) := by decide +kernel
theorem dX2_advanceEstimates_77 : decode cX2_advanceEstimates 77 = .ok (.getfield 30, 3) := by decide +kernel
theorem dX2_advanceEstimates_80 : decode cX2_advanceEstimates 80 = .ok (.if_icmp .ge 33, 3) := by decide +kernel
theorem dX2_advanceEstimates_83 : decode cX2_advanceEstimates 83 = .ok (.lload 7, 2) := by decide +kernel
theorem dX2_advanceEstimates_85 : decode cX2_advanceEstimates 85 = .ok (.aload_n 2, 1) := by decide +kernel
theorem dX2_advanceEstimates_86 : decode cX2_advanceEstimates 86 = .ok (.getfield 117, 3) := by decide +kernel
theorem dX2_advanceEstimates_89 : decode cX2_advanceEstimates 89 = .ok (.iload 4, 2) := by decide +kernel
theorem dX2_advanceEstimates_91 : decode cX2_advanceEstimates 91 = .ok (.aaload, 1) := by decide +kernel
theorem dX2_advanceEstimates_92 : decode cX2_advanceEstimates 92 = .ok (.iload 9, 2) := by decide +kernel
theorem dX2_advanceEstimates_94 : decode cX2_advanceEstimates 94 = .ok (.iaload, 1) := by decide +kernel
theorem dX2_advanceEstimates_95 : decode cX2_advanceEstimates 95 = .ok (.i2l, 1) := by decide +kernel
theorem dX2_advanceEstimates_96 : decode cX2_advanceEstimates 96 = .ok (.aload_n 0, 1) := by decide +kernel
theorem dX2_advanceEstimates_97 : decode cX2_advanceEstimates 97 = .ok (.getfield 15, 3) := by decide +kernel
theorem dX2_advanceEstimates_100 : decode cX2_advanceEstimates 100 = .ok (.iload 9, 2) := by decide +kernel
theorem dX2_advanceEstimates_102 : decode cX2_advanceEstimates 102 = .ok (.laload, 1) := by decide +kernel
theorem dX2_advanceEstimates_103 : decode cX2_advanceEstimates 103 = .ok (.lmul, 1) := by decide +kernel
theorem dX2_advanceEstimates_104 : decode cX2_advanceEstimates 104 = .ok (.ladd, 1) := by decide +kernel
theorem dX2_advanceEstimates_105 : decode cX2_advanceEstimates 105 = .ok (.lstore 7, 2) := by decide +kernel
theorem dX2_advanceEstimates_107 : decode cX2_advanceEstimates 107 = .ok (.iinc 9 1, 3) := by decide +kernel
theorem dX2_advanceEstimates_110 : decode cX2_advanceEstimates 110 = .ok (.goto (-36), 3) := by decide +kernel
theorem dX2_advanceEstimates_113 : decode cX2_advanceEstimates 113 = .ok (.lload 5, 2) := by decide +kernel
theorem dX2_advanceEstimates_115 : decode cX2_advanceEstimates 115 = .ok (.bipush 16, 2) := by decide +kernel
theorem dX2_advanceEstimates_117 : decode cX2_advanceEstimates 117 = .ok (.aload_n 1, 1) := by decide +kernel
theorem dX2_advanceEstimates_118 : decode cX2_advanceEstimates 118 = .ok (.getfield 73, 3) := by decide +kernel
theorem dX2_advanceEstimates_121 : decode cX2_advanceEstimates 121 = .ok (.iload 4, 2) := by decide +kernel
theorem dX2_advanceEstimates_123 : decode cX2_advanceEstimates 123 = .ok (.iaload, 1) := by decide +kernel
theorem dX2_advanceEstimates_124 : decode cX2_advanceEstimates 124 = .ok (.imul, 1) := by decide +kernel
theorem dX2_advanceEstimates_125 : decode cX2_advanceEstimates 125 = .ok (.iload_n 3, 1) := by decide +kernel
theorem dX2_advanceEstimates_126 : decode cX2_advanceEstimates 126 = .ok (.imul, 1) := by decide +kernel
theorem dX2_advanceEstimates_127 : decode cX2_advanceEstimates 127 = .ok (.i2l, 1) := by decide +kernel
theorem dX2_advanceEstimates_128 : decode cX2_advanceEstimates 128 = .ok (.ladd, 1) := by decide +kernel
theorem dX2_advanceEstimates_129 : decode cX2_advanceEstimates 129 = .ok (.lload 7, 2) := by decide +kernel
theorem dX2_advanceEstimates_131 : decode cX2_advanceEstimates 131 = .ok (.ldc2_w 67, 3) := by decide +kernel
theorem dX2_advanceEstimates_134 : decode cX2_advanceEstimates 134 = .ok (.invokestatic 69, 3) := by decide +kernel
theorem dX2_advanceEstimates_137 : decode cX2_advanceEstimates 137 = .ok (.ladd, 1) := by decide +kernel
theorem dX2_advanceEstimates_138 : decode cX2_advanceEstimates 138 = .ok (.lstore 9, 2) := by decide +kernel
theorem dX2_advanceEstimates_140 : decode cX2_advanceEstimates 140 = .ok (.aload_n 0, 1) := by decide +kernel
theorem dX2_advanceEstimates_141 : decode cX2_advanceEstimates 141 = .ok (.getfield 9, 3) := by decide +kernel
theorem dX2_advanceEstimates_144 : decode cX2_advanceEstimates 144 = .ok (.iload 4, 2) := by decide +kernel
theorem dX2_advanceEstimates_146 : decode cX2_advanceEstimates 146 = .ok (.lload 9, 2) := by decide +kernel
theorem dX2_advanceEstimates_148 : decode cX2_advanceEstimates 148 = .ok (.ldc 120, 2) := by decide +kernel
theorem dX2_advanceEstimates_150 : decode cX2_advanceEstimates 150 = .ok (.invokestatic 80, 3) := by decide +kernel
theorem dX2_advanceEstimates_153 : decode cX2_advanceEstimates 153 = .ok (.iastore, 1) := by decide +kernel
theorem dX2_advanceEstimates_154 : decode cX2_advanceEstimates 154 = .ok (.iinc 4 1, 3) := by decide +kernel
theorem dX2_advanceEstimates_157 : decode cX2_advanceEstimates 157 = .ok (.goto (-121), 3) := by decide +kernel
theorem dX2_advanceEstimates_160 : decode cX2_advanceEstimates 160 = .ok (.aload_n 0, 1) := by decide +kernel
theorem dX2_advanceEstimates_161 : decode cX2_advanceEstimates 161 = .ok (.getfield 9, 3) := by decide +kernel
theorem dX2_advanceEstimates_164 : decode cX2_advanceEstimates 164 = .ok (.aload_n 2, 1) := by decide +kernel
theorem dX2_advanceEstimates_165 : decode cX2_advanceEstimates 165 = .ok (.getfield 114, 3) := by decide +kernel
theorem dX2_advanceEstimates_168 : decode cX2_advanceEstimates 168 = .ok (.invokestatic 84, 3) := by decide +kernel
theorem dX2_advanceEstimates_171 : decode cX2_advanceEstimates 171 = .ok (.return_, 1) := by decide +kernel
theorem dX2_deviationOf_0 : decode cX2_deviationOf 0 = .ok (.aload_n 2, 1) := by decide +kernel
theorem dX2_deviationOf_1 : decode cX2_deviationOf 1 = .ok (.getfield 36, 3) := by decide +kernel
theorem dX2_deviationOf_4 : decode cX2_deviationOf 4 = .ok (.iload_n 3, 1) := by decide +kernel
theorem dX2_deviationOf_5 : decode cX2_deviationOf 5 = .ok (.iaload, 1) := by decide +kernel
theorem dX2_deviationOf_6 : decode cX2_deviationOf 6 = .ok (.iconst (-1), 1) := by decide +kernel
theorem dX2_deviationOf_7 : decode cX2_deviationOf 7 = .ok (.if_icmp .eq 16, 3) := by decide +kernel
theorem dX2_deviationOf_10 : decode cX2_deviationOf 10 = .ok (.aload_n 2, 1) := by decide +kernel
theorem dX2_deviationOf_11 : decode cX2_deviationOf 11 = .ok (.getfield 36, 3) := by decide +kernel
theorem dX2_deviationOf_14 : decode cX2_deviationOf 14 = .ok (.iload_n 3, 1) := by decide +kernel
theorem dX2_deviationOf_15 : decode cX2_deviationOf 15 = .ok (.iaload, 1) := by decide +kernel
theorem dX2_deviationOf_16 : decode cX2_deviationOf 16 = .ok (.aload_n 2, 1) := by decide +kernel
theorem dX2_deviationOf_17 : decode cX2_deviationOf 17 = .ok (.getfield 121, 3) := by decide +kernel
theorem dX2_deviationOf_20 : decode cX2_deviationOf 20 = .ok (.if_icmp .le 5, 3) := by decide +kernel
theorem dX2_deviationOf_23 : decode cX2_deviationOf 23 = .ok (.lconst 0, 1) := by decide +kernel
theorem dX2_deviationOf_24 : decode cX2_deviationOf 24 = .ok (.lreturn, 1) := by decide +kernel
theorem dX2_deviationOf_25 : decode cX2_deviationOf 25 = .ok (.aload_n 1, 1) := by decide +kernel
theorem dX2_deviationOf_26 : decode cX2_deviationOf 26 = .ok (.getfield 124, 3) := by decide +kernel
theorem dX2_deviationOf_29 : decode cX2_deviationOf 29 = .ok (.iload_n 3, 1) := by decide +kernel
theorem dX2_deviationOf_30 : decode cX2_deviationOf 30 = .ok (.iaload, 1) := by decide +kernel
theorem dX2_deviationOf_31 : decode cX2_deviationOf 31 = .ok (.i2l, 1) := by decide +kernel
theorem dX2_deviationOf_32 : decode cX2_deviationOf 32 = .ok (.lstore 4, 2) := by decide +kernel
theorem dX2_deviationOf_34 : decode cX2_deviationOf 34 = .ok (.ldc2_w 67, 3) := by decide +kernel
theorem dX2_deviationOf_37 : decode cX2_deviationOf 37 = .ok (.lload 4, 2) := by decide +kernel
theorem dX2_deviationOf_39 : decode cX2_deviationOf 39 = .ok (.lmul, 1) := by decide +kernel
theorem dX2_deviationOf_40 : decode cX2_deviationOf 40 = .ok (.aload_n 2, 1) := by decide +kernel
theorem dX2_deviationOf_41 : decode cX2_deviationOf 41 = .ok (.getfield 127, 3) := by decide +kernel
theorem dX2_deviationOf_44 : decode cX2_deviationOf 44 = .ok (.iload_n 3, 1) := by decide +kernel
theorem dX2_deviationOf_45 : decode cX2_deviationOf 45 = .ok (.iaload, 1) := by decide +kernel
theorem dX2_deviationOf_46 : decode cX2_deviationOf 46 = .ok (.i2l, 1) := by decide +kernel
theorem dX2_deviationOf_47 : decode cX2_deviationOf 47 = .ok (.lmul, 1) := by decide +kernel
theorem dX2_deviationOf_48 : decode cX2_deviationOf 48 = .ok (.ldc2_w 130, 3) := by decide +kernel
theorem dX2_deviationOf_51 : decode cX2_deviationOf 51 = .ok (.lload 4, 2) := by decide +kernel
theorem dX2_deviationOf_53 : decode cX2_deviationOf 53 = .ok (.lconst 1, 1) := by decide +kernel
theorem dX2_deviationOf_54 : decode cX2_deviationOf 54 = .ok (.lsub, 1) := by decide +kernel
theorem dX2_deviationOf_55 : decode cX2_deviationOf 55 = .ok (.lmul, 1) := by decide +kernel
theorem dX2_deviationOf_56 : decode cX2_deviationOf 56 = .ok (.ladd, 1) := by decide +kernel
theorem dX2_deviationOf_57 : decode cX2_deviationOf 57 = .ok (.aload_n 1, 1) := by decide +kernel
theorem dX2_deviationOf_58 : decode cX2_deviationOf 58 = .ok (.aload_n 1, 1) := by decide +kernel
theorem dX2_deviationOf_59 : decode cX2_deviationOf 59 = .ok (.getfield 132, 3) := by decide +kernel
theorem dX2_deviationOf_62 : decode cX2_deviationOf 62 = .ok (.iload_n 3, 1) := by decide +kernel
theorem dX2_deviationOf_63 : decode cX2_deviationOf 63 = .ok (.aaload, 1) := by decide +kernel
theorem dX2_deviationOf_64 : decode cX2_deviationOf 64 = .ok (.aload_n 2, 1) := by decide +kernel
theorem dX2_deviationOf_65 : decode cX2_deviationOf 65 = .ok (.getfield 114, 3) := by decide +kernel
theorem dX2_deviationOf_68 : decode cX2_deviationOf 68 = .ok (.invokevirtual 63, 3) := by decide +kernel
theorem dX2_deviationOf_71 : decode cX2_deviationOf 71 = .ok (.lsub, 1) := by decide +kernel
theorem dX2_deviationOf_72 : decode cX2_deviationOf 72 = .ok (.lreturn, 1) := by decide +kernel
theorem dX2_observe_0 : decode cX2_observe 0 = .ok (.aload_n 2, 1) := by decide +kernel
theorem dX2_observe_1 : decode cX2_observe 1 = .ok (.getfield 127, 3) := by decide +kernel
theorem dX2_observe_4 : decode cX2_observe 4 = .ok (.iload_n 3, 1) := by decide +kernel
theorem dX2_observe_5 : decode cX2_observe 5 = .ok (.aload_n 1, 1) := by decide +kernel
theorem dX2_observe_6 : decode cX2_observe 6 = .ok (.iload_n 3, 1) := by decide +kernel
theorem dX2_observe_7 : decode cX2_observe 7 = .ok (.aload_n 1, 1) := by decide +kernel
theorem dX2_observe_8 : decode cX2_observe 8 = .ok (.aload_n 1, 1) := by decide +kernel
theorem dX2_observe_9 : decode cX2_observe 9 = .ok (.getfield 132, 3) := by decide +kernel
theorem dX2_observe_12 : decode cX2_observe 12 = .ok (.iload_n 3, 1) := by decide +kernel
theorem dX2_observe_13 : decode cX2_observe 13 = .ok (.aaload, 1) := by decide +kernel
theorem dX2_observe_14 : decode cX2_observe 14 = .ok (.aload_n 2, 1) := by decide +kernel
theorem dX2_observe_15 : decode cX2_observe 15 = .ok (.getfield 60, 3) := by decide +kernel
theorem dX2_observe_18 : decode cX2_observe 18 = .ok (.invokevirtual 63, 3) := by decide +kernel
theorem dX2_observe_21 : decode cX2_observe 21 = .ok (.invokevirtual 135, 3) := by decide +kernel
theorem dX2_observe_24 : decode cX2_observe 24 = .ok (.iastore, 1) := by decide +kernel
theorem dX2_observe_25 : decode cX2_observe 25 = .ok (.aload_n 2, 1) := by decide +kernel
theorem dX2_observe_26 : decode cX2_observe 26 = .ok (.getfield 36, 3) := by decide +kernel
theorem dX2_observe_29 : decode cX2_observe 29 = .ok (.iload_n 3, 1) := by decide +kernel
theorem dX2_observe_30 : decode cX2_observe 30 = .ok (.iconst 0, 1) := by decide +kernel
theorem dX2_observe_31 : decode cX2_observe 31 = .ok (.iastore, 1) := by decide +kernel
theorem dX2_observe_32 : decode cX2_observe 32 = .ok (.aload_n 0, 1) := by decide +kernel
theorem dX2_observe_33 : decode cX2_observe 33 = .ok (.aload_n 1, 1) := by decide +kernel
theorem dX2_observe_34 : decode cX2_observe 34 = .ok (.aload_n 2, 1) := by decide +kernel
theorem dX2_observe_35 : decode cX2_observe 35 = .ok (.invokevirtual 139, 3) := by decide +kernel
theorem dX2_observe_38 : decode cX2_observe 38 = .ok (.pop, 1) := by decide +kernel
theorem dX2_observe_39 : decode cX2_observe 39 = .ok (.return_, 1) := by decide +kernel
theorem dX2_tighten_0 : decode cX2_tighten 0 = .ok (.iconst 0, 1) := by decide +kernel
theorem dX2_tighten_1 : decode cX2_tighten 1 = .ok (.istore_n 3, 1) := by decide +kernel
theorem dX2_tighten_2 : decode cX2_tighten 2 = .ok (.iload_n 3, 1) := by decide +kernel
theorem dX2_tighten_3 : decode cX2_tighten 3 = .ok (.bipush 100, 2) := by decide +kernel
theorem dX2_tighten_5 : decode cX2_tighten 5 = .ok (.if_icmp .ge 34, 3) := by decide +kernel
theorem dX2_tighten_8 : decode cX2_tighten 8 = .ok (.aload_n 0, 1) := by decide +kernel
theorem dX2_tighten_9 : decode cX2_tighten 9 = .ok (.aload_n 1, 1) := by decide +kernel
theorem dX2_tighten_10 : decode cX2_tighten 10 = .ok (.aload_n 2, 1) := by decide +kernel
theorem dX2_tighten_11 : decode cX2_tighten 11 = .ok (.invokevirtual 143, 3) := by decide +kernel
theorem dX2_tighten_14 : decode cX2_tighten 14 = .ok (.istore 4, 2) := by decide +kernel
theorem dX2_tighten_16 : decode cX2_tighten 16 = .ok (.iload 4, 2) := by decide +kernel
theorem dX2_tighten_18 : decode cX2_tighten 18 = .ok (.iconst 1, 1) := by decide +kernel
theorem dX2_tighten_19 : decode cX2_tighten 19 = .ok (.if_icmp .eq 14, 3) := by decide +kernel
theorem dX2_tighten_22 : decode cX2_tighten 22 = .ok (.iload 4, 2) := by decide +kernel
theorem dX2_tighten_24 : decode cX2_tighten 24 = .ok (.ifCond .ne 7, 3) := by decide +kernel
theorem dX2_tighten_27 : decode cX2_tighten 27 = .ok (.iconst 1, 1) := by decide +kernel
theorem dX2_tighten_28 : decode cX2_tighten 28 = .ok (.goto 4, 3) := by decide +kernel
theorem dX2_tighten_31 : decode cX2_tighten 31 = .ok (.iconst 0, 1) := by decide +kernel
theorem dX2_tighten_32 : decode cX2_tighten 32 = .ok (.ireturn, 1) := by decide +kernel
theorem dX2_tighten_33 : decode cX2_tighten 33 = .ok (.iinc 3 1, 3) := by decide +kernel
theorem dX2_tighten_36 : decode cX2_tighten 36 = .ok (.goto (-34), 3) := by decide +kernel
theorem dX2_tighten_39 : decode cX2_tighten 39 = .ok (.iconst 1, 1) := by decide +kernel
theorem dX2_tighten_40 : decode cX2_tighten 40 = .ok (.ireturn, 1) := by decide +kernel
theorem dX2_makePass_0 : decode cX2_makePass 0 = .ok (.iconst 0, 1) := by decide +kernel
theorem dX2_makePass_1 : decode cX2_makePass 1 = .ok (.istore_n 3, 1) := by decide +kernel
theorem dX2_makePass_2 : decode cX2_makePass 2 = .ok (.iconst 0, 1) := by decide +kernel
theorem dX2_makePass_3 : decode cX2_makePass 3 = .ok (.istore 4, 2) := by decide +kernel
theorem dX2_makePass_5 : decode cX2_makePass 5 = .ok (.iload 4, 2) := by decide +kernel
theorem dX2_makePass_7 : decode cX2_makePass 7 = .ok (.aload_n 1, 1) := by decide +kernel
theorem dX2_makePass_8 : decode cX2_makePass 8 = .ok (.getfield 30, 3) := by decide +kernel
theorem dX2_makePass_11 : decode cX2_makePass 11 = .ok (.if_icmp .ge 59, 3) := by decide +kernel
theorem dX2_makePass_14 : decode cX2_makePass 14 = .ok (.iconst 0, 1) := by decide +kernel
theorem dX2_makePass_15 : decode cX2_makePass 15 = .ok (.istore 5, 2) := by decide +kernel
theorem dX2_makePass_17 : decode cX2_makePass 17 = .ok (.iload 5, 2) := by decide +kernel
theorem dX2_makePass_19 : decode cX2_makePass 19 = .ok (.aload_n 1, 1) := by decide +kernel
theorem dX2_makePass_20 : decode cX2_makePass 20 = .ok (.getfield 53, 3) := by decide +kernel
theorem dX2_makePass_23 : decode cX2_makePass 23 = .ok (.if_icmp .ge 41, 3) := by decide +kernel
theorem dX2_makePass_26 : decode cX2_makePass 26 = .ok (.aload_n 2, 1) := by decide +kernel
theorem dX2_makePass_27 : decode cX2_makePass 27 = .ok (.getfield 36, 3) := by decide +kernel
theorem dX2_makePass_30 : decode cX2_makePass 30 = .ok (.iload 4, 2) := by decide +kernel
theorem dX2_makePass_32 : decode cX2_makePass 32 = .ok (.iaload, 1) := by decide +kernel
theorem dX2_makePass_33 : decode cX2_makePass 33 = .ok (.ifCond .ne 31, 3) := by decide +kernel
theorem dX2_makePass_36 : decode cX2_makePass 36 = .ok (.iload_n 3, 1) := by decide +kernel
theorem dX2_makePass_37 : decode cX2_makePass 37 = .ok (.aload_n 0, 1) := by decide +kernel
theorem dX2_makePass_38 : decode cX2_makePass 38 = .ok (.aload_n 1, 1) := by decide +kernel
theorem dX2_makePass_39 : decode cX2_makePass 39 = .ok (.aload_n 2, 1) := by decide +kernel
theorem dX2_makePass_40 : decode cX2_makePass 40 = .ok (.iload 4, 2) := by decide +kernel
theorem dX2_makePass_42 : decode cX2_makePass 42 = .ok (.iload 5, 2) := by decide +kernel
theorem dX2_makePass_44 : decode cX2_makePass 44 = .ok (.invokevirtual 147, 3) := by decide +kernel
theorem dX2_makePass_47 : decode cX2_makePass 47 = .ok (.invokestatic 151, 3) := by decide +kernel
theorem dX2_makePass_50 : decode cX2_makePass 50 = .ok (.istore_n 3, 1) := by decide +kernel
theorem dX2_makePass_51 : decode cX2_makePass 51 = .ok (.iload_n 3, 1) := by decide +kernel
theorem dX2_makePass_52 : decode cX2_makePass 52 = .ok (.iconst 2, 1) := by decide +kernel
theorem dX2_makePass_53 : decode cX2_makePass 53 = .ok (.if_icmp .ne 5, 3) := by decide +kernel
theorem dX2_makePass_56 : decode cX2_makePass 56 = .ok (.iconst 2, 1) := by decide +kernel
theorem dX2_makePass_57 : decode cX2_makePass 57 = .ok (.ireturn, 1) := by decide +kernel
theorem dX2_makePass_58 : decode cX2_makePass 58 = .ok (.iinc 5 1, 3) := by decide +kernel
theorem dX2_makePass_61 : decode cX2_makePass 61 = .ok (.goto (-44), 3) := by decide +kernel
theorem dX2_makePass_64 : decode cX2_makePass 64 = .ok (.iinc 4 1, 3) := by decide +kernel
theorem dX2_makePass_67 : decode cX2_makePass 67 = .ok (.goto (-62), 3) := by decide +kernel
theorem dX2_makePass_70 : decode cX2_makePass 70 = .ok (.iload_n 3, 1) := by decide +kernel
theorem dX2_makePass_71 : decode cX2_makePass 71 = .ok (.ireturn, 1) := by decide +kernel
theorem dX2_cutDown_0 : decode cX2_cutDown 0 = .ok (.aload_n 1, 1) := by decide +kernel
theorem dX2_cutDown_1 : decode cX2_cutDown 1 = .ok (.getfield 132, 3) := by decide +kernel
theorem dX2_cutDown_4 : decode cX2_cutDown 4 = .ok (.iload_n 3, 1) := by decide +kernel
theorem dX2_cutDown_5 : decode cX2_cutDown 5 = .ok (.aaload, 1) := by decide +kernel
theorem dX2_cutDown_6 : decode cX2_cutDown 6 = .ok (.astore 5, 2) := by decide +kernel
theorem dX2_cutDown_8 : decode cX2_cutDown 8 = .ok (.aload 5, 2) := by decide +kernel
theorem dX2_cutDown_10 : decode cX2_cutDown 10 = .ok (.iload 4, 2) := by decide +kernel
theorem dX2_cutDown_12 : decode cX2_cutDown 12 = .ok (.iaload, 1) := by decide +kernel
theorem dX2_cutDown_13 : decode cX2_cutDown 13 = .ok (.i2l, 1) := by decide +kernel
theorem dX2_cutDown_14 : decode cX2_cutDown 14 = .ok (.lstore 6, 2) := by decide +kernel
theorem dX2_cutDown_16 : decode cX2_cutDown 16 = .ok (.lload 6, 2) := by decide +kernel
theorem dX2_cutDown_18 : decode cX2_cutDown 18 = .ok (.lconst 0, 1) := by decide +kernel
theorem dX2_cutDown_19 : decode cX2_cutDown 19 = .ok (.lcmp, 1) := by decide +kernel
theorem dX2_cutDown_20 : decode cX2_cutDown 20 = .ok (.ifCond .ne 5, 3) := by decide +kernel
theorem dX2_cutDown_23 : decode cX2_cutDown 23 = .ok (.iconst 0, 1) := by decide +kernel
theorem dX2_cutDown_24 : decode cX2_cutDown 24 = .ok (.ireturn, 1) := by decide +kernel
theorem dX2_cutDown_25 : decode cX2_cutDown 25 = .ok (.aload_n 1, 1) := by decide +kernel
theorem dX2_cutDown_26 : decode cX2_cutDown 26 = .ok (.getfield 124, 3) := by decide +kernel
theorem dX2_cutDown_29 : decode cX2_cutDown 29 = .ok (.iload_n 3, 1) := by decide +kernel
theorem dX2_cutDown_30 : decode cX2_cutDown 30 = .ok (.iaload, 1) := by decide +kernel
theorem dX2_cutDown_31 : decode cX2_cutDown 31 = .ok (.i2l, 1) := by decide +kernel
theorem dX2_cutDown_32 : decode cX2_cutDown 32 = .ok (.aload_n 2, 1) := by decide +kernel
theorem dX2_cutDown_33 : decode cX2_cutDown 33 = .ok (.getfield 127, 3) := by decide +kernel
theorem dX2_cutDown_36 : decode cX2_cutDown 36 = .ok (.iload_n 3, 1) := by decide +kernel
theorem dX2_cutDown_37 : decode cX2_cutDown 37 = .ok (.iaload, 1) := by decide +kernel
theorem dX2_cutDown_38 : decode cX2_cutDown 38 = .ok (.i2l, 1) := by decide +kernel
theorem dX2_cutDown_39 : decode cX2_cutDown 39 = .ok (.lmul, 1) := by decide +kernel
theorem dX2_cutDown_40 : decode cX2_cutDown 40 = .ok (.lstore 8, 2) := by decide +kernel
theorem dX2_cutDown_42 : decode cX2_cutDown 42 = .ok (.lload 8, 2) := by decide +kernel
theorem dX2_cutDown_44 : decode cX2_cutDown 44 = .ok (.aload_n 1, 1) := by decide +kernel
theorem dX2_cutDown_45 : decode cX2_cutDown 45 = .ok (.getfield 124, 3) := by decide +kernel
theorem dX2_cutDown_48 : decode cX2_cutDown 48 = .ok (.iload_n 3, 1) := by decide +kernel
theorem dX2_cutDown_49 : decode cX2_cutDown 49 = .ok (.iaload, 1) := by decide +kernel
theorem dX2_cutDown_50 : decode cX2_cutDown 50 = .ok (.i2l, 1) := by decide +kernel
theorem dX2_cutDown_51 : decode cX2_cutDown 51 = .ok (.ladd, 1) := by decide +kernel
theorem dX2_cutDown_52 : decode cX2_cutDown 52 = .ok (.lconst 1, 1) := by decide +kernel
theorem dX2_cutDown_53 : decode cX2_cutDown 53 = .ok (.lsub, 1) := by decide +kernel
theorem dX2_cutDown_54 : decode cX2_cutDown 54 = .ok (.lstore 10, 2) := by decide +kernel
theorem dX2_cutDown_56 : decode cX2_cutDown 56 = .ok (.lload 8, 2) := by decide +kernel
theorem dX2_cutDown_58 : decode cX2_cutDown 58 = .ok (.aload_n 1, 1) := by decide +kernel
theorem dX2_cutDown_59 : decode cX2_cutDown 59 = .ok (.aload 5, 2) := by decide +kernel
theorem dX2_cutDown_61 : decode cX2_cutDown 61 = .ok (.aload_n 2, 1) := by decide +kernel
theorem dX2_cutDown_62 : decode cX2_cutDown 62 = .ok (.iload 4, 2) := by decide +kernel
theorem dX2_cutDown_64 : decode cX2_cutDown 64 = .ok (.iconst 1, 1) := by decide +kernel
theorem dX2_cutDown_65 : decode cX2_cutDown 65 = .ok (.invokevirtual 91, 3) := by decide +kernel
theorem dX2_cutDown_68 : decode cX2_cutDown 68 = .ok (.lsub, 1) := by decide +kernel
theorem dX2_cutDown_69 : decode cX2_cutDown 69 = .ok (.lstore 12, 2) := by decide +kernel
theorem dX2_cutDown_71 : decode cX2_cutDown 71 = .ok (.lload 10, 2) := by decide +kernel
theorem dX2_cutDown_73 : decode cX2_cutDown 73 = .ok (.aload_n 1, 1) := by decide +kernel
theorem dX2_cutDown_74 : decode cX2_cutDown 74 = .ok (.aload 5, 2) := by decide +kernel
theorem dX2_cutDown_76 : decode cX2_cutDown 76 = .ok (.aload_n 2, 1) := by decide +kernel
theorem dX2_cutDown_77 : decode cX2_cutDown 77 = .ok (.iload 4, 2) := by decide +kernel
theorem dX2_cutDown_79 : decode cX2_cutDown 79 = .ok (.iconst 0, 1) := by decide +kernel
theorem dX2_cutDown_80 : decode cX2_cutDown 80 = .ok (.invokevirtual 91, 3) := by decide +kernel
theorem dX2_cutDown_83 : decode cX2_cutDown 83 = .ok (.lsub, 1) := by decide +kernel
theorem dX2_cutDown_84 : decode cX2_cutDown 84 = .ok (.lstore 14, 2) := by decide +kernel
theorem dX2_cutDown_86 : decode cX2_cutDown 86 = .ok (.lload 6, 2) := by decide +kernel
theorem dX2_cutDown_88 : decode cX2_cutDown 88 = .ok (.lconst 0, 1) := by decide +kernel
theorem dX2_cutDown_89 : decode cX2_cutDown 89 = .ok (.lcmp, 1) := by decide +kernel
theorem dX2_cutDown_90 : decode cX2_cutDown 90 = .ok (.ifCond .le 8, 3) := by decide +kernel
theorem dX2_cutDown_93 : decode cX2_cutDown 93 = .ok (.lload 12, 2) := by decide +kernel
theorem dX2_cutDown_95 : decode cX2_cutDown 95 = .ok (.goto 5, 3) := by decide +kernel
theorem dX2_cutDown_98 : decode cX2_cutDown 98 = .ok (.lload 14, 2) := by decide +kernel
theorem dX2_cutDown_100 : decode cX2_cutDown 100 = .ok (.lneg, 1) := by decide +kernel
theorem dX2_cutDown_101 : decode cX2_cutDown 101 = .ok (.lload 6, 2) := by decide +kernel
theorem dX2_cutDown_103 : decode cX2_cutDown 103 = .ok (.invokestatic 155, 3) := by decide +kernel
theorem dX2_cutDown_106 : decode cX2_cutDown 106 = .ok (.lneg, 1) := by decide +kernel
theorem dX2_cutDown_107 : decode cX2_cutDown 107 = .ok (.lstore 16, 2) := by decide +kernel
theorem dX2_cutDown_109 : decode cX2_cutDown 109 = .ok (.lload 6, 2) := by decide +kernel
theorem dX2_cutDown_111 : decode cX2_cutDown 111 = .ok (.lconst 0, 1) := by decide +kernel
theorem dX2_cutDown_112 : decode cX2_cutDown 112 = .ok (.lcmp, 1) := by decide +kernel
theorem dX2_cutDown_113 : decode cX2_cutDown 113 = .ok (.ifCond .le 8, 3) := by decide +kernel
theorem dX2_cutDown_116 : decode cX2_cutDown 116 = .ok (.lload 14, 2) := by decide +kernel
theorem dX2_cutDown_118 : decode cX2_cutDown 118 = .ok (.goto 5, 3) := by decide +kernel
theorem dX2_cutDown_121 : decode cX2_cutDown 121 = .ok (.lload 12, 2) := by decide +kernel
theorem dX2_cutDown_123 : decode cX2_cutDown 123 = .ok (.lload 6, 2) := by decide +kernel
theorem dX2_cutDown_125 : decode cX2_cutDown 125 = .ok (.invokestatic 155, 3) := by decide +kernel
theorem dX2_cutDown_128 : decode cX2_cutDown 128 = .ok (.lstore 18, 2) := by decide +kernel
theorem dX2_cutDown_130 : decode cX2_cutDown 130 = .ok (.lload 16, 2) := by decide +kernel
theorem dX2_cutDown_132 : decode cX2_cutDown 132 = .ok (.aload_n 2, 1) := by decide +kernel
theorem dX2_cutDown_133 : decode cX2_cutDown 133 = .ok (.getfield 104, 3) := by decide +kernel
theorem dX2_cutDown_136 : decode cX2_cutDown 136 = .ok (.iload 4, 2) := by decide +kernel
theorem dX2_cutDown_138 : decode cX2_cutDown 138 = .ok (.iaload, 1) := by decide +kernel
theorem dX2_cutDown_139 : decode cX2_cutDown 139 = .ok (.i2l, 1) := by decide +kernel
theorem dX2_cutDown_140 : decode cX2_cutDown 140 = .ok (.invokestatic 158, 3) := by decide +kernel
theorem dX2_cutDown_143 : decode cX2_cutDown 143 = .ok (.lstore 16, 2) := by decide +kernel
theorem dX2_cutDown_145 : decode cX2_cutDown 145 = .ok (.lload 18, 2) := by decide +kernel
theorem dX2_cutDown_147 : decode cX2_cutDown 147 = .ok (.aload_n 2, 1) := by decide +kernel
theorem dX2_cutDown_148 : decode cX2_cutDown 148 = .ok (.getfield 107, 3) := by decide +kernel
theorem dX2_cutDown_151 : decode cX2_cutDown 151 = .ok (.iload 4, 2) := by decide +kernel
theorem dX2_cutDown_153 : decode cX2_cutDown 153 = .ok (.iaload, 1) := by decide +kernel
theorem dX2_cutDown_154 : decode cX2_cutDown 154 = .ok (.i2l, 1) := by decide +kernel
theorem dX2_cutDown_155 : decode cX2_cutDown 155 = .ok (.invokestatic 160, 3) := by decide +kernel
theorem dX2_cutDown_158 : decode cX2_cutDown 158 = .ok (.lstore 18, 2) := by decide +kernel
theorem dX2_cutDown_160 : decode cX2_cutDown 160 = .ok (.lload 16, 2) := by decide +kernel
theorem dX2_cutDown_162 : decode cX2_cutDown 162 = .ok (.lload 18, 2) := by decide +kernel
theorem dX2_cutDown_164 : decode cX2_cutDown 164 = .ok (.lcmp, 1) := by decide +kernel
theorem dX2_cutDown_165 : decode cX2_cutDown 165 = .ok (.ifCond .le 5, 3) := by decide +kernel
theorem dX2_cutDown_168 : decode cX2_cutDown 168 = .ok (.iconst 2, 1) := by decide +kernel
theorem dX2_cutDown_169 : decode cX2_cutDown 169 = .ok (.ireturn, 1) := by decide +kernel
theorem dX2_cutDown_170 : decode cX2_cutDown 170 = .ok (.lload 16, 2) := by decide +kernel
theorem dX2_cutDown_172 : decode cX2_cutDown 172 = .ok (.aload_n 2, 1) := by decide +kernel
theorem dX2_cutDown_173 : decode cX2_cutDown 173 = .ok (.getfield 104, 3) := by decide +kernel
theorem dX2_cutDown_176 : decode cX2_cutDown 176 = .ok (.iload 4, 2) := by decide +kernel
theorem dX2_cutDown_178 : decode cX2_cutDown 178 = .ok (.iaload, 1) := by decide +kernel
theorem dX2_cutDown_179 : decode cX2_cutDown 179 = .ok (.i2l, 1) := by decide +kernel
theorem dX2_cutDown_180 : decode cX2_cutDown 180 = .ok (.lcmp, 1) := by decide +kernel
theorem dX2_cutDown_181 : decode cX2_cutDown 181 = .ok (.ifCond .ne 19, 3) := by decide +kernel
theorem dX2_cutDown_184 : decode cX2_cutDown 184 = .ok (.lload 18, 2) := by decide +kernel
theorem dX2_cutDown_186 : decode cX2_cutDown 186 = .ok (.aload_n 2, 1) := by decide +kernel
theorem dX2_cutDown_187 : decode cX2_cutDown 187 = .ok (.getfield 107, 3) := by decide +kernel
theorem dX2_cutDown_190 : decode cX2_cutDown 190 = .ok (.iload 4, 2) := by decide +kernel
theorem dX2_cutDown_192 : decode cX2_cutDown 192 = .ok (.iaload, 1) := by decide +kernel
theorem dX2_cutDown_193 : decode cX2_cutDown 193 = .ok (.i2l, 1) := by decide +kernel
theorem dX2_cutDown_194 : decode cX2_cutDown 194 = .ok (.lcmp, 1) := by decide +kernel
theorem dX2_cutDown_195 : decode cX2_cutDown 195 = .ok (.ifCond .ne 5, 3) := by decide +kernel
theorem dX2_cutDown_198 : decode cX2_cutDown 198 = .ok (.iconst 0, 1) := by decide +kernel
theorem dX2_cutDown_199 : decode cX2_cutDown 199 = .ok (.ireturn, 1) := by decide +kernel
theorem dX2_cutDown_200 : decode cX2_cutDown 200 = .ok (.aload_n 2, 1) := by decide +kernel
theorem dX2_cutDown_201 : decode cX2_cutDown 201 = .ok (.getfield 104, 3) := by decide +kernel
theorem dX2_cutDown_204 : decode cX2_cutDown 204 = .ok (.iload 4, 2) := by decide +kernel
theorem dX2_cutDown_206 : decode cX2_cutDown 206 = .ok (.lload 16, 2) := by decide +kernel
theorem dX2_cutDown_208 : decode cX2_cutDown 208 = .ok (.l2i, 1) := by decide +kernel
theorem dX2_cutDown_209 : decode cX2_cutDown 209 = .ok (.iastore, 1) := by decide +kernel
theorem dX2_cutDown_210 : decode cX2_cutDown 210 = .ok (.aload_n 2, 1) := by decide +kernel
theorem dX2_cutDown_211 : decode cX2_cutDown 211 = .ok (.getfield 107, 3) := by decide +kernel
theorem dX2_cutDown_214 : decode cX2_cutDown 214 = .ok (.iload 4, 2) := by decide +kernel
theorem dX2_cutDown_216 : decode cX2_cutDown 216 = .ok (.lload 18, 2) := by decide +kernel
theorem dX2_cutDown_218 : decode cX2_cutDown 218 = .ok (.l2i, 1) := by decide +kernel
theorem dX2_cutDown_219 : decode cX2_cutDown 219 = .ok (.iastore, 1) := by decide +kernel
theorem dX2_cutDown_220 : decode cX2_cutDown 220 = .ok (.iconst 1, 1) := by decide +kernel
theorem dX2_cutDown_221 : decode cX2_cutDown 221 = .ok (.ireturn, 1) := by decide +kernel
theorem dX3_init_0 : decode cX3_init 0 = .ok (.aload_n 0, 1) := by decide +kernel
theorem dX3_init_1 : decode cX3_init 1 = .ok (.invokespecial 3, 3) := by decide +kernel
theorem dX3_init_4 : decode cX3_init 4 = .ok (.aload_n 0, 1) := by decide +kernel
theorem dX3_init_5 : decode cX3_init 5 = .ok (.iconst 1, 1) := by decide +kernel
theorem dX3_init_6 : decode cX3_init 6 = .ok (.putfield 9, 3) := by decide +kernel
theorem dX3_init_9 : decode cX3_init 9 = .ok (.aload_n 0, 1) := by decide +kernel
theorem dX3_init_10 : decode cX3_init 10 = .ok (.iconst 1, 1) := by decide +kernel
theorem dX3_init_11 : decode cX3_init 11 = .ok (.putfield 15, 3) := by decide +kernel
theorem dX3_init_14 : decode cX3_init 14 = .ok (.aload_n 0, 1) := by decide +kernel
theorem dX3_init_15 : decode cX3_init 15 = .ok (.iconst 4, 1) := by decide +kernel
theorem dX3_init_16 : decode cX3_init 16 = .ok (.iconst 4, 1) := by decide +kernel
theorem dX3_init_17 : decode cX3_init 17 = .ok (.multianewarray 18 2, 4) := by decide +kernel
theorem dX3_init_21 : decode cX3_init 21 = .ok (.putfield 20, 3) := by decide +kernel
theorem dX3_init_24 : decode cX3_init 24 = .ok (.aload_n 0, 1) := by decide +kernel
theorem dX3_init_25 : decode cX3_init 25 = .ok (.iconst 4, 1) := by decide +kernel
theorem dX3_init_26 : decode cX3_init 26 = .ok (.newarray .int, 2) := by decide +kernel
theorem dX3_init_28 : decode cX3_init 28 = .ok (.putfield 23, 3) := by decide +kernel
theorem dX3_init_31 : decode cX3_init 31 = .ok (.aload_n 0, 1) := by decide +kernel
theorem dX3_init_32 : decode cX3_init 32 = .ok (.iconst 4, 1) := by decide +kernel
theorem dX3_init_33 : decode cX3_init 33 = .ok (.newarray .int, 2) := by decide +kernel
theorem dX3_init_35 : decode cX3_init 35 = .ok (.putfield 27, 3) := by decide +kernel
theorem dX3_init_38 : decode cX3_init 38 = .ok (.aload_n 0, 1) := by decide +kernel
theorem dX3_init_39 : decode cX3_init 39 = .ok (.iconst 3, 1) := by decide +kernel
theorem dX3_init_40 : decode cX3_init 40 = .ok (.iconst 4, 1) := by decide +kernel
theorem dX3_init_41 : decode cX3_init 41 = .ok (.multianewarray 18 2, 4) := by decide +kernel
theorem dX3_init_45 : decode cX3_init 45 = .ok (.putfield 30, 3) := by decide +kernel
theorem dX3_init_48 : decode cX3_init 48 = .ok (.aload_n 0, 1) := by decide +kernel
theorem dX3_init_49 : decode cX3_init 49 = .ok (.iconst 3, 1) := by decide +kernel
theorem dX3_init_50 : decode cX3_init 50 = .ok (.newarray .int, 2) := by decide +kernel
theorem dX3_init_52 : decode cX3_init 52 = .ok (.putfield 33, 3) := by decide +kernel
theorem dX3_init_55 : decode cX3_init 55 = .ok (.aload_n 0, 1) := by decide +kernel
theorem dX3_init_56 : decode cX3_init 56 = .ok (.getfield 20, 3) := by decide +kernel
theorem dX3_init_59 : decode cX3_init 59 = .ok (.iconst 0, 1) := by decide +kernel
theorem dX3_init_60 : decode cX3_init 60 = .ok (.aaload, 1) := by decide +kernel
theorem dX3_init_61 : decode cX3_init 61 = .ok (.iconst 0, 1) := by decide +kernel
theorem dX3_init_62 : decode cX3_init 62 = .ok (.bipush 16, 2) := by decide +kernel
theorem dX3_init_64 : decode cX3_init 64 = .ok (.iastore, 1) := by decide +kernel
theorem dX3_init_65 : decode cX3_init 65 = .ok (.aload_n 0, 1) := by decide +kernel
theorem dX3_init_66 : decode cX3_init 66 = .ok (.getfield 23, 3) := by decide +kernel
theorem dX3_init_69 : decode cX3_init 69 = .ok (.iconst 0, 1) := by decide +kernel
theorem dX3_init_70 : decode cX3_init 70 = .ok (.iconst 1, 1) := by decide +kernel
theorem dX3_init_71 : decode cX3_init 71 = .ok (.iastore, 1) := by decide +kernel
theorem dX3_init_72 : decode cX3_init 72 = .ok (.aload_n 0, 1) := by decide +kernel
theorem dX3_init_73 : decode cX3_init 73 = .ok (.getfield 30, 3) := by decide +kernel
theorem dX3_init_76 : decode cX3_init 76 = .ok (.iconst 0, 1) := by decide +kernel
theorem dX3_init_77 : decode cX3_init 77 = .ok (.aaload, 1) := by decide +kernel
theorem dX3_init_78 : decode cX3_init 78 = .ok (.iconst 0, 1) := by decide +kernel
theorem dX3_init_79 : decode cX3_init 79 = .ok (.iconst 1, 1) := by decide +kernel
theorem dX3_init_80 : decode cX3_init 80 = .ok (.iastore, 1) := by decide +kernel
theorem dX3_init_81 : decode cX3_init 81 = .ok (.aload_n 0, 1) := by decide +kernel
theorem dX3_init_82 : decode cX3_init 82 = .ok (.getfield 33, 3) := by decide +kernel
theorem dX3_init_85 : decode cX3_init 85 = .ok (.iconst 0, 1) := by decide +kernel
theorem dX3_init_86 : decode cX3_init 86 = .ok (.iconst 1, 1) := by decide +kernel
theorem dX3_init_87 : decode cX3_init 87 = .ok (.iastore, 1) := by decide +kernel
theorem dX3_init_88 : decode cX3_init 88 = .ok (.return_, 1) := by decide +kernel
theorem dX3_copyFrom_0 : decode cX3_copyFrom 0 = .ok (.aload_n 0, 1) := by decide +kernel
theorem dX3_copyFrom_1 : decode cX3_copyFrom 1 = .ok (.aload_n 1, 1) := by decide +kernel
theorem dX3_copyFrom_2 : decode cX3_copyFrom 2 = .ok (.getfield 9, 3) := by decide +kernel
theorem dX3_copyFrom_5 : decode cX3_copyFrom 5 = .ok (.putfield 9, 3) := by decide +kernel
theorem dX3_copyFrom_8 : decode cX3_copyFrom 8 = .ok (.aload_n 0, 1) := by decide +kernel
theorem dX3_copyFrom_9 : decode cX3_copyFrom 9 = .ok (.aload_n 1, 1) := by decide +kernel
theorem dX3_copyFrom_10 : decode cX3_copyFrom 10 = .ok (.getfield 15, 3) := by decide +kernel
theorem dX3_copyFrom_13 : decode cX3_copyFrom 13 = .ok (.putfield 15, 3) := by decide +kernel
theorem dX3_copyFrom_16 : decode cX3_copyFrom 16 = .ok (.aload_n 1, 1) := by decide +kernel
theorem dX3_copyFrom_17 : decode cX3_copyFrom 17 = .ok (.getfield 20, 3) := by decide +kernel
theorem dX3_copyFrom_20 : decode cX3_copyFrom 20 = .ok (.aload_n 0, 1) := by decide +kernel
theorem dX3_copyFrom_21 : decode cX3_copyFrom 21 = .ok (.getfield 20, 3) := by decide +kernel
theorem dX3_copyFrom_24 : decode cX3_copyFrom 24 = .ok (.invokestatic 36, 3) := by decide +kernel
theorem dX3_copyFrom_27 : decode cX3_copyFrom 27 = .ok (.aload_n 1, 1) := by decide +kernel
theorem dX3_copyFrom_28 : decode cX3_copyFrom 28 = .ok (.getfield 23, 3) := by decide +kernel
theorem dX3_copyFrom_31 : decode cX3_copyFrom 31 = .ok (.aload_n 0, 1) := by decide +kernel
theorem dX3_copyFrom_32 : decode cX3_copyFrom 32 = .ok (.getfield 23, 3) := by decide +kernel
theorem dX3_copyFrom_35 : decode cX3_copyFrom 35 = .ok (.invokestatic 40, 3) := by decide +kernel
theorem dX3_copyFrom_38 : decode cX3_copyFrom 38 = .ok (.aload_n 1, 1) := by decide +kernel
theorem dX3_copyFrom_39 : decode cX3_copyFrom 39 = .ok (.getfield 27, 3) := by decide +kernel
theorem dX3_copyFrom_42 : decode cX3_copyFrom 42 = .ok (.aload_n 0, 1) := by decide +kernel
theorem dX3_copyFrom_43 : decode cX3_copyFrom 43 = .ok (.getfield 27, 3) := by decide +kernel
theorem dX3_copyFrom_46 : decode cX3_copyFrom 46 = .ok (.invokestatic 40, 3) := by decide +kernel
theorem dX3_copyFrom_49 : decode cX3_copyFrom 49 = .ok (.aload_n 1, 1) := by decide +kernel
theorem dX3_copyFrom_50 : decode cX3_copyFrom 50 = .ok (.getfield 30, 3) := by decide +kernel
theorem dX3_copyFrom_53 : decode cX3_copyFrom 53 = .ok (.aload_n 0, 1) := by decide +kernel
theorem dX3_copyFrom_54 : decode cX3_copyFrom 54 = .ok (.getfield 30, 3) := by decide +kernel
theorem dX3_copyFrom_57 : decode cX3_copyFrom 57 = .ok (.invokestatic 36, 3) := by decide +kernel
theorem dX3_copyFrom_60 : decode cX3_copyFrom 60 = .ok (.aload_n 1, 1) := by decide +kernel
theorem dX3_copyFrom_61 : decode cX3_copyFrom 61 = .ok (.getfield 33, 3) := by decide +kernel
theorem dX3_copyFrom_64 : decode cX3_copyFrom 64 = .ok (.aload_n 0, 1) := by decide +kernel
theorem dX3_copyFrom_65 : decode cX3_copyFrom 65 = .ok (.getfield 33, 3) := by decide +kernel
theorem dX3_copyFrom_68 : decode cX3_copyFrom 68 = .ok (.invokestatic 40, 3) := by decide +kernel
theorem dX3_copyFrom_71 : decode cX3_copyFrom 71 = .ok (.return_, 1) := by decide +kernel
theorem dX3_sum_0 : decode cX3_sum 0 = .ok (.lconst 0, 1) := by decide +kernel
theorem dX3_sum_1 : decode cX3_sum 1 = .ok (.lstore_n 3, 1) := by decide +kernel
theorem dX3_sum_2 : decode cX3_sum 2 = .ok (.iconst 0, 1) := by decide +kernel
theorem dX3_sum_3 : decode cX3_sum 3 = .ok (.istore 5, 2) := by decide +kernel
theorem dX3_sum_5 : decode cX3_sum 5 = .ok (.iload 5, 2) := by decide +kernel
theorem dX3_sum_7 : decode cX3_sum 7 = .ok (.aload_n 0, 1) := by decide +kernel
theorem dX3_sum_8 : decode cX3_sum 8 = .ok (.getfield 9, 3) := by decide +kernel
theorem dX3_sum_11 : decode cX3_sum 11 = .ok (.if_icmp .ge 23, 3) := by decide +kernel
theorem dX3_sum_14 : decode cX3_sum 14 = .ok (.lload_n 3, 1) := by decide +kernel
theorem dX3_sum_15 : decode cX3_sum 15 = .ok (.aload_n 1, 1) := by decide +kernel
theorem dX3_sum_16 : decode cX3_sum 16 = .ok (.iload 5, 2) := by decide +kernel
theorem dX3_sum_18 : decode cX3_sum 18 = .ok (.iaload, 1) := by decide +kernel
theorem dX3_sum_19 : decode cX3_sum 19 = .ok (.i2l, 1) := by decide +kernel
theorem dX3_sum_20 : decode cX3_sum 20 = .ok (.aload_n 2, 1) := by decide +kernel
theorem dX3_sum_21 : decode cX3_sum 21 = .ok (.iload 5, 2) := by decide +kernel
theorem dX3_sum_23 : decode cX3_sum 23 = .ok (.iaload, 1) := by decide +kernel
theorem dX3_sum_24 : decode cX3_sum 24 = .ok (.i2l, 1) := by decide +kernel
theorem dX3_sum_25 : decode cX3_sum 25 = .ok (.lmul, 1) := by decide +kernel
theorem dX3_sum_26 : decode cX3_sum 26 = .ok (.ladd, 1) := by decide +kernel
theorem dX3_sum_27 : decode cX3_sum 27 = .ok (.lstore_n 3, 1) := by decide +kernel
theorem dX3_sum_28 : decode cX3_sum 28 = .ok (.iinc 5 1, 3) := by decide +kernel
theorem dX3_sum_31 : decode cX3_sum 31 = .ok (.goto (-26), 3) := by decide +kernel
theorem dX3_sum_34 : decode cX3_sum 34 = .ok (.lload_n 3, 1) := by decide +kernel
theorem dX3_sum_35 : decode cX3_sum 35 = .ok (.lreturn, 1) := by decide +kernel
theorem dX3_extreme_0 : decode cX3_extreme 0 = .ok (.lconst 0, 1) := by decide +kernel
theorem dX3_extreme_1 : decode cX3_extreme 1 = .ok (.lstore 5, 2) := by decide +kernel
theorem dX3_extreme_3 : decode cX3_extreme 3 = .ok (.iconst 0, 1) := by decide +kernel
theorem dX3_extreme_4 : decode cX3_extreme 4 = .ok (.istore 7, 2) := by decide +kernel
theorem dX3_extreme_6 : decode cX3_extreme 6 = .ok (.iload 7, 2) := by decide +kernel
theorem dX3_extreme_8 : decode cX3_extreme 8 = .ok (.aload_n 0, 1) := by decide +kernel
theorem dX3_extreme_9 : decode cX3_extreme 9 = .ok (.getfield 9, 3) := by decide +kernel
theorem dX3_extreme_12 : decode cX3_extreme 12 = .ok (.if_icmp .ge 73, 3) := by decide +kernel
theorem dX3_extreme_15 : decode cX3_extreme 15 = .ok (.iload 7, 2) := by decide +kernel
theorem dX3_extreme_17 : decode cX3_extreme 17 = .ok (.iload_n 3, 1) := by decide +kernel
theorem dX3_extreme_18 : decode cX3_extreme 18 = .ok (.if_icmp .eq 61, 3) := by decide +kernel
theorem dX3_extreme_21 : decode cX3_extreme 21 = .ok (.aload_n 1, 1) := by decide +kernel
theorem dX3_extreme_22 : decode cX3_extreme 22 = .ok (.iload 7, 2) := by decide +kernel
theorem dX3_extreme_24 : decode cX3_extreme 24 = .ok (.iaload, 1) := by decide +kernel
theorem dX3_extreme_25 : decode cX3_extreme 25 = .ok (.ifCond .le 7, 3) := by decide +kernel
theorem dX3_extreme_28 : decode cX3_extreme 28 = .ok (.iconst 1, 1) := by decide +kernel
theorem dX3_extreme_29 : decode cX3_extreme 29 = .ok (.goto 4, 3) := by decide +kernel
theorem dX3_extreme_32 : decode cX3_extreme 32 = .ok (.iconst 0, 1) := by decide +kernel
theorem dX3_extreme_33 : decode cX3_extreme 33 = .ok (.iload 4, 2) := by decide +kernel
theorem dX3_extreme_35 : decode cX3_extreme 35 = .ok (.if_icmp .ne 7, 3) := by decide +kernel
theorem dX3_extreme_38 : decode cX3_extreme 38 = .ok (.iconst 1, 1) := by decide +kernel
theorem dX3_extreme_39 : decode cX3_extreme 39 = .ok (.goto 4, 3) := by decide +kernel
theorem dX3_extreme_42 : decode cX3_extreme 42 = .ok (.iconst 0, 1) := by decide +kernel
theorem dX3_extreme_43 : decode cX3_extreme 43 = .ok (.istore 8, 2) := by decide +kernel
theorem dX3_extreme_45 : decode cX3_extreme 45 = .ok (.lload 5, 2) := by decide +kernel
theorem dX3_extreme_47 : decode cX3_extreme 47 = .ok (.aload_n 1, 1) := by decide +kernel
theorem dX3_extreme_48 : decode cX3_extreme 48 = .ok (.iload 7, 2) := by decide +kernel
theorem dX3_extreme_50 : decode cX3_extreme 50 = .ok (.iaload, 1) := by decide +kernel
theorem dX3_extreme_51 : decode cX3_extreme 51 = .ok (.i2l, 1) := by decide +kernel
theorem dX3_extreme_52 : decode cX3_extreme 52 = .ok (.iload 8, 2) := by decide +kernel
theorem dX3_extreme_54 : decode cX3_extreme 54 = .ok (.ifCond .eq 13, 3) := by decide +kernel
theorem dX3_extreme_57 : decode cX3_extreme 57 = .ok (.aload_n 2, 1) := by decide +kernel
theorem dX3_extreme_58 : decode cX3_extreme 58 = .ok (.getfield 44, 3) := by decide +kernel
theorem dX3_extreme_61 : decode cX3_extreme 61 = .ok (.iload 7, 2) := by decide +kernel
theorem dX3_extreme_63 : decode cX3_extreme 63 = .ok (.iaload, 1) := by decide +kernel
theorem dX3_extreme_64 : decode cX3_extreme 64 = .ok (.goto 10, 3) := by decide +kernel
theorem dX3_extreme_67 : decode cX3_extreme 67 = .ok (.aload_n 2, 1) := by decide +kernel
theorem dX3_extreme_68 : decode cX3_extreme 68 = .ok (.getfield 49, 3) := by decide +kernel
theorem dX3_extreme_71 : decode cX3_extreme 71 = .ok (.iload 7, 2) := by decide +kernel
theorem dX3_extreme_73 : decode cX3_extreme 73 = .ok (.iaload, 1) := by decide +kernel
theorem dX3_extreme_74 : decode cX3_extreme 74 = .ok (.i2l, 1) := by decide +kernel
theorem dX3_extreme_75 : decode cX3_extreme 75 = .ok (.lmul, 1) := by decide +kernel
theorem dX3_extreme_76 : decode cX3_extreme 76 = .ok (.ladd, 1) := by decide +kernel
theorem dX3_extreme_77 : decode cX3_extreme 77 = .ok (.lstore 5, 2) := by decide +kernel
theorem dX3_extreme_79 : decode cX3_extreme 79 = .ok (.iinc 7 1, 3) := by decide +kernel
theorem dX3_extreme_82 : decode cX3_extreme 82 = .ok (.goto (-76), 3) := by decide +kernel
theorem dX3_extreme_85 : decode cX3_extreme 85 = .ok (.lload 5, 2) := by decide +kernel
theorem dX3_extreme_87 : decode cX3_extreme 87 = .ok (.lreturn, 1) := by decide +kernel
theorem dX3_quantized_0 : decode cX3_quantized 0 = .ok (.lload_n 2, 1) := by decide +kernel
theorem dX3_quantized_1 : decode cX3_quantized 1 = .ok (.aload_n 0, 1) := by decide +kernel
theorem dX3_quantized_2 : decode cX3_quantized 2 = .ok (.getfield 33, 3) := by decide +kernel
theorem dX3_quantized_5 : decode cX3_quantized 5 = .ok (.iload_n 1, 1) := by decide +kernel
theorem dX3_quantized_6 : decode cX3_quantized 6 = .ok (.iaload, 1) := by decide +kernel
theorem dX3_quantized_7 : decode cX3_quantized 7 = .ok (.i2l, 1) := by decide +kernel
theorem dX3_quantized_8 : decode cX3_quantized 8 = .ok (.invokestatic 52, 3) := by decide +kernel
theorem dX3_quantized_11 : decode cX3_quantized 11 = .ok (.l2i, 1) := by decide +kernel
theorem dX3_quantized_12 : decode cX3_quantized 12 = .ok (.ireturn, 1) := by decide +kernel
theorem dX3_widthOf_0 : decode cX3_widthOf 0 = .ok (.iconst 0, 1) := by decide +kernel
theorem dX3_widthOf_1 : decode cX3_widthOf 1 = .ok (.istore_n 2, 1) := by decide +kernel
theorem dX3_widthOf_2 : decode cX3_widthOf 2 = .ok (.iconst 0, 1) := by decide +kernel
theorem dX3_widthOf_3 : decode cX3_widthOf 3 = .ok (.istore_n 3, 1) := by decide +kernel
theorem dX3_widthOf_4 : decode cX3_widthOf 4 = .ok (.iload_n 3, 1) := by decide +kernel
theorem dX3_widthOf_5 : decode cX3_widthOf 5 = .ok (.aload_n 0, 1) := by decide +kernel
theorem dX3_widthOf_6 : decode cX3_widthOf 6 = .ok (.getfield 9, 3) := by decide +kernel
theorem dX3_widthOf_9 : decode cX3_widthOf 9 = .ok (.if_icmp .ge 25, 3) := by decide +kernel
theorem dX3_widthOf_12 : decode cX3_widthOf 12 = .ok (.iload_n 2, 1) := by decide +kernel
theorem dX3_widthOf_13 : decode cX3_widthOf 13 = .ok (.aload_n 1, 1) := by decide +kernel
theorem dX3_widthOf_14 : decode cX3_widthOf 14 = .ok (.getfield 44, 3) := by decide +kernel
theorem dX3_widthOf_17 : decode cX3_widthOf 17 = .ok (.iload_n 3, 1) := by decide +kernel
theorem dX3_widthOf_18 : decode cX3_widthOf 18 = .ok (.iaload, 1) := by decide +kernel
theorem dX3_widthOf_19 : decode cX3_widthOf 19 = .ok (.aload_n 1, 1) := by decide +kernel
theorem dX3_widthOf_20 : decode cX3_widthOf 20 = .ok (.getfield 49, 3) := by decide +kernel
theorem dX3_widthOf_23 : decode cX3_widthOf 23 = .ok (.iload_n 3, 1) := by decide +kernel
theorem dX3_widthOf_24 : decode cX3_widthOf 24 = .ok (.iaload, 1) := by decide +kernel
theorem dX3_widthOf_25 : decode cX3_widthOf 25 = .ok (.isub, 1) := by decide +kernel
theorem dX3_widthOf_26 : decode cX3_widthOf 26 = .ok (.iadd, 1) := by decide +kernel
theorem dX3_widthOf_27 : decode cX3_widthOf 27 = .ok (.istore_n 2, 1) := by decide +kernel
theorem dX3_widthOf_28 : decode cX3_widthOf 28 = .ok (.iinc 3 1, 3) := by decide +kernel
theorem dX3_widthOf_31 : decode cX3_widthOf 31 = .ok (.goto (-27), 3) := by decide +kernel
theorem dX3_widthOf_34 : decode cX3_widthOf 34 = .ok (.iload_n 2, 1) := by decide +kernel
theorem dX3_widthOf_35 : decode cX3_widthOf 35 = .ok (.ireturn, 1) := by decide +kernel
theorem dX3_meetFreshOutputs_0 : decode cX3_meetFreshOutputs 0 = .ok (.iconst 0, 1) := by decide +kernel
theorem dX3_meetFreshOutputs_1 : decode cX3_meetFreshOutputs 1 = .ok (.istore_n 3, 1) := by decide +kernel
theorem dX3_meetFreshOutputs_2 : decode cX3_meetFreshOutputs 2 = .ok (.iload_n 3, 1) := by decide +kernel
theorem dX3_meetFreshOutputs_3 : decode cX3_meetFreshOutputs 3 = .ok (.aload_n 0, 1) := by decide +kernel
theorem dX3_meetFreshOutputs_4 : decode cX3_meetFreshOutputs 4 = .ok (.getfield 15, 3) := by decide +kernel
theorem dX3_meetFreshOutputs_7 : decode cX3_meetFreshOutputs 7 = .ok (.if_icmp .ge 52, 3) := by decide +kernel
theorem dX3_meetFreshOutputs_10 : decode cX3_meetFreshOutputs 10 = .ok (.aload_n 2, 1) := by decide +kernel
theorem dX3_meetFreshOutputs_11 : decode cX3_meetFreshOutputs 11 = .ok (.getfield 56, 3) := by decide +kernel
theorem dX3_meetFreshOutputs_14 : decode cX3_meetFreshOutputs 14 = .ok (.iload_n 3, 1) := by decide +kernel
theorem dX3_meetFreshOutputs_15 : decode cX3_meetFreshOutputs 15 = .ok (.iaload, 1) := by decide +kernel
theorem dX3_meetFreshOutputs_16 : decode cX3_meetFreshOutputs 16 = .ok (.ifCond .ne 37, 3) := by decide +kernel
theorem dX3_meetFreshOutputs_19 : decode cX3_meetFreshOutputs 19 = .ok (.aload_n 0, 1) := by decide +kernel
theorem dX3_meetFreshOutputs_20 : decode cX3_meetFreshOutputs 20 = .ok (.aload_n 0, 1) := by decide +kernel
theorem dX3_meetFreshOutputs_21 : decode cX3_meetFreshOutputs 21 = .ok (.getfield 30, 3) := by decide +kernel
theorem dX3_meetFreshOutputs_24 : decode cX3_meetFreshOutputs 24 = .ok (.iload_n 3, 1) := by decide +kernel
theorem dX3_meetFreshOutputs_25 : decode cX3_meetFreshOutputs 25 = .ok (.aaload, 1) := by decide +kernel
theorem dX3_meetFreshOutputs_26 : decode cX3_meetFreshOutputs 26 = .ok (.aload_n 1, 1) := by decide +kernel
theorem dX3_meetFreshOutputs_27 : decode cX3_meetFreshOutputs 27 = .ok (.invokevirtual 59, 3) := by decide +kernel
theorem dX3_meetFreshOutputs_30 : decode cX3_meetFreshOutputs 30 = .ok (.aload_n 0, 1) := by decide +kernel
theorem dX3_meetFreshOutputs_31 : decode cX3_meetFreshOutputs 31 = .ok (.getfield 33, 3) := by decide +kernel
theorem dX3_meetFreshOutputs_34 : decode cX3_meetFreshOutputs 34 = .ok (.iload_n 3, 1) := by decide +kernel
theorem dX3_meetFreshOutputs_35 : decode cX3_meetFreshOutputs 35 = .ok (.iaload, 1) := by decide +kernel
theorem dX3_meetFreshOutputs_36 : decode cX3_meetFreshOutputs 36 = .ok (.i2l, 1) := by decide +kernel
theorem dX3_meetFreshOutputs_37 : decode cX3_meetFreshOutputs 37 = .ok (.invokestatic 52, 3) := by decide +kernel
theorem dX3_meetFreshOutputs_40 : decode cX3_meetFreshOutputs 40 = .ok (.aload_n 2, 1) := by decide +kernel
theorem dX3_meetFreshOutputs_41 : decode cX3_meetFreshOutputs 41 = .ok (.getfield 63, 3) := by decide +kernel
theorem dX3_meetFreshOutputs_44 : decode cX3_meetFreshOutputs 44 = .ok (.iload_n 3, 1) := by decide +kernel
theorem dX3_meetFreshOutputs_45 : decode cX3_meetFreshOutputs 45 = .ok (.iaload, 1) := by decide +kernel
theorem dX3_meetFreshOutputs_46 : decode cX3_meetFreshOutputs 46 = .ok (.i2l, 1) := by decide +kernel
theorem dX3_meetFreshOutputs_47 : decode cX3_meetFreshOutputs 47 = .ok (.lcmp, 1) := by decide +kernel
theorem dX3_meetFreshOutputs_48 : decode cX3_meetFreshOutputs 48 = .ok (.ifCond .eq 5, 3) := by decide +kernel
theorem dX3_meetFreshOutputs_51 : decode cX3_meetFreshOutputs 51 = .ok (.iconst 0, 1) := by decide +kernel
theorem dX3_meetFreshOutputs_52 : decode cX3_meetFreshOutputs 52 = .ok (.ireturn, 1) := by decide +kernel
theorem dX3_meetFreshOutputs_53 : decode cX3_meetFreshOutputs 53 = .ok (.iinc 3 1, 3) := by decide +kernel
theorem dX3_meetFreshOutputs_56 : decode cX3_meetFreshOutputs 56 = .ok (.goto (-54), 3) := by decide +kernel
theorem dX3_meetFreshOutputs_59 : decode cX3_meetFreshOutputs 59 = .ok (.iconst 1, 1) := by decide +kernel
theorem dX3_meetFreshOutputs_60 : decode cX3_meetFreshOutputs 60 = .ok (.ireturn, 1) := by decide +kernel
theorem dX3_explains_0 : decode cX3_explains 0 = .ok (.iconst 0, 1) := by decide +kernel
theorem dX3_explains_1 : decode cX3_explains 1 = .ok (.istore_n 3, 1) := by decide +kernel
theorem dX3_explains_2 : decode cX3_explains 2 = .ok (.iload_n 3, 1) := by decide +kernel
theorem dX3_explains_3 : decode cX3_explains 3 = .ok (.aload_n 0, 1) := by decide +kernel
theorem dX3_explains_4 : decode cX3_explains 4 = .ok (.getfield 9, 3) := by decide +kernel
theorem dX3_explains_7 : decode cX3_explains 7 = .ok (.if_icmp .ge 131, 3) := by decide +kernel
theorem dX3_explains_10 : decode cX3_explains 10 = .ok (.aload_n 0, 1) := by decide +kernel
theorem dX3_explains_11 : decode cX3_explains 11 = .ok (.getfield 27, 3) := by decide +kernel
theorem dX3_explains_14 : decode cX3_explains 14 = .ok (.iload_n 3, 1) := by decide +kernel
theorem dX3_explains_15 : decode cX3_explains 15 = .ok (.iaload, 1) := by decide +kernel
theorem dX3_explains_16 : decode cX3_explains 16 = .ok (.iload_n 1, 1) := by decide +kernel
theorem dX3_explains_17 : decode cX3_explains 17 = .ok (.imul, 1) := by decide +kernel
theorem dX3_explains_18 : decode cX3_explains 18 = .ok (.istore 4, 2) := by decide +kernel
theorem dX3_explains_20 : decode cX3_explains 20 = .ok (.aload_n 0, 1) := by decide +kernel
theorem dX3_explains_21 : decode cX3_explains 21 = .ok (.getfield 23, 3) := by decide +kernel
theorem dX3_explains_24 : decode cX3_explains 24 = .ok (.iload_n 3, 1) := by decide +kernel
theorem dX3_explains_25 : decode cX3_explains 25 = .ok (.iaload, 1) := by decide +kernel
theorem dX3_explains_26 : decode cX3_explains 26 = .ok (.aload_n 2, 1) := by decide +kernel
theorem dX3_explains_27 : decode cX3_explains 27 = .ok (.getfield 66, 3) := by decide +kernel
theorem dX3_explains_30 : decode cX3_explains 30 = .ok (.imul, 1) := by decide +kernel
theorem dX3_explains_31 : decode cX3_explains 31 = .ok (.istore 5, 2) := by decide +kernel
theorem dX3_explains_33 : decode cX3_explains 33 = .ok (.aload_n 2, 1) := by decide +kernel
theorem dX3_explains_34 : decode cX3_explains 34 = .ok (.getfield 49, 3) := by decide +kernel
theorem dX3_explains_37 : decode cX3_explains 37 = .ok (.iload_n 3, 1) := by decide +kernel
theorem dX3_explains_38 : decode cX3_explains 38 = .ok (.iaload, 1) := by decide +kernel
theorem dX3_explains_39 : decode cX3_explains 39 = .ok (.ldc 69, 2) := by decide +kernel
theorem dX3_explains_41 : decode cX3_explains 41 = .ok (.if_icmp .le 28, 3) := by decide +kernel
theorem dX3_explains_44 : decode cX3_explains 44 = .ok (.iload 4, 2) := by decide +kernel
theorem dX3_explains_46 : decode cX3_explains 46 = .ok (.aload_n 2, 1) := by decide +kernel
theorem dX3_explains_47 : decode cX3_explains 47 = .ok (.getfield 49, 3) := by decide +kernel
theorem dX3_explains_50 : decode cX3_explains 50 = .ok (.iload_n 3, 1) := by decide +kernel
theorem dX3_explains_51 : decode cX3_explains 51 = .ok (.iaload, 1) := by decide +kernel
theorem dX3_explains_52 : decode cX3_explains 52 = .ok (.iload 5, 2) := by decide +kernel
theorem dX3_explains_54 : decode cX3_explains 54 = .ok (.isub, 1) := by decide +kernel
theorem dX3_explains_55 : decode cX3_explains 55 = .ok (.aload_n 2, 1) := by decide +kernel
theorem dX3_explains_56 : decode cX3_explains 56 = .ok (.getfield 70, 3) := by decide +kernel
theorem dX3_explains_59 : decode cX3_explains 59 = .ok (.iload_n 3, 1) := by decide +kernel
theorem dX3_explains_60 : decode cX3_explains 60 = .ok (.iaload, 1) := by decide +kernel
theorem dX3_explains_61 : decode cX3_explains 61 = .ok (.isub, 1) := by decide +kernel
theorem dX3_explains_62 : decode cX3_explains 62 = .ok (.if_icmp .ge 7, 3) := by decide +kernel
theorem dX3_explains_65 : decode cX3_explains 65 = .ok (.iconst 1, 1) := by decide +kernel
theorem dX3_explains_66 : decode cX3_explains 66 = .ok (.goto 4, 3) := by decide +kernel
theorem dX3_explains_69 : decode cX3_explains 69 = .ok (.iconst 0, 1) := by decide +kernel
theorem dX3_explains_70 : decode cX3_explains 70 = .ok (.istore 6, 2) := by decide +kernel
theorem dX3_explains_72 : decode cX3_explains 72 = .ok (.aload_n 2, 1) := by decide +kernel
theorem dX3_explains_73 : decode cX3_explains 73 = .ok (.getfield 44, 3) := by decide +kernel
theorem dX3_explains_76 : decode cX3_explains 76 = .ok (.iload_n 3, 1) := by decide +kernel
theorem dX3_explains_77 : decode cX3_explains 77 = .ok (.iaload, 1) := by decide +kernel
theorem dX3_explains_78 : decode cX3_explains 78 = .ok (.ldc 73, 2) := by decide +kernel
theorem dX3_explains_80 : decode cX3_explains 80 = .ok (.if_icmp .ge 28, 3) := by decide +kernel
theorem dX3_explains_83 : decode cX3_explains 83 = .ok (.iload 4, 2) := by decide +kernel
theorem dX3_explains_85 : decode cX3_explains 85 = .ok (.aload_n 2, 1) := by decide +kernel
theorem dX3_explains_86 : decode cX3_explains 86 = .ok (.getfield 44, 3) := by decide +kernel
theorem dX3_explains_89 : decode cX3_explains 89 = .ok (.iload_n 3, 1) := by decide +kernel
theorem dX3_explains_90 : decode cX3_explains 90 = .ok (.iaload, 1) := by decide +kernel
theorem dX3_explains_91 : decode cX3_explains 91 = .ok (.iload 5, 2) := by decide +kernel
theorem dX3_explains_93 : decode cX3_explains 93 = .ok (.isub, 1) := by decide +kernel
theorem dX3_explains_94 : decode cX3_explains 94 = .ok (.aload_n 2, 1) := by decide +kernel
theorem dX3_explains_95 : decode cX3_explains 95 = .ok (.getfield 74, 3) := by decide +kernel
theorem dX3_explains_98 : decode cX3_explains 98 = .ok (.iload_n 3, 1) := by decide +kernel
theorem dX3_explains_99 : decode cX3_explains 99 = .ok (.iaload, 1) := by decide +kernel
theorem dX3_explains_100 : decode cX3_explains 100 = .ok (.isub, 1) := by decide +kernel
theorem dX3_explains_101 : decode cX3_explains 101 = .ok (.if_icmp .le 7, 3) := by decide +kernel
theorem dX3_explains_104 : decode cX3_explains 104 = .ok (.iconst 1, 1) := by decide +kernel
theorem dX3_explains_105 : decode cX3_explains 105 = .ok (.goto 4, 3) := by decide +kernel
theorem dX3_explains_108 : decode cX3_explains 108 = .ok (.iconst 0, 1) := by decide +kernel
theorem dX3_explains_109 : decode cX3_explains 109 = .ok (.istore 7, 2) := by decide +kernel
theorem dX3_explains_111 : decode cX3_explains 111 = .ok (.aload_n 0, 1) := by decide +kernel
theorem dX3_explains_112 : decode cX3_explains 112 = .ok (.getfield 27, 3) := by decide +kernel
theorem dX3_explains_115 : decode cX3_explains 115 = .ok (.iload_n 3, 1) := by decide +kernel
theorem dX3_explains_116 : decode cX3_explains 116 = .ok (.iaload, 1) := by decide +kernel
theorem dX3_explains_117 : decode cX3_explains 117 = .ok (.ifCond .eq 15, 3) := by decide +kernel
theorem dX3_explains_120 : decode cX3_explains 120 = .ok (.iload 6, 2) := by decide +kernel
theorem dX3_explains_122 : decode cX3_explains 122 = .ok (.ifCond .ne 8, 3) := by decide +kernel
theorem dX3_explains_125 : decode cX3_explains 125 = .ok (.iload 7, 2) := by decide +kernel
theorem dX3_explains_127 : decode cX3_explains 127 = .ok (.ifCond .eq 5, 3) := by decide +kernel
theorem dX3_explains_130 : decode cX3_explains 130 = .ok (.iconst 0, 1) := by decide +kernel
theorem dX3_explains_131 : decode cX3_explains 131 = .ok (.ireturn, 1) := by decide +kernel
theorem dX3_explains_132 : decode cX3_explains 132 = .ok (.iinc 3 1, 3) := by decide +kernel
theorem dX3_explains_135 : decode cX3_explains 135 = .ok (.goto (-133), 3) := by decide +kernel
theorem dX3_explains_138 : decode cX3_explains 138 = .ok (.iconst 1, 1) := by decide +kernel
theorem dX3_explains_139 : decode cX3_explains 139 = .ok (.ireturn, 1) := by decide +kernel
theorem dX3_firstActedOn_0 : decode cX3_firstActedOn 0 = .ok (.iconst 0, 1) := by decide +kernel
theorem dX3_firstActedOn_1 : decode cX3_firstActedOn 1 = .ok (.istore_n 1, 1) := by decide +kernel
theorem dX3_firstActedOn_2 : decode cX3_firstActedOn 2 = .ok (.iload_n 1, 1) := by decide +kernel
theorem dX3_firstActedOn_3 : decode cX3_firstActedOn 3 = .ok (.aload_n 0, 1) := by decide +kernel
theorem dX3_firstActedOn_4 : decode cX3_firstActedOn 4 = .ok (.getfield 9, 3) := by decide +kernel
theorem dX3_firstActedOn_7 : decode cX3_firstActedOn 7 = .ok (.if_icmp .ge 20, 3) := by decide +kernel
theorem dX3_firstActedOn_10 : decode cX3_firstActedOn 10 = .ok (.aload_n 0, 1) := by decide +kernel
theorem dX3_firstActedOn_11 : decode cX3_firstActedOn 11 = .ok (.getfield 27, 3) := by decide +kernel
theorem dX3_firstActedOn_14 : decode cX3_firstActedOn 14 = .ok (.iload_n 1, 1) := by decide +kernel
theorem dX3_firstActedOn_15 : decode cX3_firstActedOn 15 = .ok (.iaload, 1) := by decide +kernel
theorem dX3_firstActedOn_16 : decode cX3_firstActedOn 16 = .ok (.ifCond .eq 5, 3) := by decide +kernel
theorem dX3_firstActedOn_19 : decode cX3_firstActedOn 19 = .ok (.iload_n 1, 1) := by decide +kernel
theorem dX3_firstActedOn_20 : decode cX3_firstActedOn 20 = .ok (.ireturn, 1) := by decide +kernel
theorem dX3_firstActedOn_21 : decode cX3_firstActedOn 21 = .ok (.iinc 1 1, 3) := by decide +kernel
theorem dX3_firstActedOn_24 : decode cX3_firstActedOn 24 = .ok (.goto (-22), 3) := by decide +kernel
theorem dX3_firstActedOn_27 : decode cX3_firstActedOn 27 = .ok (.iconst (-1), 1) := by decide +kernel
theorem dX3_firstActedOn_28 : decode cX3_firstActedOn 28 = .ok (.ireturn, 1) := by decide +kernel
theorem dX3_combinations_0 : decode cX3_combinations 0 = .ok (.aload_n 0, 1) := by decide +kernel
theorem dX3_combinations_1 : decode cX3_combinations 1 = .ok (.invokevirtual 77, 3) := by decide +kernel
theorem dX3_combinations_4 : decode cX3_combinations 4 = .ok (.iconst (-1), 1) := by decide +kernel
theorem dX3_combinations_5 : decode cX3_combinations 5 = .ok (.if_icmp .ne 10, 3) := by decide +kernel
theorem dX3_combinations_8 : decode cX3_combinations 8 = .ok (.aload_n 0, 1) := by decide +kernel
theorem dX3_combinations_9 : decode cX3_combinations 9 = .ok (.getfield 9, 3) := by decide +kernel
theorem dX3_combinations_12 : decode cX3_combinations 12 = .ok (.goto 9, 3) := by decide +kernel
theorem dX3_combinations_15 : decode cX3_combinations 15 = .ok (.aload_n 0, 1) := by decide +kernel
theorem dX3_combinations_16 : decode cX3_combinations 16 = .ok (.getfield 9, 3) := by decide +kernel
theorem dX3_combinations_19 : decode cX3_combinations 19 = .ok (.iconst 1, 1) := by decide +kernel
theorem dX3_combinations_20 : decode cX3_combinations 20 = .ok (.isub, 1) := by decide +kernel
theorem dX3_combinations_21 : decode cX3_combinations 21 = .ok (.ireturn, 1) := by decide +kernel
theorem dX3_putCombination_0 : decode cX3_putCombination 0 = .ok (.aload_n 0, 1) := by decide +kernel
theorem dX3_putCombination_1 : decode cX3_putCombination 1 = .ok (.invokevirtual 77, 3) := by decide +kernel
theorem dX3_putCombination_4 : decode cX3_putCombination 4 = .ok (.istore_n 3, 1) := by decide +kernel
theorem dX3_putCombination_5 : decode cX3_putCombination 5 = .ok (.iconst 0, 1) := by decide +kernel
theorem dX3_putCombination_6 : decode cX3_putCombination 6 = .ok (.istore 4, 2) := by decide +kernel
theorem dX3_putCombination_8 : decode cX3_putCombination 8 = .ok (.iload 4, 2) := by decide +kernel
theorem dX3_putCombination_10 : decode cX3_putCombination 10 = .ok (.iconst 4, 1) := by decide +kernel
theorem dX3_putCombination_11 : decode cX3_putCombination 11 = .ok (.if_icmp .ge 14, 3) := by decide +kernel
theorem dX3_putCombination_14 : decode cX3_putCombination 14 = .ok (.aload_n 2, 1) := by decide +kernel
theorem dX3_putCombination_15 : decode cX3_putCombination 15 = .ok (.iload 4, 2) := by decide +kernel
theorem dX3_putCombination_17 : decode cX3_putCombination 17 = .ok (.iconst 0, 1) := by decide +kernel
theorem dX3_putCombination_18 : decode cX3_putCombination 18 = .ok (.iastore, 1) := by decide +kernel
theorem dX3_putCombination_19 : decode cX3_putCombination 19 = .ok (.iinc 4 1, 3) := by decide +kernel
theorem dX3_putCombination_22 : decode cX3_putCombination 22 = .ok (.goto (-14), 3) := by decide +kernel
theorem dX3_putCombination_25 : decode cX3_putCombination 25 = .ok (.iload_n 3, 1) := by decide +kernel
theorem dX3_putCombination_26 : decode cX3_putCombination 26 = .ok (.iconst (-1), 1) := by decide +kernel
theorem dX3_putCombination_27 : decode cX3_putCombination 27 = .ok (.if_icmp .ne 8, 3) := by decide +kernel
theorem dX3_putCombination_30 : decode cX3_putCombination 30 = .ok (.aload_n 2, 1) := by decide +kernel
theorem dX3_putCombination_31 : decode cX3_putCombination 31 = .ok (.iload_n 1, 1) := by decide +kernel
theorem dX3_putCombination_32 : decode cX3_putCombination 32 = .ok (.iconst 1, 1) := by decide +kernel
theorem dX3_putCombination_33 : decode cX3_putCombination 33 = .ok (.iastore, 1) := by decide +kernel
theorem dX3_putCombination_34 : decode cX3_putCombination 34 = .ok (.return_, 1) := by decide +kernel
theorem dX3_putCombination_35 : decode cX3_putCombination 35 = .ok (.iload_n 1, 1) := by decide +kernel
theorem dX3_putCombination_36 : decode cX3_putCombination 36 = .ok (.iload_n 3, 1) := by decide +kernel
theorem dX3_putCombination_37 : decode cX3_putCombination 37 = .ok (.if_icmp .ge 7, 3) := by decide +kernel
theorem dX3_putCombination_40 : decode cX3_putCombination 40 = .ok (.iload_n 1, 1) := by decide +kernel
theorem dX3_putCombination_41 : decode cX3_putCombination 41 = .ok (.goto 6, 3) := by decide +kernel
theorem dX3_putCombination_44 : decode cX3_putCombination 44 = .ok (.iload_n 1, 1) := by decide +kernel
theorem dX3_putCombination_45 : decode cX3_putCombination 45 = .ok (.iconst 1, 1) := by decide +kernel
theorem dX3_putCombination_46 : decode cX3_putCombination 46 = .ok (.iadd, 1) := by decide +kernel
theorem dX3_putCombination_47 : decode cX3_putCombination 47 = .ok (.istore 4, 2) := by decide +kernel
theorem dX3_putCombination_49 : decode cX3_putCombination 49 = .ok (.aload_n 0, 1) := by decide +kernel
theorem dX3_putCombination_50 : decode cX3_putCombination 50 = .ok (.getfield 27, 3) := by decide +kernel
theorem dX3_putCombination_53 : decode cX3_putCombination 53 = .ok (.iload 4, 2) := by decide +kernel
theorem dX3_putCombination_55 : decode cX3_putCombination 55 = .ok (.iaload, 1) := by decide +kernel
theorem dX3_putCombination_56 : decode cX3_putCombination 56 = .ok (.aload_n 0, 1) := by decide +kernel
theorem dX3_putCombination_57 : decode cX3_putCombination 57 = .ok (.getfield 27, 3) := by decide +kernel
theorem dX3_putCombination_60 : decode cX3_putCombination 60 = .ok (.iload_n 3, 1) := by decide +kernel
theorem dX3_putCombination_61 : decode cX3_putCombination 61 = .ok (.iaload, 1) := by decide +kernel
theorem dX3_putCombination_62 : decode cX3_putCombination 62 = .ok (.invokestatic 81, 3) := by decide +kernel
theorem dX3_putCombination_65 : decode cX3_putCombination 65 = .ok (.istore 5, 2) := by decide +kernel
theorem dX3_putCombination_67 : decode cX3_putCombination 67 = .ok (.aload_n 2, 1) := by decide +kernel
theorem dX3_putCombination_68 : decode cX3_putCombination 68 = .ok (.iload 4, 2) := by decide +kernel
theorem dX3_putCombination_70 : decode cX3_putCombination 70 = .ok (.aload_n 0, 1) := by decide +kernel
theorem dX3_putCombination_71 : decode cX3_putCombination 71 = .ok (.getfield 27, 3) := by decide +kernel
theorem dX3_putCombination_74 : decode cX3_putCombination 74 = .ok (.iload_n 3, 1) := by decide +kernel
theorem dX3_putCombination_75 : decode cX3_putCombination 75 = .ok (.iaload, 1) := by decide +kernel
theorem dX3_putCombination_76 : decode cX3_putCombination 76 = .ok (.invokestatic 85, 3) := by decide +kernel
theorem dX3_putCombination_79 : decode cX3_putCombination 79 = .ok (.iload 5, 2) := by decide +kernel
theorem dX3_putCombination_81 : decode cX3_putCombination 81 = .ok (.invokestatic 91, 3) := by decide +kernel
theorem dX3_putCombination_84 : decode cX3_putCombination 84 = .ok (.iastore, 1) := by decide +kernel
theorem dX3_putCombination_85 : decode cX3_putCombination 85 = .ok (.aload_n 2, 1) := by decide +kernel
theorem dX3_putCombination_86 : decode cX3_putCombination 86 = .ok (.iload_n 3, 1) := by decide +kernel
theorem dX3_putCombination_87 : decode cX3_putCombination 87 = .ok (.aload_n 0, 1) := by decide +kernel
theorem dX3_putCombination_88 : decode cX3_putCombination 88 = .ok (.getfield 27, 3) := by decide +kernel
theorem dX3_putCombination_91 : decode cX3_putCombination 91 = .ok (.iload_n 3, 1) := by decide +kernel
theorem dX3_putCombination_92 : decode cX3_putCombination 92 = .ok (.iaload, 1) := by decide +kernel
theorem dX3_putCombination_93 : decode cX3_putCombination 93 = .ok (.ifCond .le 14, 3) := by decide +kernel
theorem dX3_putCombination_96 : decode cX3_putCombination 96 = .ok (.aload_n 0, 1) := by decide +kernel
theorem dX3_putCombination_97 : decode cX3_putCombination 97 = .ok (.getfield 27, 3) := by decide +kernel
theorem dX3_putCombination_100 : decode cX3_putCombination 100 = .ok (.iload 4, 2) := by decide +kernel
theorem dX3_putCombination_102 : decode cX3_putCombination 102 = .ok (.iaload, 1) := by decide +kernel
theorem dX3_putCombination_103 : decode cX3_putCombination 103 = .ok (.ineg, 1) := by decide +kernel
theorem dX3_putCombination_104 : decode cX3_putCombination 104 = .ok (.goto 10, 3) := by decide +kernel
theorem dX3_putCombination_107 : decode cX3_putCombination 107 = .ok (.aload_n 0, 1) := by decide +kernel
theorem dX3_putCombination_108 : decode cX3_putCombination 108 = .ok (.getfield 27, 3) := by decide +kernel
theorem dX3_putCombination_111 : decode cX3_putCombination 111 = .ok (.iload 4, 2) := by decide +kernel
theorem dX3_putCombination_113 : decode cX3_putCombination 113 = .ok (.iaload, 1) := by decide +kernel
theorem dX3_putCombination_114 : decode cX3_putCombination 114 = .ok (.iload 5, 2) := by decide +kernel
theorem dX3_putCombination_116 : decode cX3_putCombination 116 = .ok (.invokestatic 91, 3) := by decide +kernel
theorem dX3_putCombination_119 : decode cX3_putCombination 119 = .ok (.iastore, 1) := by decide +kernel
theorem dX3_putCombination_120 : decode cX3_putCombination 120 = .ok (.return_, 1) := by decide +kernel
theorem dX4_init_0 : decode cX4_init 0 = .ok (.aload_n 0, 1) := by decide +kernel
theorem dX4_init_1 : decode cX4_init 1 = .ok (.invokespecial 3, 3) := by decide +kernel
theorem dX4_init_4 : decode cX4_init 4 = .ok (.aload_n 0, 1) := by decide +kernel
theorem dX4_init_5 : decode cX4_init 5 = .ok (.new 9, 3) := by decide +kernel
theorem dX4_init_8 : decode cX4_init 8 = .ok (.dup, 1) := by decide +kernel
theorem dX4_init_9 : decode cX4_init 9 = .ok (.invokespecial 11, 3) := by decide +kernel
theorem dX4_init_12 : decode cX4_init 12 = .ok (.putfield 12, 3) := by decide +kernel
theorem dX4_init_15 : decode cX4_init 15 = .ok (.aload_n 0, 1) := by decide +kernel
theorem dX4_init_16 : decode cX4_init 16 = .ok (.new 9, 3) := by decide +kernel
theorem dX4_init_19 : decode cX4_init 19 = .ok (.dup, 1) := by decide +kernel
theorem dX4_init_20 : decode cX4_init 20 = .ok (.invokespecial 11, 3) := by decide +kernel
theorem dX4_init_23 : decode cX4_init 23 = .ok (.putfield 18, 3) := by decide +kernel
theorem dX4_init_26 : decode cX4_init 26 = .ok (.aload_n 0, 1) := by decide +kernel
theorem dX4_init_27 : decode cX4_init 27 = .ok (.iconst 3, 1) := by decide +kernel
theorem dX4_init_28 : decode cX4_init 28 = .ok (.iconst 4, 1) := by decide +kernel
theorem dX4_init_29 : decode cX4_init 29 = .ok (.multianewarray 21 2, 4) := by decide +kernel
theorem dX4_init_33 : decode cX4_init 33 = .ok (.putfield 23, 3) := by decide +kernel
theorem dX4_init_36 : decode cX4_init 36 = .ok (.aload_n 0, 1) := by decide +kernel
theorem dX4_init_37 : decode cX4_init 37 = .ok (.iconst 4, 1) := by decide +kernel
theorem dX4_init_38 : decode cX4_init 38 = .ok (.newarray .long, 2) := by decide +kernel
theorem dX4_init_40 : decode cX4_init 40 = .ok (.putfield 26, 3) := by decide +kernel
theorem dX4_init_43 : decode cX4_init 43 = .ok (.aload_n 0, 1) := by decide +kernel
theorem dX4_init_44 : decode cX4_init 44 = .ok (.iconst 4, 1) := by decide +kernel
theorem dX4_init_45 : decode cX4_init 45 = .ok (.newarray .long, 2) := by decide +kernel
theorem dX4_init_47 : decode cX4_init 47 = .ok (.putfield 30, 3) := by decide +kernel
theorem dX4_init_50 : decode cX4_init 50 = .ok (.aload_n 0, 1) := by decide +kernel
theorem dX4_init_51 : decode cX4_init 51 = .ok (.iconst 4, 1) := by decide +kernel
theorem dX4_init_52 : decode cX4_init 52 = .ok (.newarray .long, 2) := by decide +kernel
theorem dX4_init_54 : decode cX4_init 54 = .ok (.putfield 33, 3) := by decide +kernel
theorem dX4_init_57 : decode cX4_init 57 = .ok (.return_, 1) := by decide +kernel
theorem dX4_ofPowers_0 : decode cX4_ofPowers 0 = .ok (.aload_n 0, 1) := by decide +kernel
theorem dX4_ofPowers_1 : decode cX4_ofPowers 1 = .ok (.getfield 12, 3) := by decide +kernel
theorem dX4_ofPowers_4 : decode cX4_ofPowers 4 = .ok (.invokevirtual 36, 3) := by decide +kernel
theorem dX4_ofPowers_7 : decode cX4_ofPowers 7 = .ok (.iconst 0, 1) := by decide +kernel
theorem dX4_ofPowers_8 : decode cX4_ofPowers 8 = .ok (.istore_n 3, 1) := by decide +kernel
theorem dX4_ofPowers_9 : decode cX4_ofPowers 9 = .ok (.iload_n 3, 1) := by decide +kernel
theorem dX4_ofPowers_10 : decode cX4_ofPowers 10 = .ok (.aload_n 1, 1) := by decide +kernel
theorem dX4_ofPowers_11 : decode cX4_ofPowers 11 = .ok (.getfield 39, 3) := by decide +kernel
theorem dX4_ofPowers_14 : decode cX4_ofPowers 14 = .ok (.if_icmp .ge 21, 3) := by decide +kernel
theorem dX4_ofPowers_17 : decode cX4_ofPowers 17 = .ok (.aload_n 0, 1) := by decide +kernel
theorem dX4_ofPowers_18 : decode cX4_ofPowers 18 = .ok (.aload_n 1, 1) := by decide +kernel
theorem dX4_ofPowers_19 : decode cX4_ofPowers 19 = .ok (.iload_n 3, 1) := by decide +kernel
theorem dX4_ofPowers_20 : decode cX4_ofPowers 20 = .ok (.aload_n 0, 1) := by decide +kernel
theorem dX4_ofPowers_21 : decode cX4_ofPowers 21 = .ok (.getfield 23, 3) := by decide +kernel
theorem dX4_ofPowers_24 : decode cX4_ofPowers 24 = .ok (.iload_n 3, 1) := by decide +kernel
theorem dX4_ofPowers_25 : decode cX4_ofPowers 25 = .ok (.aaload, 1) := by decide +kernel
theorem dX4_ofPowers_26 : decode cX4_ofPowers 26 = .ok (.invokevirtual 45, 3) := by decide +kernel
theorem dX4_ofPowers_29 : decode cX4_ofPowers 29 = .ok (.iinc 3 1, 3) := by decide +kernel
theorem dX4_ofPowers_32 : decode cX4_ofPowers 32 = .ok (.goto (-23), 3) := by decide +kernel
theorem dX4_ofPowers_35 : decode cX4_ofPowers 35 = .ok (.iconst 0, 1) := by decide +kernel
theorem dX4_ofPowers_36 : decode cX4_ofPowers 36 = .ok (.istore_n 3, 1) := by decide +kernel
theorem dX4_ofPowers_37 : decode cX4_ofPowers 37 = .ok (.iload_n 3, 1) := by decide +kernel
theorem dX4_ofPowers_38 : decode cX4_ofPowers 38 = .ok (.iload_n 2, 1) := by decide +kernel
theorem dX4_ofPowers_39 : decode cX4_ofPowers 39 = .ok (.if_icmp .ge 68, 3) := by decide +kernel
theorem dX4_ofPowers_42 : decode cX4_ofPowers 42 = .ok (.iconst 0, 1) := by decide +kernel
theorem dX4_ofPowers_43 : decode cX4_ofPowers 43 = .ok (.istore 4, 2) := by decide +kernel
theorem dX4_ofPowers_45 : decode cX4_ofPowers 45 = .ok (.iload 4, 2) := by decide +kernel
theorem dX4_ofPowers_47 : decode cX4_ofPowers 47 = .ok (.aload_n 1, 1) := by decide +kernel
theorem dX4_ofPowers_48 : decode cX4_ofPowers 48 = .ok (.getfield 39, 3) := by decide +kernel
theorem dX4_ofPowers_51 : decode cX4_ofPowers 51 = .ok (.if_icmp .ge 50, 3) := by decide +kernel
theorem dX4_ofPowers_54 : decode cX4_ofPowers 54 = .ok (.aload_n 0, 1) := by decide +kernel
theorem dX4_ofPowers_55 : decode cX4_ofPowers 55 = .ok (.getfield 23, 3) := by decide +kernel
theorem dX4_ofPowers_58 : decode cX4_ofPowers 58 = .ok (.iload 4, 2) := by decide +kernel
theorem dX4_ofPowers_60 : decode cX4_ofPowers 60 = .ok (.aaload, 1) := by decide +kernel
theorem dX4_ofPowers_61 : decode cX4_ofPowers 61 = .ok (.aload_n 0, 1) := by decide +kernel
theorem dX4_ofPowers_62 : decode cX4_ofPowers 62 = .ok (.getfield 26, 3) := by decide +kernel
theorem dX4_ofPowers_65 : decode cX4_ofPowers 65 = .ok (.invokestatic 49, 3) := by decide +kernel
theorem dX4_ofPowers_68 : decode cX4_ofPowers 68 = .ok (.aload_n 0, 1) := by decide +kernel
theorem dX4_ofPowers_69 : decode cX4_ofPowers 69 = .ok (.getfield 12, 3) := by decide +kernel
theorem dX4_ofPowers_72 : decode cX4_ofPowers 72 = .ok (.aload_n 0, 1) := by decide +kernel
theorem dX4_ofPowers_73 : decode cX4_ofPowers 73 = .ok (.getfield 26, 3) := by decide +kernel
theorem dX4_ofPowers_76 : decode cX4_ofPowers 76 = .ok (.aload_n 1, 1) := by decide +kernel
theorem dX4_ofPowers_77 : decode cX4_ofPowers 77 = .ok (.getfield 53, 3) := by decide +kernel
theorem dX4_ofPowers_80 : decode cX4_ofPowers 80 = .ok (.invokevirtual 56, 3) := by decide +kernel
theorem dX4_ofPowers_83 : decode cX4_ofPowers 83 = .ok (.aload_n 0, 1) := by decide +kernel
theorem dX4_ofPowers_84 : decode cX4_ofPowers 84 = .ok (.aload_n 1, 1) := by decide +kernel
theorem dX4_ofPowers_85 : decode cX4_ofPowers 85 = .ok (.aload_n 0, 1) := by decide +kernel
theorem dX4_ofPowers_86 : decode cX4_ofPowers 86 = .ok (.getfield 23, 3) := by decide +kernel
theorem dX4_ofPowers_89 : decode cX4_ofPowers 89 = .ok (.iload 4, 2) := by decide +kernel
theorem dX4_ofPowers_91 : decode cX4_ofPowers 91 = .ok (.aaload, 1) := by decide +kernel
theorem dX4_ofPowers_92 : decode cX4_ofPowers 92 = .ok (.invokevirtual 60, 3) := by decide +kernel
theorem dX4_ofPowers_95 : decode cX4_ofPowers 95 = .ok (.iinc 4 1, 3) := by decide +kernel
theorem dX4_ofPowers_98 : decode cX4_ofPowers 98 = .ok (.goto (-53), 3) := by decide +kernel
theorem dX4_ofPowers_101 : decode cX4_ofPowers 101 = .ok (.iinc 3 1, 3) := by decide +kernel
theorem dX4_ofPowers_104 : decode cX4_ofPowers 104 = .ok (.goto (-67), 3) := by decide +kernel
theorem dX4_ofPowers_107 : decode cX4_ofPowers 107 = .ok (.aload_n 0, 1) := by decide +kernel
theorem dX4_ofPowers_108 : decode cX4_ofPowers 108 = .ok (.getfield 12, 3) := by decide +kernel
theorem dX4_ofPowers_111 : decode cX4_ofPowers 111 = .ok (.getfield 64, 3) := by decide +kernel
theorem dX4_ofPowers_114 : decode cX4_ofPowers 114 = .ok (.ireturn, 1) := by decide +kernel
theorem dX4_ofVisible_0 : decode cX4_ofVisible 0 = .ok (.aload_n 0, 1) := by decide +kernel
theorem dX4_ofVisible_1 : decode cX4_ofVisible 1 = .ok (.getfield 12, 3) := by decide +kernel
theorem dX4_ofVisible_4 : decode cX4_ofVisible 4 = .ok (.invokevirtual 36, 3) := by decide +kernel
theorem dX4_ofVisible_7 : decode cX4_ofVisible 7 = .ok (.iconst 0, 1) := by decide +kernel
theorem dX4_ofVisible_8 : decode cX4_ofVisible 8 = .ok (.istore_n 3, 1) := by decide +kernel
theorem dX4_ofVisible_9 : decode cX4_ofVisible 9 = .ok (.iload_n 3, 1) := by decide +kernel
theorem dX4_ofVisible_10 : decode cX4_ofVisible 10 = .ok (.iload_n 2, 1) := by decide +kernel
theorem dX4_ofVisible_11 : decode cX4_ofVisible 11 = .ok (.if_icmp .ge 76, 3) := by decide +kernel
theorem dX4_ofVisible_14 : decode cX4_ofVisible 14 = .ok (.aload_n 0, 1) := by decide +kernel
theorem dX4_ofVisible_15 : decode cX4_ofVisible 15 = .ok (.getfield 18, 3) := by decide +kernel
theorem dX4_ofVisible_18 : decode cX4_ofVisible 18 = .ok (.invokevirtual 36, 3) := by decide +kernel
theorem dX4_ofVisible_21 : decode cX4_ofVisible 21 = .ok (.iconst 0, 1) := by decide +kernel
theorem dX4_ofVisible_22 : decode cX4_ofVisible 22 = .ok (.istore 4, 2) := by decide +kernel
theorem dX4_ofVisible_24 : decode cX4_ofVisible 24 = .ok (.iload 4, 2) := by decide +kernel
theorem dX4_ofVisible_26 : decode cX4_ofVisible 26 = .ok (.aload_n 1, 1) := by decide +kernel
theorem dX4_ofVisible_27 : decode cX4_ofVisible 27 = .ok (.getfield 39, 3) := by decide +kernel
theorem dX4_ofVisible_30 : decode cX4_ofVisible 30 = .ok (.if_icmp .ge 35, 3) := by decide +kernel
theorem dX4_ofVisible_33 : decode cX4_ofVisible 33 = .ok (.aload_n 0, 1) := by decide +kernel
theorem dX4_ofVisible_34 : decode cX4_ofVisible 34 = .ok (.aload_n 1, 1) := by decide +kernel
theorem dX4_ofVisible_35 : decode cX4_ofVisible 35 = .ok (.iload 4, 2) := by decide +kernel
theorem dX4_ofVisible_37 : decode cX4_ofVisible 37 = .ok (.aload_n 0, 1) := by decide +kernel
theorem dX4_ofVisible_38 : decode cX4_ofVisible 38 = .ok (.getfield 26, 3) := by decide +kernel
theorem dX4_ofVisible_41 : decode cX4_ofVisible 41 = .ok (.invokevirtual 45, 3) := by decide +kernel
theorem dX4_ofVisible_44 : decode cX4_ofVisible 44 = .ok (.aload_n 0, 1) := by decide +kernel
theorem dX4_ofVisible_45 : decode cX4_ofVisible 45 = .ok (.getfield 18, 3) := by decide +kernel
theorem dX4_ofVisible_48 : decode cX4_ofVisible 48 = .ok (.aload_n 0, 1) := by decide +kernel
theorem dX4_ofVisible_49 : decode cX4_ofVisible 49 = .ok (.getfield 26, 3) := by decide +kernel
theorem dX4_ofVisible_52 : decode cX4_ofVisible 52 = .ok (.aload_n 1, 1) := by decide +kernel
theorem dX4_ofVisible_53 : decode cX4_ofVisible 53 = .ok (.getfield 53, 3) := by decide +kernel
theorem dX4_ofVisible_56 : decode cX4_ofVisible 56 = .ok (.invokevirtual 56, 3) := by decide +kernel
theorem dX4_ofVisible_59 : decode cX4_ofVisible 59 = .ok (.iinc 4 1, 3) := by decide +kernel
theorem dX4_ofVisible_62 : decode cX4_ofVisible 62 = .ok (.goto (-38), 3) := by decide +kernel
theorem dX4_ofVisible_65 : decode cX4_ofVisible 65 = .ok (.aload_n 0, 1) := by decide +kernel
theorem dX4_ofVisible_66 : decode cX4_ofVisible 66 = .ok (.aload_n 1, 1) := by decide +kernel
theorem dX4_ofVisible_67 : decode cX4_ofVisible 67 = .ok (.invokevirtual 67, 3) := by decide +kernel
theorem dX4_ofVisible_70 : decode cX4_ofVisible 70 = .ok (.aload_n 0, 1) := by decide +kernel
theorem dX4_ofVisible_71 : decode cX4_ofVisible 71 = .ok (.getfield 12, 3) := by decide +kernel
theorem dX4_ofVisible_74 : decode cX4_ofVisible 74 = .ok (.aload_n 0, 1) := by decide +kernel
theorem dX4_ofVisible_75 : decode cX4_ofVisible 75 = .ok (.getfield 18, 3) := by decide +kernel
theorem dX4_ofVisible_78 : decode cX4_ofVisible 78 = .ok (.invokevirtual 71, 3) := by decide +kernel
theorem dX4_ofVisible_81 : decode cX4_ofVisible 81 = .ok (.iinc 3 1, 3) := by decide +kernel
theorem dX4_ofVisible_84 : decode cX4_ofVisible 84 = .ok (.goto (-75), 3) := by decide +kernel
theorem dX4_ofVisible_87 : decode cX4_ofVisible 87 = .ok (.aload_n 0, 1) := by decide +kernel
theorem dX4_ofVisible_88 : decode cX4_ofVisible 88 = .ok (.getfield 12, 3) := by decide +kernel
theorem dX4_ofVisible_91 : decode cX4_ofVisible 91 = .ok (.getfield 64, 3) := by decide +kernel
theorem dX4_ofVisible_94 : decode cX4_ofVisible 94 = .ok (.ireturn, 1) := by decide +kernel
theorem dX4_includeEarlier_0 : decode cX4_includeEarlier 0 = .ok (.aload_n 0, 1) := by decide +kernel
theorem dX4_includeEarlier_1 : decode cX4_includeEarlier 1 = .ok (.aload_n 1, 1) := by decide +kernel
theorem dX4_includeEarlier_2 : decode cX4_includeEarlier 2 = .ok (.invokevirtual 75, 3) := by decide +kernel
theorem dX4_includeEarlier_5 : decode cX4_includeEarlier 5 = .ok (.istore_n 2, 1) := by decide +kernel
theorem dX4_includeEarlier_6 : decode cX4_includeEarlier 6 = .ok (.iconst 0, 1) := by decide +kernel
theorem dX4_includeEarlier_7 : decode cX4_includeEarlier 7 = .ok (.istore_n 3, 1) := by decide +kernel
theorem dX4_includeEarlier_8 : decode cX4_includeEarlier 8 = .ok (.iload_n 3, 1) := by decide +kernel
theorem dX4_includeEarlier_9 : decode cX4_includeEarlier 9 = .ok (.aload_n 1, 1) := by decide +kernel
theorem dX4_includeEarlier_10 : decode cX4_includeEarlier 10 = .ok (.getfield 53, 3) := by decide +kernel
theorem dX4_includeEarlier_13 : decode cX4_includeEarlier 13 = .ok (.if_icmp .ge 94, 3) := by decide +kernel
theorem dX4_includeEarlier_16 : decode cX4_includeEarlier 16 = .ok (.iload_n 3, 1) := by decide +kernel
theorem dX4_includeEarlier_17 : decode cX4_includeEarlier 17 = .ok (.iload_n 2, 1) := by decide +kernel
theorem dX4_includeEarlier_18 : decode cX4_includeEarlier 18 = .ok (.if_icmp .eq 83, 3) := by decide +kernel
theorem dX4_includeEarlier_21 : decode cX4_includeEarlier 21 = .ok (.aload_n 0, 1) := by decide +kernel
theorem dX4_includeEarlier_22 : decode cX4_includeEarlier 22 = .ok (.getfield 12, 3) := by decide +kernel
theorem dX4_includeEarlier_25 : decode cX4_includeEarlier 25 = .ok (.getfield 79, 3) := by decide +kernel
theorem dX4_includeEarlier_28 : decode cX4_includeEarlier 28 = .ok (.iload_n 3, 1) := by decide +kernel
theorem dX4_includeEarlier_29 : decode cX4_includeEarlier 29 = .ok (.aaload, 1) := by decide +kernel
theorem dX4_includeEarlier_30 : decode cX4_includeEarlier 30 = .ok (.aload_n 0, 1) := by decide +kernel
theorem dX4_includeEarlier_31 : decode cX4_includeEarlier 31 = .ok (.getfield 26, 3) := by decide +kernel
theorem dX4_includeEarlier_34 : decode cX4_includeEarlier 34 = .ok (.invokestatic 49, 3) := by decide +kernel
theorem dX4_includeEarlier_37 : decode cX4_includeEarlier 37 = .ok (.iload_n 2, 1) := by decide +kernel
theorem dX4_includeEarlier_38 : decode cX4_includeEarlier 38 = .ok (.aload_n 1, 1) := by decide +kernel
theorem dX4_includeEarlier_39 : decode cX4_includeEarlier 39 = .ok (.getfield 53, 3) := by decide +kernel
theorem dX4_includeEarlier_42 : decode cX4_includeEarlier 42 = .ok (.if_icmp .ge 35, 3) := by decide +kernel
theorem dX4_includeEarlier_45 : decode cX4_includeEarlier 45 = .ok (.aload_n 0, 1) := by decide +kernel
theorem dX4_includeEarlier_46 : decode cX4_includeEarlier 46 = .ok (.getfield 26, 3) := by decide +kernel
theorem dX4_includeEarlier_49 : decode cX4_includeEarlier 49 = .ok (.aload_n 0, 1) := by decide +kernel
theorem dX4_includeEarlier_50 : decode cX4_includeEarlier 50 = .ok (.getfield 33, 3) := by decide +kernel
theorem dX4_includeEarlier_53 : decode cX4_includeEarlier 53 = .ok (.iload_n 3, 1) := by decide +kernel
theorem dX4_includeEarlier_54 : decode cX4_includeEarlier 54 = .ok (.laload, 1) := by decide +kernel
theorem dX4_includeEarlier_55 : decode cX4_includeEarlier 55 = .ok (.aload_n 0, 1) := by decide +kernel
theorem dX4_includeEarlier_56 : decode cX4_includeEarlier 56 = .ok (.getfield 12, 3) := by decide +kernel
theorem dX4_includeEarlier_59 : decode cX4_includeEarlier 59 = .ok (.getfield 79, 3) := by decide +kernel
theorem dX4_includeEarlier_62 : decode cX4_includeEarlier 62 = .ok (.iload_n 2, 1) := by decide +kernel
theorem dX4_includeEarlier_63 : decode cX4_includeEarlier 63 = .ok (.aaload, 1) := by decide +kernel
theorem dX4_includeEarlier_64 : decode cX4_includeEarlier 64 = .ok (.aload_n 0, 1) := by decide +kernel
theorem dX4_includeEarlier_65 : decode cX4_includeEarlier 65 = .ok (.getfield 33, 3) := by decide +kernel
theorem dX4_includeEarlier_68 : decode cX4_includeEarlier 68 = .ok (.iload_n 2, 1) := by decide +kernel
theorem dX4_includeEarlier_69 : decode cX4_includeEarlier 69 = .ok (.laload, 1) := by decide +kernel
theorem dX4_includeEarlier_70 : decode cX4_includeEarlier 70 = .ok (.aload_n 1, 1) := by decide +kernel
theorem dX4_includeEarlier_71 : decode cX4_includeEarlier 71 = .ok (.getfield 53, 3) := by decide +kernel
theorem dX4_includeEarlier_74 : decode cX4_includeEarlier 74 = .ok (.invokestatic 82, 3) := by decide +kernel
theorem dX4_includeEarlier_77 : decode cX4_includeEarlier 77 = .ok (.aload_n 0, 1) := by decide +kernel
theorem dX4_includeEarlier_78 : decode cX4_includeEarlier 78 = .ok (.aload_n 1, 1) := by decide +kernel
theorem dX4_includeEarlier_79 : decode cX4_includeEarlier 79 = .ok (.aload_n 0, 1) := by decide +kernel
theorem dX4_includeEarlier_80 : decode cX4_includeEarlier 80 = .ok (.getfield 26, 3) := by decide +kernel
theorem dX4_includeEarlier_83 : decode cX4_includeEarlier 83 = .ok (.invokevirtual 60, 3) := by decide +kernel
theorem dX4_includeEarlier_86 : decode cX4_includeEarlier 86 = .ok (.aload_n 0, 1) := by decide +kernel
theorem dX4_includeEarlier_87 : decode cX4_includeEarlier 87 = .ok (.getfield 18, 3) := by decide +kernel
theorem dX4_includeEarlier_90 : decode cX4_includeEarlier 90 = .ok (.aload_n 0, 1) := by decide +kernel
theorem dX4_includeEarlier_91 : decode cX4_includeEarlier 91 = .ok (.getfield 26, 3) := by decide +kernel
theorem dX4_includeEarlier_94 : decode cX4_includeEarlier 94 = .ok (.aload_n 1, 1) := by decide +kernel
theorem dX4_includeEarlier_95 : decode cX4_includeEarlier 95 = .ok (.getfield 53, 3) := by decide +kernel
theorem dX4_includeEarlier_98 : decode cX4_includeEarlier 98 = .ok (.invokevirtual 56, 3) := by decide +kernel
theorem dX4_includeEarlier_101 : decode cX4_includeEarlier 101 = .ok (.iinc 3 1, 3) := by decide +kernel
theorem dX4_includeEarlier_104 : decode cX4_includeEarlier 104 = .ok (.goto (-96), 3) := by decide +kernel
theorem dX4_includeEarlier_107 : decode cX4_includeEarlier 107 = .ok (.return_, 1) := by decide +kernel
theorem dX4_putEffects_0 : decode cX4_putEffects 0 = .ok (.aload_n 1, 1) := by decide +kernel
theorem dX4_putEffects_1 : decode cX4_putEffects 1 = .ok (.getfield 53, 3) := by decide +kernel
theorem dX4_putEffects_4 : decode cX4_putEffects 4 = .ok (.istore_n 2, 1) := by decide +kernel
theorem dX4_putEffects_5 : decode cX4_putEffects 5 = .ok (.aload_n 1, 1) := by decide +kernel
theorem dX4_putEffects_6 : decode cX4_putEffects 6 = .ok (.getfield 53, 3) := by decide +kernel
theorem dX4_putEffects_9 : decode cX4_putEffects 9 = .ok (.iconst 1, 1) := by decide +kernel
theorem dX4_putEffects_10 : decode cX4_putEffects 10 = .ok (.isub, 1) := by decide +kernel
theorem dX4_putEffects_11 : decode cX4_putEffects 11 = .ok (.istore_n 3, 1) := by decide +kernel
theorem dX4_putEffects_12 : decode cX4_putEffects 12 = .ok (.iload_n 3, 1) := by decide +kernel
theorem dX4_putEffects_13 : decode cX4_putEffects 13 = .ok (.ifCond .lt 83, 3) := by decide +kernel
theorem dX4_putEffects_16 : decode cX4_putEffects 16 = .ok (.lconst 0, 1) := by decide +kernel
theorem dX4_putEffects_17 : decode cX4_putEffects 17 = .ok (.lstore 4, 2) := by decide +kernel
theorem dX4_putEffects_19 : decode cX4_putEffects 19 = .ok (.iconst 0, 1) := by decide +kernel
theorem dX4_putEffects_20 : decode cX4_putEffects 20 = .ok (.istore 6, 2) := by decide +kernel
theorem dX4_putEffects_22 : decode cX4_putEffects 22 = .ok (.iload 6, 2) := by decide +kernel
theorem dX4_putEffects_24 : decode cX4_putEffects 24 = .ok (.aload_n 1, 1) := by decide +kernel
theorem dX4_putEffects_25 : decode cX4_putEffects 25 = .ok (.getfield 53, 3) := by decide +kernel
theorem dX4_putEffects_28 : decode cX4_putEffects 28 = .ok (.if_icmp .ge 35, 3) := by decide +kernel
theorem dX4_putEffects_31 : decode cX4_putEffects 31 = .ok (.lload 4, 2) := by decide +kernel
theorem dX4_putEffects_33 : decode cX4_putEffects 33 = .ok (.aload_n 0, 1) := by decide +kernel
theorem dX4_putEffects_34 : decode cX4_putEffects 34 = .ok (.getfield 12, 3) := by decide +kernel
theorem dX4_putEffects_37 : decode cX4_putEffects 37 = .ok (.getfield 79, 3) := by decide +kernel
theorem dX4_putEffects_40 : decode cX4_putEffects 40 = .ok (.iload_n 3, 1) := by decide +kernel
theorem dX4_putEffects_41 : decode cX4_putEffects 41 = .ok (.aaload, 1) := by decide +kernel
theorem dX4_putEffects_42 : decode cX4_putEffects 42 = .ok (.iload 6, 2) := by decide +kernel
theorem dX4_putEffects_44 : decode cX4_putEffects 44 = .ok (.laload, 1) := by decide +kernel
theorem dX4_putEffects_45 : decode cX4_putEffects 45 = .ok (.aload_n 1, 1) := by decide +kernel
theorem dX4_putEffects_46 : decode cX4_putEffects 46 = .ok (.getfield 86, 3) := by decide +kernel
theorem dX4_putEffects_49 : decode cX4_putEffects 49 = .ok (.iload 6, 2) := by decide +kernel
theorem dX4_putEffects_51 : decode cX4_putEffects 51 = .ok (.iaload, 1) := by decide +kernel
theorem dX4_putEffects_52 : decode cX4_putEffects 52 = .ok (.i2l, 1) := by decide +kernel
theorem dX4_putEffects_53 : decode cX4_putEffects 53 = .ok (.lmul, 1) := by decide +kernel
theorem dX4_putEffects_54 : decode cX4_putEffects 54 = .ok (.ladd, 1) := by decide +kernel
theorem dX4_putEffects_55 : decode cX4_putEffects 55 = .ok (.lstore 4, 2) := by decide +kernel
theorem dX4_putEffects_57 : decode cX4_putEffects 57 = .ok (.iinc 6 1, 3) := by decide +kernel
theorem dX4_putEffects_60 : decode cX4_putEffects 60 = .ok (.goto (-38), 3) := by decide +kernel
theorem dX4_putEffects_63 : decode cX4_putEffects 63 = .ok (.aload_n 0, 1) := by decide +kernel
theorem dX4_putEffects_64 : decode cX4_putEffects 64 = .ok (.getfield 33, 3) := by decide +kernel
theorem dX4_putEffects_67 : decode cX4_putEffects 67 = .ok (.iload_n 3, 1) := by decide +kernel
theorem dX4_putEffects_68 : decode cX4_putEffects 68 = .ok (.lload 4, 2) := by decide +kernel
theorem dX4_putEffects_70 : decode cX4_putEffects 70 = .ok (.ldc2_w 90, 3) := by decide +kernel
theorem dX4_putEffects_73 : decode cX4_putEffects 73 = .ok (.invokestatic 92, 3) := by decide +kernel
theorem dX4_putEffects_76 : decode cX4_putEffects 76 = .ok (.lastore, 1) := by decide +kernel
theorem dX4_putEffects_77 : decode cX4_putEffects 77 = .ok (.aload_n 0, 1) := by decide +kernel
theorem dX4_putEffects_78 : decode cX4_putEffects 78 = .ok (.getfield 33, 3) := by decide +kernel
theorem dX4_putEffects_81 : decode cX4_putEffects 81 = .ok (.iload_n 3, 1) := by decide +kernel
theorem dX4_putEffects_82 : decode cX4_putEffects 82 = .ok (.laload, 1) := by decide +kernel
theorem dX4_putEffects_83 : decode cX4_putEffects 83 = .ok (.lconst 0, 1) := by decide +kernel
theorem dX4_putEffects_84 : decode cX4_putEffects 84 = .ok (.lcmp, 1) := by decide +kernel
theorem dX4_putEffects_85 : decode cX4_putEffects 85 = .ok (.ifCond .eq 5, 3) := by decide +kernel
theorem dX4_putEffects_88 : decode cX4_putEffects 88 = .ok (.iload_n 3, 1) := by decide +kernel
theorem dX4_putEffects_89 : decode cX4_putEffects 89 = .ok (.istore_n 2, 1) := by decide +kernel
theorem dX4_putEffects_90 : decode cX4_putEffects 90 = .ok (.iinc 3 (-1), 3) := by decide +kernel
theorem dX4_putEffects_93 : decode cX4_putEffects 93 = .ok (.goto (-81), 3) := by decide +kernel
theorem dX4_putEffects_96 : decode cX4_putEffects 96 = .ok (.iload_n 2, 1) := by decide +kernel
theorem dX4_putEffects_97 : decode cX4_putEffects 97 = .ok (.ireturn, 1) := by decide +kernel
theorem dX4_putOutput_0 : decode cX4_putOutput 0 = .ok (.iconst 0, 1) := by decide +kernel
theorem dX4_putOutput_1 : decode cX4_putOutput 1 = .ok (.istore 4, 2) := by decide +kernel
theorem dX4_putOutput_3 : decode cX4_putOutput 3 = .ok (.iload 4, 2) := by decide +kernel
theorem dX4_putOutput_5 : decode cX4_putOutput 5 = .ok (.aload_n 1, 1) := by decide +kernel
theorem dX4_putOutput_6 : decode cX4_putOutput 6 = .ok (.getfield 53, 3) := by decide +kernel
theorem dX4_putOutput_9 : decode cX4_putOutput 9 = .ok (.if_icmp .ge 29, 3) := by decide +kernel
theorem dX4_putOutput_12 : decode cX4_putOutput 12 = .ok (.aload_n 3, 1) := by decide +kernel
theorem dX4_putOutput_13 : decode cX4_putOutput 13 = .ok (.iload 4, 2) := by decide +kernel
theorem dX4_putOutput_15 : decode cX4_putOutput 15 = .ok (.aload_n 1, 1) := by decide +kernel
theorem dX4_putOutput_16 : decode cX4_putOutput 16 = .ok (.getfield 98, 3) := by decide +kernel
theorem dX4_putOutput_19 : decode cX4_putOutput 19 = .ok (.iload_n 2, 1) := by decide +kernel
theorem dX4_putOutput_20 : decode cX4_putOutput 20 = .ok (.aaload, 1) := by decide +kernel
theorem dX4_putOutput_21 : decode cX4_putOutput 21 = .ok (.iload 4, 2) := by decide +kernel
theorem dX4_putOutput_23 : decode cX4_putOutput 23 = .ok (.iaload, 1) := by decide +kernel
theorem dX4_putOutput_24 : decode cX4_putOutput 24 = .ok (.i2l, 1) := by decide +kernel
theorem dX4_putOutput_25 : decode cX4_putOutput 25 = .ok (.ldc2_w 90, 3) := by decide +kernel
theorem dX4_putOutput_28 : decode cX4_putOutput 28 = .ok (.invokestatic 92, 3) := by decide +kernel
theorem dX4_putOutput_31 : decode cX4_putOutput 31 = .ok (.lastore, 1) := by decide +kernel
theorem dX4_putOutput_32 : decode cX4_putOutput 32 = .ok (.iinc 4 1, 3) := by decide +kernel
theorem dX4_putOutput_35 : decode cX4_putOutput 35 = .ok (.goto (-32), 3) := by decide +kernel
theorem dX4_putOutput_38 : decode cX4_putOutput 38 = .ok (.return_, 1) := by decide +kernel
theorem dX4_multiply_0 : decode cX4_multiply 0 = .ok (.iconst 0, 1) := by decide +kernel
theorem dX4_multiply_1 : decode cX4_multiply 1 = .ok (.istore_n 3, 1) := by decide +kernel
theorem dX4_multiply_2 : decode cX4_multiply 2 = .ok (.iload_n 3, 1) := by decide +kernel
theorem dX4_multiply_3 : decode cX4_multiply 3 = .ok (.aload_n 1, 1) := by decide +kernel
theorem dX4_multiply_4 : decode cX4_multiply 4 = .ok (.getfield 53, 3) := by decide +kernel
theorem dX4_multiply_7 : decode cX4_multiply 7 = .ok (.if_icmp .ge 64, 3) := by decide +kernel
theorem dX4_multiply_10 : decode cX4_multiply 10 = .ok (.lconst 0, 1) := by decide +kernel
theorem dX4_multiply_11 : decode cX4_multiply 11 = .ok (.lstore 4, 2) := by decide +kernel
theorem dX4_multiply_13 : decode cX4_multiply 13 = .ok (.iconst 0, 1) := by decide +kernel
theorem dX4_multiply_14 : decode cX4_multiply 14 = .ok (.istore 6, 2) := by decide +kernel
theorem dX4_multiply_16 : decode cX4_multiply 16 = .ok (.iload 6, 2) := by decide +kernel
theorem dX4_multiply_18 : decode cX4_multiply 18 = .ok (.aload_n 1, 1) := by decide +kernel
theorem dX4_multiply_19 : decode cX4_multiply 19 = .ok (.getfield 53, 3) := by decide +kernel
theorem dX4_multiply_22 : decode cX4_multiply 22 = .ok (.if_icmp .ge 29, 3) := by decide +kernel
theorem dX4_multiply_25 : decode cX4_multiply 25 = .ok (.lload 4, 2) := by decide +kernel
theorem dX4_multiply_27 : decode cX4_multiply 27 = .ok (.aload_n 2, 1) := by decide +kernel
theorem dX4_multiply_28 : decode cX4_multiply 28 = .ok (.iload 6, 2) := by decide +kernel
theorem dX4_multiply_30 : decode cX4_multiply 30 = .ok (.laload, 1) := by decide +kernel
theorem dX4_multiply_31 : decode cX4_multiply 31 = .ok (.aload_n 1, 1) := by decide +kernel
theorem dX4_multiply_32 : decode cX4_multiply 32 = .ok (.getfield 102, 3) := by decide +kernel
theorem dX4_multiply_35 : decode cX4_multiply 35 = .ok (.iload 6, 2) := by decide +kernel
theorem dX4_multiply_37 : decode cX4_multiply 37 = .ok (.aaload, 1) := by decide +kernel
theorem dX4_multiply_38 : decode cX4_multiply 38 = .ok (.iload_n 3, 1) := by decide +kernel
theorem dX4_multiply_39 : decode cX4_multiply 39 = .ok (.iaload, 1) := by decide +kernel
theorem dX4_multiply_40 : decode cX4_multiply 40 = .ok (.i2l, 1) := by decide +kernel
theorem dX4_multiply_41 : decode cX4_multiply 41 = .ok (.lmul, 1) := by decide +kernel
theorem dX4_multiply_42 : decode cX4_multiply 42 = .ok (.ladd, 1) := by decide +kernel
theorem dX4_multiply_43 : decode cX4_multiply 43 = .ok (.lstore 4, 2) := by decide +kernel
theorem dX4_multiply_45 : decode cX4_multiply 45 = .ok (.iinc 6 1, 3) := by decide +kernel
theorem dX4_multiply_48 : decode cX4_multiply 48 = .ok (.goto (-32), 3) := by decide +kernel
theorem dX4_multiply_51 : decode cX4_multiply 51 = .ok (.aload_n 0, 1) := by decide +kernel
theorem dX4_multiply_52 : decode cX4_multiply 52 = .ok (.getfield 30, 3) := by decide +kernel
theorem dX4_multiply_55 : decode cX4_multiply 55 = .ok (.iload_n 3, 1) := by decide +kernel
theorem dX4_multiply_56 : decode cX4_multiply 56 = .ok (.lload 4, 2) := by decide +kernel
theorem dX4_multiply_58 : decode cX4_multiply 58 = .ok (.ldc2_w 90, 3) := by decide +kernel
theorem dX4_multiply_61 : decode cX4_multiply 61 = .ok (.invokestatic 92, 3) := by decide +kernel
theorem dX4_multiply_64 : decode cX4_multiply 64 = .ok (.lastore, 1) := by decide +kernel
theorem dX4_multiply_65 : decode cX4_multiply 65 = .ok (.iinc 3 1, 3) := by decide +kernel
theorem dX4_multiply_68 : decode cX4_multiply 68 = .ok (.goto (-66), 3) := by decide +kernel
theorem dX4_multiply_71 : decode cX4_multiply 71 = .ok (.aload_n 0, 1) := by decide +kernel
theorem dX4_multiply_72 : decode cX4_multiply 72 = .ok (.getfield 30, 3) := by decide +kernel
theorem dX4_multiply_75 : decode cX4_multiply 75 = .ok (.aload_n 2, 1) := by decide +kernel
theorem dX4_multiply_76 : decode cX4_multiply 76 = .ok (.invokestatic 49, 3) := by decide +kernel
theorem dX4_multiply_79 : decode cX4_multiply 79 = .ok (.return_, 1) := by decide +kernel
theorem dX5_init_0 : decode cX5_init 0 = .ok (.aload_n 0, 1) := by decide +kernel
theorem dX5_init_1 : decode cX5_init 1 = .ok (.invokespecial 3, 3) := by decide +kernel
theorem dX5_init_4 : decode cX5_init 4 = .ok (.aload_n 0, 1) := by decide +kernel
theorem dX5_init_5 : decode cX5_init 5 = .ok (.iconst 2, 1) := by decide +kernel
theorem dX5_init_6 : decode cX5_init 6 = .ok (.anewarray 9, 3) := by decide +kernel
theorem dX5_init_9 : decode cX5_init 9 = .ok (.putfield 11, 3) := by decide +kernel
theorem dX5_init_12 : decode cX5_init 12 = .ok (.aload_n 0, 1) := by decide +kernel
theorem dX5_init_13 : decode cX5_init 13 = .ok (.iconst 2, 1) := by decide +kernel
theorem dX5_init_14 : decode cX5_init 14 = .ok (.newarray .boolean, 2) := by decide +kernel
theorem dX5_init_16 : decode cX5_init 16 = .ok (.putfield 17, 3) := by decide +kernel
theorem dX5_init_19 : decode cX5_init 19 = .ok (.iconst 0, 1) := by decide +kernel
theorem dX5_init_20 : decode cX5_init 20 = .ok (.istore_n 1, 1) := by decide +kernel
theorem dX5_init_21 : decode cX5_init 21 = .ok (.iload_n 1, 1) := by decide +kernel
theorem dX5_init_22 : decode cX5_init 22 = .ok (.iconst 2, 1) := by decide +kernel
theorem dX5_init_23 : decode cX5_init 23 = .ok (.if_icmp .ge 22, 3) := by decide +kernel
theorem dX5_init_26 : decode cX5_init 26 = .ok (.aload_n 0, 1) := by decide +kernel
theorem dX5_init_27 : decode cX5_init 27 = .ok (.getfield 11, 3) := by decide +kernel
theorem dX5_init_30 : decode cX5_init 30 = .ok (.iload_n 1, 1) := by decide +kernel
theorem dX5_init_31 : decode cX5_init 31 = .ok (.new 9, 3) := by decide +kernel
theorem dX5_init_34 : decode cX5_init 34 = .ok (.dup, 1) := by decide +kernel
theorem dX5_init_35 : decode cX5_init 35 = .ok (.invokespecial 21, 3) := by decide +kernel
theorem dX5_init_38 : decode cX5_init 38 = .ok (.aastore, 1) := by decide +kernel
theorem dX5_init_39 : decode cX5_init 39 = .ok (.iinc 1 1, 3) := by decide +kernel
theorem dX5_init_42 : decode cX5_init 42 = .ok (.goto (-21), 3) := by decide +kernel
theorem dX5_init_45 : decode cX5_init 45 = .ok (.return_, 1) := by decide +kernel
theorem dX5_forget_0 : decode cX5_forget 0 = .ok (.iconst 0, 1) := by decide +kernel
theorem dX5_forget_1 : decode cX5_forget 1 = .ok (.istore_n 1, 1) := by decide +kernel
theorem dX5_forget_2 : decode cX5_forget 2 = .ok (.iload_n 1, 1) := by decide +kernel
theorem dX5_forget_3 : decode cX5_forget 3 = .ok (.iconst 2, 1) := by decide +kernel
theorem dX5_forget_4 : decode cX5_forget 4 = .ok (.if_icmp .ge 16, 3) := by decide +kernel
theorem dX5_forget_7 : decode cX5_forget 7 = .ok (.aload_n 0, 1) := by decide +kernel
theorem dX5_forget_8 : decode cX5_forget 8 = .ok (.getfield 17, 3) := by decide +kernel
theorem dX5_forget_11 : decode cX5_forget 11 = .ok (.iload_n 1, 1) := by decide +kernel
theorem dX5_forget_12 : decode cX5_forget 12 = .ok (.iconst 0, 1) := by decide +kernel
theorem dX5_forget_13 : decode cX5_forget 13 = .ok (.bastore, 1) := by decide +kernel
theorem dX5_forget_14 : decode cX5_forget 14 = .ok (.iinc 1 1, 3) := by decide +kernel
theorem dX5_forget_17 : decode cX5_forget 17 = .ok (.goto (-15), 3) := by decide +kernel
theorem dX5_forget_20 : decode cX5_forget 20 = .ok (.return_, 1) := by decide +kernel
theorem dX6_init_0 : decode cX6_init 0 = .ok (.aload_n 0, 1) := by decide +kernel
theorem dX6_init_1 : decode cX6_init 1 = .ok (.invokespecial 3, 3) := by decide +kernel
theorem dX6_init_4 : decode cX6_init 4 = .ok (.aload_n 0, 1) := by decide +kernel
theorem dX6_init_5 : decode cX6_init 5 = .ok (.iconst 4, 1) := by decide +kernel
theorem dX6_init_6 : decode cX6_init 6 = .ok (.iconst 4, 1) := by decide +kernel
theorem dX6_init_7 : decode cX6_init 7 = .ok (.multianewarray 9 2, 4) := by decide +kernel
theorem dX6_init_11 : decode cX6_init 11 = .ok (.putfield 11, 3) := by decide +kernel
theorem dX6_init_14 : decode cX6_init 14 = .ok (.return_, 1) := by decide +kernel
theorem dX6_clear_0 : decode cX6_clear 0 = .ok (.aload_n 0, 1) := by decide +kernel
theorem dX6_clear_1 : decode cX6_clear 1 = .ok (.iconst 0, 1) := by decide +kernel
theorem dX6_clear_2 : decode cX6_clear 2 = .ok (.putfield 16, 3) := by decide +kernel
theorem dX6_clear_5 : decode cX6_clear 5 = .ok (.iconst 0, 1) := by decide +kernel
theorem dX6_clear_6 : decode cX6_clear 6 = .ok (.istore_n 1, 1) := by decide +kernel
theorem dX6_clear_7 : decode cX6_clear 7 = .ok (.iload_n 1, 1) := by decide +kernel
theorem dX6_clear_8 : decode cX6_clear 8 = .ok (.iconst 4, 1) := by decide +kernel
theorem dX6_clear_9 : decode cX6_clear 9 = .ok (.if_icmp .ge 31, 3) := by decide +kernel
theorem dX6_clear_12 : decode cX6_clear 12 = .ok (.iconst 0, 1) := by decide +kernel
theorem dX6_clear_13 : decode cX6_clear 13 = .ok (.istore_n 2, 1) := by decide +kernel
theorem dX6_clear_14 : decode cX6_clear 14 = .ok (.iload_n 2, 1) := by decide +kernel
theorem dX6_clear_15 : decode cX6_clear 15 = .ok (.iconst 4, 1) := by decide +kernel
theorem dX6_clear_16 : decode cX6_clear 16 = .ok (.if_icmp .ge 18, 3) := by decide +kernel
theorem dX6_clear_19 : decode cX6_clear 19 = .ok (.aload_n 0, 1) := by decide +kernel
theorem dX6_clear_20 : decode cX6_clear 20 = .ok (.getfield 11, 3) := by decide +kernel
theorem dX6_clear_23 : decode cX6_clear 23 = .ok (.iload_n 1, 1) := by decide +kernel
theorem dX6_clear_24 : decode cX6_clear 24 = .ok (.aaload, 1) := by decide +kernel
theorem dX6_clear_25 : decode cX6_clear 25 = .ok (.iload_n 2, 1) := by decide +kernel
theorem dX6_clear_26 : decode cX6_clear 26 = .ok (.lconst 0, 1) := by decide +kernel
theorem dX6_clear_27 : decode cX6_clear 27 = .ok (.lastore, 1) := by decide +kernel
theorem dX6_clear_28 : decode cX6_clear 28 = .ok (.iinc 2 1, 3) := by decide +kernel
theorem dX6_clear_31 : decode cX6_clear 31 = .ok (.goto (-17), 3) := by decide +kernel
theorem dX6_clear_34 : decode cX6_clear 34 = .ok (.iinc 1 1, 3) := by decide +kernel
theorem dX6_clear_37 : decode cX6_clear 37 = .ok (.goto (-30), 3) := by decide +kernel
theorem dX6_clear_40 : decode cX6_clear 40 = .ok (.return_, 1) := by decide +kernel
theorem dX6_copyFrom_0 : decode cX6_copyFrom 0 = .ok (.aload_n 0, 1) := by decide +kernel
theorem dX6_copyFrom_1 : decode cX6_copyFrom 1 = .ok (.aload_n 1, 1) := by decide +kernel
theorem dX6_copyFrom_2 : decode cX6_copyFrom 2 = .ok (.getfield 16, 3) := by decide +kernel
theorem dX6_copyFrom_5 : decode cX6_copyFrom 5 = .ok (.putfield 16, 3) := by decide +kernel
theorem dX6_copyFrom_8 : decode cX6_copyFrom 8 = .ok (.iconst 0, 1) := by decide +kernel
theorem dX6_copyFrom_9 : decode cX6_copyFrom 9 = .ok (.istore_n 2, 1) := by decide +kernel
theorem dX6_copyFrom_10 : decode cX6_copyFrom 10 = .ok (.iload_n 2, 1) := by decide +kernel
theorem dX6_copyFrom_11 : decode cX6_copyFrom 11 = .ok (.iconst 4, 1) := by decide +kernel
theorem dX6_copyFrom_12 : decode cX6_copyFrom 12 = .ok (.if_icmp .ge 24, 3) := by decide +kernel
theorem dX6_copyFrom_15 : decode cX6_copyFrom 15 = .ok (.aload_n 1, 1) := by decide +kernel
theorem dX6_copyFrom_16 : decode cX6_copyFrom 16 = .ok (.getfield 11, 3) := by decide +kernel
theorem dX6_copyFrom_19 : decode cX6_copyFrom 19 = .ok (.iload_n 2, 1) := by decide +kernel
theorem dX6_copyFrom_20 : decode cX6_copyFrom 20 = .ok (.aaload, 1) := by decide +kernel
theorem dX6_copyFrom_21 : decode cX6_copyFrom 21 = .ok (.aload_n 0, 1) := by decide +kernel
theorem dX6_copyFrom_22 : decode cX6_copyFrom 22 = .ok (.getfield 11, 3) := by decide +kernel
theorem dX6_copyFrom_25 : decode cX6_copyFrom 25 = .ok (.iload_n 2, 1) := by decide +kernel
theorem dX6_copyFrom_26 : decode cX6_copyFrom 26 = .ok (.aaload, 1) := by decide +kernel
theorem dX6_copyFrom_27 : decode cX6_copyFrom 27 = .ok (.invokestatic 20, 3) := by decide +kernel
theorem dX6_copyFrom_30 : decode cX6_copyFrom 30 = .ok (.iinc 2 1, 3) := by decide +kernel
theorem dX6_copyFrom_33 : decode cX6_copyFrom 33 = .ok (.goto (-23), 3) := by decide +kernel
theorem dX6_copyFrom_36 : decode cX6_copyFrom 36 = .ok (.return_, 1) := by decide +kernel
theorem dX6_include_0 : decode cX6_include 0 = .ok (.iconst 0, 1) := by decide +kernel
theorem dX6_include_1 : decode cX6_include 1 = .ok (.istore_n 3, 1) := by decide +kernel
theorem dX6_include_2 : decode cX6_include 2 = .ok (.iload_n 3, 1) := by decide +kernel
theorem dX6_include_3 : decode cX6_include 3 = .ok (.iload_n 2, 1) := by decide +kernel
theorem dX6_include_4 : decode cX6_include 4 = .ok (.if_icmp .ge 81, 3) := by decide +kernel
theorem dX6_include_7 : decode cX6_include 7 = .ok (.aload_n 1, 1) := by decide +kernel
theorem dX6_include_8 : decode cX6_include 8 = .ok (.iload_n 3, 1) := by decide +kernel
theorem dX6_include_9 : decode cX6_include 9 = .ok (.laload, 1) := by decide +kernel
theorem dX6_include_10 : decode cX6_include 10 = .ok (.lconst 0, 1) := by decide +kernel
theorem dX6_include_11 : decode cX6_include 11 = .ok (.lcmp, 1) := by decide +kernel
theorem dX6_include_12 : decode cX6_include 12 = .ok (.ifCond .eq 37, 3) := by decide +kernel
theorem dX6_include_15 : decode cX6_include 15 = .ok (.aload_n 0, 1) := by decide +kernel
theorem dX6_include_16 : decode cX6_include 16 = .ok (.getfield 11, 3) := by decide +kernel
theorem dX6_include_19 : decode cX6_include 19 = .ok (.iload_n 3, 1) := by decide +kernel
theorem dX6_include_20 : decode cX6_include 20 = .ok (.aaload, 1) := by decide +kernel
theorem dX6_include_21 : decode cX6_include 21 = .ok (.iload_n 3, 1) := by decide +kernel
theorem dX6_include_22 : decode cX6_include 22 = .ok (.laload, 1) := by decide +kernel
theorem dX6_include_23 : decode cX6_include 23 = .ok (.lconst 0, 1) := by decide +kernel
theorem dX6_include_24 : decode cX6_include 24 = .ok (.lcmp, 1) := by decide +kernel
theorem dX6_include_25 : decode cX6_include 25 = .ok (.ifCond .ne 24, 3) := by decide +kernel
theorem dX6_include_28 : decode cX6_include 28 = .ok (.aload_n 1, 1) := by decide +kernel
theorem dX6_include_29 : decode cX6_include 29 = .ok (.aload_n 0, 1) := by decide +kernel
theorem dX6_include_30 : decode cX6_include 30 = .ok (.getfield 11, 3) := by decide +kernel
theorem dX6_include_33 : decode cX6_include 33 = .ok (.iload_n 3, 1) := by decide +kernel
theorem dX6_include_34 : decode cX6_include 34 = .ok (.aaload, 1) := by decide +kernel
theorem dX6_include_35 : decode cX6_include 35 = .ok (.invokestatic 20, 3) := by decide +kernel
theorem dX6_include_38 : decode cX6_include 38 = .ok (.aload_n 0, 1) := by decide +kernel
theorem dX6_include_39 : decode cX6_include 39 = .ok (.dup, 1) := by decide +kernel
theorem dX6_include_40 : decode cX6_include 40 = .ok (.getfield 16, 3) := by decide +kernel
theorem dX6_include_43 : decode cX6_include 43 = .ok (.iconst 1, 1) := by decide +kernel
theorem dX6_include_44 : decode cX6_include 44 = .ok (.iadd, 1) := by decide +kernel
theorem dX6_include_45 : decode cX6_include 45 = .ok (.putfield 16, 3) := by decide +kernel
theorem dX6_include_48 : decode cX6_include 48 = .ok (.return_, 1) := by decide +kernel
theorem dX6_include_49 : decode cX6_include 49 = .ok (.aload_n 1, 1) := by decide +kernel
theorem dX6_include_50 : decode cX6_include 50 = .ok (.iload_n 3, 1) := by decide +kernel
theorem dX6_include_51 : decode cX6_include 51 = .ok (.laload, 1) := by decide +kernel
theorem dX6_include_52 : decode cX6_include 52 = .ok (.lconst 0, 1) := by decide +kernel
theorem dX6_include_53 : decode cX6_include 53 = .ok (.lcmp, 1) := by decide +kernel
theorem dX6_include_54 : decode cX6_include 54 = .ok (.ifCond .eq 25, 3) := by decide +kernel
theorem dX6_include_57 : decode cX6_include 57 = .ok (.aload_n 1, 1) := by decide +kernel
theorem dX6_include_58 : decode cX6_include 58 = .ok (.aload_n 1, 1) := by decide +kernel
theorem dX6_include_59 : decode cX6_include 59 = .ok (.iload_n 3, 1) := by decide +kernel
theorem dX6_include_60 : decode cX6_include 60 = .ok (.laload, 1) := by decide +kernel
theorem dX6_include_61 : decode cX6_include 61 = .ok (.aload_n 0, 1) := by decide +kernel
theorem dX6_include_62 : decode cX6_include 62 = .ok (.getfield 11, 3) := by decide +kernel
theorem dX6_include_65 : decode cX6_include 65 = .ok (.iload_n 3, 1) := by decide +kernel
theorem dX6_include_66 : decode cX6_include 66 = .ok (.aaload, 1) := by decide +kernel
theorem dX6_include_67 : decode cX6_include 67 = .ok (.aload_n 0, 1) := by decide +kernel
theorem dX6_include_68 : decode cX6_include 68 = .ok (.getfield 11, 3) := by decide +kernel
theorem dX6_include_71 : decode cX6_include 71 = .ok (.iload_n 3, 1) := by decide +kernel
theorem dX6_include_72 : decode cX6_include 72 = .ok (.aaload, 1) := by decide +kernel
theorem dX6_include_73 : decode cX6_include 73 = .ok (.iload_n 3, 1) := by decide +kernel
theorem dX6_include_74 : decode cX6_include 74 = .ok (.laload, 1) := by decide +kernel
theorem dX6_include_75 : decode cX6_include 75 = .ok (.iload_n 2, 1) := by decide +kernel
theorem dX6_include_76 : decode cX6_include 76 = .ok (.invokestatic 24, 3) := by decide +kernel
theorem dX6_include_79 : decode cX6_include 79 = .ok (.iinc 3 1, 3) := by decide +kernel
theorem dX6_include_82 : decode cX6_include 82 = .ok (.goto (-80), 3) := by decide +kernel
theorem dX6_include_85 : decode cX6_include 85 = .ok (.return_, 1) := by decide +kernel
theorem dX7_init_0 : decode cX7_init 0 = .ok (.aload_n 0, 1) := by decide +kernel
theorem dX7_init_1 : decode cX7_init 1 = .ok (.invokespecial 3, 3) := by decide +kernel
theorem dX7_init_4 : decode cX7_init 4 = .ok (.aload_n 0, 1) := by decide +kernel
theorem dX7_init_5 : decode cX7_init 5 = .ok (.sipush 200, 3) := by decide +kernel
theorem dX7_init_8 : decode cX7_init 8 = .ok (.newarray .char, 2) := by decide +kernel
theorem dX7_init_10 : decode cX7_init 10 = .ok (.putfield 9, 3) := by decide +kernel
theorem dX7_init_13 : decode cX7_init 13 = .ok (.aload_n 0, 1) := by decide +kernel
theorem dX7_init_14 : decode cX7_init 14 = .ok (.new 15, 3) := by decide +kernel
theorem dX7_init_17 : decode cX7_init 17 = .ok (.dup, 1) := by decide +kernel
theorem dX7_init_18 : decode cX7_init 18 = .ok (.invokespecial 17, 3) := by decide +kernel
theorem dX7_init_21 : decode cX7_init 21 = .ok (.putfield 18, 3) := by decide +kernel
theorem dX7_init_24 : decode cX7_init 24 = .ok (.aload_n 0, 1) := by decide +kernel
theorem dX7_init_25 : decode cX7_init 25 = .ok (.new 22, 3) := by decide +kernel
theorem dX7_init_28 : decode cX7_init 28 = .ok (.dup, 1) := by decide +kernel
theorem dX7_init_29 : decode cX7_init 29 = .ok (.invokespecial 24, 3) := by decide +kernel
theorem dX7_init_32 : decode cX7_init 32 = .ok (.putfield 25, 3) := by decide +kernel
theorem dX7_init_35 : decode cX7_init 35 = .ok (.return_, 1) := by decide +kernel
theorem dX7_put_0 : decode cX7_put 0 = .ok (.aload_n 0, 1) := by decide +kernel
theorem dX7_put_1 : decode cX7_put 1 = .ok (.getfield 29, 3) := by decide +kernel
theorem dX7_put_4 : decode cX7_put 4 = .ok (.sipush 200, 3) := by decide +kernel
theorem dX7_put_7 : decode cX7_put 7 = .ok (.if_icmp .ge 23, 3) := by decide +kernel
theorem dX7_put_10 : decode cX7_put 10 = .ok (.aload_n 0, 1) := by decide +kernel
theorem dX7_put_11 : decode cX7_put 11 = .ok (.getfield 9, 3) := by decide +kernel
theorem dX7_put_14 : decode cX7_put 14 = .ok (.aload_n 0, 1) := by decide +kernel
theorem dX7_put_15 : decode cX7_put 15 = .ok (.getfield 29, 3) := by decide +kernel
theorem dX7_put_18 : decode cX7_put 18 = .ok (.iload_n 1, 1) := by decide +kernel
theorem dX7_put_19 : decode cX7_put 19 = .ok (.castore, 1) := by decide +kernel
theorem dX7_put_20 : decode cX7_put 20 = .ok (.aload_n 0, 1) := by decide +kernel
theorem dX7_put_21 : decode cX7_put 21 = .ok (.dup, 1) := by decide +kernel
theorem dX7_put_22 : decode cX7_put 22 = .ok (.getfield 29, 3) := by decide +kernel
theorem dX7_put_25 : decode cX7_put 25 = .ok (.iconst 1, 1) := by decide +kernel
theorem dX7_put_26 : decode cX7_put 26 = .ok (.iadd, 1) := by decide +kernel
theorem dX7_put_27 : decode cX7_put 27 = .ok (.putfield 29, 3) := by decide +kernel
theorem dX7_put_30 : decode cX7_put 30 = .ok (.return_, 1) := by decide +kernel
theorem dX7_firstError_0 : decode cX7_firstError 0 = .ok (.aload_n 0, 1) := by decide +kernel
theorem dX7_firstError_1 : decode cX7_firstError 1 = .ok (.iconst 0, 1) := by decide +kernel
theorem dX7_firstError_2 : decode cX7_firstError 2 = .ok (.putfield 33, 3) := by decide +kernel
theorem dX7_firstError_5 : decode cX7_firstError 5 = .ok (.aload_n 0, 1) := by decide +kernel
theorem dX7_firstError_6 : decode cX7_firstError 6 = .ok (.iconst 0, 1) := by decide +kernel
theorem dX7_firstError_7 : decode cX7_firstError 7 = .ok (.putfield 36, 3) := by decide +kernel
theorem dX7_firstError_10 : decode cX7_firstError 10 = .ok (.aload_n 0, 1) := by decide +kernel
theorem dX7_firstError_11 : decode cX7_firstError 11 = .ok (.invokevirtual 40, 3) := by decide +kernel
theorem dX7_firstError_14 : decode cX7_firstError 14 = .ok (.iconst 0, 1) := by decide +kernel
theorem dX7_firstError_15 : decode cX7_firstError 15 = .ok (.istore_n 1, 1) := by decide +kernel
theorem dX7_firstError_16 : decode cX7_firstError 16 = .ok (.iload_n 1, 1) := by decide +kernel
theorem dX7_firstError_17 : decode cX7_firstError 17 = .ok (.aload_n 0, 1) := by decide +kernel
theorem dX7_firstError_18 : decode cX7_firstError 18 = .ok (.getfield 18, 3) := by decide +kernel
theorem dX7_firstError_21 : decode cX7_firstError 21 = .ok (.getfield 43, 3) := by decide +kernel
theorem dX7_firstError_24 : decode cX7_firstError 24 = .ok (.if_icmp .ge 21, 3) := by decide +kernel
theorem dX7_firstError_27 : decode cX7_firstError 27 = .ok (.aload_n 0, 1) := by decide +kernel
theorem dX7_firstError_28 : decode cX7_firstError 28 = .ok (.getfield 36, 3) := by decide +kernel
theorem dX7_firstError_31 : decode cX7_firstError 31 = .ok (.ifCond .ne 14, 3) := by decide +kernel
theorem dX7_firstError_34 : decode cX7_firstError 34 = .ok (.aload_n 0, 1) := by decide +kernel
theorem dX7_firstError_35 : decode cX7_firstError 35 = .ok (.iload_n 1, 1) := by decide +kernel
theorem dX7_firstError_36 : decode cX7_firstError 36 = .ok (.invokevirtual 46, 3) := by decide +kernel
theorem dX7_firstError_39 : decode cX7_firstError 39 = .ok (.iinc 1 1, 3) := by decide +kernel
theorem dX7_firstError_42 : decode cX7_firstError 42 = .ok (.goto (-26), 3) := by decide +kernel
theorem dX7_firstError_45 : decode cX7_firstError 45 = .ok (.iconst 0, 1) := by decide +kernel
theorem dX7_firstError_46 : decode cX7_firstError 46 = .ok (.istore_n 1, 1) := by decide +kernel
theorem dX7_firstError_47 : decode cX7_firstError 47 = .ok (.iload_n 1, 1) := by decide +kernel
theorem dX7_firstError_48 : decode cX7_firstError 48 = .ok (.aload_n 0, 1) := by decide +kernel
theorem dX7_firstError_49 : decode cX7_firstError 49 = .ok (.getfield 18, 3) := by decide +kernel
theorem dX7_firstError_52 : decode cX7_firstError 52 = .ok (.getfield 50, 3) := by decide +kernel
theorem dX7_firstError_55 : decode cX7_firstError 55 = .ok (.if_icmp .ge 21, 3) := by decide +kernel
theorem dX7_firstError_58 : decode cX7_firstError 58 = .ok (.aload_n 0, 1) := by decide +kernel
theorem dX7_firstError_59 : decode cX7_firstError 59 = .ok (.getfield 36, 3) := by decide +kernel
theorem dX7_firstError_62 : decode cX7_firstError 62 = .ok (.ifCond .ne 14, 3) := by decide +kernel
theorem dX7_firstError_65 : decode cX7_firstError 65 = .ok (.aload_n 0, 1) := by decide +kernel
theorem dX7_firstError_66 : decode cX7_firstError 66 = .ok (.iload_n 1, 1) := by decide +kernel
theorem dX7_firstError_67 : decode cX7_firstError 67 = .ok (.invokevirtual 53, 3) := by decide +kernel
theorem dX7_firstError_70 : decode cX7_firstError 70 = .ok (.iinc 1 1, 3) := by decide +kernel
theorem dX7_firstError_73 : decode cX7_firstError 73 = .ok (.goto (-26), 3) := by decide +kernel
theorem dX7_firstError_76 : decode cX7_firstError 76 = .ok (.aload_n 0, 1) := by decide +kernel
theorem dX7_firstError_77 : decode cX7_firstError 77 = .ok (.getfield 25, 3) := by decide +kernel
theorem dX7_firstError_80 : decode cX7_firstError 80 = .ok (.invokevirtual 56, 3) := by decide +kernel
theorem dX7_firstError_83 : decode cX7_firstError 83 = .ok (.iconst 0, 1) := by decide +kernel
theorem dX7_firstError_84 : decode cX7_firstError 84 = .ok (.istore_n 1, 1) := by decide +kernel
theorem dX7_firstError_85 : decode cX7_firstError 85 = .ok (.iload_n 1, 1) := by decide +kernel
theorem dX7_firstError_86 : decode cX7_firstError 86 = .ok (.sipush 200, 3) := by decide +kernel
theorem dX7_firstError_89 : decode cX7_firstError 89 = .ok (.if_icmp .ge 31, 3) := by decide +kernel
theorem dX7_firstError_92 : decode cX7_firstError 92 = .ok (.aload_n 0, 1) := by decide +kernel
theorem dX7_firstError_93 : decode cX7_firstError 93 = .ok (.getfield 36, 3) := by decide +kernel
theorem dX7_firstError_96 : decode cX7_firstError 96 = .ok (.ifCond .ne 24, 3) := by decide +kernel
theorem dX7_firstError_99 : decode cX7_firstError 99 = .ok (.aload_n 0, 1) := by decide +kernel
theorem dX7_firstError_100 : decode cX7_firstError 100 = .ok (.getfield 33, 3) := by decide +kernel
theorem dX7_firstError_103 : decode cX7_firstError 103 = .ok (.aload_n 0, 1) := by decide +kernel
theorem dX7_firstError_104 : decode cX7_firstError 104 = .ok (.getfield 29, 3) := by decide +kernel
theorem dX7_firstError_107 : decode cX7_firstError 107 = .ok (.if_icmp .ge 13, 3) := by decide +kernel
theorem dX7_firstError_110 : decode cX7_firstError 110 = .ok (.aload_n 0, 1) := by decide +kernel
theorem dX7_firstError_111 : decode cX7_firstError 111 = .ok (.invokevirtual 59, 3) := by decide +kernel
theorem dX7_firstError_114 : decode cX7_firstError 114 = .ok (.iinc 1 1, 3) := by decide +kernel
theorem dX7_firstError_117 : decode cX7_firstError 117 = .ok (.goto (-32), 3) := by decide +kernel
theorem dX7_firstError_120 : decode cX7_firstError 120 = .ok (.aload_n 0, 1) := by decide +kernel
theorem dX7_firstError_121 : decode cX7_firstError 121 = .ok (.getfield 36, 3) := by decide +kernel
theorem dX7_firstError_124 : decode cX7_firstError 124 = .ok (.ifCond .eq 10, 3) := by decide +kernel
theorem dX7_firstError_127 : decode cX7_firstError 127 = .ok (.aload_n 0, 1) := by decide +kernel
theorem dX7_firstError_128 : decode cX7_firstError 128 = .ok (.getfield 33, 3) := by decide +kernel
theorem dX7_firstError_131 : decode cX7_firstError 131 = .ok (.goto 5, 3) := by decide +kernel
theorem dX7_firstError_134 : decode cX7_firstError 134 = .ok (.bipush (-9), 2) := by decide +kernel
theorem dX7_firstError_136 : decode cX7_firstError 136 = .ok (.ireturn, 1) := by decide +kernel
theorem dX7_takeHead_0 : decode cX7_takeHead 0 = .ok (.aload_n 0, 1) := by decide +kernel
theorem dX7_takeHead_1 : decode cX7_takeHead 1 = .ok (.bipush 78, 2) := by decide +kernel
theorem dX7_takeHead_3 : decode cX7_takeHead 3 = .ok (.bipush 78, 2) := by decide +kernel
theorem dX7_takeHead_5 : decode cX7_takeHead 5 = .ok (.invokevirtual 62, 3) := by decide +kernel
theorem dX7_takeHead_8 : decode cX7_takeHead 8 = .ok (.pop, 1) := by decide +kernel
theorem dX7_takeHead_9 : decode cX7_takeHead 9 = .ok (.aload_n 0, 1) := by decide +kernel
theorem dX7_takeHead_10 : decode cX7_takeHead 10 = .ok (.getfield 18, 3) := by decide +kernel
theorem dX7_takeHead_13 : decode cX7_takeHead 13 = .ok (.aload_n 0, 1) := by decide +kernel
theorem dX7_takeHead_14 : decode cX7_takeHead 14 = .ok (.iconst 1, 1) := by decide +kernel
theorem dX7_takeHead_15 : decode cX7_takeHead 15 = .ok (.iconst 4, 1) := by decide +kernel
theorem dX7_takeHead_16 : decode cX7_takeHead 16 = .ok (.invokevirtual 66, 3) := by decide +kernel
theorem dX7_takeHead_19 : decode cX7_takeHead 19 = .ok (.putfield 43, 3) := by decide +kernel
theorem dX7_takeHead_22 : decode cX7_takeHead 22 = .ok (.aload_n 0, 1) := by decide +kernel
theorem dX7_takeHead_23 : decode cX7_takeHead 23 = .ok (.getfield 18, 3) := by decide +kernel
theorem dX7_takeHead_26 : decode cX7_takeHead 26 = .ok (.aload_n 0, 1) := by decide +kernel
theorem dX7_takeHead_27 : decode cX7_takeHead 27 = .ok (.iconst 1, 1) := by decide +kernel
theorem dX7_takeHead_28 : decode cX7_takeHead 28 = .ok (.iconst 3, 1) := by decide +kernel
theorem dX7_takeHead_29 : decode cX7_takeHead 29 = .ok (.invokevirtual 66, 3) := by decide +kernel
theorem dX7_takeHead_32 : decode cX7_takeHead 32 = .ok (.putfield 50, 3) := by decide +kernel
theorem dX7_takeHead_35 : decode cX7_takeHead 35 = .ok (.aload_n 0, 1) := by decide +kernel
theorem dX7_takeHead_36 : decode cX7_takeHead 36 = .ok (.getfield 25, 3) := by decide +kernel
theorem dX7_takeHead_39 : decode cX7_takeHead 39 = .ok (.aload_n 0, 1) := by decide +kernel
theorem dX7_takeHead_40 : decode cX7_takeHead 40 = .ok (.iconst 0, 1) := by decide +kernel
theorem dX7_takeHead_41 : decode cX7_takeHead 41 = .ok (.invokevirtual 70, 3) := by decide +kernel
theorem dX7_takeHead_44 : decode cX7_takeHead 44 = .ok (.putfield 74, 3) := by decide +kernel
theorem dX7_takeHead_47 : decode cX7_takeHead 47 = .ok (.aload_n 0, 1) := by decide +kernel
theorem dX7_takeHead_48 : decode cX7_takeHead 48 = .ok (.getfield 25, 3) := by decide +kernel
theorem dX7_takeHead_51 : decode cX7_takeHead 51 = .ok (.aload_n 0, 1) := by decide +kernel
theorem dX7_takeHead_52 : decode cX7_takeHead 52 = .ok (.iconst 0, 1) := by decide +kernel
theorem dX7_takeHead_53 : decode cX7_takeHead 53 = .ok (.bipush 9, 2) := by decide +kernel
theorem dX7_takeHead_55 : decode cX7_takeHead 55 = .ok (.invokevirtual 66, 3) := by decide +kernel
theorem dX7_takeHead_58 : decode cX7_takeHead 58 = .ok (.putfield 77, 3) := by decide +kernel
theorem dX7_takeHead_61 : decode cX7_takeHead 61 = .ok (.return_, 1) := by decide +kernel
theorem dX7_takeState_0 : decode cX7_takeState 0 = .ok (.aload_n 0, 1) := by decide +kernel
theorem dX7_takeState_1 : decode cX7_takeState 1 = .ok (.bipush 114, 2) := by decide +kernel
theorem dX7_takeState_3 : decode cX7_takeState 3 = .ok (.bipush 114, 2) := by decide +kernel
theorem dX7_takeState_5 : decode cX7_takeState 5 = .ok (.invokevirtual 62, 3) := by decide +kernel
theorem dX7_takeState_8 : decode cX7_takeState 8 = .ok (.pop, 1) := by decide +kernel
theorem dX7_takeState_9 : decode cX7_takeState 9 = .ok (.iconst 0, 1) := by decide +kernel
theorem dX7_takeState_10 : decode cX7_takeState 10 = .ok (.istore_n 2, 1) := by decide +kernel
theorem dX7_takeState_11 : decode cX7_takeState 11 = .ok (.iload_n 2, 1) := by decide +kernel
theorem dX7_takeState_12 : decode cX7_takeState 12 = .ok (.aload_n 0, 1) := by decide +kernel
theorem dX7_takeState_13 : decode cX7_takeState 13 = .ok (.getfield 18, 3) := by decide +kernel
theorem dX7_takeState_16 : decode cX7_takeState 16 = .ok (.getfield 43, 3) := by decide +kernel
theorem dX7_takeState_19 : decode cX7_takeState 19 = .ok (.if_icmp .ge 24, 3) := by decide +kernel
theorem dX7_takeState_22 : decode cX7_takeState 22 = .ok (.aload_n 0, 1) := by decide +kernel
theorem dX7_takeState_23 : decode cX7_takeState 23 = .ok (.getfield 18, 3) := by decide +kernel
theorem dX7_takeState_26 : decode cX7_takeState 26 = .ok (.getfield 80, 3) := by decide +kernel
theorem dX7_takeState_29 : decode cX7_takeState 29 = .ok (.iload_n 1, 1) := by decide +kernel
theorem dX7_takeState_30 : decode cX7_takeState 30 = .ok (.aaload, 1) := by decide +kernel
theorem dX7_takeState_31 : decode cX7_takeState 31 = .ok (.iload_n 2, 1) := by decide +kernel
theorem dX7_takeState_32 : decode cX7_takeState 32 = .ok (.aload_n 0, 1) := by decide +kernel
theorem dX7_takeState_33 : decode cX7_takeState 33 = .ok (.invokevirtual 84, 3) := by decide +kernel
theorem dX7_takeState_36 : decode cX7_takeState 36 = .ok (.iastore, 1) := by decide +kernel
theorem dX7_takeState_37 : decode cX7_takeState 37 = .ok (.iinc 2 1, 3) := by decide +kernel
theorem dX7_takeState_40 : decode cX7_takeState 40 = .ok (.goto (-29), 3) := by decide +kernel
theorem dX7_takeState_43 : decode cX7_takeState 43 = .ok (.aload_n 0, 1) := by decide +kernel
theorem dX7_takeState_44 : decode cX7_takeState 44 = .ok (.getfield 18, 3) := by decide +kernel
theorem dX7_takeState_47 : decode cX7_takeState 47 = .ok (.getfield 88, 3) := by decide +kernel
theorem dX7_takeState_50 : decode cX7_takeState 50 = .ok (.iload_n 1, 1) := by decide +kernel
theorem dX7_takeState_51 : decode cX7_takeState 51 = .ok (.aload_n 0, 1) := by decide +kernel
theorem dX7_takeState_52 : decode cX7_takeState 52 = .ok (.invokevirtual 84, 3) := by decide +kernel
theorem dX7_takeState_55 : decode cX7_takeState 55 = .ok (.iastore, 1) := by decide +kernel
theorem dX7_takeState_56 : decode cX7_takeState 56 = .ok (.aload_n 0, 1) := by decide +kernel
theorem dX7_takeState_57 : decode cX7_takeState 57 = .ok (.getfield 18, 3) := by decide +kernel
theorem dX7_takeState_60 : decode cX7_takeState 60 = .ok (.getfield 92, 3) := by decide +kernel
theorem dX7_takeState_63 : decode cX7_takeState 63 = .ok (.iload_n 1, 1) := by decide +kernel
theorem dX7_takeState_64 : decode cX7_takeState 64 = .ok (.aload_n 0, 1) := by decide +kernel
theorem dX7_takeState_65 : decode cX7_takeState 65 = .ok (.invokevirtual 84, 3) := by decide +kernel
theorem dX7_takeState_68 : decode cX7_takeState 68 = .ok (.iastore, 1) := by decide +kernel
theorem dX7_takeState_69 : decode cX7_takeState 69 = .ok (.return_, 1) := by decide +kernel
theorem dX7_takeOutput_0 : decode cX7_takeOutput 0 = .ok (.aload_n 0, 1) := by decide +kernel
theorem dX7_takeOutput_1 : decode cX7_takeOutput 1 = .ok (.bipush 111, 2) := by decide +kernel
theorem dX7_takeOutput_3 : decode cX7_takeOutput 3 = .ok (.bipush 111, 2) := by decide +kernel
theorem dX7_takeOutput_5 : decode cX7_takeOutput 5 = .ok (.invokevirtual 62, 3) := by decide +kernel
theorem dX7_takeOutput_8 : decode cX7_takeOutput 8 = .ok (.pop, 1) := by decide +kernel
theorem dX7_takeOutput_9 : decode cX7_takeOutput 9 = .ok (.iconst 0, 1) := by decide +kernel
theorem dX7_takeOutput_10 : decode cX7_takeOutput 10 = .ok (.istore_n 2, 1) := by decide +kernel
theorem dX7_takeOutput_11 : decode cX7_takeOutput 11 = .ok (.iload_n 2, 1) := by decide +kernel
theorem dX7_takeOutput_12 : decode cX7_takeOutput 12 = .ok (.aload_n 0, 1) := by decide +kernel
theorem dX7_takeOutput_13 : decode cX7_takeOutput 13 = .ok (.getfield 18, 3) := by decide +kernel
theorem dX7_takeOutput_16 : decode cX7_takeOutput 16 = .ok (.getfield 43, 3) := by decide +kernel
theorem dX7_takeOutput_19 : decode cX7_takeOutput 19 = .ok (.if_icmp .ge 24, 3) := by decide +kernel
theorem dX7_takeOutput_22 : decode cX7_takeOutput 22 = .ok (.aload_n 0, 1) := by decide +kernel
theorem dX7_takeOutput_23 : decode cX7_takeOutput 23 = .ok (.getfield 18, 3) := by decide +kernel
theorem dX7_takeOutput_26 : decode cX7_takeOutput 26 = .ok (.getfield 95, 3) := by decide +kernel
theorem dX7_takeOutput_29 : decode cX7_takeOutput 29 = .ok (.iload_n 1, 1) := by decide +kernel
theorem dX7_takeOutput_30 : decode cX7_takeOutput 30 = .ok (.aaload, 1) := by decide +kernel
theorem dX7_takeOutput_31 : decode cX7_takeOutput 31 = .ok (.iload_n 2, 1) := by decide +kernel
theorem dX7_takeOutput_32 : decode cX7_takeOutput 32 = .ok (.aload_n 0, 1) := by decide +kernel
theorem dX7_takeOutput_33 : decode cX7_takeOutput 33 = .ok (.invokevirtual 84, 3) := by decide +kernel
theorem dX7_takeOutput_36 : decode cX7_takeOutput 36 = .ok (.iastore, 1) := by decide +kernel
theorem dX7_takeOutput_37 : decode cX7_takeOutput 37 = .ok (.iinc 2 1, 3) := by decide +kernel
theorem dX7_takeOutput_40 : decode cX7_takeOutput 40 = .ok (.goto (-29), 3) := by decide +kernel
theorem dX7_takeOutput_43 : decode cX7_takeOutput 43 = .ok (.aload_n 0, 1) := by decide +kernel
theorem dX7_takeOutput_44 : decode cX7_takeOutput 44 = .ok (.getfield 18, 3) := by decide +kernel
theorem dX7_takeOutput_47 : decode cX7_takeOutput 47 = .ok (.getfield 98, 3) := by decide +kernel
theorem dX7_takeOutput_50 : decode cX7_takeOutput 50 = .ok (.iload_n 1, 1) := by decide +kernel
theorem dX7_takeOutput_51 : decode cX7_takeOutput 51 = .ok (.aload_n 0, 1) := by decide +kernel
theorem dX7_takeOutput_52 : decode cX7_takeOutput 52 = .ok (.iconst 1, 1) := by decide +kernel
theorem dX7_takeOutput_53 : decode cX7_takeOutput 53 = .ok (.invokevirtual 70, 3) := by decide +kernel
theorem dX7_takeOutput_56 : decode cX7_takeOutput 56 = .ok (.iastore, 1) := by decide +kernel
theorem dX7_takeOutput_57 : decode cX7_takeOutput 57 = .ok (.return_, 1) := by decide +kernel
theorem dX7_takeGain_0 : decode cX7_takeGain 0 = .ok (.aload_n 0, 1) := by decide +kernel
theorem dX7_takeGain_1 : decode cX7_takeGain 1 = .ok (.bipush 103, 2) := by decide +kernel
theorem dX7_takeGain_3 : decode cX7_takeGain 3 = .ok (.bipush 103, 2) := by decide +kernel
theorem dX7_takeGain_5 : decode cX7_takeGain 5 = .ok (.invokevirtual 62, 3) := by decide +kernel
theorem dX7_takeGain_8 : decode cX7_takeGain 8 = .ok (.pop, 1) := by decide +kernel
theorem dX7_takeGain_9 : decode cX7_takeGain 9 = .ok (.aload_n 0, 1) := by decide +kernel
theorem dX7_takeGain_10 : decode cX7_takeGain 10 = .ok (.iconst 0, 1) := by decide +kernel
theorem dX7_takeGain_11 : decode cX7_takeGain 11 = .ok (.aload_n 0, 1) := by decide +kernel
theorem dX7_takeGain_12 : decode cX7_takeGain 12 = .ok (.getfield 18, 3) := by decide +kernel
theorem dX7_takeGain_15 : decode cX7_takeGain 15 = .ok (.getfield 43, 3) := by decide +kernel
theorem dX7_takeGain_18 : decode cX7_takeGain 18 = .ok (.iconst 1, 1) := by decide +kernel
theorem dX7_takeGain_19 : decode cX7_takeGain 19 = .ok (.isub, 1) := by decide +kernel
theorem dX7_takeGain_20 : decode cX7_takeGain 20 = .ok (.invokevirtual 66, 3) := by decide +kernel
theorem dX7_takeGain_23 : decode cX7_takeGain 23 = .ok (.istore_n 1, 1) := by decide +kernel
theorem dX7_takeGain_24 : decode cX7_takeGain 24 = .ok (.aload_n 0, 1) := by decide +kernel
theorem dX7_takeGain_25 : decode cX7_takeGain 25 = .ok (.iconst 0, 1) := by decide +kernel
theorem dX7_takeGain_26 : decode cX7_takeGain 26 = .ok (.aload_n 0, 1) := by decide +kernel
theorem dX7_takeGain_27 : decode cX7_takeGain 27 = .ok (.getfield 18, 3) := by decide +kernel
theorem dX7_takeGain_30 : decode cX7_takeGain 30 = .ok (.getfield 50, 3) := by decide +kernel
theorem dX7_takeGain_33 : decode cX7_takeGain 33 = .ok (.iconst 1, 1) := by decide +kernel
theorem dX7_takeGain_34 : decode cX7_takeGain 34 = .ok (.isub, 1) := by decide +kernel
theorem dX7_takeGain_35 : decode cX7_takeGain 35 = .ok (.invokevirtual 66, 3) := by decide +kernel
theorem dX7_takeGain_38 : decode cX7_takeGain 38 = .ok (.istore_n 2, 1) := by decide +kernel
theorem dX7_takeGain_39 : decode cX7_takeGain 39 = .ok (.aload_n 0, 1) := by decide +kernel
theorem dX7_takeGain_40 : decode cX7_takeGain 40 = .ok (.getfield 25, 3) := by decide +kernel
theorem dX7_takeGain_43 : decode cX7_takeGain 43 = .ok (.getfield 101, 3) := by decide +kernel
theorem dX7_takeGain_46 : decode cX7_takeGain 46 = .ok (.iload_n 1, 1) := by decide +kernel
theorem dX7_takeGain_47 : decode cX7_takeGain 47 = .ok (.aaload, 1) := by decide +kernel
theorem dX7_takeGain_48 : decode cX7_takeGain 48 = .ok (.iload_n 2, 1) := by decide +kernel
theorem dX7_takeGain_49 : decode cX7_takeGain 49 = .ok (.aload_n 0, 1) := by decide +kernel
theorem dX7_takeGain_50 : decode cX7_takeGain 50 = .ok (.invokevirtual 84, 3) := by decide +kernel
theorem dX7_takeGain_53 : decode cX7_takeGain 53 = .ok (.iastore, 1) := by decide +kernel
theorem dX7_takeGain_54 : decode cX7_takeGain 54 = .ok (.return_, 1) := by decide +kernel
theorem dX7_takeNumber_0 : decode cX7_takeNumber 0 = .ok (.aload_n 0, 1) := by decide +kernel
theorem dX7_takeNumber_1 : decode cX7_takeNumber 1 = .ok (.getfield 33, 3) := by decide +kernel
theorem dX7_takeNumber_4 : decode cX7_takeNumber 4 = .ok (.aload_n 0, 1) := by decide +kernel
theorem dX7_takeNumber_5 : decode cX7_takeNumber 5 = .ok (.getfield 29, 3) := by decide +kernel
theorem dX7_takeNumber_8 : decode cX7_takeNumber 8 = .ok (.if_icmp .ge 21, 3) := by decide +kernel
theorem dX7_takeNumber_11 : decode cX7_takeNumber 11 = .ok (.aload_n 0, 1) := by decide +kernel
theorem dX7_takeNumber_12 : decode cX7_takeNumber 12 = .ok (.getfield 9, 3) := by decide +kernel
theorem dX7_takeNumber_15 : decode cX7_takeNumber 15 = .ok (.aload_n 0, 1) := by decide +kernel
theorem dX7_takeNumber_16 : decode cX7_takeNumber 16 = .ok (.getfield 33, 3) := by decide +kernel
theorem dX7_takeNumber_19 : decode cX7_takeNumber 19 = .ok (.caload, 1) := by decide +kernel
theorem dX7_takeNumber_20 : decode cX7_takeNumber 20 = .ok (.bipush 45, 2) := by decide +kernel
theorem dX7_takeNumber_22 : decode cX7_takeNumber 22 = .ok (.if_icmp .ne 7, 3) := by decide +kernel
theorem dX7_takeNumber_25 : decode cX7_takeNumber 25 = .ok (.iconst 1, 1) := by decide +kernel
theorem dX7_takeNumber_26 : decode cX7_takeNumber 26 = .ok (.goto 4, 3) := by decide +kernel
theorem dX7_takeNumber_29 : decode cX7_takeNumber 29 = .ok (.iconst 0, 1) := by decide +kernel
theorem dX7_takeNumber_30 : decode cX7_takeNumber 30 = .ok (.istore_n 1, 1) := by decide +kernel
theorem dX7_takeNumber_31 : decode cX7_takeNumber 31 = .ok (.aload_n 0, 1) := by decide +kernel
theorem dX7_takeNumber_32 : decode cX7_takeNumber 32 = .ok (.iload_n 1, 1) := by decide +kernel
theorem dX7_takeNumber_33 : decode cX7_takeNumber 33 = .ok (.ifCond .eq 8, 3) := by decide +kernel
theorem dX7_takeNumber_36 : decode cX7_takeNumber 36 = .ok (.bipush 45, 2) := by decide +kernel
theorem dX7_takeNumber_38 : decode cX7_takeNumber 38 = .ok (.goto 5, 3) := by decide +kernel
theorem dX7_takeNumber_41 : decode cX7_takeNumber 41 = .ok (.bipush 43, 2) := by decide +kernel
theorem dX7_takeNumber_43 : decode cX7_takeNumber 43 = .ok (.iload_n 1, 1) := by decide +kernel
theorem dX7_takeNumber_44 : decode cX7_takeNumber 44 = .ok (.ifCond .eq 8, 3) := by decide +kernel
theorem dX7_takeNumber_47 : decode cX7_takeNumber 47 = .ok (.bipush 45, 2) := by decide +kernel
theorem dX7_takeNumber_49 : decode cX7_takeNumber 49 = .ok (.goto 5, 3) := by decide +kernel
theorem dX7_takeNumber_52 : decode cX7_takeNumber 52 = .ok (.bipush 43, 2) := by decide +kernel
theorem dX7_takeNumber_54 : decode cX7_takeNumber 54 = .ok (.invokevirtual 62, 3) := by decide +kernel
theorem dX7_takeNumber_57 : decode cX7_takeNumber 57 = .ok (.pop, 1) := by decide +kernel
theorem dX7_takeNumber_58 : decode cX7_takeNumber 58 = .ok (.aload_n 0, 1) := by decide +kernel
theorem dX7_takeNumber_59 : decode cX7_takeNumber 59 = .ok (.iconst 0, 1) := by decide +kernel
theorem dX7_takeNumber_60 : decode cX7_takeNumber 60 = .ok (.invokevirtual 70, 3) := by decide +kernel
theorem dX7_takeNumber_63 : decode cX7_takeNumber 63 = .ok (.istore_n 2, 1) := by decide +kernel
theorem dX7_takeNumber_64 : decode cX7_takeNumber 64 = .ok (.iload_n 1, 1) := by decide +kernel
theorem dX7_takeNumber_65 : decode cX7_takeNumber 65 = .ok (.ifCond .eq 8, 3) := by decide +kernel
theorem dX7_takeNumber_68 : decode cX7_takeNumber 68 = .ok (.iload_n 2, 1) := by decide +kernel
theorem dX7_takeNumber_69 : decode cX7_takeNumber 69 = .ok (.ineg, 1) := by decide +kernel
theorem dX7_takeNumber_70 : decode cX7_takeNumber 70 = .ok (.goto 4, 3) := by decide +kernel
theorem dX7_takeNumber_73 : decode cX7_takeNumber 73 = .ok (.iload_n 2, 1) := by decide +kernel
theorem dX7_takeNumber_74 : decode cX7_takeNumber 74 = .ok (.ireturn, 1) := by decide +kernel
theorem dX7_takeTwoDigits_0 : decode cX7_takeTwoDigits 0 = .ok (.aload_n 0, 1) := by decide +kernel
theorem dX7_takeTwoDigits_1 : decode cX7_takeTwoDigits 1 = .ok (.iconst 0, 1) := by decide +kernel
theorem dX7_takeTwoDigits_2 : decode cX7_takeTwoDigits 2 = .ok (.bipush 9, 2) := by decide +kernel
theorem dX7_takeTwoDigits_4 : decode cX7_takeTwoDigits 4 = .ok (.invokevirtual 66, 3) := by decide +kernel
theorem dX7_takeTwoDigits_7 : decode cX7_takeTwoDigits 7 = .ok (.istore_n 2, 1) := by decide +kernel
theorem dX7_takeTwoDigits_8 : decode cX7_takeTwoDigits 8 = .ok (.aload_n 0, 1) := by decide +kernel
theorem dX7_takeTwoDigits_9 : decode cX7_takeTwoDigits 9 = .ok (.iload_n 2, 1) := by decide +kernel
theorem dX7_takeTwoDigits_10 : decode cX7_takeTwoDigits 10 = .ok (.ifCond .ne 7, 3) := by decide +kernel
theorem dX7_takeTwoDigits_13 : decode cX7_takeTwoDigits 13 = .ok (.iload_n 1, 1) := by decide +kernel
theorem dX7_takeTwoDigits_14 : decode cX7_takeTwoDigits 14 = .ok (.goto 4, 3) := by decide +kernel
theorem dX7_takeTwoDigits_17 : decode cX7_takeTwoDigits 17 = .ok (.iconst 0, 1) := by decide +kernel
theorem dX7_takeTwoDigits_18 : decode cX7_takeTwoDigits 18 = .ok (.bipush 9, 2) := by decide +kernel
theorem dX7_takeTwoDigits_20 : decode cX7_takeTwoDigits 20 = .ok (.invokevirtual 66, 3) := by decide +kernel
theorem dX7_takeTwoDigits_23 : decode cX7_takeTwoDigits 23 = .ok (.istore_n 3, 1) := by decide +kernel
theorem dX7_takeTwoDigits_24 : decode cX7_takeTwoDigits 24 = .ok (.bipush 10, 2) := by decide +kernel
theorem dX7_takeTwoDigits_26 : decode cX7_takeTwoDigits 26 = .ok (.iload_n 2, 1) := by decide +kernel
theorem dX7_takeTwoDigits_27 : decode cX7_takeTwoDigits 27 = .ok (.imul, 1) := by decide +kernel
theorem dX7_takeTwoDigits_28 : decode cX7_takeTwoDigits 28 = .ok (.iload_n 3, 1) := by decide +kernel
theorem dX7_takeTwoDigits_29 : decode cX7_takeTwoDigits 29 = .ok (.iadd, 1) := by decide +kernel
theorem dX7_takeTwoDigits_30 : decode cX7_takeTwoDigits 30 = .ok (.ireturn, 1) := by decide +kernel
theorem dX7_takeDigit_0 : decode cX7_takeDigit 0 = .ok (.aload_n 0, 1) := by decide +kernel
theorem dX7_takeDigit_1 : decode cX7_takeDigit 1 = .ok (.bipush 48, 2) := by decide +kernel
theorem dX7_takeDigit_3 : decode cX7_takeDigit 3 = .ok (.iload_n 1, 1) := by decide +kernel
theorem dX7_takeDigit_4 : decode cX7_takeDigit 4 = .ok (.iadd, 1) := by decide +kernel
theorem dX7_takeDigit_5 : decode cX7_takeDigit 5 = .ok (.i2c, 1) := by decide +kernel
theorem dX7_takeDigit_6 : decode cX7_takeDigit 6 = .ok (.bipush 48, 2) := by decide +kernel
theorem dX7_takeDigit_8 : decode cX7_takeDigit 8 = .ok (.iload_n 2, 1) := by decide +kernel
theorem dX7_takeDigit_9 : decode cX7_takeDigit 9 = .ok (.iadd, 1) := by decide +kernel
theorem dX7_takeDigit_10 : decode cX7_takeDigit 10 = .ok (.i2c, 1) := by decide +kernel
theorem dX7_takeDigit_11 : decode cX7_takeDigit 11 = .ok (.invokevirtual 62, 3) := by decide +kernel
theorem dX7_takeDigit_14 : decode cX7_takeDigit 14 = .ok (.ifCond .eq 20, 3) := by decide +kernel
theorem dX7_takeDigit_17 : decode cX7_takeDigit 17 = .ok (.aload_n 0, 1) := by decide +kernel
theorem dX7_takeDigit_18 : decode cX7_takeDigit 18 = .ok (.getfield 9, 3) := by decide +kernel
theorem dX7_takeDigit_21 : decode cX7_takeDigit 21 = .ok (.aload_n 0, 1) := by decide +kernel
theorem dX7_takeDigit_22 : decode cX7_takeDigit 22 = .ok (.getfield 33, 3) := by decide +kernel
theorem dX7_takeDigit_25 : decode cX7_takeDigit 25 = .ok (.iconst 1, 1) := by decide +kernel
theorem dX7_takeDigit_26 : decode cX7_takeDigit 26 = .ok (.isub, 1) := by decide +kernel
theorem dX7_takeDigit_27 : decode cX7_takeDigit 27 = .ok (.caload, 1) := by decide +kernel
theorem dX7_takeDigit_28 : decode cX7_takeDigit 28 = .ok (.bipush 48, 2) := by decide +kernel
theorem dX7_takeDigit_30 : decode cX7_takeDigit 30 = .ok (.isub, 1) := by decide +kernel
theorem dX7_takeDigit_31 : decode cX7_takeDigit 31 = .ok (.goto 4, 3) := by decide +kernel
theorem dX7_takeDigit_34 : decode cX7_takeDigit 34 = .ok (.iconst 0, 1) := by decide +kernel
theorem dX7_takeDigit_35 : decode cX7_takeDigit 35 = .ok (.ireturn, 1) := by decide +kernel
theorem dX7_takeCharacter_0 : decode cX7_takeCharacter 0 = .ok (.aload_n 0, 1) := by decide +kernel
theorem dX7_takeCharacter_1 : decode cX7_takeCharacter 1 = .ok (.aload_n 0, 1) := by decide +kernel
theorem dX7_takeCharacter_2 : decode cX7_takeCharacter 2 = .ok (.getfield 36, 3) := by decide +kernel
theorem dX7_takeCharacter_5 : decode cX7_takeCharacter 5 = .ok (.ifCond .ne 40, 3) := by decide +kernel
theorem dX7_takeCharacter_8 : decode cX7_takeCharacter 8 = .ok (.aload_n 0, 1) := by decide +kernel
theorem dX7_takeCharacter_9 : decode cX7_takeCharacter 9 = .ok (.getfield 33, 3) := by decide +kernel
theorem dX7_takeCharacter_12 : decode cX7_takeCharacter 12 = .ok (.aload_n 0, 1) := by decide +kernel
theorem dX7_takeCharacter_13 : decode cX7_takeCharacter 13 = .ok (.getfield 29, 3) := by decide +kernel
theorem dX7_takeCharacter_16 : decode cX7_takeCharacter 16 = .ok (.if_icmp .ge 29, 3) := by decide +kernel
theorem dX7_takeCharacter_19 : decode cX7_takeCharacter 19 = .ok (.aload_n 0, 1) := by decide +kernel
theorem dX7_takeCharacter_20 : decode cX7_takeCharacter 20 = .ok (.getfield 9, 3) := by decide +kernel
theorem dX7_takeCharacter_23 : decode cX7_takeCharacter 23 = .ok (.aload_n 0, 1) := by decide +kernel
theorem dX7_takeCharacter_24 : decode cX7_takeCharacter 24 = .ok (.getfield 33, 3) := by decide +kernel
theorem dX7_takeCharacter_27 : decode cX7_takeCharacter 27 = .ok (.caload, 1) := by decide +kernel
theorem dX7_takeCharacter_28 : decode cX7_takeCharacter 28 = .ok (.iload_n 1, 1) := by decide +kernel
theorem dX7_takeCharacter_29 : decode cX7_takeCharacter 29 = .ok (.if_icmp .lt 16, 3) := by decide +kernel
theorem dX7_takeCharacter_32 : decode cX7_takeCharacter 32 = .ok (.aload_n 0, 1) := by decide +kernel
theorem dX7_takeCharacter_33 : decode cX7_takeCharacter 33 = .ok (.getfield 9, 3) := by decide +kernel
theorem dX7_takeCharacter_36 : decode cX7_takeCharacter 36 = .ok (.aload_n 0, 1) := by decide +kernel
theorem dX7_takeCharacter_37 : decode cX7_takeCharacter 37 = .ok (.getfield 33, 3) := by decide +kernel
theorem dX7_takeCharacter_40 : decode cX7_takeCharacter 40 = .ok (.caload, 1) := by decide +kernel
theorem dX7_takeCharacter_41 : decode cX7_takeCharacter 41 = .ok (.iload_n 2, 1) := by decide +kernel
theorem dX7_takeCharacter_42 : decode cX7_takeCharacter 42 = .ok (.if_icmp .le 7, 3) := by decide +kernel
theorem dX7_takeCharacter_45 : decode cX7_takeCharacter 45 = .ok (.iconst 1, 1) := by decide +kernel
theorem dX7_takeCharacter_46 : decode cX7_takeCharacter 46 = .ok (.goto 4, 3) := by decide +kernel
theorem dX7_takeCharacter_49 : decode cX7_takeCharacter 49 = .ok (.iconst 0, 1) := by decide +kernel
theorem dX7_takeCharacter_50 : decode cX7_takeCharacter 50 = .ok (.putfield 36, 3) := by decide +kernel
theorem dX7_takeCharacter_53 : decode cX7_takeCharacter 53 = .ok (.aload_n 0, 1) := by decide +kernel
theorem dX7_takeCharacter_54 : decode cX7_takeCharacter 54 = .ok (.getfield 36, 3) := by decide +kernel
theorem dX7_takeCharacter_57 : decode cX7_takeCharacter 57 = .ok (.ifCond .ne 13, 3) := by decide +kernel
theorem dX7_takeCharacter_60 : decode cX7_takeCharacter 60 = .ok (.aload_n 0, 1) := by decide +kernel
theorem dX7_takeCharacter_61 : decode cX7_takeCharacter 61 = .ok (.dup, 1) := by decide +kernel
theorem dX7_takeCharacter_62 : decode cX7_takeCharacter 62 = .ok (.getfield 33, 3) := by decide +kernel
theorem dX7_takeCharacter_65 : decode cX7_takeCharacter 65 = .ok (.iconst 1, 1) := by decide +kernel
theorem dX7_takeCharacter_66 : decode cX7_takeCharacter 66 = .ok (.iadd, 1) := by decide +kernel
theorem dX7_takeCharacter_67 : decode cX7_takeCharacter 67 = .ok (.putfield 33, 3) := by decide +kernel
theorem dX7_takeCharacter_70 : decode cX7_takeCharacter 70 = .ok (.aload_n 0, 1) := by decide +kernel
theorem dX7_takeCharacter_71 : decode cX7_takeCharacter 71 = .ok (.getfield 36, 3) := by decide +kernel
theorem dX7_takeCharacter_74 : decode cX7_takeCharacter 74 = .ok (.ifCond .ne 7, 3) := by decide +kernel
theorem dX7_takeCharacter_77 : decode cX7_takeCharacter 77 = .ok (.iconst 1, 1) := by decide +kernel
theorem dX7_takeCharacter_78 : decode cX7_takeCharacter 78 = .ok (.goto 4, 3) := by decide +kernel
theorem dX7_takeCharacter_81 : decode cX7_takeCharacter 81 = .ok (.iconst 0, 1) := by decide +kernel
theorem dX7_takeCharacter_82 : decode cX7_takeCharacter 82 = .ok (.ireturn, 1) := by decide +kernel
theorem dX8_init_0 : decode cX8_init 0 = .ok (.aload_n 0, 1) := by decide +kernel
theorem dX8_init_1 : decode cX8_init 1 = .ok (.invokespecial 1, 3) := by decide +kernel
theorem dX8_init_4 : decode cX8_init 4 = .ok (.aload_n 0, 1) := by decide +kernel
theorem dX8_init_5 : decode cX8_init 5 = .ok (.new 7, 3) := by decide +kernel
theorem dX8_init_8 : decode cX8_init 8 = .ok (.dup, 1) := by decide +kernel
theorem dX8_init_9 : decode cX8_init 9 = .ok (.invokespecial 9, 3) := by decide +kernel
theorem dX8_init_12 : decode cX8_init 12 = .ok (.putfield 10, 3) := by decide +kernel
theorem dX8_init_15 : decode cX8_init 15 = .ok (.aload_n 0, 1) := by decide +kernel
theorem dX8_init_16 : decode cX8_init 16 = .ok (.new 16, 3) := by decide +kernel
theorem dX8_init_19 : decode cX8_init 19 = .ok (.dup, 1) := by decide +kernel
theorem dX8_init_20 : decode cX8_init 20 = .ok (.invokespecial 18, 3) := by decide +kernel
theorem dX8_init_23 : decode cX8_init 23 = .ok (.putfield 19, 3) := by decide +kernel
theorem dX8_init_26 : decode cX8_init 26 = .ok (.aload_n 0, 1) := by decide +kernel
theorem dX8_init_27 : decode cX8_init 27 = .ok (.new 16, 3) := by decide +kernel
theorem dX8_init_30 : decode cX8_init 30 = .ok (.dup, 1) := by decide +kernel
theorem dX8_init_31 : decode cX8_init 31 = .ok (.invokespecial 18, 3) := by decide +kernel
theorem dX8_init_34 : decode cX8_init 34 = .ok (.putfield 23, 3) := by decide +kernel
theorem dX8_init_37 : decode cX8_init 37 = .ok (.aload_n 0, 1) := by decide +kernel
theorem dX8_init_38 : decode cX8_init 38 = .ok (.new 26, 3) := by decide +kernel
theorem dX8_init_41 : decode cX8_init 41 = .ok (.dup, 1) := by decide +kernel
theorem dX8_init_42 : decode cX8_init 42 = .ok (.invokespecial 28, 3) := by decide +kernel
theorem dX8_init_45 : decode cX8_init 45 = .ok (.putfield 29, 3) := by decide +kernel
theorem dX8_init_48 : decode cX8_init 48 = .ok (.aload_n 0, 1) := by decide +kernel
theorem dX8_init_49 : decode cX8_init 49 = .ok (.new 33, 3) := by decide +kernel
theorem dX8_init_52 : decode cX8_init 52 = .ok (.dup, 1) := by decide +kernel
theorem dX8_init_53 : decode cX8_init 53 = .ok (.invokespecial 35, 3) := by decide +kernel
theorem dX8_init_56 : decode cX8_init 56 = .ok (.putfield 36, 3) := by decide +kernel
theorem dX8_init_59 : decode cX8_init 59 = .ok (.aload_n 0, 1) := by decide +kernel
theorem dX8_init_60 : decode cX8_init 60 = .ok (.new 40, 3) := by decide +kernel
theorem dX8_init_63 : decode cX8_init 63 = .ok (.dup, 1) := by decide +kernel
theorem dX8_init_64 : decode cX8_init 64 = .ok (.invokespecial 42, 3) := by decide +kernel
theorem dX8_init_67 : decode cX8_init 67 = .ok (.putfield 43, 3) := by decide +kernel
theorem dX8_init_70 : decode cX8_init 70 = .ok (.aload_n 0, 1) := by decide +kernel
theorem dX8_init_71 : decode cX8_init 71 = .ok (.new 47, 3) := by decide +kernel
theorem dX8_init_74 : decode cX8_init 74 = .ok (.dup, 1) := by decide +kernel
theorem dX8_init_75 : decode cX8_init 75 = .ok (.invokespecial 49, 3) := by decide +kernel
theorem dX8_init_78 : decode cX8_init 78 = .ok (.putfield 50, 3) := by decide +kernel
theorem dX8_init_81 : decode cX8_init 81 = .ok (.aload_n 0, 1) := by decide +kernel
theorem dX8_init_82 : decode cX8_init 82 = .ok (.new 54, 3) := by decide +kernel
theorem dX8_init_85 : decode cX8_init 85 = .ok (.dup, 1) := by decide +kernel
theorem dX8_init_86 : decode cX8_init 86 = .ok (.invokespecial 56, 3) := by decide +kernel
theorem dX8_init_89 : decode cX8_init 89 = .ok (.putfield 57, 3) := by decide +kernel
theorem dX8_init_92 : decode cX8_init 92 = .ok (.aload_n 0, 1) := by decide +kernel
theorem dX8_init_93 : decode cX8_init 93 = .ok (.iconst 4, 1) := by decide +kernel
theorem dX8_init_94 : decode cX8_init 94 = .ok (.newarray .int, 2) := by decide +kernel
theorem dX8_init_96 : decode cX8_init 96 = .ok (.putfield 61, 3) := by decide +kernel
theorem dX8_init_99 : decode cX8_init 99 = .ok (.return_, 1) := by decide +kernel
theorem dX8_append_0 : decode cX8_append 0 = .ok (.iload_n 1, 1) := by decide +kernel
theorem dX8_append_1 : decode cX8_append 1 = .ok (.ifCond .lt 10, 3) := by decide +kernel
theorem dX8_append_4 : decode cX8_append 4 = .ok (.iload_n 1, 1) := by decide +kernel
theorem dX8_append_5 : decode cX8_append 5 = .ok (.sipush 255, 3) := by decide +kernel
theorem dX8_append_8 : decode cX8_append 8 = .ok (.if_icmp .le 13, 3) := by decide +kernel
theorem dX8_append_11 : decode cX8_append 11 = .ok (.new 65, 3) := by decide +kernel
theorem dX8_append_14 : decode cX8_append 14 = .ok (.dup, 1) := by decide +kernel
theorem dX8_append_15 : decode cX8_append 15 = .ok (.ldc 67, 2) := by decide +kernel
theorem dX8_append_17 : decode cX8_append 17 = .ok (.invokespecial 69, 3) := by decide +kernel
theorem dX8_append_20 : decode cX8_append 20 = .ok (.athrow, 1) := by decide +kernel
theorem dX8_append_21 : decode cX8_append 21 = .ok (.aload_n 0, 1) := by decide +kernel
theorem dX8_append_22 : decode cX8_append 22 = .ok (.getfield 43, 3) := by decide +kernel
theorem dX8_append_25 : decode cX8_append 25 = .ok (.getfield 72, 3) := by decide +kernel
theorem dX8_append_28 : decode cX8_append 28 = .ok (.sipush 200, 3) := by decide +kernel
theorem dX8_append_31 : decode cX8_append 31 = .ok (.if_icmp .lt 13, 3) := by decide +kernel
theorem dX8_append_34 : decode cX8_append 34 = .ok (.new 76, 3) := by decide +kernel
theorem dX8_append_37 : decode cX8_append 37 = .ok (.dup, 1) := by decide +kernel
theorem dX8_append_38 : decode cX8_append 38 = .ok (.ldc 78, 2) := by decide +kernel
theorem dX8_append_40 : decode cX8_append 40 = .ok (.invokespecial 80, 3) := by decide +kernel
theorem dX8_append_43 : decode cX8_append 43 = .ok (.athrow, 1) := by decide +kernel
theorem dX8_append_44 : decode cX8_append 44 = .ok (.aload_n 0, 1) := by decide +kernel
theorem dX8_append_45 : decode cX8_append 45 = .ok (.getfield 43, 3) := by decide +kernel
theorem dX8_append_48 : decode cX8_append 48 = .ok (.iload_n 1, 1) := by decide +kernel
theorem dX8_append_49 : decode cX8_append 49 = .ok (.i2c, 1) := by decide +kernel
theorem dX8_append_50 : decode cX8_append 50 = .ok (.invokevirtual 81, 3) := by decide +kernel
theorem dX8_append_53 : decode cX8_append 53 = .ok (.aload_n 0, 1) := by decide +kernel
theorem dX8_append_54 : decode cX8_append 54 = .ok (.getfield 43, 3) := by decide +kernel
theorem dX8_append_57 : decode cX8_append 57 = .ok (.getfield 72, 3) := by decide +kernel
theorem dX8_append_60 : decode cX8_append 60 = .ok (.ireturn, 1) := by decide +kernel
theorem dX8_clearText_0 : decode cX8_clearText 0 = .ok (.aload_n 0, 1) := by decide +kernel
theorem dX8_clearText_1 : decode cX8_clearText 1 = .ok (.getfield 43, 3) := by decide +kernel
theorem dX8_clearText_4 : decode cX8_clearText 4 = .ok (.getfield 72, 3) := by decide +kernel
theorem dX8_clearText_7 : decode cX8_clearText 7 = .ok (.istore_n 1, 1) := by decide +kernel
theorem dX8_clearText_8 : decode cX8_clearText 8 = .ok (.aload_n 0, 1) := by decide +kernel
theorem dX8_clearText_9 : decode cX8_clearText 9 = .ok (.getfield 43, 3) := by decide +kernel
theorem dX8_clearText_12 : decode cX8_clearText 12 = .ok (.iconst 0, 1) := by decide +kernel
theorem dX8_clearText_13 : decode cX8_clearText 13 = .ok (.putfield 72, 3) := by decide +kernel
theorem dX8_clearText_16 : decode cX8_clearText 16 = .ok (.iload_n 1, 1) := by decide +kernel
theorem dX8_clearText_17 : decode cX8_clearText 17 = .ok (.ireturn, 1) := by decide +kernel
theorem dX8_errorPosition_0 : decode cX8_errorPosition 0 = .ok (.aload_n 0, 1) := by decide +kernel
theorem dX8_errorPosition_1 : decode cX8_errorPosition 1 = .ok (.getfield 43, 3) := by decide +kernel
theorem dX8_errorPosition_4 : decode cX8_errorPosition 4 = .ok (.invokevirtual 85, 3) := by decide +kernel
theorem dX8_errorPosition_7 : decode cX8_errorPosition 7 = .ok (.ireturn, 1) := by decide +kernel
theorem dX8_load_0 : decode cX8_load 0 = .ok (.aload_n 0, 1) := by decide +kernel
theorem dX8_load_1 : decode cX8_load 1 = .ok (.getfield 43, 3) := by decide +kernel
theorem dX8_load_4 : decode cX8_load 4 = .ok (.invokevirtual 85, 3) := by decide +kernel
theorem dX8_load_7 : decode cX8_load 7 = .ok (.bipush (-9), 2) := by decide +kernel
theorem dX8_load_9 : decode cX8_load 9 = .ok (.if_icmp .eq 13, 3) := by decide +kernel
theorem dX8_load_12 : decode cX8_load 12 = .ok (.new 76, 3) := by decide +kernel
theorem dX8_load_15 : decode cX8_load 15 = .ok (.dup, 1) := by decide +kernel
theorem dX8_load_16 : decode cX8_load 16 = .ok (.ldc 89, 2) := by decide +kernel
theorem dX8_load_18 : decode cX8_load 18 = .ok (.invokespecial 80, 3) := by decide +kernel
theorem dX8_load_21 : decode cX8_load 21 = .ok (.athrow, 1) := by decide +kernel
theorem dX8_load_22 : decode cX8_load 22 = .ok (.aload_n 0, 1) := by decide +kernel
theorem dX8_load_23 : decode cX8_load 23 = .ok (.getfield 10, 3) := by decide +kernel
theorem dX8_load_26 : decode cX8_load 26 = .ok (.aload_n 0, 1) := by decide +kernel
theorem dX8_load_27 : decode cX8_load 27 = .ok (.getfield 43, 3) := by decide +kernel
theorem dX8_load_30 : decode cX8_load 30 = .ok (.getfield 91, 3) := by decide +kernel
theorem dX8_load_33 : decode cX8_load 33 = .ok (.invokevirtual 92, 3) := by decide +kernel
theorem dX8_load_36 : decode cX8_load 36 = .ok (.aload_n 0, 1) := by decide +kernel
theorem dX8_load_37 : decode cX8_load 37 = .ok (.getfield 19, 3) := by decide +kernel
theorem dX8_load_40 : decode cX8_load 40 = .ok (.aload_n 0, 1) := by decide +kernel
theorem dX8_load_41 : decode cX8_load 41 = .ok (.getfield 43, 3) := by decide +kernel
theorem dX8_load_44 : decode cX8_load 44 = .ok (.getfield 96, 3) := by decide +kernel
theorem dX8_load_47 : decode cX8_load 47 = .ok (.invokevirtual 99, 3) := by decide +kernel
theorem dX8_load_50 : decode cX8_load 50 = .ok (.aload_n 0, 1) := by decide +kernel
theorem dX8_load_51 : decode cX8_load 51 = .ok (.getfield 29, 3) := by decide +kernel
theorem dX8_load_54 : decode cX8_load 54 = .ok (.invokevirtual 102, 3) := by decide +kernel
theorem dX8_load_57 : decode cX8_load 57 = .ok (.aload_n 0, 1) := by decide +kernel
theorem dX8_load_58 : decode cX8_load 58 = .ok (.getfield 36, 3) := by decide +kernel
theorem dX8_load_61 : decode cX8_load 61 = .ok (.invokevirtual 105, 3) := by decide +kernel
theorem dX8_load_64 : decode cX8_load 64 = .ok (.aload_n 0, 1) := by decide +kernel
theorem dX8_load_65 : decode cX8_load 65 = .ok (.getfield 10, 3) := by decide +kernel
theorem dX8_load_68 : decode cX8_load 68 = .ok (.getfield 106, 3) := by decide +kernel
theorem dX8_load_71 : decode cX8_load 71 = .ok (.ireturn, 1) := by decide +kernel
theorem dX8_about_0 : decode cX8_about 0 = .ok (.iload_n 1, 1) := by decide +kernel
theorem dX8_about_1 : decode cX8_about 1 = .ok (.tableswitch 75 0 4 #[35, 43, 51, 59, 67], 35) := by decide +kernel
theorem dX8_about_36 : decode cX8_about 36 = .ok (.aload_n 0, 1) := by decide +kernel
theorem dX8_about_37 : decode cX8_about 37 = .ok (.getfield 10, 3) := by decide +kernel
theorem dX8_about_40 : decode cX8_about 40 = .ok (.getfield 106, 3) := by decide +kernel
theorem dX8_about_43 : decode cX8_about 43 = .ok (.ireturn, 1) := by decide +kernel
theorem dX8_about_44 : decode cX8_about 44 = .ok (.aload_n 0, 1) := by decide +kernel
theorem dX8_about_45 : decode cX8_about 45 = .ok (.getfield 10, 3) := by decide +kernel
theorem dX8_about_48 : decode cX8_about 48 = .ok (.getfield 109, 3) := by decide +kernel
theorem dX8_about_51 : decode cX8_about 51 = .ok (.ireturn, 1) := by decide +kernel
theorem dX8_about_52 : decode cX8_about 52 = .ok (.aload_n 0, 1) := by decide +kernel
theorem dX8_about_53 : decode cX8_about 53 = .ok (.getfield 19, 3) := by decide +kernel
theorem dX8_about_56 : decode cX8_about 56 = .ok (.getfield 112, 3) := by decide +kernel
theorem dX8_about_59 : decode cX8_about 59 = .ok (.ireturn, 1) := by decide +kernel
theorem dX8_about_60 : decode cX8_about 60 = .ok (.aload_n 0, 1) := by decide +kernel
theorem dX8_about_61 : decode cX8_about 61 = .ok (.getfield 19, 3) := by decide +kernel
theorem dX8_about_64 : decode cX8_about 64 = .ok (.getfield 115, 3) := by decide +kernel
theorem dX8_about_67 : decode cX8_about 67 = .ok (.ireturn, 1) := by decide +kernel
theorem dX8_about_68 : decode cX8_about 68 = .ok (.aload_n 0, 1) := by decide +kernel
theorem dX8_about_69 : decode cX8_about 69 = .ok (.getfield 19, 3) := by decide +kernel
theorem dX8_about_72 : decode cX8_about 72 = .ok (.getfield 118, 3) := by decide +kernel
theorem dX8_about_75 : decode cX8_about 75 = .ok (.ireturn, 1) := by decide +kernel
theorem dX8_about_76 : decode cX8_about 76 = .ok (.new 65, 3) := by decide +kernel
theorem dX8_about_79 : decode cX8_about 79 = .ok (.dup, 1) := by decide +kernel
theorem dX8_about_80 : decode cX8_about 80 = .ok (.ldc 121, 2) := by decide +kernel
theorem dX8_about_82 : decode cX8_about 82 = .ok (.invokespecial 69, 3) := by decide +kernel
theorem dX8_about_85 : decode cX8_about 85 = .ok (.athrow, 1) := by decide +kernel
theorem dX8_coefficient_0 : decode cX8_coefficient 0 = .ok (.iload_n 1, 1) := by decide +kernel
theorem dX8_coefficient_1 : decode cX8_coefficient 1 = .ok (.ifCond .lt 8, 3) := by decide +kernel
theorem dX8_coefficient_4 : decode cX8_coefficient 4 = .ok (.iload_n 1, 1) := by decide +kernel
theorem dX8_coefficient_5 : decode cX8_coefficient 5 = .ok (.iconst 5, 1) := by decide +kernel
theorem dX8_coefficient_6 : decode cX8_coefficient 6 = .ok (.if_icmp .le 13, 3) := by decide +kernel
theorem dX8_coefficient_9 : decode cX8_coefficient 9 = .ok (.new 65, 3) := by decide +kernel
theorem dX8_coefficient_12 : decode cX8_coefficient 12 = .ok (.dup, 1) := by decide +kernel
theorem dX8_coefficient_13 : decode cX8_coefficient 13 = .ok (.ldc 123, 2) := by decide +kernel
theorem dX8_coefficient_15 : decode cX8_coefficient 15 = .ok (.invokespecial 69, 3) := by decide +kernel
theorem dX8_coefficient_18 : decode cX8_coefficient 18 = .ok (.athrow, 1) := by decide +kernel
theorem dX8_coefficient_19 : decode cX8_coefficient 19 = .ok (.iload_n 1, 1) := by decide +kernel
theorem dX8_coefficient_20 : decode cX8_coefficient 20 = .ok (.iconst 3, 1) := by decide +kernel
theorem dX8_coefficient_21 : decode cX8_coefficient 21 = .ok (.if_icmp .eq 8, 3) := by decide +kernel
theorem dX8_coefficient_24 : decode cX8_coefficient 24 = .ok (.iload_n 1, 1) := by decide +kernel
theorem dX8_coefficient_25 : decode cX8_coefficient 25 = .ok (.iconst 4, 1) := by decide +kernel
theorem dX8_coefficient_26 : decode cX8_coefficient 26 = .ok (.if_icmp .ne 7, 3) := by decide +kernel
theorem dX8_coefficient_29 : decode cX8_coefficient 29 = .ok (.iconst 1, 1) := by decide +kernel
theorem dX8_coefficient_30 : decode cX8_coefficient 30 = .ok (.goto 4, 3) := by decide +kernel
theorem dX8_coefficient_33 : decode cX8_coefficient 33 = .ok (.iconst 0, 1) := by decide +kernel
theorem dX8_coefficient_34 : decode cX8_coefficient 34 = .ok (.istore 4, 2) := by decide +kernel
theorem dX8_coefficient_36 : decode cX8_coefficient 36 = .ok (.iload 4, 2) := by decide +kernel
theorem dX8_coefficient_38 : decode cX8_coefficient 38 = .ok (.ifCond .eq 14, 3) := by decide +kernel
theorem dX8_coefficient_41 : decode cX8_coefficient 41 = .ok (.aload_n 0, 1) := by decide +kernel
theorem dX8_coefficient_42 : decode cX8_coefficient 42 = .ok (.iload_n 2, 1) := by decide +kernel
theorem dX8_coefficient_43 : decode cX8_coefficient 43 = .ok (.invokevirtual 125, 3) := by decide +kernel
theorem dX8_coefficient_46 : decode cX8_coefficient 46 = .ok (.ifCond .ne 24, 3) := by decide +kernel
theorem dX8_coefficient_49 : decode cX8_coefficient 49 = .ok (.goto 11, 3) := by decide +kernel
theorem dX8_coefficient_52 : decode cX8_coefficient 52 = .ok (.aload_n 0, 1) := by decide +kernel
theorem dX8_coefficient_53 : decode cX8_coefficient 53 = .ok (.iload_n 2, 1) := by decide +kernel
theorem dX8_coefficient_54 : decode cX8_coefficient 54 = .ok (.invokevirtual 129, 3) := by decide +kernel
theorem dX8_coefficient_57 : decode cX8_coefficient 57 = .ok (.ifCond .ne 13, 3) := by decide +kernel
theorem dX8_coefficient_60 : decode cX8_coefficient 60 = .ok (.new 132, 3) := by decide +kernel
theorem dX8_coefficient_63 : decode cX8_coefficient 63 = .ok (.dup, 1) := by decide +kernel
theorem dX8_coefficient_64 : decode cX8_coefficient 64 = .ok (.ldc 134, 2) := by decide +kernel
theorem dX8_coefficient_66 : decode cX8_coefficient 66 = .ok (.invokespecial 136, 3) := by decide +kernel
theorem dX8_coefficient_69 : decode cX8_coefficient 69 = .ok (.athrow, 1) := by decide +kernel
theorem dX8_coefficient_70 : decode cX8_coefficient 70 = .ok (.iload_n 3, 1) := by decide +kernel
theorem dX8_coefficient_71 : decode cX8_coefficient 71 = .ok (.ifCond .lt 12, 3) := by decide +kernel
theorem dX8_coefficient_74 : decode cX8_coefficient 74 = .ok (.iload_n 3, 1) := by decide +kernel
theorem dX8_coefficient_75 : decode cX8_coefficient 75 = .ok (.aload_n 0, 1) := by decide +kernel
theorem dX8_coefficient_76 : decode cX8_coefficient 76 = .ok (.iload_n 1, 1) := by decide +kernel
theorem dX8_coefficient_77 : decode cX8_coefficient 77 = .ok (.invokevirtual 137, 3) := by decide +kernel
theorem dX8_coefficient_80 : decode cX8_coefficient 80 = .ok (.if_icmp .lt 13, 3) := by decide +kernel
theorem dX8_coefficient_83 : decode cX8_coefficient 83 = .ok (.new 132, 3) := by decide +kernel
theorem dX8_coefficient_86 : decode cX8_coefficient 86 = .ok (.dup, 1) := by decide +kernel
theorem dX8_coefficient_87 : decode cX8_coefficient 87 = .ok (.ldc 141, 2) := by decide +kernel
theorem dX8_coefficient_89 : decode cX8_coefficient 89 = .ok (.invokespecial 136, 3) := by decide +kernel
theorem dX8_coefficient_92 : decode cX8_coefficient 92 = .ok (.athrow, 1) := by decide +kernel
theorem dX8_coefficient_93 : decode cX8_coefficient 93 = .ok (.iload_n 1, 1) := by decide +kernel
theorem dX8_coefficient_94 : decode cX8_coefficient 94 = .ok (.tableswitch 88 0 4 #[34, 46, 56, 66, 78], 34) := by decide +kernel
theorem dX8_coefficient_128 : decode cX8_coefficient 128 = .ok (.aload_n 0, 1) := by decide +kernel
theorem dX8_coefficient_129 : decode cX8_coefficient 129 = .ok (.getfield 10, 3) := by decide +kernel
theorem dX8_coefficient_132 : decode cX8_coefficient 132 = .ok (.getfield 143, 3) := by decide +kernel
theorem dX8_coefficient_135 : decode cX8_coefficient 135 = .ok (.iload_n 2, 1) := by decide +kernel
theorem dX8_coefficient_136 : decode cX8_coefficient 136 = .ok (.aaload, 1) := by decide +kernel
theorem dX8_coefficient_137 : decode cX8_coefficient 137 = .ok (.iload_n 3, 1) := by decide +kernel
theorem dX8_coefficient_138 : decode cX8_coefficient 138 = .ok (.iaload, 1) := by decide +kernel
theorem dX8_coefficient_139 : decode cX8_coefficient 139 = .ok (.ireturn, 1) := by decide +kernel
theorem dX8_coefficient_140 : decode cX8_coefficient 140 = .ok (.aload_n 0, 1) := by decide +kernel
theorem dX8_coefficient_141 : decode cX8_coefficient 141 = .ok (.getfield 10, 3) := by decide +kernel
theorem dX8_coefficient_144 : decode cX8_coefficient 144 = .ok (.getfield 147, 3) := by decide +kernel
theorem dX8_coefficient_147 : decode cX8_coefficient 147 = .ok (.iload_n 2, 1) := by decide +kernel
theorem dX8_coefficient_148 : decode cX8_coefficient 148 = .ok (.iaload, 1) := by decide +kernel
theorem dX8_coefficient_149 : decode cX8_coefficient 149 = .ok (.ireturn, 1) := by decide +kernel
theorem dX8_coefficient_150 : decode cX8_coefficient 150 = .ok (.aload_n 0, 1) := by decide +kernel
theorem dX8_coefficient_151 : decode cX8_coefficient 151 = .ok (.getfield 10, 3) := by decide +kernel
theorem dX8_coefficient_154 : decode cX8_coefficient 154 = .ok (.getfield 150, 3) := by decide +kernel
theorem dX8_coefficient_157 : decode cX8_coefficient 157 = .ok (.iload_n 2, 1) := by decide +kernel
theorem dX8_coefficient_158 : decode cX8_coefficient 158 = .ok (.iaload, 1) := by decide +kernel
theorem dX8_coefficient_159 : decode cX8_coefficient 159 = .ok (.ireturn, 1) := by decide +kernel
theorem dX8_coefficient_160 : decode cX8_coefficient 160 = .ok (.aload_n 0, 1) := by decide +kernel
theorem dX8_coefficient_161 : decode cX8_coefficient 161 = .ok (.getfield 10, 3) := by decide +kernel
theorem dX8_coefficient_164 : decode cX8_coefficient 164 = .ok (.getfield 153, 3) := by decide +kernel
theorem dX8_coefficient_167 : decode cX8_coefficient 167 = .ok (.iload_n 2, 1) := by decide +kernel
theorem dX8_coefficient_168 : decode cX8_coefficient 168 = .ok (.aaload, 1) := by decide +kernel
theorem dX8_coefficient_169 : decode cX8_coefficient 169 = .ok (.iload_n 3, 1) := by decide +kernel
theorem dX8_coefficient_170 : decode cX8_coefficient 170 = .ok (.iaload, 1) := by decide +kernel
theorem dX8_coefficient_171 : decode cX8_coefficient 171 = .ok (.ireturn, 1) := by decide +kernel
theorem dX8_coefficient_172 : decode cX8_coefficient 172 = .ok (.aload_n 0, 1) := by decide +kernel
theorem dX8_coefficient_173 : decode cX8_coefficient 173 = .ok (.getfield 10, 3) := by decide +kernel
theorem dX8_coefficient_176 : decode cX8_coefficient 176 = .ok (.getfield 156, 3) := by decide +kernel
theorem dX8_coefficient_179 : decode cX8_coefficient 179 = .ok (.iload_n 2, 1) := by decide +kernel
theorem dX8_coefficient_180 : decode cX8_coefficient 180 = .ok (.iaload, 1) := by decide +kernel
theorem dX8_coefficient_181 : decode cX8_coefficient 181 = .ok (.ireturn, 1) := by decide +kernel
theorem dX8_coefficient_182 : decode cX8_coefficient 182 = .ok (.aload_n 0, 1) := by decide +kernel
theorem dX8_coefficient_183 : decode cX8_coefficient 183 = .ok (.getfield 19, 3) := by decide +kernel
theorem dX8_coefficient_186 : decode cX8_coefficient 186 = .ok (.getfield 159, 3) := by decide +kernel
theorem dX8_coefficient_189 : decode cX8_coefficient 189 = .ok (.iload_n 2, 1) := by decide +kernel
theorem dX8_coefficient_190 : decode cX8_coefficient 190 = .ok (.aaload, 1) := by decide +kernel
theorem dX8_coefficient_191 : decode cX8_coefficient 191 = .ok (.iload_n 3, 1) := by decide +kernel
theorem dX8_coefficient_192 : decode cX8_coefficient 192 = .ok (.iaload, 1) := by decide +kernel
theorem dX8_coefficient_193 : decode cX8_coefficient 193 = .ok (.ireturn, 1) := by decide +kernel
theorem dX8_state_0 : decode cX8_state 0 = .ok (.aload_n 0, 1) := by decide +kernel
theorem dX8_state_1 : decode cX8_state 1 = .ok (.iload_n 1, 1) := by decide +kernel
theorem dX8_state_2 : decode cX8_state 2 = .ok (.invokevirtual 129, 3) := by decide +kernel
theorem dX8_state_5 : decode cX8_state 5 = .ok (.ifCond .ne 13, 3) := by decide +kernel
theorem dX8_state_8 : decode cX8_state 8 = .ok (.new 132, 3) := by decide +kernel
theorem dX8_state_11 : decode cX8_state 11 = .ok (.dup, 1) := by decide +kernel
theorem dX8_state_12 : decode cX8_state 12 = .ok (.ldc 162, 2) := by decide +kernel
theorem dX8_state_14 : decode cX8_state 14 = .ok (.invokespecial 136, 3) := by decide +kernel
theorem dX8_state_17 : decode cX8_state 17 = .ok (.athrow, 1) := by decide +kernel
theorem dX8_state_18 : decode cX8_state 18 = .ok (.iload_n 2, 1) := by decide +kernel
theorem dX8_state_19 : decode cX8_state 19 = .ok (.tableswitch 113 0 4 #[33, 43, 53, 63, 73], 33) := by decide +kernel
theorem dX8_state_52 : decode cX8_state 52 = .ok (.aload_n 0, 1) := by decide +kernel
theorem dX8_state_53 : decode cX8_state 53 = .ok (.getfield 19, 3) := by decide +kernel
theorem dX8_state_56 : decode cX8_state 56 = .ok (.getfield 164, 3) := by decide +kernel
theorem dX8_state_59 : decode cX8_state 59 = .ok (.iload_n 1, 1) := by decide +kernel
theorem dX8_state_60 : decode cX8_state 60 = .ok (.iaload, 1) := by decide +kernel
theorem dX8_state_61 : decode cX8_state 61 = .ok (.ireturn, 1) := by decide +kernel
theorem dX8_state_62 : decode cX8_state 62 = .ok (.aload_n 0, 1) := by decide +kernel
theorem dX8_state_63 : decode cX8_state 63 = .ok (.getfield 19, 3) := by decide +kernel
theorem dX8_state_66 : decode cX8_state 66 = .ok (.getfield 167, 3) := by decide +kernel
theorem dX8_state_69 : decode cX8_state 69 = .ok (.iload_n 1, 1) := by decide +kernel
theorem dX8_state_70 : decode cX8_state 70 = .ok (.iaload, 1) := by decide +kernel
theorem dX8_state_71 : decode cX8_state 71 = .ok (.ireturn, 1) := by decide +kernel
theorem dX8_state_72 : decode cX8_state 72 = .ok (.aload_n 0, 1) := by decide +kernel
theorem dX8_state_73 : decode cX8_state 73 = .ok (.getfield 19, 3) := by decide +kernel
theorem dX8_state_76 : decode cX8_state 76 = .ok (.getfield 170, 3) := by decide +kernel
theorem dX8_state_79 : decode cX8_state 79 = .ok (.iload_n 1, 1) := by decide +kernel
theorem dX8_state_80 : decode cX8_state 80 = .ok (.iaload, 1) := by decide +kernel
theorem dX8_state_81 : decode cX8_state 81 = .ok (.ireturn, 1) := by decide +kernel
theorem dX8_state_82 : decode cX8_state 82 = .ok (.aload_n 0, 1) := by decide +kernel
theorem dX8_state_83 : decode cX8_state 83 = .ok (.getfield 19, 3) := by decide +kernel
theorem dX8_state_86 : decode cX8_state 86 = .ok (.getfield 173, 3) := by decide +kernel
theorem dX8_state_89 : decode cX8_state 89 = .ok (.iload_n 1, 1) := by decide +kernel
theorem dX8_state_90 : decode cX8_state 90 = .ok (.iaload, 1) := by decide +kernel
theorem dX8_state_91 : decode cX8_state 91 = .ok (.ireturn, 1) := by decide +kernel
theorem dX8_state_92 : decode cX8_state 92 = .ok (.bipush 16, 2) := by decide +kernel
theorem dX8_state_94 : decode cX8_state 94 = .ok (.aload_n 0, 1) := by decide +kernel
theorem dX8_state_95 : decode cX8_state 95 = .ok (.getfield 19, 3) := by decide +kernel
theorem dX8_state_98 : decode cX8_state 98 = .ok (.getfield 167, 3) := by decide +kernel
theorem dX8_state_101 : decode cX8_state 101 = .ok (.iload_n 1, 1) := by decide +kernel
theorem dX8_state_102 : decode cX8_state 102 = .ok (.iaload, 1) := by decide +kernel
theorem dX8_state_103 : decode cX8_state 103 = .ok (.imul, 1) := by decide +kernel
theorem dX8_state_104 : decode cX8_state 104 = .ok (.bipush 16, 2) := by decide +kernel
theorem dX8_state_106 : decode cX8_state 106 = .ok (.aload_n 0, 1) := by decide +kernel
theorem dX8_state_107 : decode cX8_state 107 = .ok (.getfield 19, 3) := by decide +kernel
theorem dX8_state_110 : decode cX8_state 110 = .ok (.getfield 170, 3) := by decide +kernel
theorem dX8_state_113 : decode cX8_state 113 = .ok (.iload_n 1, 1) := by decide +kernel
theorem dX8_state_114 : decode cX8_state 114 = .ok (.iaload, 1) := by decide +kernel
theorem dX8_state_115 : decode cX8_state 115 = .ok (.imul, 1) := by decide +kernel
theorem dX8_state_116 : decode cX8_state 116 = .ok (.aload_n 0, 1) := by decide +kernel
theorem dX8_state_117 : decode cX8_state 117 = .ok (.getfield 19, 3) := by decide +kernel
theorem dX8_state_120 : decode cX8_state 120 = .ok (.getfield 173, 3) := by decide +kernel
theorem dX8_state_123 : decode cX8_state 123 = .ok (.iload_n 1, 1) := by decide +kernel
theorem dX8_state_124 : decode cX8_state 124 = .ok (.iaload, 1) := by decide +kernel
theorem dX8_state_125 : decode cX8_state 125 = .ok (.invokestatic 176, 3) := by decide +kernel
theorem dX8_state_128 : decode cX8_state 128 = .ok (.invokestatic 182, 3) := by decide +kernel
theorem dX8_state_131 : decode cX8_state 131 = .ok (.ireturn, 1) := by decide +kernel
theorem dX8_state_132 : decode cX8_state 132 = .ok (.new 65, 3) := by decide +kernel
theorem dX8_state_135 : decode cX8_state 135 = .ok (.dup, 1) := by decide +kernel
theorem dX8_state_136 : decode cX8_state 136 = .ok (.ldc 185, 2) := by decide +kernel
theorem dX8_state_138 : decode cX8_state 138 = .ok (.invokespecial 69, 3) := by decide +kernel
theorem dX8_state_141 : decode cX8_state 141 = .ok (.athrow, 1) := by decide +kernel
theorem dX8_output_0 : decode cX8_output 0 = .ok (.aload_n 0, 1) := by decide +kernel
theorem dX8_output_1 : decode cX8_output 1 = .ok (.iload_n 1, 1) := by decide +kernel
theorem dX8_output_2 : decode cX8_output 2 = .ok (.invokevirtual 125, 3) := by decide +kernel
theorem dX8_output_5 : decode cX8_output 5 = .ok (.ifCond .ne 13, 3) := by decide +kernel
theorem dX8_output_8 : decode cX8_output 8 = .ok (.new 132, 3) := by decide +kernel
theorem dX8_output_11 : decode cX8_output 11 = .ok (.dup, 1) := by decide +kernel
theorem dX8_output_12 : decode cX8_output 12 = .ok (.ldc 187, 2) := by decide +kernel
theorem dX8_output_14 : decode cX8_output 14 = .ok (.invokespecial 136, 3) := by decide +kernel
theorem dX8_output_17 : decode cX8_output 17 = .ok (.athrow, 1) := by decide +kernel
theorem dX8_output_18 : decode cX8_output 18 = .ok (.iload_n 2, 1) := by decide +kernel
theorem dX8_output_19 : decode cX8_output 19 = .ok (.ifCond .lt 8, 3) := by decide +kernel
theorem dX8_output_22 : decode cX8_output 22 = .ok (.iload_n 2, 1) := by decide +kernel
theorem dX8_output_23 : decode cX8_output 23 = .ok (.iconst 3, 1) := by decide +kernel
theorem dX8_output_24 : decode cX8_output 24 = .ok (.if_icmp .le 13, 3) := by decide +kernel
theorem dX8_output_27 : decode cX8_output 27 = .ok (.new 65, 3) := by decide +kernel
theorem dX8_output_30 : decode cX8_output 30 = .ok (.dup, 1) := by decide +kernel
theorem dX8_output_31 : decode cX8_output 31 = .ok (.ldc 189, 2) := by decide +kernel
theorem dX8_output_33 : decode cX8_output 33 = .ok (.invokespecial 69, 3) := by decide +kernel
theorem dX8_output_36 : decode cX8_output 36 = .ok (.athrow, 1) := by decide +kernel
theorem dX8_output_37 : decode cX8_output 37 = .ok (.iload_n 2, 1) := by decide +kernel
theorem dX8_output_38 : decode cX8_output 38 = .ok (.iconst 1, 1) := by decide +kernel
theorem dX8_output_39 : decode cX8_output 39 = .ok (.if_icmp .gt 26, 3) := by decide +kernel
theorem dX8_output_42 : decode cX8_output 42 = .ok (.aload_n 0, 1) := by decide +kernel
theorem dX8_output_43 : decode cX8_output 43 = .ok (.getfield 19, 3) := by decide +kernel
theorem dX8_output_46 : decode cX8_output 46 = .ok (.getfield 191, 3) := by decide +kernel
theorem dX8_output_49 : decode cX8_output 49 = .ok (.iload_n 1, 1) := by decide +kernel
theorem dX8_output_50 : decode cX8_output 50 = .ok (.iaload, 1) := by decide +kernel
theorem dX8_output_51 : decode cX8_output 51 = .ok (.iconst (-1), 1) := by decide +kernel
theorem dX8_output_52 : decode cX8_output 52 = .ok (.if_icmp .ne 13, 3) := by decide +kernel
theorem dX8_output_55 : decode cX8_output 55 = .ok (.new 76, 3) := by decide +kernel
theorem dX8_output_58 : decode cX8_output 58 = .ok (.dup, 1) := by decide +kernel
theorem dX8_output_59 : decode cX8_output 59 = .ok (.ldc 194, 2) := by decide +kernel
theorem dX8_output_61 : decode cX8_output 61 = .ok (.invokespecial 80, 3) := by decide +kernel
theorem dX8_output_64 : decode cX8_output 64 = .ok (.athrow, 1) := by decide +kernel
theorem dX8_output_65 : decode cX8_output 65 = .ok (.iload_n 2, 1) := by decide +kernel
theorem dX8_output_66 : decode cX8_output 66 = .ok (.lookupswitch 46 #[(0, 26), (1, 36)], 26) := by decide +kernel
theorem dX8_output_92 : decode cX8_output 92 = .ok (.aload_n 0, 1) := by decide +kernel
theorem dX8_output_93 : decode cX8_output 93 = .ok (.getfield 19, 3) := by decide +kernel
theorem dX8_output_96 : decode cX8_output 96 = .ok (.getfield 196, 3) := by decide +kernel
theorem dX8_output_99 : decode cX8_output 99 = .ok (.iload_n 1, 1) := by decide +kernel
theorem dX8_output_100 : decode cX8_output 100 = .ok (.iaload, 1) := by decide +kernel
theorem dX8_output_101 : decode cX8_output 101 = .ok (.ireturn, 1) := by decide +kernel
theorem dX8_output_102 : decode cX8_output 102 = .ok (.aload_n 0, 1) := by decide +kernel
theorem dX8_output_103 : decode cX8_output 103 = .ok (.getfield 19, 3) := by decide +kernel
theorem dX8_output_106 : decode cX8_output 106 = .ok (.getfield 191, 3) := by decide +kernel
theorem dX8_output_109 : decode cX8_output 109 = .ok (.iload_n 1, 1) := by decide +kernel
theorem dX8_output_110 : decode cX8_output 110 = .ok (.iaload, 1) := by decide +kernel
theorem dX8_output_111 : decode cX8_output 111 = .ok (.ireturn, 1) := by decide +kernel
theorem dX8_output_112 : decode cX8_output 112 = .ok (.aload_n 0, 1) := by decide +kernel
theorem dX8_output_113 : decode cX8_output 113 = .ok (.getfield 10, 3) := by decide +kernel
theorem dX8_output_116 : decode cX8_output 116 = .ok (.iload_n 1, 1) := by decide +kernel
theorem dX8_output_117 : decode cX8_output 117 = .ok (.aload_n 0, 1) := by decide +kernel
theorem dX8_output_118 : decode cX8_output 118 = .ok (.getfield 10, 3) := by decide +kernel
theorem dX8_output_121 : decode cX8_output 121 = .ok (.aload_n 0, 1) := by decide +kernel
theorem dX8_output_122 : decode cX8_output 122 = .ok (.getfield 10, 3) := by decide +kernel
theorem dX8_output_125 : decode cX8_output 125 = .ok (.getfield 153, 3) := by decide +kernel
theorem dX8_output_128 : decode cX8_output 128 = .ok (.iload_n 1, 1) := by decide +kernel
theorem dX8_output_129 : decode cX8_output 129 = .ok (.aaload, 1) := by decide +kernel
theorem dX8_output_130 : decode cX8_output 130 = .ok (.aload_n 0, 1) := by decide +kernel
theorem dX8_output_131 : decode cX8_output 131 = .ok (.getfield 19, 3) := by decide +kernel
theorem dX8_output_134 : decode cX8_output 134 = .ok (.iconst (-1), 1) := by decide +kernel
theorem dX8_output_135 : decode cX8_output 135 = .ok (.iload_n 2, 1) := by decide +kernel
theorem dX8_output_136 : decode cX8_output 136 = .ok (.iconst 3, 1) := by decide +kernel
theorem dX8_output_137 : decode cX8_output 137 = .ok (.if_icmp .ne 7, 3) := by decide +kernel
theorem dX8_output_140 : decode cX8_output 140 = .ok (.iconst 1, 1) := by decide +kernel
theorem dX8_output_141 : decode cX8_output 141 = .ok (.goto 4, 3) := by decide +kernel
theorem dX8_output_144 : decode cX8_output 144 = .ok (.iconst 0, 1) := by decide +kernel
theorem dX8_output_145 : decode cX8_output 145 = .ok (.invokevirtual 199, 3) := by decide +kernel
theorem dX8_output_148 : decode cX8_output 148 = .ok (.invokevirtual 203, 3) := by decide +kernel
theorem dX8_output_151 : decode cX8_output 151 = .ok (.ireturn, 1) := by decide +kernel
theorem dX8_width_0 : decode cX8_width 0 = .ok (.aload_n 0, 1) := by decide +kernel
theorem dX8_width_1 : decode cX8_width 1 = .ok (.getfield 10, 3) := by decide +kernel
theorem dX8_width_4 : decode cX8_width 4 = .ok (.aload_n 0, 1) := by decide +kernel
theorem dX8_width_5 : decode cX8_width 5 = .ok (.getfield 19, 3) := by decide +kernel
theorem dX8_width_8 : decode cX8_width 8 = .ok (.invokevirtual 207, 3) := by decide +kernel
theorem dX8_width_11 : decode cX8_width 11 = .ok (.ireturn, 1) := by decide +kernel
theorem dX8_place_0 : decode cX8_place 0 = .ok (.aload_n 0, 1) := by decide +kernel
theorem dX8_place_1 : decode cX8_place 1 = .ok (.iload_n 1, 1) := by decide +kernel
theorem dX8_place_2 : decode cX8_place 2 = .ok (.invokevirtual 129, 3) := by decide +kernel
theorem dX8_place_5 : decode cX8_place 5 = .ok (.ifCond .ne 13, 3) := by decide +kernel
theorem dX8_place_8 : decode cX8_place 8 = .ok (.new 132, 3) := by decide +kernel
theorem dX8_place_11 : decode cX8_place 11 = .ok (.dup, 1) := by decide +kernel
theorem dX8_place_12 : decode cX8_place 12 = .ok (.ldc 162, 2) := by decide +kernel
theorem dX8_place_14 : decode cX8_place 14 = .ok (.invokespecial 136, 3) := by decide +kernel
theorem dX8_place_17 : decode cX8_place 17 = .ok (.athrow, 1) := by decide +kernel
theorem dX8_place_18 : decode cX8_place 18 = .ok (.aload_n 0, 1) := by decide +kernel
theorem dX8_place_19 : decode cX8_place 19 = .ok (.getfield 19, 3) := by decide +kernel
theorem dX8_place_22 : decode cX8_place 22 = .ok (.getfield 164, 3) := by decide +kernel
theorem dX8_place_25 : decode cX8_place 25 = .ok (.aload_n 0, 1) := by decide +kernel
theorem dX8_place_26 : decode cX8_place 26 = .ok (.getfield 61, 3) := by decide +kernel
theorem dX8_place_29 : decode cX8_place 29 = .ok (.invokestatic 211, 3) := by decide +kernel
theorem dX8_place_32 : decode cX8_place 32 = .ok (.aload_n 0, 1) := by decide +kernel
theorem dX8_place_33 : decode cX8_place 33 = .ok (.getfield 61, 3) := by decide +kernel
theorem dX8_place_36 : decode cX8_place 36 = .ok (.iload_n 1, 1) := by decide +kernel
theorem dX8_place_37 : decode cX8_place 37 = .ok (.iload_n 2, 1) := by decide +kernel
theorem dX8_place_38 : decode cX8_place 38 = .ok (.iastore, 1) := by decide +kernel
theorem dX8_place_39 : decode cX8_place 39 = .ok (.iload_n 2, 1) := by decide +kernel
theorem dX8_place_40 : decode cX8_place 40 = .ok (.aload_n 0, 1) := by decide +kernel
theorem dX8_place_41 : decode cX8_place 41 = .ok (.getfield 19, 3) := by decide +kernel
theorem dX8_place_44 : decode cX8_place 44 = .ok (.getfield 167, 3) := by decide +kernel
theorem dX8_place_47 : decode cX8_place 47 = .ok (.iload_n 1, 1) := by decide +kernel
theorem dX8_place_48 : decode cX8_place 48 = .ok (.iaload, 1) := by decide +kernel
theorem dX8_place_49 : decode cX8_place 49 = .ok (.if_icmp .lt 34, 3) := by decide +kernel
theorem dX8_place_52 : decode cX8_place 52 = .ok (.iload_n 2, 1) := by decide +kernel
theorem dX8_place_53 : decode cX8_place 53 = .ok (.aload_n 0, 1) := by decide +kernel
theorem dX8_place_54 : decode cX8_place 54 = .ok (.getfield 19, 3) := by decide +kernel
theorem dX8_place_57 : decode cX8_place 57 = .ok (.getfield 170, 3) := by decide +kernel
theorem dX8_place_60 : decode cX8_place 60 = .ok (.iload_n 1, 1) := by decide +kernel
theorem dX8_place_61 : decode cX8_place 61 = .ok (.iaload, 1) := by decide +kernel
theorem dX8_place_62 : decode cX8_place 62 = .ok (.if_icmp .gt 21, 3) := by decide +kernel
theorem dX8_place_65 : decode cX8_place 65 = .ok (.aload_n 0, 1) := by decide +kernel
theorem dX8_place_66 : decode cX8_place 66 = .ok (.getfield 10, 3) := by decide +kernel
theorem dX8_place_69 : decode cX8_place 69 = .ok (.aload_n 0, 1) := by decide +kernel
theorem dX8_place_70 : decode cX8_place 70 = .ok (.getfield 61, 3) := by decide +kernel
theorem dX8_place_73 : decode cX8_place 73 = .ok (.aload_n 0, 1) := by decide +kernel
theorem dX8_place_74 : decode cX8_place 74 = .ok (.getfield 19, 3) := by decide +kernel
theorem dX8_place_77 : decode cX8_place 77 = .ok (.invokevirtual 215, 3) := by decide +kernel
theorem dX8_place_80 : decode cX8_place 80 = .ok (.ifCond .ne 13, 3) := by decide +kernel
theorem dX8_place_83 : decode cX8_place 83 = .ok (.new 76, 3) := by decide +kernel
theorem dX8_place_86 : decode cX8_place 86 = .ok (.dup, 1) := by decide +kernel
theorem dX8_place_87 : decode cX8_place 87 = .ok (.ldc 219, 2) := by decide +kernel
theorem dX8_place_89 : decode cX8_place 89 = .ok (.invokespecial 80, 3) := by decide +kernel
theorem dX8_place_92 : decode cX8_place 92 = .ok (.athrow, 1) := by decide +kernel
theorem dX8_place_93 : decode cX8_place 93 = .ok (.aload_n 0, 1) := by decide +kernel
theorem dX8_place_94 : decode cX8_place 94 = .ok (.getfield 29, 3) := by decide +kernel
theorem dX8_place_97 : decode cX8_place 97 = .ok (.aload_n 0, 1) := by decide +kernel
theorem dX8_place_98 : decode cX8_place 98 = .ok (.getfield 19, 3) := by decide +kernel
theorem dX8_place_101 : decode cX8_place 101 = .ok (.invokevirtual 221, 3) := by decide +kernel
theorem dX8_place_104 : decode cX8_place 104 = .ok (.aload_n 0, 1) := by decide +kernel
theorem dX8_place_105 : decode cX8_place 105 = .ok (.getfield 19, 3) := by decide +kernel
theorem dX8_place_108 : decode cX8_place 108 = .ok (.getfield 164, 3) := by decide +kernel
theorem dX8_place_111 : decode cX8_place 111 = .ok (.iload_n 1, 1) := by decide +kernel
theorem dX8_place_112 : decode cX8_place 112 = .ok (.iaload, 1) := by decide +kernel
theorem dX8_place_113 : decode cX8_place 113 = .ok (.istore_n 3, 1) := by decide +kernel
theorem dX8_place_114 : decode cX8_place 114 = .ok (.aload_n 0, 1) := by decide +kernel
theorem dX8_place_115 : decode cX8_place 115 = .ok (.getfield 19, 3) := by decide +kernel
theorem dX8_place_118 : decode cX8_place 118 = .ok (.getfield 164, 3) := by decide +kernel
theorem dX8_place_121 : decode cX8_place 121 = .ok (.iload_n 1, 1) := by decide +kernel
theorem dX8_place_122 : decode cX8_place 122 = .ok (.iload_n 2, 1) := by decide +kernel
theorem dX8_place_123 : decode cX8_place 123 = .ok (.iastore, 1) := by decide +kernel
theorem dX8_place_124 : decode cX8_place 124 = .ok (.iload_n 3, 1) := by decide +kernel
theorem dX8_place_125 : decode cX8_place 125 = .ok (.ireturn, 1) := by decide +kernel
theorem dX8_step_0 : decode cX8_step 0 = .ok (.iload_n 1, 1) := by decide +kernel
theorem dX8_step_1 : decode cX8_step 1 = .ok (.invokestatic 224, 3) := by decide +kernel
theorem dX8_step_4 : decode cX8_step 4 = .ok (.ifCond .eq 26, 3) := by decide +kernel
theorem dX8_step_7 : decode cX8_step 7 = .ok (.iload_n 2, 1) := by decide +kernel
theorem dX8_step_8 : decode cX8_step 8 = .ok (.aload_n 0, 1) := by decide +kernel
theorem dX8_step_9 : decode cX8_step 9 = .ok (.getfield 19, 3) := by decide +kernel
theorem dX8_step_12 : decode cX8_step 12 = .ok (.getfield 112, 3) := by decide +kernel
theorem dX8_step_15 : decode cX8_step 15 = .ok (.ineg, 1) := by decide +kernel
theorem dX8_step_16 : decode cX8_step 16 = .ok (.if_icmp .lt 14, 3) := by decide +kernel
theorem dX8_step_19 : decode cX8_step 19 = .ok (.iload_n 2, 1) := by decide +kernel
theorem dX8_step_20 : decode cX8_step 20 = .ok (.aload_n 0, 1) := by decide +kernel
theorem dX8_step_21 : decode cX8_step 21 = .ok (.getfield 19, 3) := by decide +kernel
theorem dX8_step_24 : decode cX8_step 24 = .ok (.getfield 112, 3) := by decide +kernel
theorem dX8_step_27 : decode cX8_step 27 = .ok (.if_icmp .le 13, 3) := by decide +kernel
theorem dX8_step_30 : decode cX8_step 30 = .ok (.new 65, 3) := by decide +kernel
theorem dX8_step_33 : decode cX8_step 33 = .ok (.dup, 1) := by decide +kernel
theorem dX8_step_34 : decode cX8_step 34 = .ok (.ldc 227, 2) := by decide +kernel
theorem dX8_step_36 : decode cX8_step 36 = .ok (.invokespecial 69, 3) := by decide +kernel
theorem dX8_step_39 : decode cX8_step 39 = .ok (.athrow, 1) := by decide +kernel
theorem dX8_step_40 : decode cX8_step 40 = .ok (.aload_n 0, 1) := by decide +kernel
theorem dX8_step_41 : decode cX8_step 41 = .ok (.getfield 29, 3) := by decide +kernel
theorem dX8_step_44 : decode cX8_step 44 = .ok (.aload_n 0, 1) := by decide +kernel
theorem dX8_step_45 : decode cX8_step 45 = .ok (.getfield 19, 3) := by decide +kernel
theorem dX8_step_48 : decode cX8_step 48 = .ok (.invokevirtual 221, 3) := by decide +kernel
theorem dX8_step_51 : decode cX8_step 51 = .ok (.aload_n 0, 1) := by decide +kernel
theorem dX8_step_52 : decode cX8_step 52 = .ok (.getfield 50, 3) := by decide +kernel
theorem dX8_step_55 : decode cX8_step 55 = .ok (.aload_n 0, 1) := by decide +kernel
theorem dX8_step_56 : decode cX8_step 56 = .ok (.getfield 10, 3) := by decide +kernel
theorem dX8_step_59 : decode cX8_step 59 = .ok (.aload_n 0, 1) := by decide +kernel
theorem dX8_step_60 : decode cX8_step 60 = .ok (.getfield 19, 3) := by decide +kernel
theorem dX8_step_63 : decode cX8_step 63 = .ok (.iload_n 1, 1) := by decide +kernel
theorem dX8_step_64 : decode cX8_step 64 = .ok (.iload_n 2, 1) := by decide +kernel
theorem dX8_step_65 : decode cX8_step 65 = .ok (.invokevirtual 229, 3) := by decide +kernel
theorem dX8_step_68 : decode cX8_step 68 = .ok (.aload_n 0, 1) := by decide +kernel
theorem dX8_step_69 : decode cX8_step 69 = .ok (.getfield 19, 3) := by decide +kernel
theorem dX8_step_72 : decode cX8_step 72 = .ok (.getfield 118, 3) := by decide +kernel
theorem dX8_step_75 : decode cX8_step 75 = .ok (.ireturn, 1) := by decide +kernel
theorem dX8_read_0 : decode cX8_read 0 = .ok (.aload_n 0, 1) := by decide +kernel
theorem dX8_read_1 : decode cX8_read 1 = .ok (.iload_n 1, 1) := by decide +kernel
theorem dX8_read_2 : decode cX8_read 2 = .ok (.invokevirtual 125, 3) := by decide +kernel
theorem dX8_read_5 : decode cX8_read 5 = .ok (.ifCond .ne 13, 3) := by decide +kernel
theorem dX8_read_8 : decode cX8_read 8 = .ok (.new 132, 3) := by decide +kernel
theorem dX8_read_11 : decode cX8_read 11 = .ok (.dup, 1) := by decide +kernel
theorem dX8_read_12 : decode cX8_read 12 = .ok (.ldc 187, 2) := by decide +kernel
theorem dX8_read_14 : decode cX8_read 14 = .ok (.invokespecial 136, 3) := by decide +kernel
theorem dX8_read_17 : decode cX8_read 17 = .ok (.athrow, 1) := by decide +kernel
theorem dX8_read_18 : decode cX8_read 18 = .ok (.aload_n 0, 1) := by decide +kernel
theorem dX8_read_19 : decode cX8_read 19 = .ok (.getfield 29, 3) := by decide +kernel
theorem dX8_read_22 : decode cX8_read 22 = .ok (.aload_n 0, 1) := by decide +kernel
theorem dX8_read_23 : decode cX8_read 23 = .ok (.getfield 19, 3) := by decide +kernel
theorem dX8_read_26 : decode cX8_read 26 = .ok (.invokevirtual 221, 3) := by decide +kernel
theorem dX8_read_29 : decode cX8_read 29 = .ok (.aload_n 0, 1) := by decide +kernel
theorem dX8_read_30 : decode cX8_read 30 = .ok (.getfield 50, 3) := by decide +kernel
theorem dX8_read_33 : decode cX8_read 33 = .ok (.aload_n 0, 1) := by decide +kernel
theorem dX8_read_34 : decode cX8_read 34 = .ok (.getfield 10, 3) := by decide +kernel
theorem dX8_read_37 : decode cX8_read 37 = .ok (.aload_n 0, 1) := by decide +kernel
theorem dX8_read_38 : decode cX8_read 38 = .ok (.getfield 19, 3) := by decide +kernel
theorem dX8_read_41 : decode cX8_read 41 = .ok (.iload_n 1, 1) := by decide +kernel
theorem dX8_read_42 : decode cX8_read 42 = .ok (.invokevirtual 233, 3) := by decide +kernel
theorem dX8_read_45 : decode cX8_read 45 = .ok (.aload_n 0, 1) := by decide +kernel
theorem dX8_read_46 : decode cX8_read 46 = .ok (.getfield 19, 3) := by decide +kernel
theorem dX8_read_49 : decode cX8_read 49 = .ok (.getfield 196, 3) := by decide +kernel
theorem dX8_read_52 : decode cX8_read 52 = .ok (.iload_n 1, 1) := by decide +kernel
theorem dX8_read_53 : decode cX8_read 53 = .ok (.iaload, 1) := by decide +kernel
theorem dX8_read_54 : decode cX8_read 54 = .ok (.ireturn, 1) := by decide +kernel
theorem dX8_shave_0 : decode cX8_shave 0 = .ok (.aload_n 0, 1) := by decide +kernel
theorem dX8_shave_1 : decode cX8_shave 1 = .ok (.iload_n 1, 1) := by decide +kernel
theorem dX8_shave_2 : decode cX8_shave 2 = .ok (.invokevirtual 129, 3) := by decide +kernel
theorem dX8_shave_5 : decode cX8_shave 5 = .ok (.ifCond .ne 13, 3) := by decide +kernel
theorem dX8_shave_8 : decode cX8_shave 8 = .ok (.new 132, 3) := by decide +kernel
theorem dX8_shave_11 : decode cX8_shave 11 = .ok (.dup, 1) := by decide +kernel
theorem dX8_shave_12 : decode cX8_shave 12 = .ok (.ldc 162, 2) := by decide +kernel
theorem dX8_shave_14 : decode cX8_shave 14 = .ok (.invokespecial 136, 3) := by decide +kernel
theorem dX8_shave_17 : decode cX8_shave 17 = .ok (.athrow, 1) := by decide +kernel
theorem dX8_shave_18 : decode cX8_shave 18 = .ok (.iload_n 2, 1) := by decide +kernel
theorem dX8_shave_19 : decode cX8_shave 19 = .ok (.iconst 1, 1) := by decide +kernel
theorem dX8_shave_20 : decode cX8_shave 20 = .ok (.if_icmp .lt 9, 3) := by decide +kernel
theorem dX8_shave_23 : decode cX8_shave 23 = .ok (.iload_n 2, 1) := by decide +kernel
theorem dX8_shave_24 : decode cX8_shave 24 = .ok (.bipush 100, 2) := by decide +kernel
theorem dX8_shave_26 : decode cX8_shave 26 = .ok (.if_icmp .le 13, 3) := by decide +kernel
theorem dX8_shave_29 : decode cX8_shave 29 = .ok (.new 65, 3) := by decide +kernel
theorem dX8_shave_32 : decode cX8_shave 32 = .ok (.dup, 1) := by decide +kernel
theorem dX8_shave_33 : decode cX8_shave 33 = .ok (.ldc 237, 2) := by decide +kernel
theorem dX8_shave_35 : decode cX8_shave 35 = .ok (.invokespecial 69, 3) := by decide +kernel
theorem dX8_shave_38 : decode cX8_shave 38 = .ok (.athrow, 1) := by decide +kernel
theorem dX8_shave_39 : decode cX8_shave 39 = .ok (.aload_n 0, 1) := by decide +kernel
theorem dX8_shave_40 : decode cX8_shave 40 = .ok (.getfield 29, 3) := by decide +kernel
theorem dX8_shave_43 : decode cX8_shave 43 = .ok (.aload_n 0, 1) := by decide +kernel
theorem dX8_shave_44 : decode cX8_shave 44 = .ok (.getfield 19, 3) := by decide +kernel
theorem dX8_shave_47 : decode cX8_shave 47 = .ok (.invokevirtual 221, 3) := by decide +kernel
theorem dX8_shave_50 : decode cX8_shave 50 = .ok (.iconst 0, 1) := by decide +kernel
theorem dX8_shave_51 : decode cX8_shave 51 = .ok (.istore_n 3, 1) := by decide +kernel
theorem dX8_shave_52 : decode cX8_shave 52 = .ok (.iconst 0, 1) := by decide +kernel
theorem dX8_shave_53 : decode cX8_shave 53 = .ok (.istore 4, 2) := by decide +kernel
theorem dX8_shave_55 : decode cX8_shave 55 = .ok (.iload 4, 2) := by decide +kernel
theorem dX8_shave_57 : decode cX8_shave 57 = .ok (.iload_n 2, 1) := by decide +kernel
theorem dX8_shave_58 : decode cX8_shave 58 = .ok (.if_icmp .ge 42, 3) := by decide +kernel
theorem dX8_shave_61 : decode cX8_shave 61 = .ok (.aload_n 0, 1) := by decide +kernel
theorem dX8_shave_62 : decode cX8_shave 62 = .ok (.iload_n 1, 1) := by decide +kernel
theorem dX8_shave_63 : decode cX8_shave 63 = .ok (.aload_n 0, 1) := by decide +kernel
theorem dX8_shave_64 : decode cX8_shave 64 = .ok (.getfield 19, 3) := by decide +kernel
theorem dX8_shave_67 : decode cX8_shave 67 = .ok (.getfield 167, 3) := by decide +kernel
theorem dX8_shave_70 : decode cX8_shave 70 = .ok (.iload_n 1, 1) := by decide +kernel
theorem dX8_shave_71 : decode cX8_shave 71 = .ok (.iaload, 1) := by decide +kernel
theorem dX8_shave_72 : decode cX8_shave 72 = .ok (.invokevirtual 239, 3) := by decide +kernel
theorem dX8_shave_75 : decode cX8_shave 75 = .ok (.ifCond .eq 25, 3) := by decide +kernel
theorem dX8_shave_78 : decode cX8_shave 78 = .ok (.aload_n 0, 1) := by decide +kernel
theorem dX8_shave_79 : decode cX8_shave 79 = .ok (.getfield 19, 3) := by decide +kernel
theorem dX8_shave_82 : decode cX8_shave 82 = .ok (.getfield 167, 3) := by decide +kernel
theorem dX8_shave_85 : decode cX8_shave 85 = .ok (.iload_n 1, 1) := by decide +kernel
theorem dX8_shave_86 : decode cX8_shave 86 = .ok (.dup2, 1) := by decide +kernel
theorem dX8_shave_87 : decode cX8_shave 87 = .ok (.iaload, 1) := by decide +kernel
theorem dX8_shave_88 : decode cX8_shave 88 = .ok (.iconst 1, 1) := by decide +kernel
theorem dX8_shave_89 : decode cX8_shave 89 = .ok (.iadd, 1) := by decide +kernel
theorem dX8_shave_90 : decode cX8_shave 90 = .ok (.iastore, 1) := by decide +kernel
theorem dX8_shave_91 : decode cX8_shave 91 = .ok (.iinc 3 1, 3) := by decide +kernel
theorem dX8_shave_94 : decode cX8_shave 94 = .ok (.iinc 4 1, 3) := by decide +kernel
theorem dX8_shave_97 : decode cX8_shave 97 = .ok (.goto (-42), 3) := by decide +kernel
theorem dX8_shave_100 : decode cX8_shave 100 = .ok (.iconst 0, 1) := by decide +kernel
theorem dX8_shave_101 : decode cX8_shave 101 = .ok (.istore 4, 2) := by decide +kernel
theorem dX8_shave_103 : decode cX8_shave 103 = .ok (.iload 4, 2) := by decide +kernel
theorem dX8_shave_105 : decode cX8_shave 105 = .ok (.iload_n 2, 1) := by decide +kernel
theorem dX8_shave_106 : decode cX8_shave 106 = .ok (.if_icmp .ge 42, 3) := by decide +kernel
theorem dX8_shave_109 : decode cX8_shave 109 = .ok (.aload_n 0, 1) := by decide +kernel
theorem dX8_shave_110 : decode cX8_shave 110 = .ok (.iload_n 1, 1) := by decide +kernel
theorem dX8_shave_111 : decode cX8_shave 111 = .ok (.aload_n 0, 1) := by decide +kernel
theorem dX8_shave_112 : decode cX8_shave 112 = .ok (.getfield 19, 3) := by decide +kernel
theorem dX8_shave_115 : decode cX8_shave 115 = .ok (.getfield 170, 3) := by decide +kernel
theorem dX8_shave_118 : decode cX8_shave 118 = .ok (.iload_n 1, 1) := by decide +kernel
theorem dX8_shave_119 : decode cX8_shave 119 = .ok (.iaload, 1) := by decide +kernel
theorem dX8_shave_120 : decode cX8_shave 120 = .ok (.invokevirtual 239, 3) := by decide +kernel
theorem dX8_shave_123 : decode cX8_shave 123 = .ok (.ifCond .eq 25, 3) := by decide +kernel
theorem dX8_shave_126 : decode cX8_shave 126 = .ok (.aload_n 0, 1) := by decide +kernel
theorem dX8_shave_127 : decode cX8_shave 127 = .ok (.getfield 19, 3) := by decide +kernel
theorem dX8_shave_130 : decode cX8_shave 130 = .ok (.getfield 170, 3) := by decide +kernel
theorem dX8_shave_133 : decode cX8_shave 133 = .ok (.iload_n 1, 1) := by decide +kernel
theorem dX8_shave_134 : decode cX8_shave 134 = .ok (.dup2, 1) := by decide +kernel
theorem dX8_shave_135 : decode cX8_shave 135 = .ok (.iaload, 1) := by decide +kernel
theorem dX8_shave_136 : decode cX8_shave 136 = .ok (.iconst 1, 1) := by decide +kernel
theorem dX8_shave_137 : decode cX8_shave 137 = .ok (.isub, 1) := by decide +kernel
theorem dX8_shave_138 : decode cX8_shave 138 = .ok (.iastore, 1) := by decide +kernel
theorem dX8_shave_139 : decode cX8_shave 139 = .ok (.iinc 3 1, 3) := by decide +kernel
theorem dX8_shave_142 : decode cX8_shave 142 = .ok (.iinc 4 1, 3) := by decide +kernel
theorem dX8_shave_145 : decode cX8_shave 145 = .ok (.goto (-42), 3) := by decide +kernel
theorem dX8_shave_148 : decode cX8_shave 148 = .ok (.iload_n 3, 1) := by decide +kernel
theorem dX8_shave_149 : decode cX8_shave 149 = .ok (.ireturn, 1) := by decide +kernel
theorem dX8_setGain_0 : decode cX8_setGain 0 = .ok (.aload_n 0, 1) := by decide +kernel
theorem dX8_setGain_1 : decode cX8_setGain 1 = .ok (.iload_n 1, 1) := by decide +kernel
theorem dX8_setGain_2 : decode cX8_setGain 2 = .ok (.invokevirtual 129, 3) := by decide +kernel
theorem dX8_setGain_5 : decode cX8_setGain 5 = .ok (.ifCond .eq 11, 3) := by decide +kernel
theorem dX8_setGain_8 : decode cX8_setGain 8 = .ok (.aload_n 0, 1) := by decide +kernel
theorem dX8_setGain_9 : decode cX8_setGain 9 = .ok (.iload_n 2, 1) := by decide +kernel
theorem dX8_setGain_10 : decode cX8_setGain 10 = .ok (.invokevirtual 125, 3) := by decide +kernel
theorem dX8_setGain_13 : decode cX8_setGain 13 = .ok (.ifCond .ne 13, 3) := by decide +kernel
theorem dX8_setGain_16 : decode cX8_setGain 16 = .ok (.new 132, 3) := by decide +kernel
theorem dX8_setGain_19 : decode cX8_setGain 19 = .ok (.dup, 1) := by decide +kernel
theorem dX8_setGain_20 : decode cX8_setGain 20 = .ok (.ldc 243, 2) := by decide +kernel
theorem dX8_setGain_22 : decode cX8_setGain 22 = .ok (.invokespecial 136, 3) := by decide +kernel
theorem dX8_setGain_25 : decode cX8_setGain 25 = .ok (.athrow, 1) := by decide +kernel
theorem dX8_setGain_26 : decode cX8_setGain 26 = .ok (.iload_n 3, 1) := by decide +kernel
theorem dX8_setGain_27 : decode cX8_setGain 27 = .ok (.invokestatic 224, 3) := by decide +kernel
theorem dX8_setGain_30 : decode cX8_setGain 30 = .ok (.ifCond .ne 13, 3) := by decide +kernel
theorem dX8_setGain_33 : decode cX8_setGain 33 = .ok (.new 65, 3) := by decide +kernel
theorem dX8_setGain_36 : decode cX8_setGain 36 = .ok (.dup, 1) := by decide +kernel
theorem dX8_setGain_37 : decode cX8_setGain 37 = .ok (.ldc 245, 2) := by decide +kernel
theorem dX8_setGain_39 : decode cX8_setGain 39 = .ok (.invokespecial 69, 3) := by decide +kernel
theorem dX8_setGain_42 : decode cX8_setGain 42 = .ok (.athrow, 1) := by decide +kernel
theorem dX8_setGain_43 : decode cX8_setGain 43 = .ok (.aload_n 0, 1) := by decide +kernel
theorem dX8_setGain_44 : decode cX8_setGain 44 = .ok (.getfield 29, 3) := by decide +kernel
theorem dX8_setGain_47 : decode cX8_setGain 47 = .ok (.aload_n 0, 1) := by decide +kernel
theorem dX8_setGain_48 : decode cX8_setGain 48 = .ok (.getfield 19, 3) := by decide +kernel
theorem dX8_setGain_51 : decode cX8_setGain 51 = .ok (.invokevirtual 221, 3) := by decide +kernel
theorem dX8_setGain_54 : decode cX8_setGain 54 = .ok (.aload_n 0, 1) := by decide +kernel
theorem dX8_setGain_55 : decode cX8_setGain 55 = .ok (.getfield 19, 3) := by decide +kernel
theorem dX8_setGain_58 : decode cX8_setGain 58 = .ok (.getfield 159, 3) := by decide +kernel
theorem dX8_setGain_61 : decode cX8_setGain 61 = .ok (.iload_n 1, 1) := by decide +kernel
theorem dX8_setGain_62 : decode cX8_setGain 62 = .ok (.aaload, 1) := by decide +kernel
theorem dX8_setGain_63 : decode cX8_setGain 63 = .ok (.iload_n 2, 1) := by decide +kernel
theorem dX8_setGain_64 : decode cX8_setGain 64 = .ok (.iaload, 1) := by decide +kernel
theorem dX8_setGain_65 : decode cX8_setGain 65 = .ok (.istore 4, 2) := by decide +kernel
theorem dX8_setGain_67 : decode cX8_setGain 67 = .ok (.aload_n 0, 1) := by decide +kernel
theorem dX8_setGain_68 : decode cX8_setGain 68 = .ok (.getfield 19, 3) := by decide +kernel
theorem dX8_setGain_71 : decode cX8_setGain 71 = .ok (.getfield 159, 3) := by decide +kernel
theorem dX8_setGain_74 : decode cX8_setGain 74 = .ok (.iload_n 1, 1) := by decide +kernel
theorem dX8_setGain_75 : decode cX8_setGain 75 = .ok (.aaload, 1) := by decide +kernel
theorem dX8_setGain_76 : decode cX8_setGain 76 = .ok (.iload_n 2, 1) := by decide +kernel
theorem dX8_setGain_77 : decode cX8_setGain 77 = .ok (.iload_n 3, 1) := by decide +kernel
theorem dX8_setGain_78 : decode cX8_setGain 78 = .ok (.iastore, 1) := by decide +kernel
theorem dX8_setGain_79 : decode cX8_setGain 79 = .ok (.iload 4, 2) := by decide +kernel
theorem dX8_setGain_81 : decode cX8_setGain 81 = .ok (.ireturn, 1) := by decide +kernel
theorem dX8_setHold_0 : decode cX8_setHold 0 = .ok (.iload_n 1, 1) := by decide +kernel
theorem dX8_setHold_1 : decode cX8_setHold 1 = .ok (.ifCond .lt 9, 3) := by decide +kernel
theorem dX8_setHold_4 : decode cX8_setHold 4 = .ok (.iload_n 1, 1) := by decide +kernel
theorem dX8_setHold_5 : decode cX8_setHold 5 = .ok (.bipush 9, 2) := by decide +kernel
theorem dX8_setHold_7 : decode cX8_setHold 7 = .ok (.if_icmp .le 13, 3) := by decide +kernel
theorem dX8_setHold_10 : decode cX8_setHold 10 = .ok (.new 65, 3) := by decide +kernel
theorem dX8_setHold_13 : decode cX8_setHold 13 = .ok (.dup, 1) := by decide +kernel
theorem dX8_setHold_14 : decode cX8_setHold 14 = .ok (.ldc 247, 2) := by decide +kernel
theorem dX8_setHold_16 : decode cX8_setHold 16 = .ok (.invokespecial 69, 3) := by decide +kernel
theorem dX8_setHold_19 : decode cX8_setHold 19 = .ok (.athrow, 1) := by decide +kernel
theorem dX8_setHold_20 : decode cX8_setHold 20 = .ok (.aload_n 0, 1) := by decide +kernel
theorem dX8_setHold_21 : decode cX8_setHold 21 = .ok (.getfield 29, 3) := by decide +kernel
theorem dX8_setHold_24 : decode cX8_setHold 24 = .ok (.aload_n 0, 1) := by decide +kernel
theorem dX8_setHold_25 : decode cX8_setHold 25 = .ok (.getfield 19, 3) := by decide +kernel
theorem dX8_setHold_28 : decode cX8_setHold 28 = .ok (.invokevirtual 221, 3) := by decide +kernel
theorem dX8_setHold_31 : decode cX8_setHold 31 = .ok (.aload_n 0, 1) := by decide +kernel
theorem dX8_setHold_32 : decode cX8_setHold 32 = .ok (.getfield 19, 3) := by decide +kernel
theorem dX8_setHold_35 : decode cX8_setHold 35 = .ok (.getfield 115, 3) := by decide +kernel
theorem dX8_setHold_38 : decode cX8_setHold 38 = .ok (.istore_n 2, 1) := by decide +kernel
theorem dX8_setHold_39 : decode cX8_setHold 39 = .ok (.aload_n 0, 1) := by decide +kernel
theorem dX8_setHold_40 : decode cX8_setHold 40 = .ok (.getfield 19, 3) := by decide +kernel
theorem dX8_setHold_43 : decode cX8_setHold 43 = .ok (.iload_n 1, 1) := by decide +kernel
theorem dX8_setHold_44 : decode cX8_setHold 44 = .ok (.putfield 115, 3) := by decide +kernel
theorem dX8_setHold_47 : decode cX8_setHold 47 = .ok (.iload_n 2, 1) := by decide +kernel
theorem dX8_setHold_48 : decode cX8_setHold 48 = .ok (.ireturn, 1) := by decide +kernel
theorem dX8_setBound_0 : decode cX8_setBound 0 = .ok (.iload_n 1, 1) := by decide +kernel
theorem dX8_setBound_1 : decode cX8_setBound 1 = .ok (.ifCond .lt 9, 3) := by decide +kernel
theorem dX8_setBound_4 : decode cX8_setBound 4 = .ok (.iload_n 1, 1) := by decide +kernel
theorem dX8_setBound_5 : decode cX8_setBound 5 = .ok (.bipush 99, 2) := by decide +kernel
theorem dX8_setBound_7 : decode cX8_setBound 7 = .ok (.if_icmp .le 13, 3) := by decide +kernel
theorem dX8_setBound_10 : decode cX8_setBound 10 = .ok (.new 65, 3) := by decide +kernel
theorem dX8_setBound_13 : decode cX8_setBound 13 = .ok (.dup, 1) := by decide +kernel
theorem dX8_setBound_14 : decode cX8_setBound 14 = .ok (.ldc 249, 2) := by decide +kernel
theorem dX8_setBound_16 : decode cX8_setBound 16 = .ok (.invokespecial 69, 3) := by decide +kernel
theorem dX8_setBound_19 : decode cX8_setBound 19 = .ok (.athrow, 1) := by decide +kernel
theorem dX8_setBound_20 : decode cX8_setBound 20 = .ok (.aload_n 0, 1) := by decide +kernel
theorem dX8_setBound_21 : decode cX8_setBound 21 = .ok (.getfield 29, 3) := by decide +kernel
theorem dX8_setBound_24 : decode cX8_setBound 24 = .ok (.aload_n 0, 1) := by decide +kernel
theorem dX8_setBound_25 : decode cX8_setBound 25 = .ok (.getfield 19, 3) := by decide +kernel
theorem dX8_setBound_28 : decode cX8_setBound 28 = .ok (.invokevirtual 221, 3) := by decide +kernel
theorem dX8_setBound_31 : decode cX8_setBound 31 = .ok (.aload_n 0, 1) := by decide +kernel
theorem dX8_setBound_32 : decode cX8_setBound 32 = .ok (.getfield 19, 3) := by decide +kernel
theorem dX8_setBound_35 : decode cX8_setBound 35 = .ok (.getfield 112, 3) := by decide +kernel
theorem dX8_setBound_38 : decode cX8_setBound 38 = .ok (.istore_n 2, 1) := by decide +kernel
theorem dX8_setBound_39 : decode cX8_setBound 39 = .ok (.aload_n 0, 1) := by decide +kernel
theorem dX8_setBound_40 : decode cX8_setBound 40 = .ok (.getfield 19, 3) := by decide +kernel
theorem dX8_setBound_43 : decode cX8_setBound 43 = .ok (.iload_n 1, 1) := by decide +kernel
theorem dX8_setBound_44 : decode cX8_setBound 44 = .ok (.putfield 112, 3) := by decide +kernel
theorem dX8_setBound_47 : decode cX8_setBound 47 = .ok (.iload_n 2, 1) := by decide +kernel
theorem dX8_setBound_48 : decode cX8_setBound 48 = .ok (.ireturn, 1) := by decide +kernel
theorem dX8_undo_0 : decode cX8_undo 0 = .ok (.aload_n 0, 1) := by decide +kernel
theorem dX8_undo_1 : decode cX8_undo 1 = .ok (.getfield 29, 3) := by decide +kernel
theorem dX8_undo_4 : decode cX8_undo 4 = .ok (.getfield 251, 3) := by decide +kernel
theorem dX8_undo_7 : decode cX8_undo 7 = .ok (.ifCond .ne 13, 3) := by decide +kernel
theorem dX8_undo_10 : decode cX8_undo 10 = .ok (.new 76, 3) := by decide +kernel
theorem dX8_undo_13 : decode cX8_undo 13 = .ok (.dup, 1) := by decide +kernel
theorem dX8_undo_14 : decode cX8_undo 14 = .ok (.ldc 254, 2) := by decide +kernel
theorem dX8_undo_16 : decode cX8_undo 16 = .ok (.invokespecial 80, 3) := by decide +kernel
theorem dX8_undo_19 : decode cX8_undo 19 = .ok (.athrow, 1) := by decide +kernel
theorem dX8_undo_20 : decode cX8_undo 20 = .ok (.aload_n 0, 1) := by decide +kernel
theorem dX8_undo_21 : decode cX8_undo 21 = .ok (.getfield 29, 3) := by decide +kernel
theorem dX8_undo_24 : decode cX8_undo 24 = .ok (.aload_n 0, 1) := by decide +kernel
theorem dX8_undo_25 : decode cX8_undo 25 = .ok (.getfield 19, 3) := by decide +kernel
theorem dX8_undo_28 : decode cX8_undo 28 = .ok (.invokevirtual 256, 3) := by decide +kernel
theorem dX8_undo_31 : decode cX8_undo 31 = .ok (.aload_n 0, 1) := by decide +kernel
theorem dX8_undo_32 : decode cX8_undo 32 = .ok (.getfield 29, 3) := by decide +kernel
theorem dX8_undo_35 : decode cX8_undo 35 = .ok (.getfield 251, 3) := by decide +kernel
theorem dX8_undo_38 : decode cX8_undo 38 = .ok (.ireturn, 1) := by decide +kernel
theorem dX8_canBe_0 : decode cX8_canBe 0 = .ok (.aload_n 0, 1) := by decide +kernel
theorem dX8_canBe_1 : decode cX8_canBe 1 = .ok (.getfield 61, 3) := by decide +kernel
theorem dX8_canBe_4 : decode cX8_canBe 4 = .ok (.iconst 0, 1) := by decide +kernel
theorem dX8_canBe_5 : decode cX8_canBe 5 = .ok (.iload_n 1, 1) := by decide +kernel
theorem dX8_canBe_6 : decode cX8_canBe 6 = .ok (.iastore, 1) := by decide +kernel
theorem dX8_canBe_7 : decode cX8_canBe 7 = .ok (.aload_n 0, 1) := by decide +kernel
theorem dX8_canBe_8 : decode cX8_canBe 8 = .ok (.getfield 61, 3) := by decide +kernel
theorem dX8_canBe_11 : decode cX8_canBe 11 = .ok (.iconst 1, 1) := by decide +kernel
theorem dX8_canBe_12 : decode cX8_canBe 12 = .ok (.iload_n 2, 1) := by decide +kernel
theorem dX8_canBe_13 : decode cX8_canBe 13 = .ok (.iastore, 1) := by decide +kernel
theorem dX8_canBe_14 : decode cX8_canBe 14 = .ok (.aload_n 0, 1) := by decide +kernel
theorem dX8_canBe_15 : decode cX8_canBe 15 = .ok (.getfield 61, 3) := by decide +kernel
theorem dX8_canBe_18 : decode cX8_canBe 18 = .ok (.iconst 2, 1) := by decide +kernel
theorem dX8_canBe_19 : decode cX8_canBe 19 = .ok (.iload_n 3, 1) := by decide +kernel
theorem dX8_canBe_20 : decode cX8_canBe 20 = .ok (.iastore, 1) := by decide +kernel
theorem dX8_canBe_21 : decode cX8_canBe 21 = .ok (.aload_n 0, 1) := by decide +kernel
theorem dX8_canBe_22 : decode cX8_canBe 22 = .ok (.getfield 61, 3) := by decide +kernel
theorem dX8_canBe_25 : decode cX8_canBe 25 = .ok (.iconst 3, 1) := by decide +kernel
theorem dX8_canBe_26 : decode cX8_canBe 26 = .ok (.iload 4, 2) := by decide +kernel
theorem dX8_canBe_28 : decode cX8_canBe 28 = .ok (.iastore, 1) := by decide +kernel
theorem dX8_canBe_29 : decode cX8_canBe 29 = .ok (.aload_n 0, 1) := by decide +kernel
theorem dX8_canBe_30 : decode cX8_canBe 30 = .ok (.getfield 10, 3) := by decide +kernel
theorem dX8_canBe_33 : decode cX8_canBe 33 = .ok (.getfield 106, 3) := by decide +kernel
theorem dX8_canBe_36 : decode cX8_canBe 36 = .ok (.istore 5, 2) := by decide +kernel
theorem dX8_canBe_38 : decode cX8_canBe 38 = .ok (.iload 5, 2) := by decide +kernel
theorem dX8_canBe_40 : decode cX8_canBe 40 = .ok (.iconst 4, 1) := by decide +kernel
theorem dX8_canBe_41 : decode cX8_canBe 41 = .ok (.if_icmp .ge 30, 3) := by decide +kernel
theorem dX8_canBe_44 : decode cX8_canBe 44 = .ok (.aload_n 0, 1) := by decide +kernel
theorem dX8_canBe_45 : decode cX8_canBe 45 = .ok (.getfield 61, 3) := by decide +kernel
theorem dX8_canBe_48 : decode cX8_canBe 48 = .ok (.iload 5, 2) := by decide +kernel
theorem dX8_canBe_50 : decode cX8_canBe 50 = .ok (.iaload, 1) := by decide +kernel
theorem dX8_canBe_51 : decode cX8_canBe 51 = .ok (.ifCond .eq 14, 3) := by decide +kernel
theorem dX8_canBe_54 : decode cX8_canBe 54 = .ok (.new 65, 3) := by decide +kernel
theorem dX8_canBe_57 : decode cX8_canBe 57 = .ok (.dup, 1) := by decide +kernel
theorem dX8_canBe_58 : decode cX8_canBe 58 = .ok (.ldc_w 259, 3) := by decide +kernel
theorem dX8_canBe_61 : decode cX8_canBe 61 = .ok (.invokespecial 69, 3) := by decide +kernel
theorem dX8_canBe_64 : decode cX8_canBe 64 = .ok (.athrow, 1) := by decide +kernel
theorem dX8_canBe_65 : decode cX8_canBe 65 = .ok (.iinc 5 1, 3) := by decide +kernel
theorem dX8_canBe_68 : decode cX8_canBe 68 = .ok (.goto (-30), 3) := by decide +kernel
theorem dX8_canBe_71 : decode cX8_canBe 71 = .ok (.iconst 0, 1) := by decide +kernel
theorem dX8_canBe_72 : decode cX8_canBe 72 = .ok (.istore 5, 2) := by decide +kernel
theorem dX8_canBe_74 : decode cX8_canBe 74 = .ok (.iload 5, 2) := by decide +kernel
theorem dX8_canBe_76 : decode cX8_canBe 76 = .ok (.aload_n 0, 1) := by decide +kernel
theorem dX8_canBe_77 : decode cX8_canBe 77 = .ok (.getfield 10, 3) := by decide +kernel
theorem dX8_canBe_80 : decode cX8_canBe 80 = .ok (.getfield 106, 3) := by decide +kernel
theorem dX8_canBe_83 : decode cX8_canBe 83 = .ok (.if_icmp .ge 51, 3) := by decide +kernel
theorem dX8_canBe_86 : decode cX8_canBe 86 = .ok (.aload_n 0, 1) := by decide +kernel
theorem dX8_canBe_87 : decode cX8_canBe 87 = .ok (.getfield 61, 3) := by decide +kernel
theorem dX8_canBe_90 : decode cX8_canBe 90 = .ok (.iload 5, 2) := by decide +kernel
theorem dX8_canBe_92 : decode cX8_canBe 92 = .ok (.iaload, 1) := by decide +kernel
theorem dX8_canBe_93 : decode cX8_canBe 93 = .ok (.aload_n 0, 1) := by decide +kernel
theorem dX8_canBe_94 : decode cX8_canBe 94 = .ok (.getfield 19, 3) := by decide +kernel
theorem dX8_canBe_97 : decode cX8_canBe 97 = .ok (.getfield 167, 3) := by decide +kernel
theorem dX8_canBe_100 : decode cX8_canBe 100 = .ok (.iload 5, 2) := by decide +kernel
theorem dX8_canBe_102 : decode cX8_canBe 102 = .ok (.iaload, 1) := by decide +kernel
theorem dX8_canBe_103 : decode cX8_canBe 103 = .ok (.if_icmp .lt 23, 3) := by decide +kernel
theorem dX8_canBe_106 : decode cX8_canBe 106 = .ok (.aload_n 0, 1) := by decide +kernel
theorem dX8_canBe_107 : decode cX8_canBe 107 = .ok (.getfield 61, 3) := by decide +kernel
theorem dX8_canBe_110 : decode cX8_canBe 110 = .ok (.iload 5, 2) := by decide +kernel
theorem dX8_canBe_112 : decode cX8_canBe 112 = .ok (.iaload, 1) := by decide +kernel
theorem dX8_canBe_113 : decode cX8_canBe 113 = .ok (.aload_n 0, 1) := by decide +kernel
theorem dX8_canBe_114 : decode cX8_canBe 114 = .ok (.getfield 19, 3) := by decide +kernel
theorem dX8_canBe_117 : decode cX8_canBe 117 = .ok (.getfield 170, 3) := by decide +kernel
theorem dX8_canBe_120 : decode cX8_canBe 120 = .ok (.iload 5, 2) := by decide +kernel
theorem dX8_canBe_122 : decode cX8_canBe 122 = .ok (.iaload, 1) := by decide +kernel
theorem dX8_canBe_123 : decode cX8_canBe 123 = .ok (.if_icmp .le 5, 3) := by decide +kernel
theorem dX8_canBe_126 : decode cX8_canBe 126 = .ok (.iconst 0, 1) := by decide +kernel
theorem dX8_canBe_127 : decode cX8_canBe 127 = .ok (.ireturn, 1) := by decide +kernel
theorem dX8_canBe_128 : decode cX8_canBe 128 = .ok (.iinc 5 1, 3) := by decide +kernel
theorem dX8_canBe_131 : decode cX8_canBe 131 = .ok (.goto (-57), 3) := by decide +kernel
theorem dX8_canBe_134 : decode cX8_canBe 134 = .ok (.aload_n 0, 1) := by decide +kernel
theorem dX8_canBe_135 : decode cX8_canBe 135 = .ok (.getfield 10, 3) := by decide +kernel
theorem dX8_canBe_138 : decode cX8_canBe 138 = .ok (.aload_n 0, 1) := by decide +kernel
theorem dX8_canBe_139 : decode cX8_canBe 139 = .ok (.getfield 61, 3) := by decide +kernel
theorem dX8_canBe_142 : decode cX8_canBe 142 = .ok (.aload_n 0, 1) := by decide +kernel
theorem dX8_canBe_143 : decode cX8_canBe 143 = .ok (.getfield 19, 3) := by decide +kernel
theorem dX8_canBe_146 : decode cX8_canBe 146 = .ok (.invokevirtual 215, 3) := by decide +kernel
theorem dX8_canBe_149 : decode cX8_canBe 149 = .ok (.ireturn, 1) := by decide +kernel
theorem dX8_widthIf_0 : decode cX8_widthIf 0 = .ok (.aload_n 0, 1) := by decide +kernel
theorem dX8_widthIf_1 : decode cX8_widthIf 1 = .ok (.iload_n 1, 1) := by decide +kernel
theorem dX8_widthIf_2 : decode cX8_widthIf 2 = .ok (.invokevirtual 125, 3) := by decide +kernel
theorem dX8_widthIf_5 : decode cX8_widthIf 5 = .ok (.ifCond .ne 13, 3) := by decide +kernel
theorem dX8_widthIf_8 : decode cX8_widthIf 8 = .ok (.new 132, 3) := by decide +kernel
theorem dX8_widthIf_11 : decode cX8_widthIf 11 = .ok (.dup, 1) := by decide +kernel
theorem dX8_widthIf_12 : decode cX8_widthIf 12 = .ok (.ldc 187, 2) := by decide +kernel
theorem dX8_widthIf_14 : decode cX8_widthIf 14 = .ok (.invokespecial 136, 3) := by decide +kernel
theorem dX8_widthIf_17 : decode cX8_widthIf 17 = .ok (.athrow, 1) := by decide +kernel
theorem dX8_widthIf_18 : decode cX8_widthIf 18 = .ok (.iload_n 2, 1) := by decide +kernel
theorem dX8_widthIf_19 : decode cX8_widthIf 19 = .ok (.ldc_w 261, 3) := by decide +kernel
theorem dX8_widthIf_22 : decode cX8_widthIf 22 = .ok (.if_icmp .lt 10, 3) := by decide +kernel
theorem dX8_widthIf_25 : decode cX8_widthIf 25 = .ok (.iload_n 2, 1) := by decide +kernel
theorem dX8_widthIf_26 : decode cX8_widthIf 26 = .ok (.ldc_w 262, 3) := by decide +kernel
theorem dX8_widthIf_29 : decode cX8_widthIf 29 = .ok (.if_icmp .le 14, 3) := by decide +kernel
theorem dX8_widthIf_32 : decode cX8_widthIf 32 = .ok (.new 65, 3) := by decide +kernel
theorem dX8_widthIf_35 : decode cX8_widthIf 35 = .ok (.dup, 1) := by decide +kernel
theorem dX8_widthIf_36 : decode cX8_widthIf 36 = .ok (.ldc_w 263, 3) := by decide +kernel
theorem dX8_widthIf_39 : decode cX8_widthIf 39 = .ok (.invokespecial 69, 3) := by decide +kernel
theorem dX8_widthIf_42 : decode cX8_widthIf 42 = .ok (.athrow, 1) := by decide +kernel
theorem dX8_widthIf_43 : decode cX8_widthIf 43 = .ok (.aload_n 0, 1) := by decide +kernel
theorem dX8_widthIf_44 : decode cX8_widthIf 44 = .ok (.getfield 23, 3) := by decide +kernel
theorem dX8_widthIf_47 : decode cX8_widthIf 47 = .ok (.aload_n 0, 1) := by decide +kernel
theorem dX8_widthIf_48 : decode cX8_widthIf 48 = .ok (.getfield 19, 3) := by decide +kernel
theorem dX8_widthIf_51 : decode cX8_widthIf 51 = .ok (.invokevirtual 99, 3) := by decide +kernel
theorem dX8_widthIf_54 : decode cX8_widthIf 54 = .ok (.aload_n 0, 1) := by decide +kernel
theorem dX8_widthIf_55 : decode cX8_widthIf 55 = .ok (.getfield 23, 3) := by decide +kernel
theorem dX8_widthIf_58 : decode cX8_widthIf 58 = .ok (.getfield 196, 3) := by decide +kernel
theorem dX8_widthIf_61 : decode cX8_widthIf 61 = .ok (.iload_n 1, 1) := by decide +kernel
theorem dX8_widthIf_62 : decode cX8_widthIf 62 = .ok (.iload_n 2, 1) := by decide +kernel
theorem dX8_widthIf_63 : decode cX8_widthIf 63 = .ok (.iastore, 1) := by decide +kernel
theorem dX8_widthIf_64 : decode cX8_widthIf 64 = .ok (.aload_n 0, 1) := by decide +kernel
theorem dX8_widthIf_65 : decode cX8_widthIf 65 = .ok (.getfield 23, 3) := by decide +kernel
theorem dX8_widthIf_68 : decode cX8_widthIf 68 = .ok (.getfield 191, 3) := by decide +kernel
theorem dX8_widthIf_71 : decode cX8_widthIf 71 = .ok (.iload_n 1, 1) := by decide +kernel
theorem dX8_widthIf_72 : decode cX8_widthIf 72 = .ok (.iconst 0, 1) := by decide +kernel
theorem dX8_widthIf_73 : decode cX8_widthIf 73 = .ok (.iastore, 1) := by decide +kernel
theorem dX8_widthIf_74 : decode cX8_widthIf 74 = .ok (.aload_n 0, 1) := by decide +kernel
theorem dX8_widthIf_75 : decode cX8_widthIf 75 = .ok (.getfield 50, 3) := by decide +kernel
theorem dX8_widthIf_78 : decode cX8_widthIf 78 = .ok (.aload_n 0, 1) := by decide +kernel
theorem dX8_widthIf_79 : decode cX8_widthIf 79 = .ok (.getfield 10, 3) := by decide +kernel
theorem dX8_widthIf_82 : decode cX8_widthIf 82 = .ok (.aload_n 0, 1) := by decide +kernel
theorem dX8_widthIf_83 : decode cX8_widthIf 83 = .ok (.getfield 23, 3) := by decide +kernel
theorem dX8_widthIf_86 : decode cX8_widthIf 86 = .ok (.invokevirtual 265, 3) := by decide +kernel
theorem dX8_widthIf_89 : decode cX8_widthIf 89 = .ok (.ifCond .eq 17, 3) := by decide +kernel
theorem dX8_widthIf_92 : decode cX8_widthIf 92 = .ok (.aload_n 0, 1) := by decide +kernel
theorem dX8_widthIf_93 : decode cX8_widthIf 93 = .ok (.getfield 10, 3) := by decide +kernel
theorem dX8_widthIf_96 : decode cX8_widthIf 96 = .ok (.aload_n 0, 1) := by decide +kernel
theorem dX8_widthIf_97 : decode cX8_widthIf 97 = .ok (.getfield 23, 3) := by decide +kernel
theorem dX8_widthIf_100 : decode cX8_widthIf 100 = .ok (.invokevirtual 207, 3) := by decide +kernel
theorem dX8_widthIf_103 : decode cX8_widthIf 103 = .ok (.goto 5, 3) := by decide +kernel
theorem dX8_widthIf_106 : decode cX8_widthIf 106 = .ok (.bipush (-9), 2) := by decide +kernel
theorem dX8_widthIf_108 : decode cX8_widthIf 108 = .ok (.ireturn, 1) := by decide +kernel
theorem dX8_ahead_0 : decode cX8_ahead 0 = .ok (.aload_n 0, 1) := by decide +kernel
theorem dX8_ahead_1 : decode cX8_ahead 1 = .ok (.iload_n 3, 1) := by decide +kernel
theorem dX8_ahead_2 : decode cX8_ahead 2 = .ok (.invokevirtual 129, 3) := by decide +kernel
theorem dX8_ahead_5 : decode cX8_ahead 5 = .ok (.ifCond .ne 13, 3) := by decide +kernel
theorem dX8_ahead_8 : decode cX8_ahead 8 = .ok (.new 132, 3) := by decide +kernel
theorem dX8_ahead_11 : decode cX8_ahead 11 = .ok (.dup, 1) := by decide +kernel
theorem dX8_ahead_12 : decode cX8_ahead 12 = .ok (.ldc 162, 2) := by decide +kernel
theorem dX8_ahead_14 : decode cX8_ahead 14 = .ok (.invokespecial 136, 3) := by decide +kernel
theorem dX8_ahead_17 : decode cX8_ahead 17 = .ok (.athrow, 1) := by decide +kernel
theorem dX8_ahead_18 : decode cX8_ahead 18 = .ok (.iload_n 1, 1) := by decide +kernel
theorem dX8_ahead_19 : decode cX8_ahead 19 = .ok (.ifCond .lt 16, 3) := by decide +kernel
theorem dX8_ahead_22 : decode cX8_ahead 22 = .ok (.iload_n 1, 1) := by decide +kernel
theorem dX8_ahead_23 : decode cX8_ahead 23 = .ok (.bipush 60, 2) := by decide +kernel
theorem dX8_ahead_25 : decode cX8_ahead 25 = .ok (.if_icmp .gt 10, 3) := by decide +kernel
theorem dX8_ahead_28 : decode cX8_ahead 28 = .ok (.iload_n 2, 1) := by decide +kernel
theorem dX8_ahead_29 : decode cX8_ahead 29 = .ok (.invokestatic 224, 3) := by decide +kernel
theorem dX8_ahead_32 : decode cX8_ahead 32 = .ok (.ifCond .ne 14, 3) := by decide +kernel
theorem dX8_ahead_35 : decode cX8_ahead 35 = .ok (.new 65, 3) := by decide +kernel
theorem dX8_ahead_38 : decode cX8_ahead 38 = .ok (.dup, 1) := by decide +kernel
theorem dX8_ahead_39 : decode cX8_ahead 39 = .ok (.ldc_w 269, 3) := by decide +kernel
theorem dX8_ahead_42 : decode cX8_ahead 42 = .ok (.invokespecial 69, 3) := by decide +kernel
theorem dX8_ahead_45 : decode cX8_ahead 45 = .ok (.athrow, 1) := by decide +kernel
theorem dX8_ahead_46 : decode cX8_ahead 46 = .ok (.aload_n 0, 1) := by decide +kernel
theorem dX8_ahead_47 : decode cX8_ahead 47 = .ok (.getfield 23, 3) := by decide +kernel
theorem dX8_ahead_50 : decode cX8_ahead 50 = .ok (.aload_n 0, 1) := by decide +kernel
theorem dX8_ahead_51 : decode cX8_ahead 51 = .ok (.getfield 19, 3) := by decide +kernel
theorem dX8_ahead_54 : decode cX8_ahead 54 = .ok (.invokevirtual 99, 3) := by decide +kernel
theorem dX8_ahead_57 : decode cX8_ahead 57 = .ok (.iconst 0, 1) := by decide +kernel
theorem dX8_ahead_58 : decode cX8_ahead 58 = .ok (.istore 5, 2) := by decide +kernel
theorem dX8_ahead_60 : decode cX8_ahead 60 = .ok (.iload 5, 2) := by decide +kernel
theorem dX8_ahead_62 : decode cX8_ahead 62 = .ok (.iload_n 1, 1) := by decide +kernel
theorem dX8_ahead_63 : decode cX8_ahead 63 = .ok (.if_icmp .ge 26, 3) := by decide +kernel
theorem dX8_ahead_66 : decode cX8_ahead 66 = .ok (.aload_n 0, 1) := by decide +kernel
theorem dX8_ahead_67 : decode cX8_ahead 67 = .ok (.getfield 50, 3) := by decide +kernel
theorem dX8_ahead_70 : decode cX8_ahead 70 = .ok (.aload_n 0, 1) := by decide +kernel
theorem dX8_ahead_71 : decode cX8_ahead 71 = .ok (.getfield 10, 3) := by decide +kernel
theorem dX8_ahead_74 : decode cX8_ahead 74 = .ok (.aload_n 0, 1) := by decide +kernel
theorem dX8_ahead_75 : decode cX8_ahead 75 = .ok (.getfield 23, 3) := by decide +kernel
theorem dX8_ahead_78 : decode cX8_ahead 78 = .ok (.iload_n 2, 1) := by decide +kernel
theorem dX8_ahead_79 : decode cX8_ahead 79 = .ok (.iconst 0, 1) := by decide +kernel
theorem dX8_ahead_80 : decode cX8_ahead 80 = .ok (.invokevirtual 229, 3) := by decide +kernel
theorem dX8_ahead_83 : decode cX8_ahead 83 = .ok (.iinc 5 1, 3) := by decide +kernel
theorem dX8_ahead_86 : decode cX8_ahead 86 = .ok (.goto (-26), 3) := by decide +kernel
theorem dX8_ahead_89 : decode cX8_ahead 89 = .ok (.iload 4, 2) := by decide +kernel
theorem dX8_ahead_91 : decode cX8_ahead 91 = .ok (.ifCond .eq 15, 3) := by decide +kernel
theorem dX8_ahead_94 : decode cX8_ahead 94 = .ok (.aload_n 0, 1) := by decide +kernel
theorem dX8_ahead_95 : decode cX8_ahead 95 = .ok (.getfield 23, 3) := by decide +kernel
theorem dX8_ahead_98 : decode cX8_ahead 98 = .ok (.getfield 170, 3) := by decide +kernel
theorem dX8_ahead_101 : decode cX8_ahead 101 = .ok (.iload_n 3, 1) := by decide +kernel
theorem dX8_ahead_102 : decode cX8_ahead 102 = .ok (.iaload, 1) := by decide +kernel
theorem dX8_ahead_103 : decode cX8_ahead 103 = .ok (.goto 12, 3) := by decide +kernel
theorem dX8_ahead_106 : decode cX8_ahead 106 = .ok (.aload_n 0, 1) := by decide +kernel
theorem dX8_ahead_107 : decode cX8_ahead 107 = .ok (.getfield 23, 3) := by decide +kernel
theorem dX8_ahead_110 : decode cX8_ahead 110 = .ok (.getfield 167, 3) := by decide +kernel
theorem dX8_ahead_113 : decode cX8_ahead 113 = .ok (.iload_n 3, 1) := by decide +kernel
theorem dX8_ahead_114 : decode cX8_ahead 114 = .ok (.iaload, 1) := by decide +kernel
theorem dX8_ahead_115 : decode cX8_ahead 115 = .ok (.ireturn, 1) := by decide +kernel
theorem dX8_earliest_0 : decode cX8_earliest 0 = .ok (.aload_n 0, 1) := by decide +kernel
theorem dX8_earliest_1 : decode cX8_earliest 1 = .ok (.iload_n 1, 1) := by decide +kernel
theorem dX8_earliest_2 : decode cX8_earliest 2 = .ok (.invokevirtual 129, 3) := by decide +kernel
theorem dX8_earliest_5 : decode cX8_earliest 5 = .ok (.ifCond .ne 13, 3) := by decide +kernel
theorem dX8_earliest_8 : decode cX8_earliest 8 = .ok (.new 132, 3) := by decide +kernel
theorem dX8_earliest_11 : decode cX8_earliest 11 = .ok (.dup, 1) := by decide +kernel
theorem dX8_earliest_12 : decode cX8_earliest 12 = .ok (.ldc 162, 2) := by decide +kernel
theorem dX8_earliest_14 : decode cX8_earliest 14 = .ok (.invokespecial 136, 3) := by decide +kernel
theorem dX8_earliest_17 : decode cX8_earliest 17 = .ok (.athrow, 1) := by decide +kernel
theorem dX8_earliest_18 : decode cX8_earliest 18 = .ok (.iload_n 3, 1) := by decide +kernel
theorem dX8_earliest_19 : decode cX8_earliest 19 = .ok (.invokestatic 224, 3) := by decide +kernel
theorem dX8_earliest_22 : decode cX8_earliest 22 = .ok (.ifCond .ne 14, 3) := by decide +kernel
theorem dX8_earliest_25 : decode cX8_earliest 25 = .ok (.new 65, 3) := by decide +kernel
theorem dX8_earliest_28 : decode cX8_earliest 28 = .ok (.dup, 1) := by decide +kernel
theorem dX8_earliest_29 : decode cX8_earliest 29 = .ok (.ldc_w 271, 3) := by decide +kernel
theorem dX8_earliest_32 : decode cX8_earliest 32 = .ok (.invokespecial 69, 3) := by decide +kernel
theorem dX8_earliest_35 : decode cX8_earliest 35 = .ok (.athrow, 1) := by decide +kernel
theorem dX8_earliest_36 : decode cX8_earliest 36 = .ok (.aload_n 0, 1) := by decide +kernel
theorem dX8_earliest_37 : decode cX8_earliest 37 = .ok (.getfield 23, 3) := by decide +kernel
theorem dX8_earliest_40 : decode cX8_earliest 40 = .ok (.aload_n 0, 1) := by decide +kernel
theorem dX8_earliest_41 : decode cX8_earliest 41 = .ok (.getfield 19, 3) := by decide +kernel
theorem dX8_earliest_44 : decode cX8_earliest 44 = .ok (.invokevirtual 99, 3) := by decide +kernel
theorem dX8_earliest_47 : decode cX8_earliest 47 = .ok (.iconst 0, 1) := by decide +kernel
theorem dX8_earliest_48 : decode cX8_earliest 48 = .ok (.istore 5, 2) := by decide +kernel
theorem dX8_earliest_50 : decode cX8_earliest 50 = .ok (.iload 5, 2) := by decide +kernel
theorem dX8_earliest_52 : decode cX8_earliest 52 = .ok (.bipush 60, 2) := by decide +kernel
theorem dX8_earliest_54 : decode cX8_earliest 54 = .ok (.if_icmp .gt 63, 3) := by decide +kernel
theorem dX8_earliest_57 : decode cX8_earliest 57 = .ok (.iload 4, 2) := by decide +kernel
theorem dX8_earliest_59 : decode cX8_earliest 59 = .ok (.ifCond .eq 15, 3) := by decide +kernel
theorem dX8_earliest_62 : decode cX8_earliest 62 = .ok (.aload_n 0, 1) := by decide +kernel
theorem dX8_earliest_63 : decode cX8_earliest 63 = .ok (.getfield 23, 3) := by decide +kernel
theorem dX8_earliest_66 : decode cX8_earliest 66 = .ok (.getfield 167, 3) := by decide +kernel
theorem dX8_earliest_69 : decode cX8_earliest 69 = .ok (.iload_n 1, 1) := by decide +kernel
theorem dX8_earliest_70 : decode cX8_earliest 70 = .ok (.iaload, 1) := by decide +kernel
theorem dX8_earliest_71 : decode cX8_earliest 71 = .ok (.goto 12, 3) := by decide +kernel
theorem dX8_earliest_74 : decode cX8_earliest 74 = .ok (.aload_n 0, 1) := by decide +kernel
theorem dX8_earliest_75 : decode cX8_earliest 75 = .ok (.getfield 23, 3) := by decide +kernel
theorem dX8_earliest_78 : decode cX8_earliest 78 = .ok (.getfield 170, 3) := by decide +kernel
theorem dX8_earliest_81 : decode cX8_earliest 81 = .ok (.iload_n 1, 1) := by decide +kernel
theorem dX8_earliest_82 : decode cX8_earliest 82 = .ok (.iaload, 1) := by decide +kernel
theorem dX8_earliest_83 : decode cX8_earliest 83 = .ok (.istore 6, 2) := by decide +kernel
theorem dX8_earliest_85 : decode cX8_earliest 85 = .ok (.iload 6, 2) := by decide +kernel
theorem dX8_earliest_87 : decode cX8_earliest 87 = .ok (.iload_n 2, 1) := by decide +kernel
theorem dX8_earliest_88 : decode cX8_earliest 88 = .ok (.if_icmp .lt 6, 3) := by decide +kernel
theorem dX8_earliest_91 : decode cX8_earliest 91 = .ok (.iload 5, 2) := by decide +kernel
theorem dX8_earliest_93 : decode cX8_earliest 93 = .ok (.ireturn, 1) := by decide +kernel
theorem dX8_earliest_94 : decode cX8_earliest 94 = .ok (.aload_n 0, 1) := by decide +kernel
theorem dX8_earliest_95 : decode cX8_earliest 95 = .ok (.getfield 50, 3) := by decide +kernel
theorem dX8_earliest_98 : decode cX8_earliest 98 = .ok (.aload_n 0, 1) := by decide +kernel
theorem dX8_earliest_99 : decode cX8_earliest 99 = .ok (.getfield 10, 3) := by decide +kernel
theorem dX8_earliest_102 : decode cX8_earliest 102 = .ok (.aload_n 0, 1) := by decide +kernel
theorem dX8_earliest_103 : decode cX8_earliest 103 = .ok (.getfield 23, 3) := by decide +kernel
theorem dX8_earliest_106 : decode cX8_earliest 106 = .ok (.iload_n 3, 1) := by decide +kernel
theorem dX8_earliest_107 : decode cX8_earliest 107 = .ok (.iconst 0, 1) := by decide +kernel
theorem dX8_earliest_108 : decode cX8_earliest 108 = .ok (.invokevirtual 229, 3) := by decide +kernel
theorem dX8_earliest_111 : decode cX8_earliest 111 = .ok (.iinc 5 1, 3) := by decide +kernel
theorem dX8_earliest_114 : decode cX8_earliest 114 = .ok (.goto (-64), 3) := by decide +kernel
theorem dX8_earliest_117 : decode cX8_earliest 117 = .ok (.bipush (-9), 2) := by decide +kernel
theorem dX8_earliest_119 : decode cX8_earliest 119 = .ok (.ireturn, 1) := by decide +kernel
theorem dX8_unknown_0 : decode cX8_unknown 0 = .ok (.aload_n 0, 1) := by decide +kernel
theorem dX8_unknown_1 : decode cX8_unknown 1 = .ok (.getfield 19, 3) := by decide +kernel
theorem dX8_unknown_4 : decode cX8_unknown 4 = .ok (.getfield 118, 3) := by decide +kernel
theorem dX8_unknown_7 : decode cX8_unknown 7 = .ok (.ifCond .ne 14, 3) := by decide +kernel
theorem dX8_unknown_10 : decode cX8_unknown 10 = .ok (.new 76, 3) := by decide +kernel
theorem dX8_unknown_13 : decode cX8_unknown 13 = .ok (.dup, 1) := by decide +kernel
theorem dX8_unknown_14 : decode cX8_unknown 14 = .ok (.ldc_w 273, 3) := by decide +kernel
theorem dX8_unknown_17 : decode cX8_unknown 17 = .ok (.invokespecial 80, 3) := by decide +kernel
theorem dX8_unknown_20 : decode cX8_unknown 20 = .ok (.athrow, 1) := by decide +kernel
theorem dX8_unknown_21 : decode cX8_unknown 21 = .ok (.aload_n 0, 1) := by decide +kernel
theorem dX8_unknown_22 : decode cX8_unknown 22 = .ok (.getfield 19, 3) := by decide +kernel
theorem dX8_unknown_25 : decode cX8_unknown 25 = .ok (.getfield 275, 3) := by decide +kernel
theorem dX8_unknown_28 : decode cX8_unknown 28 = .ok (.istore_n 2, 1) := by decide +kernel
theorem dX8_unknown_29 : decode cX8_unknown 29 = .ok (.iload_n 2, 1) := by decide +kernel
theorem dX8_unknown_30 : decode cX8_unknown 30 = .ok (.aload_n 0, 1) := by decide +kernel
theorem dX8_unknown_31 : decode cX8_unknown 31 = .ok (.getfield 19, 3) := by decide +kernel
theorem dX8_unknown_34 : decode cX8_unknown 34 = .ok (.getfield 275, 3) := by decide +kernel
theorem dX8_unknown_37 : decode cX8_unknown 37 = .ok (.ineg, 1) := by decide +kernel
theorem dX8_unknown_38 : decode cX8_unknown 38 = .ok (.if_icmp .lt 37, 3) := by decide +kernel
theorem dX8_unknown_41 : decode cX8_unknown 41 = .ok (.iload_n 1, 1) := by decide +kernel
theorem dX8_unknown_42 : decode cX8_unknown 42 = .ok (.ifCond .eq 7, 3) := by decide +kernel
theorem dX8_unknown_45 : decode cX8_unknown 45 = .ok (.iload_n 2, 1) := by decide +kernel
theorem dX8_unknown_46 : decode cX8_unknown 46 = .ok (.goto 5, 3) := by decide +kernel
theorem dX8_unknown_49 : decode cX8_unknown 49 = .ok (.iload_n 2, 1) := by decide +kernel
theorem dX8_unknown_50 : decode cX8_unknown 50 = .ok (.ineg, 1) := by decide +kernel
theorem dX8_unknown_51 : decode cX8_unknown 51 = .ok (.istore_n 3, 1) := by decide +kernel
theorem dX8_unknown_52 : decode cX8_unknown 52 = .ok (.aload_n 0, 1) := by decide +kernel
theorem dX8_unknown_53 : decode cX8_unknown 53 = .ok (.getfield 10, 3) := by decide +kernel
theorem dX8_unknown_56 : decode cX8_unknown 56 = .ok (.iload_n 3, 1) := by decide +kernel
theorem dX8_unknown_57 : decode cX8_unknown 57 = .ok (.aload_n 0, 1) := by decide +kernel
theorem dX8_unknown_58 : decode cX8_unknown 58 = .ok (.getfield 19, 3) := by decide +kernel
theorem dX8_unknown_61 : decode cX8_unknown 61 = .ok (.invokevirtual 278, 3) := by decide +kernel
theorem dX8_unknown_64 : decode cX8_unknown 64 = .ok (.ifCond .eq 5, 3) := by decide +kernel
theorem dX8_unknown_67 : decode cX8_unknown 67 = .ok (.iload_n 3, 1) := by decide +kernel
theorem dX8_unknown_68 : decode cX8_unknown 68 = .ok (.ireturn, 1) := by decide +kernel
theorem dX8_unknown_69 : decode cX8_unknown 69 = .ok (.iinc 2 (-1), 3) := by decide +kernel
theorem dX8_unknown_72 : decode cX8_unknown 72 = .ok (.goto (-43), 3) := by decide +kernel
theorem dX8_unknown_75 : decode cX8_unknown 75 = .ok (.new 76, 3) := by decide +kernel
theorem dX8_unknown_78 : decode cX8_unknown 78 = .ok (.dup, 1) := by decide +kernel
theorem dX8_unknown_79 : decode cX8_unknown 79 = .ok (.ldc_w 282, 3) := by decide +kernel
theorem dX8_unknown_82 : decode cX8_unknown 82 = .ok (.invokespecial 80, 3) := by decide +kernel
theorem dX8_unknown_85 : decode cX8_unknown 85 = .ok (.athrow, 1) := by decide +kernel
theorem dX8_rankAfter_0 : decode cX8_rankAfter 0 = .ok (.iload_n 1, 1) := by decide +kernel
theorem dX8_rankAfter_1 : decode cX8_rankAfter 1 = .ok (.iconst 1, 1) := by decide +kernel
theorem dX8_rankAfter_2 : decode cX8_rankAfter 2 = .ok (.if_icmp .lt 9, 3) := by decide +kernel
theorem dX8_rankAfter_5 : decode cX8_rankAfter 5 = .ok (.iload_n 1, 1) := by decide +kernel
theorem dX8_rankAfter_6 : decode cX8_rankAfter 6 = .ok (.bipush 8, 2) := by decide +kernel
theorem dX8_rankAfter_8 : decode cX8_rankAfter 8 = .ok (.if_icmp .le 14, 3) := by decide +kernel
theorem dX8_rankAfter_11 : decode cX8_rankAfter 11 = .ok (.new 65, 3) := by decide +kernel
theorem dX8_rankAfter_14 : decode cX8_rankAfter 14 = .ok (.dup, 1) := by decide +kernel
theorem dX8_rankAfter_15 : decode cX8_rankAfter 15 = .ok (.ldc_w 284, 3) := by decide +kernel
theorem dX8_rankAfter_18 : decode cX8_rankAfter 18 = .ok (.invokespecial 69, 3) := by decide +kernel
theorem dX8_rankAfter_21 : decode cX8_rankAfter 21 = .ok (.athrow, 1) := by decide +kernel
theorem dX8_rankAfter_22 : decode cX8_rankAfter 22 = .ok (.aload_n 0, 1) := by decide +kernel
theorem dX8_rankAfter_23 : decode cX8_rankAfter 23 = .ok (.getfield 57, 3) := by decide +kernel
theorem dX8_rankAfter_26 : decode cX8_rankAfter 26 = .ok (.aload_n 0, 1) := by decide +kernel
theorem dX8_rankAfter_27 : decode cX8_rankAfter 27 = .ok (.getfield 10, 3) := by decide +kernel
theorem dX8_rankAfter_30 : decode cX8_rankAfter 30 = .ok (.iload_n 1, 1) := by decide +kernel
theorem dX8_rankAfter_31 : decode cX8_rankAfter 31 = .ok (.invokevirtual 286, 3) := by decide +kernel
theorem dX8_rankAfter_34 : decode cX8_rankAfter 34 = .ok (.ireturn, 1) := by decide +kernel
theorem dX8_observabilityIndex_0 : decode cX8_observabilityIndex 0 = .ok (.iconst 1, 1) := by decide +kernel
theorem dX8_observabilityIndex_1 : decode cX8_observabilityIndex 1 = .ok (.istore_n 1, 1) := by decide +kernel
theorem dX8_observabilityIndex_2 : decode cX8_observabilityIndex 2 = .ok (.iload_n 1, 1) := by decide +kernel
theorem dX8_observabilityIndex_3 : decode cX8_observabilityIndex 3 = .ok (.aload_n 0, 1) := by decide +kernel
theorem dX8_observabilityIndex_4 : decode cX8_observabilityIndex 4 = .ok (.getfield 10, 3) := by decide +kernel
theorem dX8_observabilityIndex_7 : decode cX8_observabilityIndex 7 = .ok (.getfield 106, 3) := by decide +kernel
theorem dX8_observabilityIndex_10 : decode cX8_observabilityIndex 10 = .ok (.if_icmp .gt 33, 3) := by decide +kernel
theorem dX8_observabilityIndex_13 : decode cX8_observabilityIndex 13 = .ok (.aload_n 0, 1) := by decide +kernel
theorem dX8_observabilityIndex_14 : decode cX8_observabilityIndex 14 = .ok (.getfield 57, 3) := by decide +kernel
theorem dX8_observabilityIndex_17 : decode cX8_observabilityIndex 17 = .ok (.aload_n 0, 1) := by decide +kernel
theorem dX8_observabilityIndex_18 : decode cX8_observabilityIndex 18 = .ok (.getfield 10, 3) := by decide +kernel
theorem dX8_observabilityIndex_21 : decode cX8_observabilityIndex 21 = .ok (.iload_n 1, 1) := by decide +kernel
theorem dX8_observabilityIndex_22 : decode cX8_observabilityIndex 22 = .ok (.invokevirtual 286, 3) := by decide +kernel
theorem dX8_observabilityIndex_25 : decode cX8_observabilityIndex 25 = .ok (.aload_n 0, 1) := by decide +kernel
theorem dX8_observabilityIndex_26 : decode cX8_observabilityIndex 26 = .ok (.getfield 10, 3) := by decide +kernel
theorem dX8_observabilityIndex_29 : decode cX8_observabilityIndex 29 = .ok (.getfield 106, 3) := by decide +kernel
theorem dX8_observabilityIndex_32 : decode cX8_observabilityIndex 32 = .ok (.if_icmp .ne 5, 3) := by decide +kernel
theorem dX8_observabilityIndex_35 : decode cX8_observabilityIndex 35 = .ok (.iload_n 1, 1) := by decide +kernel
theorem dX8_observabilityIndex_36 : decode cX8_observabilityIndex 36 = .ok (.ireturn, 1) := by decide +kernel
theorem dX8_observabilityIndex_37 : decode cX8_observabilityIndex 37 = .ok (.iinc 1 1, 3) := by decide +kernel
theorem dX8_observabilityIndex_40 : decode cX8_observabilityIndex 40 = .ok (.goto (-38), 3) := by decide +kernel
theorem dX8_observabilityIndex_43 : decode cX8_observabilityIndex 43 = .ok (.bipush (-9), 2) := by decide +kernel
theorem dX8_observabilityIndex_45 : decode cX8_observabilityIndex 45 = .ok (.ireturn, 1) := by decide +kernel
theorem dX8_hiddenDimension_0 : decode cX8_hiddenDimension 0 = .ok (.iload_n 1, 1) := by decide +kernel
theorem dX8_hiddenDimension_1 : decode cX8_hiddenDimension 1 = .ok (.ifCond .lt 9, 3) := by decide +kernel
theorem dX8_hiddenDimension_4 : decode cX8_hiddenDimension 4 = .ok (.iload_n 1, 1) := by decide +kernel
theorem dX8_hiddenDimension_5 : decode cX8_hiddenDimension 5 = .ok (.bipush 8, 2) := by decide +kernel
theorem dX8_hiddenDimension_7 : decode cX8_hiddenDimension 7 = .ok (.if_icmp .le 14, 3) := by decide +kernel
theorem dX8_hiddenDimension_10 : decode cX8_hiddenDimension 10 = .ok (.new 65, 3) := by decide +kernel
theorem dX8_hiddenDimension_13 : decode cX8_hiddenDimension 13 = .ok (.dup, 1) := by decide +kernel
theorem dX8_hiddenDimension_14 : decode cX8_hiddenDimension 14 = .ok (.ldc_w 290, 3) := by decide +kernel
theorem dX8_hiddenDimension_17 : decode cX8_hiddenDimension 17 = .ok (.invokespecial 69, 3) := by decide +kernel
theorem dX8_hiddenDimension_20 : decode cX8_hiddenDimension 20 = .ok (.athrow, 1) := by decide +kernel
theorem dX8_hiddenDimension_21 : decode cX8_hiddenDimension 21 = .ok (.aload_n 0, 1) := by decide +kernel
theorem dX8_hiddenDimension_22 : decode cX8_hiddenDimension 22 = .ok (.getfield 10, 3) := by decide +kernel
theorem dX8_hiddenDimension_25 : decode cX8_hiddenDimension 25 = .ok (.getfield 106, 3) := by decide +kernel
theorem dX8_hiddenDimension_28 : decode cX8_hiddenDimension 28 = .ok (.aload_n 0, 1) := by decide +kernel
theorem dX8_hiddenDimension_29 : decode cX8_hiddenDimension 29 = .ok (.getfield 57, 3) := by decide +kernel
theorem dX8_hiddenDimension_32 : decode cX8_hiddenDimension 32 = .ok (.aload_n 0, 1) := by decide +kernel
theorem dX8_hiddenDimension_33 : decode cX8_hiddenDimension 33 = .ok (.getfield 10, 3) := by decide +kernel
theorem dX8_hiddenDimension_36 : decode cX8_hiddenDimension 36 = .ok (.iload_n 1, 1) := by decide +kernel
theorem dX8_hiddenDimension_37 : decode cX8_hiddenDimension 37 = .ok (.invokevirtual 292, 3) := by decide +kernel
theorem dX8_hiddenDimension_40 : decode cX8_hiddenDimension 40 = .ok (.isub, 1) := by decide +kernel
theorem dX8_hiddenDimension_41 : decode cX8_hiddenDimension 41 = .ok (.ireturn, 1) := by decide +kernel
theorem dX8_touched_0 : decode cX8_touched 0 = .ok (.iconst 0, 1) := by decide +kernel
theorem dX8_touched_1 : decode cX8_touched 1 = .ok (.istore_n 1, 1) := by decide +kernel
theorem dX8_touched_2 : decode cX8_touched 2 = .ok (.iconst 0, 1) := by decide +kernel
theorem dX8_touched_3 : decode cX8_touched 3 = .ok (.istore_n 2, 1) := by decide +kernel
theorem dX8_touched_4 : decode cX8_touched 4 = .ok (.iload_n 2, 1) := by decide +kernel
theorem dX8_touched_5 : decode cX8_touched 5 = .ok (.aload_n 0, 1) := by decide +kernel
theorem dX8_touched_6 : decode cX8_touched 6 = .ok (.getfield 10, 3) := by decide +kernel
theorem dX8_touched_9 : decode cX8_touched 9 = .ok (.getfield 109, 3) := by decide +kernel
theorem dX8_touched_12 : decode cX8_touched 12 = .ok (.if_icmp .ge 43, 3) := by decide +kernel
theorem dX8_touched_15 : decode cX8_touched 15 = .ok (.aload_n 0, 1) := by decide +kernel
theorem dX8_touched_16 : decode cX8_touched 16 = .ok (.getfield 10, 3) := by decide +kernel
theorem dX8_touched_19 : decode cX8_touched 19 = .ok (.aload_n 0, 1) := by decide +kernel
theorem dX8_touched_20 : decode cX8_touched 20 = .ok (.getfield 10, 3) := by decide +kernel
theorem dX8_touched_23 : decode cX8_touched 23 = .ok (.getfield 153, 3) := by decide +kernel
theorem dX8_touched_26 : decode cX8_touched 26 = .ok (.iload_n 2, 1) := by decide +kernel
theorem dX8_touched_27 : decode cX8_touched 27 = .ok (.aaload, 1) := by decide +kernel
theorem dX8_touched_28 : decode cX8_touched 28 = .ok (.aload_n 0, 1) := by decide +kernel
theorem dX8_touched_29 : decode cX8_touched 29 = .ok (.getfield 10, 3) := by decide +kernel
theorem dX8_touched_32 : decode cX8_touched 32 = .ok (.getfield 150, 3) := by decide +kernel
theorem dX8_touched_35 : decode cX8_touched 35 = .ok (.invokevirtual 295, 3) := by decide +kernel
theorem dX8_touched_38 : decode cX8_touched 38 = .ok (.lconst 0, 1) := by decide +kernel
theorem dX8_touched_39 : decode cX8_touched 39 = .ok (.lcmp, 1) := by decide +kernel
theorem dX8_touched_40 : decode cX8_touched 40 = .ok (.ifCond .eq 9, 3) := by decide +kernel
theorem dX8_touched_43 : decode cX8_touched 43 = .ok (.iload_n 1, 1) := by decide +kernel
theorem dX8_touched_44 : decode cX8_touched 44 = .ok (.iconst 1, 1) := by decide +kernel
theorem dX8_touched_45 : decode cX8_touched 45 = .ok (.iload_n 2, 1) := by decide +kernel
theorem dX8_touched_46 : decode cX8_touched 46 = .ok (.ishl, 1) := by decide +kernel
theorem dX8_touched_47 : decode cX8_touched 47 = .ok (.ior, 1) := by decide +kernel
theorem dX8_touched_48 : decode cX8_touched 48 = .ok (.istore_n 1, 1) := by decide +kernel
theorem dX8_touched_49 : decode cX8_touched 49 = .ok (.iinc 2 1, 3) := by decide +kernel
theorem dX8_touched_52 : decode cX8_touched 52 = .ok (.goto (-48), 3) := by decide +kernel
theorem dX8_touched_55 : decode cX8_touched 55 = .ok (.iload_n 1, 1) := by decide +kernel
theorem dX8_touched_56 : decode cX8_touched 56 = .ok (.ireturn, 1) := by decide +kernel
theorem dX8_free_0 : decode cX8_free 0 = .ok (.aload_n 0, 1) := by decide +kernel
theorem dX8_free_1 : decode cX8_free 1 = .ok (.iload_n 2, 1) := by decide +kernel
theorem dX8_free_2 : decode cX8_free 2 = .ok (.invokevirtual 129, 3) := by decide +kernel
theorem dX8_free_5 : decode cX8_free 5 = .ok (.ifCond .eq 18, 3) := by decide +kernel
theorem dX8_free_8 : decode cX8_free 8 = .ok (.iload_n 1, 1) := by decide +kernel
theorem dX8_free_9 : decode cX8_free 9 = .ok (.ifCond .lt 14, 3) := by decide +kernel
theorem dX8_free_12 : decode cX8_free 12 = .ok (.iload_n 1, 1) := by decide +kernel
theorem dX8_free_13 : decode cX8_free 13 = .ok (.aload_n 0, 1) := by decide +kernel
theorem dX8_free_14 : decode cX8_free 14 = .ok (.getfield 10, 3) := by decide +kernel
theorem dX8_free_17 : decode cX8_free 17 = .ok (.invokevirtual 299, 3) := by decide +kernel
theorem dX8_free_20 : decode cX8_free 20 = .ok (.if_icmp .lt 14, 3) := by decide +kernel
theorem dX8_free_23 : decode cX8_free 23 = .ok (.new 132, 3) := by decide +kernel
theorem dX8_free_26 : decode cX8_free 26 = .ok (.dup, 1) := by decide +kernel
theorem dX8_free_27 : decode cX8_free 27 = .ok (.ldc_w 302, 3) := by decide +kernel
theorem dX8_free_30 : decode cX8_free 30 = .ok (.invokespecial 136, 3) := by decide +kernel
theorem dX8_free_33 : decode cX8_free 33 = .ok (.athrow, 1) := by decide +kernel
theorem dX8_free_34 : decode cX8_free 34 = .ok (.aload_n 0, 1) := by decide +kernel
theorem dX8_free_35 : decode cX8_free 35 = .ok (.getfield 10, 3) := by decide +kernel
theorem dX8_free_38 : decode cX8_free 38 = .ok (.iload_n 1, 1) := by decide +kernel
theorem dX8_free_39 : decode cX8_free 39 = .ok (.aload_n 0, 1) := by decide +kernel
theorem dX8_free_40 : decode cX8_free 40 = .ok (.getfield 61, 3) := by decide +kernel
theorem dX8_free_43 : decode cX8_free 43 = .ok (.invokevirtual 304, 3) := by decide +kernel
theorem dX8_free_46 : decode cX8_free 46 = .ok (.aload_n 0, 1) := by decide +kernel
theorem dX8_free_47 : decode cX8_free 47 = .ok (.getfield 61, 3) := by decide +kernel
theorem dX8_free_50 : decode cX8_free 50 = .ok (.iload_n 2, 1) := by decide +kernel
theorem dX8_free_51 : decode cX8_free 51 = .ok (.iaload, 1) := by decide +kernel
theorem dX8_free_52 : decode cX8_free 52 = .ok (.ireturn, 1) := by decide +kernel
theorem dX8_freeRange_0 : decode cX8_freeRange 0 = .ok (.iload_n 1, 1) := by decide +kernel
theorem dX8_freeRange_1 : decode cX8_freeRange 1 = .ok (.ifCond .lt 14, 3) := by decide +kernel
theorem dX8_freeRange_4 : decode cX8_freeRange 4 = .ok (.iload_n 1, 1) := by decide +kernel
theorem dX8_freeRange_5 : decode cX8_freeRange 5 = .ok (.aload_n 0, 1) := by decide +kernel
theorem dX8_freeRange_6 : decode cX8_freeRange 6 = .ok (.getfield 10, 3) := by decide +kernel
theorem dX8_freeRange_9 : decode cX8_freeRange 9 = .ok (.invokevirtual 299, 3) := by decide +kernel
theorem dX8_freeRange_12 : decode cX8_freeRange 12 = .ok (.if_icmp .lt 14, 3) := by decide +kernel
theorem dX8_freeRange_15 : decode cX8_freeRange 15 = .ok (.new 132, 3) := by decide +kernel
theorem dX8_freeRange_18 : decode cX8_freeRange 18 = .ok (.dup, 1) := by decide +kernel
theorem dX8_freeRange_19 : decode cX8_freeRange 19 = .ok (.ldc_w 308, 3) := by decide +kernel
theorem dX8_freeRange_22 : decode cX8_freeRange 22 = .ok (.invokespecial 136, 3) := by decide +kernel
theorem dX8_freeRange_25 : decode cX8_freeRange 25 = .ok (.athrow, 1) := by decide +kernel
theorem dX8_freeRange_26 : decode cX8_freeRange 26 = .ok (.aload_n 0, 1) := by decide +kernel
theorem dX8_freeRange_27 : decode cX8_freeRange 27 = .ok (.getfield 10, 3) := by decide +kernel
theorem dX8_freeRange_30 : decode cX8_freeRange 30 = .ok (.iload_n 1, 1) := by decide +kernel
theorem dX8_freeRange_31 : decode cX8_freeRange 31 = .ok (.aload_n 0, 1) := by decide +kernel
theorem dX8_freeRange_32 : decode cX8_freeRange 32 = .ok (.getfield 61, 3) := by decide +kernel
theorem dX8_freeRange_35 : decode cX8_freeRange 35 = .ok (.invokevirtual 304, 3) := by decide +kernel
theorem dX8_freeRange_38 : decode cX8_freeRange 38 = .ok (.aload_n 0, 1) := by decide +kernel
theorem dX8_freeRange_39 : decode cX8_freeRange 39 = .ok (.getfield 10, 3) := by decide +kernel
theorem dX8_freeRange_42 : decode cX8_freeRange 42 = .ok (.aload_n 0, 1) := by decide +kernel
theorem dX8_freeRange_43 : decode cX8_freeRange 43 = .ok (.getfield 61, 3) := by decide +kernel
theorem dX8_freeRange_46 : decode cX8_freeRange 46 = .ok (.aload_n 0, 1) := by decide +kernel
theorem dX8_freeRange_47 : decode cX8_freeRange 47 = .ok (.getfield 19, 3) := by decide +kernel
theorem dX8_freeRange_50 : decode cX8_freeRange 50 = .ok (.iconst (-1), 1) := by decide +kernel
theorem dX8_freeRange_51 : decode cX8_freeRange 51 = .ok (.iload_n 2, 1) := by decide +kernel
theorem dX8_freeRange_52 : decode cX8_freeRange 52 = .ok (.invokevirtual 199, 3) := by decide +kernel
theorem dX8_freeRange_55 : decode cX8_freeRange 55 = .ok (.l2i, 1) := by decide +kernel
theorem dX8_freeRange_56 : decode cX8_freeRange 56 = .ok (.ireturn, 1) := by decide +kernel
theorem dX8_runScript_0 : decode cX8_runScript 0 = .ok (.iload_n 1, 1) := by decide +kernel
theorem dX8_runScript_1 : decode cX8_runScript 1 = .ok (.iconst 1, 1) := by decide +kernel
theorem dX8_runScript_2 : decode cX8_runScript 2 = .ok (.if_icmp .lt 8, 3) := by decide +kernel
theorem dX8_runScript_5 : decode cX8_runScript 5 = .ok (.iload_n 1, 1) := by decide +kernel
theorem dX8_runScript_6 : decode cX8_runScript 6 = .ok (.iconst 4, 1) := by decide +kernel
theorem dX8_runScript_7 : decode cX8_runScript 7 = .ok (.if_icmp .le 14, 3) := by decide +kernel
theorem dX8_runScript_10 : decode cX8_runScript 10 = .ok (.new 65, 3) := by decide +kernel
theorem dX8_runScript_13 : decode cX8_runScript 13 = .ok (.dup, 1) := by decide +kernel
theorem dX8_runScript_14 : decode cX8_runScript 14 = .ok (.ldc_w 310, 3) := by decide +kernel
theorem dX8_runScript_17 : decode cX8_runScript 17 = .ok (.invokespecial 69, 3) := by decide +kernel
theorem dX8_runScript_20 : decode cX8_runScript 20 = .ok (.athrow, 1) := by decide +kernel
theorem dX8_runScript_21 : decode cX8_runScript 21 = .ok (.lconst 1, 1) := by decide +kernel
theorem dX8_runScript_22 : decode cX8_runScript 22 = .ok (.lstore 4, 2) := by decide +kernel
theorem dX8_runScript_24 : decode cX8_runScript 24 = .ok (.iconst 0, 1) := by decide +kernel
theorem dX8_runScript_25 : decode cX8_runScript 25 = .ok (.istore 6, 2) := by decide +kernel
theorem dX8_runScript_27 : decode cX8_runScript 27 = .ok (.iload 6, 2) := by decide +kernel
theorem dX8_runScript_29 : decode cX8_runScript 29 = .ok (.iload_n 1, 1) := by decide +kernel
theorem dX8_runScript_30 : decode cX8_runScript 30 = .ok (.if_icmp .ge 17, 3) := by decide +kernel
theorem dX8_runScript_33 : decode cX8_runScript 33 = .ok (.lload 4, 2) := by decide +kernel
theorem dX8_runScript_35 : decode cX8_runScript 35 = .ok (.ldc2_w 312, 3) := by decide +kernel
theorem dX8_runScript_38 : decode cX8_runScript 38 = .ok (.lmul, 1) := by decide +kernel
theorem dX8_runScript_39 : decode cX8_runScript 39 = .ok (.lstore 4, 2) := by decide +kernel
theorem dX8_runScript_41 : decode cX8_runScript 41 = .ok (.iinc 6 1, 3) := by decide +kernel
theorem dX8_runScript_44 : decode cX8_runScript 44 = .ok (.goto (-17), 3) := by decide +kernel
theorem dX8_runScript_47 : decode cX8_runScript 47 = .ok (.lload_n 2, 1) := by decide +kernel
theorem dX8_runScript_48 : decode cX8_runScript 48 = .ok (.lconst 0, 1) := by decide +kernel
theorem dX8_runScript_49 : decode cX8_runScript 49 = .ok (.lcmp, 1) := by decide +kernel
theorem dX8_runScript_50 : decode cX8_runScript 50 = .ok (.ifCond .lt 10, 3) := by decide +kernel
theorem dX8_runScript_53 : decode cX8_runScript 53 = .ok (.lload_n 2, 1) := by decide +kernel
theorem dX8_runScript_54 : decode cX8_runScript 54 = .ok (.lload 4, 2) := by decide +kernel
theorem dX8_runScript_56 : decode cX8_runScript 56 = .ok (.lcmp, 1) := by decide +kernel
theorem dX8_runScript_57 : decode cX8_runScript 57 = .ok (.ifCond .lt 14, 3) := by decide +kernel
theorem dX8_runScript_60 : decode cX8_runScript 60 = .ok (.new 65, 3) := by decide +kernel
theorem dX8_runScript_63 : decode cX8_runScript 63 = .ok (.dup, 1) := by decide +kernel
theorem dX8_runScript_64 : decode cX8_runScript 64 = .ok (.ldc_w 314, 3) := by decide +kernel
theorem dX8_runScript_67 : decode cX8_runScript 67 = .ok (.invokespecial 69, 3) := by decide +kernel
theorem dX8_runScript_70 : decode cX8_runScript 70 = .ok (.athrow, 1) := by decide +kernel
theorem dX8_runScript_71 : decode cX8_runScript 71 = .ok (.lload_n 2, 1) := by decide +kernel
theorem dX8_runScript_72 : decode cX8_runScript 72 = .ok (.lstore 6, 2) := by decide +kernel
theorem dX8_runScript_74 : decode cX8_runScript 74 = .ok (.iload_n 1, 1) := by decide +kernel
theorem dX8_runScript_75 : decode cX8_runScript 75 = .ok (.istore 8, 2) := by decide +kernel
theorem dX8_runScript_77 : decode cX8_runScript 77 = .ok (.iload 8, 2) := by decide +kernel
theorem dX8_runScript_79 : decode cX8_runScript 79 = .ok (.iconst 4, 1) := by decide +kernel
theorem dX8_runScript_80 : decode cX8_runScript 80 = .ok (.if_icmp .ge 17, 3) := by decide +kernel
theorem dX8_runScript_83 : decode cX8_runScript 83 = .ok (.lload 6, 2) := by decide +kernel
theorem dX8_runScript_85 : decode cX8_runScript 85 = .ok (.ldc2_w 312, 3) := by decide +kernel
theorem dX8_runScript_88 : decode cX8_runScript 88 = .ok (.lmul, 1) := by decide +kernel
theorem dX8_runScript_89 : decode cX8_runScript 89 = .ok (.lstore 6, 2) := by decide +kernel
theorem dX8_runScript_91 : decode cX8_runScript 91 = .ok (.iinc 8 1, 3) := by decide +kernel
theorem dX8_runScript_94 : decode cX8_runScript 94 = .ok (.goto (-17), 3) := by decide +kernel
theorem dX8_runScript_97 : decode cX8_runScript 97 = .ok (.aload_n 0, 1) := by decide +kernel
theorem dX8_runScript_98 : decode cX8_runScript 98 = .ok (.getfield 23, 3) := by decide +kernel
theorem dX8_runScript_101 : decode cX8_runScript 101 = .ok (.aload_n 0, 1) := by decide +kernel
theorem dX8_runScript_102 : decode cX8_runScript 102 = .ok (.getfield 19, 3) := by decide +kernel
theorem dX8_runScript_105 : decode cX8_runScript 105 = .ok (.invokevirtual 99, 3) := by decide +kernel
theorem dX8_runScript_108 : decode cX8_runScript 108 = .ok (.iconst 0, 1) := by decide +kernel
theorem dX8_runScript_109 : decode cX8_runScript 109 = .ok (.istore 8, 2) := by decide +kernel
theorem dX8_runScript_111 : decode cX8_runScript 111 = .ok (.iload 8, 2) := by decide +kernel
theorem dX8_runScript_113 : decode cX8_runScript 113 = .ok (.iload_n 1, 1) := by decide +kernel
theorem dX8_runScript_114 : decode cX8_runScript 114 = .ok (.if_icmp .ge 38, 3) := by decide +kernel
theorem dX8_runScript_117 : decode cX8_runScript 117 = .ok (.aload_n 0, 1) := by decide +kernel
theorem dX8_runScript_118 : decode cX8_runScript 118 = .ok (.lload 6, 2) := by decide +kernel
theorem dX8_runScript_120 : decode cX8_runScript 120 = .ok (.ldc2_w 316, 3) := by decide +kernel
theorem dX8_runScript_123 : decode cX8_runScript 123 = .ok (.ldiv, 1) := by decide +kernel
theorem dX8_runScript_124 : decode cX8_runScript 124 = .ok (.l2i, 1) := by decide +kernel
theorem dX8_runScript_125 : decode cX8_runScript 125 = .ok (.invokevirtual 318, 3) := by decide +kernel
theorem dX8_runScript_128 : decode cX8_runScript 128 = .ok (.ifCond .ne 6, 3) := by decide +kernel
theorem dX8_runScript_131 : decode cX8_runScript 131 = .ok (.iload 8, 2) := by decide +kernel
theorem dX8_runScript_133 : decode cX8_runScript 133 = .ok (.ireturn, 1) := by decide +kernel
theorem dX8_runScript_134 : decode cX8_runScript 134 = .ok (.lload 6, 2) := by decide +kernel
theorem dX8_runScript_136 : decode cX8_runScript 136 = .ok (.ldc2_w 316, 3) := by decide +kernel
theorem dX8_runScript_139 : decode cX8_runScript 139 = .ok (.lrem, 1) := by decide +kernel
theorem dX8_runScript_140 : decode cX8_runScript 140 = .ok (.ldc2_w 312, 3) := by decide +kernel
theorem dX8_runScript_143 : decode cX8_runScript 143 = .ok (.lmul, 1) := by decide +kernel
theorem dX8_runScript_144 : decode cX8_runScript 144 = .ok (.lstore 6, 2) := by decide +kernel
theorem dX8_runScript_146 : decode cX8_runScript 146 = .ok (.iinc 8 1, 3) := by decide +kernel
theorem dX8_runScript_149 : decode cX8_runScript 149 = .ok (.goto (-38), 3) := by decide +kernel
theorem dX8_runScript_152 : decode cX8_runScript 152 = .ok (.bipush (-9), 2) := by decide +kernel
theorem dX8_runScript_154 : decode cX8_runScript 154 = .ok (.ireturn, 1) := by decide +kernel
theorem dX8_simulate_0 : decode cX8_simulate 0 = .ok (.iload_n 3, 1) := by decide +kernel
theorem dX8_simulate_1 : decode cX8_simulate 1 = .ok (.iconst 1, 1) := by decide +kernel
theorem dX8_simulate_2 : decode cX8_simulate 2 = .ok (.if_icmp .lt 9, 3) := by decide +kernel
theorem dX8_simulate_5 : decode cX8_simulate 5 = .ok (.iload_n 3, 1) := by decide +kernel
theorem dX8_simulate_6 : decode cX8_simulate 6 = .ok (.bipush 100, 2) := by decide +kernel
theorem dX8_simulate_8 : decode cX8_simulate 8 = .ok (.if_icmp .le 14, 3) := by decide +kernel
theorem dX8_simulate_11 : decode cX8_simulate 11 = .ok (.new 65, 3) := by decide +kernel
theorem dX8_simulate_14 : decode cX8_simulate 14 = .ok (.dup, 1) := by decide +kernel
theorem dX8_simulate_15 : decode cX8_simulate 15 = .ok (.ldc_w 321, 3) := by decide +kernel
theorem dX8_simulate_18 : decode cX8_simulate 18 = .ok (.invokespecial 69, 3) := by decide +kernel
theorem dX8_simulate_21 : decode cX8_simulate 21 = .ok (.athrow, 1) := by decide +kernel
theorem dX8_simulate_22 : decode cX8_simulate 22 = .ok (.aload_n 0, 1) := by decide +kernel
theorem dX8_simulate_23 : decode cX8_simulate 23 = .ok (.getfield 23, 3) := by decide +kernel
theorem dX8_simulate_26 : decode cX8_simulate 26 = .ok (.aload_n 0, 1) := by decide +kernel
theorem dX8_simulate_27 : decode cX8_simulate 27 = .ok (.getfield 19, 3) := by decide +kernel
theorem dX8_simulate_30 : decode cX8_simulate 30 = .ok (.invokevirtual 99, 3) := by decide +kernel
theorem dX8_simulate_33 : decode cX8_simulate 33 = .ok (.lload_n 1, 1) := by decide +kernel
theorem dX8_simulate_34 : decode cX8_simulate 34 = .ok (.lstore 4, 2) := by decide +kernel
theorem dX8_simulate_36 : decode cX8_simulate 36 = .ok (.lconst 0, 1) := by decide +kernel
theorem dX8_simulate_37 : decode cX8_simulate 37 = .ok (.lstore 6, 2) := by decide +kernel
theorem dX8_simulate_39 : decode cX8_simulate 39 = .ok (.iconst 0, 1) := by decide +kernel
theorem dX8_simulate_40 : decode cX8_simulate 40 = .ok (.istore 8, 2) := by decide +kernel
theorem dX8_simulate_42 : decode cX8_simulate 42 = .ok (.iload 8, 2) := by decide +kernel
theorem dX8_simulate_44 : decode cX8_simulate 44 = .ok (.iload_n 3, 1) := by decide +kernel
theorem dX8_simulate_45 : decode cX8_simulate 45 = .ok (.if_icmp .ge 142, 3) := by decide +kernel
theorem dX8_simulate_48 : decode cX8_simulate 48 = .ok (.lload 4, 2) := by decide +kernel
theorem dX8_simulate_50 : decode cX8_simulate 50 = .ok (.ldc2_w 323, 3) := by decide +kernel
theorem dX8_simulate_53 : decode cX8_simulate 53 = .ok (.lmul, 1) := by decide +kernel
theorem dX8_simulate_54 : decode cX8_simulate 54 = .ok (.ldc2_w 325, 3) := by decide +kernel
theorem dX8_simulate_57 : decode cX8_simulate 57 = .ok (.ladd, 1) := by decide +kernel
theorem dX8_simulate_58 : decode cX8_simulate 58 = .ok (.lstore 4, 2) := by decide +kernel
theorem dX8_simulate_60 : decode cX8_simulate 60 = .ok (.lload 4, 2) := by decide +kernel
theorem dX8_simulate_62 : decode cX8_simulate 62 = .ok (.bipush 33, 2) := by decide +kernel
theorem dX8_simulate_64 : decode cX8_simulate 64 = .ok (.lushr, 1) := by decide +kernel
theorem dX8_simulate_65 : decode cX8_simulate 65 = .ok (.l2i, 1) := by decide +kernel
theorem dX8_simulate_66 : decode cX8_simulate 66 = .ok (.istore 9, 2) := by decide +kernel
theorem dX8_simulate_68 : decode cX8_simulate 68 = .ok (.iload 9, 2) := by decide +kernel
theorem dX8_simulate_70 : decode cX8_simulate 70 = .ok (.bipush 32, 2) := by decide +kernel
theorem dX8_simulate_72 : decode cX8_simulate 72 = .ok (.idiv, 1) := by decide +kernel
theorem dX8_simulate_73 : decode cX8_simulate 73 = .ok (.iconst 2, 1) := by decide +kernel
theorem dX8_simulate_74 : decode cX8_simulate 74 = .ok (.aload_n 0, 1) := by decide +kernel
theorem dX8_simulate_75 : decode cX8_simulate 75 = .ok (.getfield 23, 3) := by decide +kernel
theorem dX8_simulate_78 : decode cX8_simulate 78 = .ok (.getfield 112, 3) := by decide +kernel
theorem dX8_simulate_81 : decode cX8_simulate 81 = .ok (.imul, 1) := by decide +kernel
theorem dX8_simulate_82 : decode cX8_simulate 82 = .ok (.iconst 1, 1) := by decide +kernel
theorem dX8_simulate_83 : decode cX8_simulate 83 = .ok (.iadd, 1) := by decide +kernel
theorem dX8_simulate_84 : decode cX8_simulate 84 = .ok (.invokestatic 327, 3) := by decide +kernel
theorem dX8_simulate_87 : decode cX8_simulate 87 = .ok (.aload_n 0, 1) := by decide +kernel
theorem dX8_simulate_88 : decode cX8_simulate 88 = .ok (.getfield 23, 3) := by decide +kernel
theorem dX8_simulate_91 : decode cX8_simulate 91 = .ok (.getfield 112, 3) := by decide +kernel
theorem dX8_simulate_94 : decode cX8_simulate 94 = .ok (.isub, 1) := by decide +kernel
theorem dX8_simulate_95 : decode cX8_simulate 95 = .ok (.istore 10, 2) := by decide +kernel
theorem dX8_simulate_97 : decode cX8_simulate 97 = .ok (.aload_n 0, 1) := by decide +kernel
theorem dX8_simulate_98 : decode cX8_simulate 98 = .ok (.getfield 50, 3) := by decide +kernel
theorem dX8_simulate_101 : decode cX8_simulate 101 = .ok (.aload_n 0, 1) := by decide +kernel
theorem dX8_simulate_102 : decode cX8_simulate 102 = .ok (.getfield 10, 3) := by decide +kernel
theorem dX8_simulate_105 : decode cX8_simulate 105 = .ok (.aload_n 0, 1) := by decide +kernel
theorem dX8_simulate_106 : decode cX8_simulate 106 = .ok (.getfield 23, 3) := by decide +kernel
theorem dX8_simulate_109 : decode cX8_simulate 109 = .ok (.iload 9, 2) := by decide +kernel
theorem dX8_simulate_111 : decode cX8_simulate 111 = .ok (.bipush 21, 2) := by decide +kernel
theorem dX8_simulate_113 : decode cX8_simulate 113 = .ok (.irem, 1) := by decide +kernel
theorem dX8_simulate_114 : decode cX8_simulate 114 = .ok (.bipush 10, 2) := by decide +kernel
theorem dX8_simulate_116 : decode cX8_simulate 116 = .ok (.isub, 1) := by decide +kernel
theorem dX8_simulate_117 : decode cX8_simulate 117 = .ok (.iload 10, 2) := by decide +kernel
theorem dX8_simulate_119 : decode cX8_simulate 119 = .ok (.invokevirtual 229, 3) := by decide +kernel
theorem dX8_simulate_122 : decode cX8_simulate 122 = .ok (.iload 9, 2) := by decide +kernel
theorem dX8_simulate_124 : decode cX8_simulate 124 = .ok (.sipush 8192, 3) := by decide +kernel
theorem dX8_simulate_127 : decode cX8_simulate 127 = .ok (.idiv, 1) := by decide +kernel
theorem dX8_simulate_128 : decode cX8_simulate 128 = .ok (.iconst 4, 1) := by decide +kernel
theorem dX8_simulate_129 : decode cX8_simulate 129 = .ok (.irem, 1) := by decide +kernel
theorem dX8_simulate_130 : decode cX8_simulate 130 = .ok (.ifCond .eq 34, 3) := by decide +kernel
theorem dX8_simulate_133 : decode cX8_simulate 133 = .ok (.aload_n 0, 1) := by decide +kernel
theorem dX8_simulate_134 : decode cX8_simulate 134 = .ok (.getfield 50, 3) := by decide +kernel
theorem dX8_simulate_137 : decode cX8_simulate 137 = .ok (.aload_n 0, 1) := by decide +kernel
theorem dX8_simulate_138 : decode cX8_simulate 138 = .ok (.getfield 10, 3) := by decide +kernel
theorem dX8_simulate_141 : decode cX8_simulate 141 = .ok (.aload_n 0, 1) := by decide +kernel
theorem dX8_simulate_142 : decode cX8_simulate 142 = .ok (.getfield 23, 3) := by decide +kernel
theorem dX8_simulate_145 : decode cX8_simulate 145 = .ok (.iload 9, 2) := by decide +kernel
theorem dX8_simulate_147 : decode cX8_simulate 147 = .ok (.ldc_w 330, 3) := by decide +kernel
theorem dX8_simulate_150 : decode cX8_simulate 150 = .ok (.idiv, 1) := by decide +kernel
theorem dX8_simulate_151 : decode cX8_simulate 151 = .ok (.aload_n 0, 1) := by decide +kernel
theorem dX8_simulate_152 : decode cX8_simulate 152 = .ok (.getfield 10, 3) := by decide +kernel
theorem dX8_simulate_155 : decode cX8_simulate 155 = .ok (.getfield 109, 3) := by decide +kernel
theorem dX8_simulate_158 : decode cX8_simulate 158 = .ok (.invokestatic 327, 3) := by decide +kernel
theorem dX8_simulate_161 : decode cX8_simulate 161 = .ok (.invokevirtual 233, 3) := by decide +kernel
theorem dX8_simulate_164 : decode cX8_simulate 164 = .ok (.lload 6, 2) := by decide +kernel
theorem dX8_simulate_166 : decode cX8_simulate 166 = .ok (.aload_n 0, 1) := by decide +kernel
theorem dX8_simulate_167 : decode cX8_simulate 167 = .ok (.getfield 10, 3) := by decide +kernel
theorem dX8_simulate_170 : decode cX8_simulate 170 = .ok (.aload_n 0, 1) := by decide +kernel
theorem dX8_simulate_171 : decode cX8_simulate 171 = .ok (.getfield 23, 3) := by decide +kernel
theorem dX8_simulate_174 : decode cX8_simulate 174 = .ok (.invokevirtual 207, 3) := by decide +kernel
theorem dX8_simulate_177 : decode cX8_simulate 177 = .ok (.i2l, 1) := by decide +kernel
theorem dX8_simulate_178 : decode cX8_simulate 178 = .ok (.ladd, 1) := by decide +kernel
theorem dX8_simulate_179 : decode cX8_simulate 179 = .ok (.lstore 6, 2) := by decide +kernel
theorem dX8_simulate_181 : decode cX8_simulate 181 = .ok (.iinc 8 1, 3) := by decide +kernel
theorem dX8_simulate_184 : decode cX8_simulate 184 = .ok (.goto (-142), 3) := by decide +kernel
theorem dX8_simulate_187 : decode cX8_simulate 187 = .ok (.lload 6, 2) := by decide +kernel
theorem dX8_simulate_189 : decode cX8_simulate 189 = .ok (.lreturn, 1) := by decide +kernel
theorem dX8_save_0 : decode cX8_save 0 = .ok (.iload_n 1, 1) := by decide +kernel
theorem dX8_save_1 : decode cX8_save 1 = .ok (.ifCond .lt 8, 3) := by decide +kernel
theorem dX8_save_4 : decode cX8_save 4 = .ok (.iload_n 1, 1) := by decide +kernel
theorem dX8_save_5 : decode cX8_save 5 = .ok (.iconst 2, 1) := by decide +kernel
theorem dX8_save_6 : decode cX8_save 6 = .ok (.if_icmp .lt 14, 3) := by decide +kernel
theorem dX8_save_9 : decode cX8_save 9 = .ok (.new 132, 3) := by decide +kernel
theorem dX8_save_12 : decode cX8_save 12 = .ok (.dup, 1) := by decide +kernel
theorem dX8_save_13 : decode cX8_save 13 = .ok (.ldc_w 331, 3) := by decide +kernel
theorem dX8_save_16 : decode cX8_save 16 = .ok (.invokespecial 136, 3) := by decide +kernel
theorem dX8_save_19 : decode cX8_save 19 = .ok (.athrow, 1) := by decide +kernel
theorem dX8_save_20 : decode cX8_save 20 = .ok (.aload_n 0, 1) := by decide +kernel
theorem dX8_save_21 : decode cX8_save 21 = .ok (.getfield 36, 3) := by decide +kernel
theorem dX8_save_24 : decode cX8_save 24 = .ok (.getfield 333, 3) := by decide +kernel
theorem dX8_save_27 : decode cX8_save 27 = .ok (.iload_n 1, 1) := by decide +kernel
theorem dX8_save_28 : decode cX8_save 28 = .ok (.aaload, 1) := by decide +kernel
theorem dX8_save_29 : decode cX8_save 29 = .ok (.aload_n 0, 1) := by decide +kernel
theorem dX8_save_30 : decode cX8_save 30 = .ok (.getfield 19, 3) := by decide +kernel
theorem dX8_save_33 : decode cX8_save 33 = .ok (.invokevirtual 99, 3) := by decide +kernel
theorem dX8_save_36 : decode cX8_save 36 = .ok (.aload_n 0, 1) := by decide +kernel
theorem dX8_save_37 : decode cX8_save 37 = .ok (.getfield 36, 3) := by decide +kernel
theorem dX8_save_40 : decode cX8_save 40 = .ok (.getfield 337, 3) := by decide +kernel
theorem dX8_save_43 : decode cX8_save 43 = .ok (.iload_n 1, 1) := by decide +kernel
theorem dX8_save_44 : decode cX8_save 44 = .ok (.iconst 1, 1) := by decide +kernel
theorem dX8_save_45 : decode cX8_save 45 = .ok (.bastore, 1) := by decide +kernel
theorem dX8_save_46 : decode cX8_save 46 = .ok (.aload_n 0, 1) := by decide +kernel
theorem dX8_save_47 : decode cX8_save 47 = .ok (.getfield 19, 3) := by decide +kernel
theorem dX8_save_50 : decode cX8_save 50 = .ok (.getfield 118, 3) := by decide +kernel
theorem dX8_save_53 : decode cX8_save 53 = .ok (.ireturn, 1) := by decide +kernel
theorem dX8_restore_0 : decode cX8_restore 0 = .ok (.iload_n 1, 1) := by decide +kernel
theorem dX8_restore_1 : decode cX8_restore 1 = .ok (.ifCond .lt 8, 3) := by decide +kernel
theorem dX8_restore_4 : decode cX8_restore 4 = .ok (.iload_n 1, 1) := by decide +kernel
theorem dX8_restore_5 : decode cX8_restore 5 = .ok (.iconst 2, 1) := by decide +kernel
theorem dX8_restore_6 : decode cX8_restore 6 = .ok (.if_icmp .lt 14, 3) := by decide +kernel
theorem dX8_restore_9 : decode cX8_restore 9 = .ok (.new 132, 3) := by decide +kernel
theorem dX8_restore_12 : decode cX8_restore 12 = .ok (.dup, 1) := by decide +kernel
theorem dX8_restore_13 : decode cX8_restore 13 = .ok (.ldc_w 331, 3) := by decide +kernel
theorem dX8_restore_16 : decode cX8_restore 16 = .ok (.invokespecial 136, 3) := by decide +kernel
theorem dX8_restore_19 : decode cX8_restore 19 = .ok (.athrow, 1) := by decide +kernel
theorem dX8_restore_20 : decode cX8_restore 20 = .ok (.aload_n 0, 1) := by decide +kernel
theorem dX8_restore_21 : decode cX8_restore 21 = .ok (.getfield 36, 3) := by decide +kernel
theorem dX8_restore_24 : decode cX8_restore 24 = .ok (.getfield 337, 3) := by decide +kernel
theorem dX8_restore_27 : decode cX8_restore 27 = .ok (.iload_n 1, 1) := by decide +kernel
theorem dX8_restore_28 : decode cX8_restore 28 = .ok (.baload, 1) := by decide +kernel
theorem dX8_restore_29 : decode cX8_restore 29 = .ok (.ifCond .ne 14, 3) := by decide +kernel
theorem dX8_restore_32 : decode cX8_restore 32 = .ok (.new 76, 3) := by decide +kernel
theorem dX8_restore_35 : decode cX8_restore 35 = .ok (.dup, 1) := by decide +kernel
theorem dX8_restore_36 : decode cX8_restore 36 = .ok (.ldc_w 341, 3) := by decide +kernel
theorem dX8_restore_39 : decode cX8_restore 39 = .ok (.invokespecial 80, 3) := by decide +kernel
theorem dX8_restore_42 : decode cX8_restore 42 = .ok (.athrow, 1) := by decide +kernel
theorem dX8_restore_43 : decode cX8_restore 43 = .ok (.aload_n 0, 1) := by decide +kernel
theorem dX8_restore_44 : decode cX8_restore 44 = .ok (.getfield 19, 3) := by decide +kernel
theorem dX8_restore_47 : decode cX8_restore 47 = .ok (.aload_n 0, 1) := by decide +kernel
theorem dX8_restore_48 : decode cX8_restore 48 = .ok (.getfield 36, 3) := by decide +kernel
theorem dX8_restore_51 : decode cX8_restore 51 = .ok (.getfield 333, 3) := by decide +kernel
theorem dX8_restore_54 : decode cX8_restore 54 = .ok (.iload_n 1, 1) := by decide +kernel
theorem dX8_restore_55 : decode cX8_restore 55 = .ok (.aaload, 1) := by decide +kernel
theorem dX8_restore_56 : decode cX8_restore 56 = .ok (.invokevirtual 99, 3) := by decide +kernel
theorem dX8_restore_59 : decode cX8_restore 59 = .ok (.aload_n 0, 1) := by decide +kernel
theorem dX8_restore_60 : decode cX8_restore 60 = .ok (.getfield 29, 3) := by decide +kernel
theorem dX8_restore_63 : decode cX8_restore 63 = .ok (.invokevirtual 102, 3) := by decide +kernel
theorem dX8_restore_66 : decode cX8_restore 66 = .ok (.aload_n 0, 1) := by decide +kernel
theorem dX8_restore_67 : decode cX8_restore 67 = .ok (.getfield 19, 3) := by decide +kernel
theorem dX8_restore_70 : decode cX8_restore 70 = .ok (.getfield 118, 3) := by decide +kernel
theorem dX8_restore_73 : decode cX8_restore 73 = .ok (.ireturn, 1) := by decide +kernel
theorem dX8_isState_0 : decode cX8_isState 0 = .ok (.iload_n 1, 1) := by decide +kernel
theorem dX8_isState_1 : decode cX8_isState 1 = .ok (.ifCond .lt 18, 3) := by decide +kernel
theorem dX8_isState_4 : decode cX8_isState 4 = .ok (.iload_n 1, 1) := by decide +kernel
theorem dX8_isState_5 : decode cX8_isState 5 = .ok (.aload_n 0, 1) := by decide +kernel
theorem dX8_isState_6 : decode cX8_isState 6 = .ok (.getfield 10, 3) := by decide +kernel
theorem dX8_isState_9 : decode cX8_isState 9 = .ok (.getfield 106, 3) := by decide +kernel
theorem dX8_isState_12 : decode cX8_isState 12 = .ok (.if_icmp .ge 7, 3) := by decide +kernel
theorem dX8_isState_15 : decode cX8_isState 15 = .ok (.iconst 1, 1) := by decide +kernel
theorem dX8_isState_16 : decode cX8_isState 16 = .ok (.goto 4, 3) := by decide +kernel
theorem dX8_isState_19 : decode cX8_isState 19 = .ok (.iconst 0, 1) := by decide +kernel
theorem dX8_isState_20 : decode cX8_isState 20 = .ok (.ireturn, 1) := by decide +kernel
theorem dX8_isOutput_0 : decode cX8_isOutput 0 = .ok (.iload_n 1, 1) := by decide +kernel
theorem dX8_isOutput_1 : decode cX8_isOutput 1 = .ok (.ifCond .lt 18, 3) := by decide +kernel
theorem dX8_isOutput_4 : decode cX8_isOutput 4 = .ok (.iload_n 1, 1) := by decide +kernel
theorem dX8_isOutput_5 : decode cX8_isOutput 5 = .ok (.aload_n 0, 1) := by decide +kernel
theorem dX8_isOutput_6 : decode cX8_isOutput 6 = .ok (.getfield 10, 3) := by decide +kernel
theorem dX8_isOutput_9 : decode cX8_isOutput 9 = .ok (.getfield 109, 3) := by decide +kernel
theorem dX8_isOutput_12 : decode cX8_isOutput 12 = .ok (.if_icmp .ge 7, 3) := by decide +kernel
theorem dX8_isOutput_15 : decode cX8_isOutput 15 = .ok (.iconst 1, 1) := by decide +kernel
theorem dX8_isOutput_16 : decode cX8_isOutput 16 = .ok (.goto 4, 3) := by decide +kernel
theorem dX8_isOutput_19 : decode cX8_isOutput 19 = .ok (.iconst 0, 1) := by decide +kernel
theorem dX8_isOutput_20 : decode cX8_isOutput 20 = .ok (.ireturn, 1) := by decide +kernel
theorem dX8_isFactor_0 : decode cX8_isFactor 0 = .ok (.iload_n 0, 1) := by decide +kernel
theorem dX8_isFactor_1 : decode cX8_isFactor 1 = .ok (.bipush (-99), 2) := by decide +kernel
theorem dX8_isFactor_3 : decode cX8_isFactor 3 = .ok (.if_icmp .lt 13, 3) := by decide +kernel
theorem dX8_isFactor_6 : decode cX8_isFactor 6 = .ok (.iload_n 0, 1) := by decide +kernel
theorem dX8_isFactor_7 : decode cX8_isFactor 7 = .ok (.bipush 99, 2) := by decide +kernel
theorem dX8_isFactor_9 : decode cX8_isFactor 9 = .ok (.if_icmp .gt 7, 3) := by decide +kernel
theorem dX8_isFactor_12 : decode cX8_isFactor 12 = .ok (.iconst 1, 1) := by decide +kernel
theorem dX8_isFactor_13 : decode cX8_isFactor 13 = .ok (.goto 4, 3) := by decide +kernel
theorem dX8_isFactor_16 : decode cX8_isFactor 16 = .ok (.iconst 0, 1) := by decide +kernel
theorem dX8_isFactor_17 : decode cX8_isFactor 17 = .ok (.ireturn, 1) := by decide +kernel
theorem dX8_columnsOf_0 : decode cX8_columnsOf 0 = .ok (.iload_n 1, 1) := by decide +kernel
theorem dX8_columnsOf_1 : decode cX8_columnsOf 1 = .ok (.ifCond .eq 8, 3) := by decide +kernel
theorem dX8_columnsOf_4 : decode cX8_columnsOf 4 = .ok (.iload_n 1, 1) := by decide +kernel
theorem dX8_columnsOf_5 : decode cX8_columnsOf 5 = .ok (.iconst 3, 1) := by decide +kernel
theorem dX8_columnsOf_6 : decode cX8_columnsOf 6 = .ok (.if_icmp .ne 11, 3) := by decide +kernel
theorem dX8_columnsOf_9 : decode cX8_columnsOf 9 = .ok (.aload_n 0, 1) := by decide +kernel
theorem dX8_columnsOf_10 : decode cX8_columnsOf 10 = .ok (.getfield 10, 3) := by decide +kernel
theorem dX8_columnsOf_13 : decode cX8_columnsOf 13 = .ok (.getfield 106, 3) := by decide +kernel
theorem dX8_columnsOf_16 : decode cX8_columnsOf 16 = .ok (.ireturn, 1) := by decide +kernel
theorem dX8_columnsOf_17 : decode cX8_columnsOf 17 = .ok (.iload_n 1, 1) := by decide +kernel
theorem dX8_columnsOf_18 : decode cX8_columnsOf 18 = .ok (.iconst 5, 1) := by decide +kernel
theorem dX8_columnsOf_19 : decode cX8_columnsOf 19 = .ok (.if_icmp .ne 13, 3) := by decide +kernel
theorem dX8_columnsOf_22 : decode cX8_columnsOf 22 = .ok (.aload_n 0, 1) := by decide +kernel
theorem dX8_columnsOf_23 : decode cX8_columnsOf 23 = .ok (.getfield 10, 3) := by decide +kernel
theorem dX8_columnsOf_26 : decode cX8_columnsOf 26 = .ok (.getfield 109, 3) := by decide +kernel
theorem dX8_columnsOf_29 : decode cX8_columnsOf 29 = .ok (.goto 4, 3) := by decide +kernel
theorem dX8_columnsOf_32 : decode cX8_columnsOf 32 = .ok (.iconst 1, 1) := by decide +kernel
theorem dX8_columnsOf_33 : decode cX8_columnsOf 33 = .ok (.ireturn, 1) := by decide +kernel
theorem dX8_cannotHave_0 : decode cX8_cannotHave 0 = .ok (.aload_n 0, 1) := by decide +kernel
theorem dX8_cannotHave_1 : decode cX8_cannotHave 1 = .ok (.getfield 23, 3) := by decide +kernel
theorem dX8_cannotHave_4 : decode cX8_cannotHave 4 = .ok (.aload_n 0, 1) := by decide +kernel
theorem dX8_cannotHave_5 : decode cX8_cannotHave 5 = .ok (.getfield 19, 3) := by decide +kernel
theorem dX8_cannotHave_8 : decode cX8_cannotHave 8 = .ok (.invokevirtual 99, 3) := by decide +kernel
theorem dX8_cannotHave_11 : decode cX8_cannotHave 11 = .ok (.aload_n 0, 1) := by decide +kernel
theorem dX8_cannotHave_12 : decode cX8_cannotHave 12 = .ok (.getfield 23, 3) := by decide +kernel
theorem dX8_cannotHave_15 : decode cX8_cannotHave 15 = .ok (.getfield 167, 3) := by decide +kernel
theorem dX8_cannotHave_18 : decode cX8_cannotHave 18 = .ok (.iload_n 1, 1) := by decide +kernel
theorem dX8_cannotHave_19 : decode cX8_cannotHave 19 = .ok (.iload_n 2, 1) := by decide +kernel
theorem dX8_cannotHave_20 : decode cX8_cannotHave 20 = .ok (.iastore, 1) := by decide +kernel
theorem dX8_cannotHave_21 : decode cX8_cannotHave 21 = .ok (.aload_n 0, 1) := by decide +kernel
theorem dX8_cannotHave_22 : decode cX8_cannotHave 22 = .ok (.getfield 23, 3) := by decide +kernel
theorem dX8_cannotHave_25 : decode cX8_cannotHave 25 = .ok (.getfield 170, 3) := by decide +kernel
theorem dX8_cannotHave_28 : decode cX8_cannotHave 28 = .ok (.iload_n 1, 1) := by decide +kernel
theorem dX8_cannotHave_29 : decode cX8_cannotHave 29 = .ok (.iload_n 2, 1) := by decide +kernel
theorem dX8_cannotHave_30 : decode cX8_cannotHave 30 = .ok (.iastore, 1) := by decide +kernel
theorem dX8_cannotHave_31 : decode cX8_cannotHave 31 = .ok (.aload_n 0, 1) := by decide +kernel
theorem dX8_cannotHave_32 : decode cX8_cannotHave 32 = .ok (.getfield 50, 3) := by decide +kernel
theorem dX8_cannotHave_35 : decode cX8_cannotHave 35 = .ok (.aload_n 0, 1) := by decide +kernel
theorem dX8_cannotHave_36 : decode cX8_cannotHave 36 = .ok (.getfield 10, 3) := by decide +kernel
theorem dX8_cannotHave_39 : decode cX8_cannotHave 39 = .ok (.aload_n 0, 1) := by decide +kernel
theorem dX8_cannotHave_40 : decode cX8_cannotHave 40 = .ok (.getfield 23, 3) := by decide +kernel
theorem dX8_cannotHave_43 : decode cX8_cannotHave 43 = .ok (.invokevirtual 265, 3) := by decide +kernel
theorem dX8_cannotHave_46 : decode cX8_cannotHave 46 = .ok (.ifCond .ne 7, 3) := by decide +kernel
theorem dX8_cannotHave_49 : decode cX8_cannotHave 49 = .ok (.iconst 1, 1) := by decide +kernel
theorem dX8_cannotHave_50 : decode cX8_cannotHave 50 = .ok (.goto 4, 3) := by decide +kernel
theorem dX8_cannotHave_53 : decode cX8_cannotHave 53 = .ok (.iconst 0, 1) := by decide +kernel
theorem dX8_cannotHave_54 : decode cX8_cannotHave 54 = .ok (.ireturn, 1) := by decide +kernel
theorem dX8_succeeds_0 : decode cX8_succeeds 0 = .ok (.iload_n 1, 1) := by decide +kernel
theorem dX8_succeeds_1 : decode cX8_succeeds 1 = .ok (.bipush 100, 2) := by decide +kernel
theorem dX8_succeeds_3 : decode cX8_succeeds 3 = .ok (.idiv, 1) := by decide +kernel
theorem dX8_succeeds_4 : decode cX8_succeeds 4 = .ok (.bipush 10, 2) := by decide +kernel
theorem dX8_succeeds_6 : decode cX8_succeeds 6 = .ok (.irem, 1) := by decide +kernel
theorem dX8_succeeds_7 : decode cX8_succeeds 7 = .ok (.istore_n 2, 1) := by decide +kernel
theorem dX8_succeeds_8 : decode cX8_succeeds 8 = .ok (.iload_n 1, 1) := by decide +kernel
theorem dX8_succeeds_9 : decode cX8_succeeds 9 = .ok (.bipush 100, 2) := by decide +kernel
theorem dX8_succeeds_11 : decode cX8_succeeds 11 = .ok (.irem, 1) := by decide +kernel
theorem dX8_succeeds_12 : decode cX8_succeeds 12 = .ok (.istore_n 3, 1) := by decide +kernel
theorem dX8_succeeds_13 : decode cX8_succeeds 13 = .ok (.iload_n 1, 1) := by decide +kernel
theorem dX8_succeeds_14 : decode cX8_succeeds 14 = .ok (.sipush 1000, 3) := by decide +kernel
theorem dX8_succeeds_17 : decode cX8_succeeds 17 = .ok (.idiv, 1) := by decide +kernel
theorem dX8_succeeds_18 : decode cX8_succeeds 18 = .ok (.tableswitch 232 1 7 #[42, 59, 76, 108, 145, 172, 205], 42) := by decide +kernel
theorem dX8_succeeds_60 : decode cX8_succeeds 60 = .ok (.aload_n 0, 1) := by decide +kernel
theorem dX8_succeeds_61 : decode cX8_succeeds 61 = .ok (.iload_n 1, 1) := by decide +kernel
theorem dX8_succeeds_62 : decode cX8_succeeds 62 = .ok (.bipush 10, 2) := by decide +kernel
theorem dX8_succeeds_64 : decode cX8_succeeds 64 = .ok (.idiv, 1) := by decide +kernel
theorem dX8_succeeds_65 : decode cX8_succeeds 65 = .ok (.bipush 100, 2) := by decide +kernel
theorem dX8_succeeds_67 : decode cX8_succeeds 67 = .ok (.irem, 1) := by decide +kernel
theorem dX8_succeeds_68 : decode cX8_succeeds 68 = .ok (.iload_n 1, 1) := by decide +kernel
theorem dX8_succeeds_69 : decode cX8_succeeds 69 = .ok (.bipush 10, 2) := by decide +kernel
theorem dX8_succeeds_71 : decode cX8_succeeds 71 = .ok (.irem, 1) := by decide +kernel
theorem dX8_succeeds_72 : decode cX8_succeeds 72 = .ok (.iconst 1, 1) := by decide +kernel
theorem dX8_succeeds_73 : decode cX8_succeeds 73 = .ok (.invokevirtual 343, 3) := by decide +kernel
theorem dX8_succeeds_76 : decode cX8_succeeds 76 = .ok (.ireturn, 1) := by decide +kernel
theorem dX8_succeeds_77 : decode cX8_succeeds 77 = .ok (.aload_n 0, 1) := by decide +kernel
theorem dX8_succeeds_78 : decode cX8_succeeds 78 = .ok (.iload_n 1, 1) := by decide +kernel
theorem dX8_succeeds_79 : decode cX8_succeeds 79 = .ok (.bipush 10, 2) := by decide +kernel
theorem dX8_succeeds_81 : decode cX8_succeeds 81 = .ok (.idiv, 1) := by decide +kernel
theorem dX8_succeeds_82 : decode cX8_succeeds 82 = .ok (.bipush 100, 2) := by decide +kernel
theorem dX8_succeeds_84 : decode cX8_succeeds 84 = .ok (.irem, 1) := by decide +kernel
theorem dX8_succeeds_85 : decode cX8_succeeds 85 = .ok (.iload_n 1, 1) := by decide +kernel
theorem dX8_succeeds_86 : decode cX8_succeeds 86 = .ok (.bipush 10, 2) := by decide +kernel
theorem dX8_succeeds_88 : decode cX8_succeeds 88 = .ok (.irem, 1) := by decide +kernel
theorem dX8_succeeds_89 : decode cX8_succeeds 89 = .ok (.iconst (-1), 1) := by decide +kernel
theorem dX8_succeeds_90 : decode cX8_succeeds 90 = .ok (.invokevirtual 343, 3) := by decide +kernel
theorem dX8_succeeds_93 : decode cX8_succeeds 93 = .ok (.ireturn, 1) := by decide +kernel
theorem dX8_succeeds_94 : decode cX8_succeeds 94 = .ok (.iload_n 2, 1) := by decide +kernel
theorem dX8_succeeds_95 : decode cX8_succeeds 95 = .ok (.ifCond .ne 11, 3) := by decide +kernel
theorem dX8_succeeds_98 : decode cX8_succeeds 98 = .ok (.aload_n 0, 1) := by decide +kernel
theorem dX8_succeeds_99 : decode cX8_succeeds 99 = .ok (.iload_n 3, 1) := by decide +kernel
theorem dX8_succeeds_100 : decode cX8_succeeds 100 = .ok (.invokevirtual 125, 3) := by decide +kernel
theorem dX8_succeeds_103 : decode cX8_succeeds 103 = .ok (.ifCond .ne 5, 3) := by decide +kernel
theorem dX8_succeeds_106 : decode cX8_succeeds 106 = .ok (.iconst 0, 1) := by decide +kernel
theorem dX8_succeeds_107 : decode cX8_succeeds 107 = .ok (.ireturn, 1) := by decide +kernel
theorem dX8_succeeds_108 : decode cX8_succeeds 108 = .ok (.aload_n 0, 1) := by decide +kernel
theorem dX8_succeeds_109 : decode cX8_succeeds 109 = .ok (.getfield 50, 3) := by decide +kernel
theorem dX8_succeeds_112 : decode cX8_succeeds 112 = .ok (.aload_n 0, 1) := by decide +kernel
theorem dX8_succeeds_113 : decode cX8_succeeds 113 = .ok (.getfield 10, 3) := by decide +kernel
theorem dX8_succeeds_116 : decode cX8_succeeds 116 = .ok (.aload_n 0, 1) := by decide +kernel
theorem dX8_succeeds_117 : decode cX8_succeeds 117 = .ok (.getfield 23, 3) := by decide +kernel
theorem dX8_succeeds_120 : decode cX8_succeeds 120 = .ok (.iload_n 3, 1) := by decide +kernel
theorem dX8_succeeds_121 : decode cX8_succeeds 121 = .ok (.invokevirtual 233, 3) := by decide +kernel
theorem dX8_succeeds_124 : decode cX8_succeeds 124 = .ok (.iconst 1, 1) := by decide +kernel
theorem dX8_succeeds_125 : decode cX8_succeeds 125 = .ok (.ireturn, 1) := by decide +kernel
theorem dX8_succeeds_126 : decode cX8_succeeds 126 = .ok (.aload_n 0, 1) := by decide +kernel
theorem dX8_succeeds_127 : decode cX8_succeeds 127 = .ok (.iload_n 2, 1) := by decide +kernel
theorem dX8_succeeds_128 : decode cX8_succeeds 128 = .ok (.invokevirtual 129, 3) := by decide +kernel
theorem dX8_succeeds_131 : decode cX8_succeeds 131 = .ok (.ifCond .eq 30, 3) := by decide +kernel
theorem dX8_succeeds_134 : decode cX8_succeeds 134 = .ok (.aload_n 0, 1) := by decide +kernel
theorem dX8_succeeds_135 : decode cX8_succeeds 135 = .ok (.getfield 23, 3) := by decide +kernel
theorem dX8_succeeds_138 : decode cX8_succeeds 138 = .ok (.getfield 170, 3) := by decide +kernel
theorem dX8_succeeds_141 : decode cX8_succeeds 141 = .ok (.iload_n 2, 1) := by decide +kernel
theorem dX8_succeeds_142 : decode cX8_succeeds 142 = .ok (.iaload, 1) := by decide +kernel
theorem dX8_succeeds_143 : decode cX8_succeeds 143 = .ok (.aload_n 0, 1) := by decide +kernel
theorem dX8_succeeds_144 : decode cX8_succeeds 144 = .ok (.getfield 23, 3) := by decide +kernel
theorem dX8_succeeds_147 : decode cX8_succeeds 147 = .ok (.getfield 167, 3) := by decide +kernel
theorem dX8_succeeds_150 : decode cX8_succeeds 150 = .ok (.iload_n 2, 1) := by decide +kernel
theorem dX8_succeeds_151 : decode cX8_succeeds 151 = .ok (.iaload, 1) := by decide +kernel
theorem dX8_succeeds_152 : decode cX8_succeeds 152 = .ok (.isub, 1) := by decide +kernel
theorem dX8_succeeds_153 : decode cX8_succeeds 153 = .ok (.iload_n 3, 1) := by decide +kernel
theorem dX8_succeeds_154 : decode cX8_succeeds 154 = .ok (.if_icmp .gt 7, 3) := by decide +kernel
theorem dX8_succeeds_157 : decode cX8_succeeds 157 = .ok (.iconst 1, 1) := by decide +kernel
theorem dX8_succeeds_158 : decode cX8_succeeds 158 = .ok (.goto 4, 3) := by decide +kernel
theorem dX8_succeeds_161 : decode cX8_succeeds 161 = .ok (.iconst 0, 1) := by decide +kernel
theorem dX8_succeeds_162 : decode cX8_succeeds 162 = .ok (.ireturn, 1) := by decide +kernel
theorem dX8_succeeds_163 : decode cX8_succeeds 163 = .ok (.aload_n 0, 1) := by decide +kernel
theorem dX8_succeeds_164 : decode cX8_succeeds 164 = .ok (.iload_n 2, 1) := by decide +kernel
theorem dX8_succeeds_165 : decode cX8_succeeds 165 = .ok (.invokevirtual 129, 3) := by decide +kernel
theorem dX8_succeeds_168 : decode cX8_succeeds 168 = .ok (.ifCond .eq 20, 3) := by decide +kernel
theorem dX8_succeeds_171 : decode cX8_succeeds 171 = .ok (.aload_n 0, 1) := by decide +kernel
theorem dX8_succeeds_172 : decode cX8_succeeds 172 = .ok (.getfield 23, 3) := by decide +kernel
theorem dX8_succeeds_175 : decode cX8_succeeds 175 = .ok (.getfield 167, 3) := by decide +kernel
theorem dX8_succeeds_178 : decode cX8_succeeds 178 = .ok (.iload_n 2, 1) := by decide +kernel
theorem dX8_succeeds_179 : decode cX8_succeeds 179 = .ok (.iaload, 1) := by decide +kernel
theorem dX8_succeeds_180 : decode cX8_succeeds 180 = .ok (.iload_n 3, 1) := by decide +kernel
theorem dX8_succeeds_181 : decode cX8_succeeds 181 = .ok (.if_icmp .lt 7, 3) := by decide +kernel
theorem dX8_succeeds_184 : decode cX8_succeeds 184 = .ok (.iconst 1, 1) := by decide +kernel
theorem dX8_succeeds_185 : decode cX8_succeeds 185 = .ok (.goto 4, 3) := by decide +kernel
theorem dX8_succeeds_188 : decode cX8_succeeds 188 = .ok (.iconst 0, 1) := by decide +kernel
theorem dX8_succeeds_189 : decode cX8_succeeds 189 = .ok (.ireturn, 1) := by decide +kernel
theorem dX8_succeeds_190 : decode cX8_succeeds 190 = .ok (.iload_n 3, 1) := by decide +kernel
theorem dX8_succeeds_191 : decode cX8_succeeds 191 = .ok (.bipush 10, 2) := by decide +kernel
theorem dX8_succeeds_193 : decode cX8_succeeds 193 = .ok (.if_icmp .ge 28, 3) := by decide +kernel
theorem dX8_succeeds_196 : decode cX8_succeeds 196 = .ok (.aload_n 0, 1) := by decide +kernel
theorem dX8_succeeds_197 : decode cX8_succeeds 197 = .ok (.iload_n 2, 1) := by decide +kernel
theorem dX8_succeeds_198 : decode cX8_succeeds 198 = .ok (.invokevirtual 125, 3) := by decide +kernel
theorem dX8_succeeds_201 : decode cX8_succeeds 201 = .ok (.ifCond .eq 20, 3) := by decide +kernel
theorem dX8_succeeds_204 : decode cX8_succeeds 204 = .ok (.aload_n 0, 1) := by decide +kernel
theorem dX8_succeeds_205 : decode cX8_succeeds 205 = .ok (.getfield 23, 3) := by decide +kernel
theorem dX8_succeeds_208 : decode cX8_succeeds 208 = .ok (.getfield 191, 3) := by decide +kernel
theorem dX8_succeeds_211 : decode cX8_succeeds 211 = .ok (.iload_n 2, 1) := by decide +kernel
theorem dX8_succeeds_212 : decode cX8_succeeds 212 = .ok (.iaload, 1) := by decide +kernel
theorem dX8_succeeds_213 : decode cX8_succeeds 213 = .ok (.iload_n 3, 1) := by decide +kernel
theorem dX8_succeeds_214 : decode cX8_succeeds 214 = .ok (.if_icmp .ne 7, 3) := by decide +kernel
theorem dX8_succeeds_217 : decode cX8_succeeds 217 = .ok (.iconst 1, 1) := by decide +kernel
theorem dX8_succeeds_218 : decode cX8_succeeds 218 = .ok (.goto 4, 3) := by decide +kernel
theorem dX8_succeeds_221 : decode cX8_succeeds 221 = .ok (.iconst 0, 1) := by decide +kernel
theorem dX8_succeeds_222 : decode cX8_succeeds 222 = .ok (.ireturn, 1) := by decide +kernel
theorem dX8_succeeds_223 : decode cX8_succeeds 223 = .ok (.aload_n 0, 1) := by decide +kernel
theorem dX8_succeeds_224 : decode cX8_succeeds 224 = .ok (.iload_n 2, 1) := by decide +kernel
theorem dX8_succeeds_225 : decode cX8_succeeds 225 = .ok (.invokevirtual 129, 3) := by decide +kernel
theorem dX8_succeeds_228 : decode cX8_succeeds 228 = .ok (.ifCond .eq 20, 3) := by decide +kernel
theorem dX8_succeeds_231 : decode cX8_succeeds 231 = .ok (.aload_n 0, 1) := by decide +kernel
theorem dX8_succeeds_232 : decode cX8_succeeds 232 = .ok (.getfield 23, 3) := by decide +kernel
theorem dX8_succeeds_235 : decode cX8_succeeds 235 = .ok (.getfield 164, 3) := by decide +kernel
theorem dX8_succeeds_238 : decode cX8_succeeds 238 = .ok (.iload_n 2, 1) := by decide +kernel
theorem dX8_succeeds_239 : decode cX8_succeeds 239 = .ok (.iaload, 1) := by decide +kernel
theorem dX8_succeeds_240 : decode cX8_succeeds 240 = .ok (.iload_n 3, 1) := by decide +kernel
theorem dX8_succeeds_241 : decode cX8_succeeds 241 = .ok (.if_icmp .gt 7, 3) := by decide +kernel
theorem dX8_succeeds_244 : decode cX8_succeeds 244 = .ok (.iconst 1, 1) := by decide +kernel
theorem dX8_succeeds_245 : decode cX8_succeeds 245 = .ok (.goto 4, 3) := by decide +kernel
theorem dX8_succeeds_248 : decode cX8_succeeds 248 = .ok (.iconst 0, 1) := by decide +kernel
theorem dX8_succeeds_249 : decode cX8_succeeds 249 = .ok (.ireturn, 1) := by decide +kernel
theorem dX8_succeeds_250 : decode cX8_succeeds 250 = .ok (.iconst 0, 1) := by decide +kernel
theorem dX8_succeeds_251 : decode cX8_succeeds 251 = .ok (.ireturn, 1) := by decide +kernel
theorem dX8_advancesCopy_0 : decode cX8_advancesCopy 0 = .ok (.iload_n 2, 1) := by decide +kernel
theorem dX8_advancesCopy_1 : decode cX8_advancesCopy 1 = .ok (.aload_n 0, 1) := by decide +kernel
theorem dX8_advancesCopy_2 : decode cX8_advancesCopy 2 = .ok (.getfield 23, 3) := by decide +kernel
theorem dX8_advancesCopy_5 : decode cX8_advancesCopy 5 = .ok (.getfield 112, 3) := by decide +kernel
theorem dX8_advancesCopy_8 : decode cX8_advancesCopy 8 = .ok (.if_icmp .le 5, 3) := by decide +kernel
theorem dX8_advancesCopy_11 : decode cX8_advancesCopy 11 = .ok (.iconst 0, 1) := by decide +kernel
theorem dX8_advancesCopy_12 : decode cX8_advancesCopy 12 = .ok (.ireturn, 1) := by decide +kernel
theorem dX8_advancesCopy_13 : decode cX8_advancesCopy 13 = .ok (.aload_n 0, 1) := by decide +kernel
theorem dX8_advancesCopy_14 : decode cX8_advancesCopy 14 = .ok (.getfield 50, 3) := by decide +kernel
theorem dX8_advancesCopy_17 : decode cX8_advancesCopy 17 = .ok (.aload_n 0, 1) := by decide +kernel
theorem dX8_advancesCopy_18 : decode cX8_advancesCopy 18 = .ok (.getfield 10, 3) := by decide +kernel
theorem dX8_advancesCopy_21 : decode cX8_advancesCopy 21 = .ok (.aload_n 0, 1) := by decide +kernel
theorem dX8_advancesCopy_22 : decode cX8_advancesCopy 22 = .ok (.getfield 23, 3) := by decide +kernel
theorem dX8_advancesCopy_25 : decode cX8_advancesCopy 25 = .ok (.iload_n 3, 1) := by decide +kernel
theorem dX8_advancesCopy_26 : decode cX8_advancesCopy 26 = .ok (.iload_n 1, 1) := by decide +kernel
theorem dX8_advancesCopy_27 : decode cX8_advancesCopy 27 = .ok (.imul, 1) := by decide +kernel
theorem dX8_advancesCopy_28 : decode cX8_advancesCopy 28 = .ok (.iload_n 3, 1) := by decide +kernel
theorem dX8_advancesCopy_29 : decode cX8_advancesCopy 29 = .ok (.iload_n 2, 1) := by decide +kernel
theorem dX8_advancesCopy_30 : decode cX8_advancesCopy 30 = .ok (.imul, 1) := by decide +kernel
theorem dX8_advancesCopy_31 : decode cX8_advancesCopy 31 = .ok (.invokevirtual 229, 3) := by decide +kernel
theorem dX8_advancesCopy_34 : decode cX8_advancesCopy 34 = .ok (.iconst 1, 1) := by decide +kernel
theorem dX8_advancesCopy_35 : decode cX8_advancesCopy 35 = .ok (.ireturn, 1) := by decide +kernel
theorem dX8_floorQuotient_0 : decode cX8_floorQuotient 0 = .ok (.lload_n 2, 1) := by decide +kernel
theorem dX8_floorQuotient_1 : decode cX8_floorQuotient 1 = .ok (.lconst 0, 1) := by decide +kernel
theorem dX8_floorQuotient_2 : decode cX8_floorQuotient 2 = .ok (.lcmp, 1) := by decide +kernel
theorem dX8_floorQuotient_3 : decode cX8_floorQuotient 3 = .ok (.ifCond .ne 7, 3) := by decide +kernel
theorem dX8_floorQuotient_6 : decode cX8_floorQuotient 6 = .ok (.lconst 0, 1) := by decide +kernel
theorem dX8_floorQuotient_7 : decode cX8_floorQuotient 7 = .ok (.goto 8, 3) := by decide +kernel
theorem dX8_floorQuotient_10 : decode cX8_floorQuotient 10 = .ok (.lload_n 0, 1) := by decide +kernel
theorem dX8_floorQuotient_11 : decode cX8_floorQuotient 11 = .ok (.lload_n 2, 1) := by decide +kernel
theorem dX8_floorQuotient_12 : decode cX8_floorQuotient 12 = .ok (.invokestatic 347, 3) := by decide +kernel
theorem dX8_floorQuotient_15 : decode cX8_floorQuotient 15 = .ok (.lreturn, 1) := by decide +kernel
theorem dX8_quotient_0 : decode cX8_quotient 0 = .ok (.iload_n 1, 1) := by decide +kernel
theorem dX8_quotient_1 : decode cX8_quotient 1 = .ok (.ifCond .ne 7, 3) := by decide +kernel
theorem dX8_quotient_4 : decode cX8_quotient 4 = .ok (.iconst 0, 1) := by decide +kernel
theorem dX8_quotient_5 : decode cX8_quotient 5 = .ok (.goto 6, 3) := by decide +kernel
theorem dX8_quotient_8 : decode cX8_quotient 8 = .ok (.iload_n 0, 1) := by decide +kernel
theorem dX8_quotient_9 : decode cX8_quotient 9 = .ok (.iload_n 1, 1) := by decide +kernel
theorem dX8_quotient_10 : decode cX8_quotient 10 = .ok (.idiv, 1) := by decide +kernel
theorem dX8_quotient_11 : decode cX8_quotient 11 = .ok (.ireturn, 1) := by decide +kernel
theorem dX8_remainder_0 : decode cX8_remainder 0 = .ok (.iload_n 1, 1) := by decide +kernel
theorem dX8_remainder_1 : decode cX8_remainder 1 = .ok (.ifCond .ne 7, 3) := by decide +kernel
theorem dX8_remainder_4 : decode cX8_remainder 4 = .ok (.iconst 0, 1) := by decide +kernel
theorem dX8_remainder_5 : decode cX8_remainder 5 = .ok (.goto 6, 3) := by decide +kernel
theorem dX8_remainder_8 : decode cX8_remainder 8 = .ok (.iload_n 0, 1) := by decide +kernel
theorem dX8_remainder_9 : decode cX8_remainder 9 = .ok (.iload_n 1, 1) := by decide +kernel
theorem dX8_remainder_10 : decode cX8_remainder 10 = .ok (.irem, 1) := by decide +kernel
theorem dX8_remainder_11 : decode cX8_remainder 11 = .ok (.ireturn, 1) := by decide +kernel
theorem dX8_limited_0 : decode cX8_limited 0 = .ok (.iload_n 2, 1) := by decide +kernel
theorem dX8_limited_1 : decode cX8_limited 1 = .ok (.ineg, 1) := by decide +kernel
theorem dX8_limited_2 : decode cX8_limited 2 = .ok (.i2l, 1) := by decide +kernel
theorem dX8_limited_3 : decode cX8_limited 3 = .ok (.iload_n 2, 1) := by decide +kernel
theorem dX8_limited_4 : decode cX8_limited 4 = .ok (.i2l, 1) := by decide +kernel
theorem dX8_limited_5 : decode cX8_limited 5 = .ok (.lload_n 0, 1) := by decide +kernel
theorem dX8_limited_6 : decode cX8_limited 6 = .ok (.invokestatic 351, 3) := by decide +kernel
theorem dX8_limited_9 : decode cX8_limited 9 = .ok (.invokestatic 353, 3) := by decide +kernel
theorem dX8_limited_12 : decode cX8_limited 12 = .ok (.l2i, 1) := by decide +kernel
theorem dX8_limited_13 : decode cX8_limited 13 = .ok (.ireturn, 1) := by decide +kernel
theorem dX8_commonDivisor_0 : decode cX8_commonDivisor 0 = .ok (.bipush 99, 2) := by decide +kernel
theorem dX8_commonDivisor_2 : decode cX8_commonDivisor 2 = .ok (.istore_n 2, 1) := by decide +kernel
theorem dX8_commonDivisor_3 : decode cX8_commonDivisor 3 = .ok (.iload_n 2, 1) := by decide +kernel
theorem dX8_commonDivisor_4 : decode cX8_commonDivisor 4 = .ok (.iconst 1, 1) := by decide +kernel
theorem dX8_commonDivisor_5 : decode cX8_commonDivisor 5 = .ok (.if_icmp .le 23, 3) := by decide +kernel
theorem dX8_commonDivisor_8 : decode cX8_commonDivisor 8 = .ok (.iload_n 0, 1) := by decide +kernel
theorem dX8_commonDivisor_9 : decode cX8_commonDivisor 9 = .ok (.iload_n 2, 1) := by decide +kernel
theorem dX8_commonDivisor_10 : decode cX8_commonDivisor 10 = .ok (.irem, 1) := by decide +kernel
theorem dX8_commonDivisor_11 : decode cX8_commonDivisor 11 = .ok (.ifCond .ne 11, 3) := by decide +kernel
theorem dX8_commonDivisor_14 : decode cX8_commonDivisor 14 = .ok (.iload_n 1, 1) := by decide +kernel
theorem dX8_commonDivisor_15 : decode cX8_commonDivisor 15 = .ok (.iload_n 2, 1) := by decide +kernel
theorem dX8_commonDivisor_16 : decode cX8_commonDivisor 16 = .ok (.irem, 1) := by decide +kernel
theorem dX8_commonDivisor_17 : decode cX8_commonDivisor 17 = .ok (.ifCond .ne 5, 3) := by decide +kernel
theorem dX8_commonDivisor_20 : decode cX8_commonDivisor 20 = .ok (.iload_n 2, 1) := by decide +kernel
theorem dX8_commonDivisor_21 : decode cX8_commonDivisor 21 = .ok (.ireturn, 1) := by decide +kernel
theorem dX8_commonDivisor_22 : decode cX8_commonDivisor 22 = .ok (.iinc 2 (-1), 3) := by decide +kernel
theorem dX8_commonDivisor_25 : decode cX8_commonDivisor 25 = .ok (.goto (-22), 3) := by decide +kernel
theorem dX8_commonDivisor_28 : decode cX8_commonDivisor 28 = .ok (.iconst 1, 1) := by decide +kernel
theorem dX8_commonDivisor_29 : decode cX8_commonDivisor 29 = .ok (.ireturn, 1) := by decide +kernel
theorem dX8_removeLead_0 : decode cX8_removeLead 0 = .ok (.iconst 0, 1) := by decide +kernel
theorem dX8_removeLead_1 : decode cX8_removeLead 1 = .ok (.istore 7, 2) := by decide +kernel
theorem dX8_removeLead_3 : decode cX8_removeLead 3 = .ok (.iload 7, 2) := by decide +kernel
theorem dX8_removeLead_5 : decode cX8_removeLead 5 = .ok (.iload 6, 2) := by decide +kernel
theorem dX8_removeLead_7 : decode cX8_removeLead 7 = .ok (.if_icmp .ge 33, 3) := by decide +kernel
theorem dX8_removeLead_10 : decode cX8_removeLead 10 = .ok (.aload_n 0, 1) := by decide +kernel
theorem dX8_removeLead_11 : decode cX8_removeLead 11 = .ok (.iload 7, 2) := by decide +kernel
theorem dX8_removeLead_13 : decode cX8_removeLead 13 = .ok (.aload_n 0, 1) := by decide +kernel
theorem dX8_removeLead_14 : decode cX8_removeLead 14 = .ok (.iload 7, 2) := by decide +kernel
theorem dX8_removeLead_16 : decode cX8_removeLead 16 = .ok (.laload, 1) := by decide +kernel
theorem dX8_removeLead_17 : decode cX8_removeLead 17 = .ok (.lload 4, 2) := by decide +kernel
theorem dX8_removeLead_19 : decode cX8_removeLead 19 = .ok (.lmul, 1) := by decide +kernel
theorem dX8_removeLead_20 : decode cX8_removeLead 20 = .ok (.aload_n 3, 1) := by decide +kernel
theorem dX8_removeLead_21 : decode cX8_removeLead 21 = .ok (.iload 7, 2) := by decide +kernel
theorem dX8_removeLead_23 : decode cX8_removeLead 23 = .ok (.laload, 1) := by decide +kernel
theorem dX8_removeLead_24 : decode cX8_removeLead 24 = .ok (.lload_n 1, 1) := by decide +kernel
theorem dX8_removeLead_25 : decode cX8_removeLead 25 = .ok (.lmul, 1) := by decide +kernel
theorem dX8_removeLead_26 : decode cX8_removeLead 26 = .ok (.lsub, 1) := by decide +kernel
theorem dX8_removeLead_27 : decode cX8_removeLead 27 = .ok (.ldc2_w 355, 3) := by decide +kernel
theorem dX8_removeLead_30 : decode cX8_removeLead 30 = .ok (.invokestatic 357, 3) := by decide +kernel
theorem dX8_removeLead_33 : decode cX8_removeLead 33 = .ok (.lastore, 1) := by decide +kernel
theorem dX8_removeLead_34 : decode cX8_removeLead 34 = .ok (.iinc 7 1, 3) := by decide +kernel
theorem dX8_removeLead_37 : decode cX8_removeLead 37 = .ok (.goto (-34), 3) := by decide +kernel
theorem dX8_removeLead_40 : decode cX8_removeLead 40 = .ok (.return_, 1) := by decide +kernel
theorem dX8_copyRow_0 : decode cX8_copyRow 0 = .ok (.aload_n 0, 1) := by decide +kernel
theorem dX8_copyRow_1 : decode cX8_copyRow 1 = .ok (.iconst 0, 1) := by decide +kernel
theorem dX8_copyRow_2 : decode cX8_copyRow 2 = .ok (.aload_n 1, 1) := by decide +kernel
theorem dX8_copyRow_3 : decode cX8_copyRow 3 = .ok (.iconst 0, 1) := by decide +kernel
theorem dX8_copyRow_4 : decode cX8_copyRow 4 = .ok (.aload_n 0, 1) := by decide +kernel
theorem dX8_copyRow_5 : decode cX8_copyRow 5 = .ok (.arraylength, 1) := by decide +kernel
theorem dX8_copyRow_6 : decode cX8_copyRow 6 = .ok (.aload_n 1, 1) := by decide +kernel
theorem dX8_copyRow_7 : decode cX8_copyRow 7 = .ok (.arraylength, 1) := by decide +kernel
theorem dX8_copyRow_8 : decode cX8_copyRow 8 = .ok (.invokestatic 176, 3) := by decide +kernel
theorem dX8_copyRow_11 : decode cX8_copyRow 11 = .ok (.invokestatic 360, 3) := by decide +kernel
theorem dX8_copyRow_14 : decode cX8_copyRow 14 = .ok (.return_, 1) := by decide +kernel
theorem dX8_copyRow__0 : decode cX8_copyRow_ 0 = .ok (.aload_n 0, 1) := by decide +kernel
theorem dX8_copyRow__1 : decode cX8_copyRow_ 1 = .ok (.iconst 0, 1) := by decide +kernel
theorem dX8_copyRow__2 : decode cX8_copyRow_ 2 = .ok (.aload_n 1, 1) := by decide +kernel
theorem dX8_copyRow__3 : decode cX8_copyRow_ 3 = .ok (.iconst 0, 1) := by decide +kernel
theorem dX8_copyRow__4 : decode cX8_copyRow_ 4 = .ok (.aload_n 0, 1) := by decide +kernel
theorem dX8_copyRow__5 : decode cX8_copyRow_ 5 = .ok (.arraylength, 1) := by decide +kernel
theorem dX8_copyRow__6 : decode cX8_copyRow_ 6 = .ok (.aload_n 1, 1) := by decide +kernel
theorem dX8_copyRow__7 : decode cX8_copyRow_ 7 = .ok (.arraylength, 1) := by decide +kernel
theorem dX8_copyRow__8 : decode cX8_copyRow_ 8 = .ok (.invokestatic 176, 3) := by decide +kernel
theorem dX8_copyRow__11 : decode cX8_copyRow_ 11 = .ok (.invokestatic 360, 3) := by decide +kernel
theorem dX8_copyRow__14 : decode cX8_copyRow_ 14 = .ok (.return_, 1) := by decide +kernel
theorem dX8_copyRows_0 : decode cX8_copyRows 0 = .ok (.iconst 0, 1) := by decide +kernel
theorem dX8_copyRows_1 : decode cX8_copyRows 1 = .ok (.istore_n 2, 1) := by decide +kernel
theorem dX8_copyRows_2 : decode cX8_copyRows 2 = .ok (.iload_n 2, 1) := by decide +kernel
theorem dX8_copyRows_3 : decode cX8_copyRows 3 = .ok (.aload_n 0, 1) := by decide +kernel
theorem dX8_copyRows_4 : decode cX8_copyRows 4 = .ok (.arraylength, 1) := by decide +kernel
theorem dX8_copyRows_5 : decode cX8_copyRows 5 = .ok (.if_icmp .ge 24, 3) := by decide +kernel
theorem dX8_copyRows_8 : decode cX8_copyRows 8 = .ok (.iload_n 2, 1) := by decide +kernel
theorem dX8_copyRows_9 : decode cX8_copyRows 9 = .ok (.aload_n 1, 1) := by decide +kernel
theorem dX8_copyRows_10 : decode cX8_copyRows 10 = .ok (.arraylength, 1) := by decide +kernel
theorem dX8_copyRows_11 : decode cX8_copyRows 11 = .ok (.if_icmp .ge 18, 3) := by decide +kernel
theorem dX8_copyRows_14 : decode cX8_copyRows 14 = .ok (.aload_n 0, 1) := by decide +kernel
theorem dX8_copyRows_15 : decode cX8_copyRows 15 = .ok (.iload_n 2, 1) := by decide +kernel
theorem dX8_copyRows_16 : decode cX8_copyRows 16 = .ok (.aaload, 1) := by decide +kernel
theorem dX8_copyRows_17 : decode cX8_copyRows 17 = .ok (.aload_n 1, 1) := by decide +kernel
theorem dX8_copyRows_18 : decode cX8_copyRows 18 = .ok (.iload_n 2, 1) := by decide +kernel
theorem dX8_copyRows_19 : decode cX8_copyRows 19 = .ok (.aaload, 1) := by decide +kernel
theorem dX8_copyRows_20 : decode cX8_copyRows 20 = .ok (.invokestatic 211, 3) := by decide +kernel
theorem dX8_copyRows_23 : decode cX8_copyRows 23 = .ok (.iinc 2 1, 3) := by decide +kernel
theorem dX8_copyRows_26 : decode cX8_copyRows 26 = .ok (.goto (-24), 3) := by decide +kernel
theorem dX8_copyRows_29 : decode cX8_copyRows 29 = .ok (.return_, 1) := by decide +kernel
theorem dX9_init_0 : decode cX9_init 0 = .ok (.aload_n 0, 1) := by decide +kernel
theorem dX9_init_1 : decode cX9_init 1 = .ok (.invokespecial 1, 3) := by decide +kernel
theorem dX9_init_4 : decode cX9_init 4 = .ok (.aload_n 0, 1) := by decide +kernel
theorem dX9_init_5 : decode cX9_init 5 = .ok (.sipush 200, 3) := by decide +kernel
theorem dX9_init_8 : decode cX9_init 8 = .ok (.newarray .int, 2) := by decide +kernel
theorem dX9_init_10 : decode cX9_init 10 = .ok (.putfield 7, 3) := by decide +kernel
theorem dX9_init_13 : decode cX9_init 13 = .ok (.aload_n 0, 1) := by decide +kernel
theorem dX9_init_14 : decode cX9_init 14 = .ok (.iconst 1, 1) := by decide +kernel
theorem dX9_init_15 : decode cX9_init 15 = .ok (.putfield 13, 3) := by decide +kernel
theorem dX9_init_18 : decode cX9_init 18 = .ok (.aload_n 0, 1) := by decide +kernel
theorem dX9_init_19 : decode cX9_init 19 = .ok (.iconst 1, 1) := by decide +kernel
theorem dX9_init_20 : decode cX9_init 20 = .ok (.putfield 17, 3) := by decide +kernel
theorem dX9_init_23 : decode cX9_init 23 = .ok (.aload_n 0, 1) := by decide +kernel
theorem dX9_init_24 : decode cX9_init 24 = .ok (.bipush 16, 2) := by decide +kernel
theorem dX9_init_26 : decode cX9_init 26 = .ok (.newarray .int, 2) := by decide +kernel
theorem dX9_init_28 : decode cX9_init 28 = .ok (.putfield 20, 3) := by decide +kernel
theorem dX9_init_31 : decode cX9_init 31 = .ok (.aload_n 0, 1) := by decide +kernel
theorem dX9_init_32 : decode cX9_init 32 = .ok (.iconst 4, 1) := by decide +kernel
theorem dX9_init_33 : decode cX9_init 33 = .ok (.newarray .int, 2) := by decide +kernel
theorem dX9_init_35 : decode cX9_init 35 = .ok (.putfield 23, 3) := by decide +kernel
theorem dX9_init_38 : decode cX9_init 38 = .ok (.aload_n 0, 1) := by decide +kernel
theorem dX9_init_39 : decode cX9_init 39 = .ok (.iconst 4, 1) := by decide +kernel
theorem dX9_init_40 : decode cX9_init 40 = .ok (.newarray .int, 2) := by decide +kernel
theorem dX9_init_42 : decode cX9_init 42 = .ok (.putfield 26, 3) := by decide +kernel
theorem dX9_init_45 : decode cX9_init 45 = .ok (.aload_n 0, 1) := by decide +kernel
theorem dX9_init_46 : decode cX9_init 46 = .ok (.bipush 12, 2) := by decide +kernel
theorem dX9_init_48 : decode cX9_init 48 = .ok (.newarray .int, 2) := by decide +kernel
theorem dX9_init_50 : decode cX9_init 50 = .ok (.putfield 29, 3) := by decide +kernel
theorem dX9_init_53 : decode cX9_init 53 = .ok (.aload_n 0, 1) := by decide +kernel
theorem dX9_init_54 : decode cX9_init 54 = .ok (.iconst 3, 1) := by decide +kernel
theorem dX9_init_55 : decode cX9_init 55 = .ok (.newarray .int, 2) := by decide +kernel
theorem dX9_init_57 : decode cX9_init 57 = .ok (.putfield 32, 3) := by decide +kernel
theorem dX9_init_60 : decode cX9_init 60 = .ok (.aload_n 0, 1) := by decide +kernel
theorem dX9_init_61 : decode cX9_init 61 = .ok (.bipush 16, 2) := by decide +kernel
theorem dX9_init_63 : decode cX9_init 63 = .ok (.newarray .int, 2) := by decide +kernel
theorem dX9_init_65 : decode cX9_init 65 = .ok (.putfield 35, 3) := by decide +kernel
theorem dX9_init_68 : decode cX9_init 68 = .ok (.aload_n 0, 1) := by decide +kernel
theorem dX9_init_69 : decode cX9_init 69 = .ok (.iconst 4, 1) := by decide +kernel
theorem dX9_init_70 : decode cX9_init 70 = .ok (.newarray .int, 2) := by decide +kernel
theorem dX9_init_72 : decode cX9_init 72 = .ok (.putfield 38, 3) := by decide +kernel
theorem dX9_init_75 : decode cX9_init 75 = .ok (.aload_n 0, 1) := by decide +kernel
theorem dX9_init_76 : decode cX9_init 76 = .ok (.iconst 4, 1) := by decide +kernel
theorem dX9_init_77 : decode cX9_init 77 = .ok (.newarray .int, 2) := by decide +kernel
theorem dX9_init_79 : decode cX9_init 79 = .ok (.putfield 41, 3) := by decide +kernel
theorem dX9_init_82 : decode cX9_init 82 = .ok (.aload_n 0, 1) := by decide +kernel
theorem dX9_init_83 : decode cX9_init 83 = .ok (.bipush 12, 2) := by decide +kernel
theorem dX9_init_85 : decode cX9_init 85 = .ok (.newarray .int, 2) := by decide +kernel
theorem dX9_init_87 : decode cX9_init 87 = .ok (.putfield 44, 3) := by decide +kernel
theorem dX9_init_90 : decode cX9_init 90 = .ok (.aload_n 0, 1) := by decide +kernel
theorem dX9_init_91 : decode cX9_init 91 = .ok (.iconst 3, 1) := by decide +kernel
theorem dX9_init_92 : decode cX9_init 92 = .ok (.newarray .int, 2) := by decide +kernel
theorem dX9_init_94 : decode cX9_init 94 = .ok (.putfield 47, 3) := by decide +kernel
theorem dX9_init_97 : decode cX9_init 97 = .ok (.aload_n 0, 1) := by decide +kernel
theorem dX9_init_98 : decode cX9_init 98 = .ok (.bipush 48, 2) := by decide +kernel
theorem dX9_init_100 : decode cX9_init 100 = .ok (.newarray .int, 2) := by decide +kernel
theorem dX9_init_102 : decode cX9_init 102 = .ok (.putfield 50, 3) := by decide +kernel
theorem dX9_init_105 : decode cX9_init 105 = .ok (.aload_n 0, 1) := by decide +kernel
theorem dX9_init_106 : decode cX9_init 106 = .ok (.bipush 48, 2) := by decide +kernel
theorem dX9_init_108 : decode cX9_init 108 = .ok (.newarray .int, 2) := by decide +kernel
theorem dX9_init_110 : decode cX9_init 110 = .ok (.putfield 53, 3) := by decide +kernel
theorem dX9_init_113 : decode cX9_init 113 = .ok (.aload_n 0, 1) := by decide +kernel
theorem dX9_init_114 : decode cX9_init 114 = .ok (.bipush 48, 2) := by decide +kernel
theorem dX9_init_116 : decode cX9_init 116 = .ok (.newarray .int, 2) := by decide +kernel
theorem dX9_init_118 : decode cX9_init 118 = .ok (.putfield 56, 3) := by decide +kernel
theorem dX9_init_121 : decode cX9_init 121 = .ok (.aload_n 0, 1) := by decide +kernel
theorem dX9_init_122 : decode cX9_init 122 = .ok (.bipush 48, 2) := by decide +kernel
theorem dX9_init_124 : decode cX9_init 124 = .ok (.newarray .int, 2) := by decide +kernel
theorem dX9_init_126 : decode cX9_init 126 = .ok (.putfield 59, 3) := by decide +kernel
theorem dX9_init_129 : decode cX9_init 129 = .ok (.aload_n 0, 1) := by decide +kernel
theorem dX9_init_130 : decode cX9_init 130 = .ok (.sipush 672, 3) := by decide +kernel
theorem dX9_init_133 : decode cX9_init 133 = .ok (.newarray .int, 2) := by decide +kernel
theorem dX9_init_135 : decode cX9_init 135 = .ok (.putfield 62, 3) := by decide +kernel
theorem dX9_init_138 : decode cX9_init 138 = .ok (.aload_n 0, 1) := by decide +kernel
theorem dX9_init_139 : decode cX9_init 139 = .ok (.bipush 96, 2) := by decide +kernel
theorem dX9_init_141 : decode cX9_init 141 = .ok (.newarray .int, 2) := by decide +kernel
theorem dX9_init_143 : decode cX9_init 143 = .ok (.putfield 65, 3) := by decide +kernel
theorem dX9_init_146 : decode cX9_init 146 = .ok (.aload_n 0, 1) := by decide +kernel
theorem dX9_init_147 : decode cX9_init 147 = .ok (.iconst 2, 1) := by decide +kernel
theorem dX9_init_148 : decode cX9_init 148 = .ok (.newarray .boolean, 2) := by decide +kernel
theorem dX9_init_150 : decode cX9_init 150 = .ok (.putfield 68, 3) := by decide +kernel
theorem dX9_init_153 : decode cX9_init 153 = .ok (.aload_n 0, 1) := by decide +kernel
theorem dX9_init_154 : decode cX9_init 154 = .ok (.bipush 12, 2) := by decide +kernel
theorem dX9_init_156 : decode cX9_init 156 = .ok (.newarray .int, 2) := by decide +kernel
theorem dX9_init_158 : decode cX9_init 158 = .ok (.putfield 72, 3) := by decide +kernel
theorem dX9_init_161 : decode cX9_init 161 = .ok (.aload_n 0, 1) := by decide +kernel
theorem dX9_init_162 : decode cX9_init 162 = .ok (.iconst 3, 1) := by decide +kernel
theorem dX9_init_163 : decode cX9_init 163 = .ok (.newarray .long, 2) := by decide +kernel
theorem dX9_init_165 : decode cX9_init 165 = .ok (.putfield 75, 3) := by decide +kernel
theorem dX9_init_168 : decode cX9_init 168 = .ok (.aload_n 0, 1) := by decide +kernel
theorem dX9_init_169 : decode cX9_init 169 = .ok (.bipush 96, 2) := by decide +kernel
theorem dX9_init_171 : decode cX9_init 171 = .ok (.newarray .long, 2) := by decide +kernel
theorem dX9_init_173 : decode cX9_init 173 = .ok (.putfield 79, 3) := by decide +kernel
theorem dX9_init_176 : decode cX9_init 176 = .ok (.aload_n 0, 1) := by decide +kernel
theorem dX9_init_177 : decode cX9_init 177 = .ok (.bipush 12, 2) := by decide +kernel
theorem dX9_init_179 : decode cX9_init 179 = .ok (.newarray .long, 2) := by decide +kernel
theorem dX9_init_181 : decode cX9_init 181 = .ok (.putfield 82, 3) := by decide +kernel
theorem dX9_init_184 : decode cX9_init 184 = .ok (.aload_n 0, 1) := by decide +kernel
theorem dX9_init_185 : decode cX9_init 185 = .ok (.bipush 12, 2) := by decide +kernel
theorem dX9_init_187 : decode cX9_init 187 = .ok (.newarray .long, 2) := by decide +kernel
theorem dX9_init_189 : decode cX9_init 189 = .ok (.putfield 85, 3) := by decide +kernel
theorem dX9_init_192 : decode cX9_init 192 = .ok (.aload_n 0, 1) := by decide +kernel
theorem dX9_init_193 : decode cX9_init 193 = .ok (.bipush 28, 2) := by decide +kernel
theorem dX9_init_195 : decode cX9_init 195 = .ok (.newarray .long, 2) := by decide +kernel
theorem dX9_init_197 : decode cX9_init 197 = .ok (.putfield 88, 3) := by decide +kernel
theorem dX9_init_200 : decode cX9_init 200 = .ok (.aload_n 0, 1) := by decide +kernel
theorem dX9_init_201 : decode cX9_init 201 = .ok (.iconst 4, 1) := by decide +kernel
theorem dX9_init_202 : decode cX9_init 202 = .ok (.newarray .int, 2) := by decide +kernel
theorem dX9_init_204 : decode cX9_init 204 = .ok (.putfield 91, 3) := by decide +kernel
theorem dX9_init_207 : decode cX9_init 207 = .ok (.aload_n 0, 1) := by decide +kernel
theorem dX9_init_208 : decode cX9_init 208 = .ok (.getfield 20, 3) := by decide +kernel
theorem dX9_init_211 : decode cX9_init 211 = .ok (.iconst 0, 1) := by decide +kernel
theorem dX9_init_212 : decode cX9_init 212 = .ok (.bipush 16, 2) := by decide +kernel
theorem dX9_init_214 : decode cX9_init 214 = .ok (.iastore, 1) := by decide +kernel
theorem dX9_init_215 : decode cX9_init 215 = .ok (.aload_n 0, 1) := by decide +kernel
theorem dX9_init_216 : decode cX9_init 216 = .ok (.getfield 23, 3) := by decide +kernel
theorem dX9_init_219 : decode cX9_init 219 = .ok (.iconst 0, 1) := by decide +kernel
theorem dX9_init_220 : decode cX9_init 220 = .ok (.iconst 1, 1) := by decide +kernel
theorem dX9_init_221 : decode cX9_init 221 = .ok (.iastore, 1) := by decide +kernel
theorem dX9_init_222 : decode cX9_init 222 = .ok (.aload_n 0, 1) := by decide +kernel
theorem dX9_init_223 : decode cX9_init 223 = .ok (.getfield 29, 3) := by decide +kernel
theorem dX9_init_226 : decode cX9_init 226 = .ok (.iconst 0, 1) := by decide +kernel
theorem dX9_init_227 : decode cX9_init 227 = .ok (.iconst 1, 1) := by decide +kernel
theorem dX9_init_228 : decode cX9_init 228 = .ok (.iastore, 1) := by decide +kernel
theorem dX9_init_229 : decode cX9_init 229 = .ok (.aload_n 0, 1) := by decide +kernel
theorem dX9_init_230 : decode cX9_init 230 = .ok (.getfield 32, 3) := by decide +kernel
theorem dX9_init_233 : decode cX9_init 233 = .ok (.iconst 0, 1) := by decide +kernel
theorem dX9_init_234 : decode cX9_init 234 = .ok (.iconst 1, 1) := by decide +kernel
theorem dX9_init_235 : decode cX9_init 235 = .ok (.iastore, 1) := by decide +kernel
theorem dX9_init_236 : decode cX9_init 236 = .ok (.aload_n 0, 1) := by decide +kernel
theorem dX9_init_237 : decode cX9_init 237 = .ok (.getfield 53, 3) := by decide +kernel
theorem dX9_init_240 : decode cX9_init 240 = .ok (.invokestatic 94, 3) := by decide +kernel
theorem dX9_init_243 : decode cX9_init 243 = .ok (.return_, 1) := by decide +kernel
theorem dX9_thrown_0 : decode cX9_thrown 0 = .ok (.aload_n 0, 1) := by decide +kernel
theorem dX9_thrown_1 : decode cX9_thrown 1 = .ok (.getfield 98, 3) := by decide +kernel
theorem dX9_thrown_4 : decode cX9_thrown 4 = .ok (.ireturn, 1) := by decide +kernel
theorem dX9_refused_0 : decode cX9_refused 0 = .ok (.aload_n 0, 1) := by decide +kernel
theorem dX9_refused_1 : decode cX9_refused 1 = .ok (.iload_n 1, 1) := by decide +kernel
theorem dX9_refused_2 : decode cX9_refused 2 = .ok (.putfield 98, 3) := by decide +kernel
theorem dX9_refused_5 : decode cX9_refused 5 = .ok (.iload_n 1, 1) := by decide +kernel
theorem dX9_refused_6 : decode cX9_refused 6 = .ok (.ifCond .le 7, 3) := by decide +kernel
theorem dX9_refused_9 : decode cX9_refused 9 = .ok (.iconst 1, 1) := by decide +kernel
theorem dX9_refused_10 : decode cX9_refused 10 = .ok (.goto 4, 3) := by decide +kernel
theorem dX9_refused_13 : decode cX9_refused 13 = .ok (.iconst 0, 1) := by decide +kernel
theorem dX9_refused_14 : decode cX9_refused 14 = .ok (.ireturn, 1) := by decide +kernel
theorem dX9_in_0 : decode cX9_in 0 = .ok (.lload_n 0, 1) := by decide +kernel
theorem dX9_in_1 : decode cX9_in 1 = .ok (.lload_n 2, 1) := by decide +kernel
theorem dX9_in_2 : decode cX9_in 2 = .ok (.lcmp, 1) := by decide +kernel
theorem dX9_in_3 : decode cX9_in 3 = .ok (.ifCond .lt 14, 3) := by decide +kernel
theorem dX9_in_6 : decode cX9_in 6 = .ok (.lload_n 0, 1) := by decide +kernel
theorem dX9_in_7 : decode cX9_in 7 = .ok (.lload 4, 2) := by decide +kernel
theorem dX9_in_9 : decode cX9_in 9 = .ok (.lcmp, 1) := by decide +kernel
theorem dX9_in_10 : decode cX9_in 10 = .ok (.ifCond .gt 7, 3) := by decide +kernel
theorem dX9_in_13 : decode cX9_in 13 = .ok (.iconst 1, 1) := by decide +kernel
theorem dX9_in_14 : decode cX9_in 14 = .ok (.goto 4, 3) := by decide +kernel
theorem dX9_in_17 : decode cX9_in 17 = .ok (.iconst 0, 1) := by decide +kernel
theorem dX9_in_18 : decode cX9_in 18 = .ok (.ireturn, 1) := by decide +kernel
theorem dX9_copy_0 : decode cX9_copy 0 = .ok (.iconst 0, 1) := by decide +kernel
theorem dX9_copy_1 : decode cX9_copy 1 = .ok (.istore 5, 2) := by decide +kernel
theorem dX9_copy_3 : decode cX9_copy 3 = .ok (.iload 5, 2) := by decide +kernel
theorem dX9_copy_5 : decode cX9_copy 5 = .ok (.iload 4, 2) := by decide +kernel
theorem dX9_copy_7 : decode cX9_copy 7 = .ok (.if_icmp .ge 21, 3) := by decide +kernel
theorem dX9_copy_10 : decode cX9_copy 10 = .ok (.aload_n 2, 1) := by decide +kernel
theorem dX9_copy_11 : decode cX9_copy 11 = .ok (.iload_n 3, 1) := by decide +kernel
theorem dX9_copy_12 : decode cX9_copy 12 = .ok (.iload 5, 2) := by decide +kernel
theorem dX9_copy_14 : decode cX9_copy 14 = .ok (.iadd, 1) := by decide +kernel
theorem dX9_copy_15 : decode cX9_copy 15 = .ok (.aload_n 0, 1) := by decide +kernel
theorem dX9_copy_16 : decode cX9_copy 16 = .ok (.iload_n 1, 1) := by decide +kernel
theorem dX9_copy_17 : decode cX9_copy 17 = .ok (.iload 5, 2) := by decide +kernel
theorem dX9_copy_19 : decode cX9_copy 19 = .ok (.iadd, 1) := by decide +kernel
theorem dX9_copy_20 : decode cX9_copy 20 = .ok (.iaload, 1) := by decide +kernel
theorem dX9_copy_21 : decode cX9_copy 21 = .ok (.iastore, 1) := by decide +kernel
theorem dX9_copy_22 : decode cX9_copy 22 = .ok (.iinc 5 1, 3) := by decide +kernel
theorem dX9_copy_25 : decode cX9_copy 25 = .ok (.goto (-22), 3) := by decide +kernel
theorem dX9_copy_28 : decode cX9_copy 28 = .ok (.return_, 1) := by decide +kernel
theorem dX9_down_0 : decode cX9_down 0 = .ok (.lload_n 0, 1) := by decide +kernel
theorem dX9_down_1 : decode cX9_down 1 = .ok (.lload_n 2, 1) := by decide +kernel
theorem dX9_down_2 : decode cX9_down 2 = .ok (.ldiv, 1) := by decide +kernel
theorem dX9_down_3 : decode cX9_down 3 = .ok (.lstore 4, 2) := by decide +kernel
theorem dX9_down_5 : decode cX9_down 5 = .ok (.lload_n 0, 1) := by decide +kernel
theorem dX9_down_6 : decode cX9_down 6 = .ok (.lload_n 2, 1) := by decide +kernel
theorem dX9_down_7 : decode cX9_down 7 = .ok (.lrem, 1) := by decide +kernel
theorem dX9_down_8 : decode cX9_down 8 = .ok (.lconst 0, 1) := by decide +kernel
theorem dX9_down_9 : decode cX9_down 9 = .ok (.lcmp, 1) := by decide +kernel
theorem dX9_down_10 : decode cX9_down 10 = .ok (.ifCond .ge 10, 3) := by decide +kernel
theorem dX9_down_13 : decode cX9_down 13 = .ok (.lload 4, 2) := by decide +kernel
theorem dX9_down_15 : decode cX9_down 15 = .ok (.lconst 1, 1) := by decide +kernel
theorem dX9_down_16 : decode cX9_down 16 = .ok (.lsub, 1) := by decide +kernel
theorem dX9_down_17 : decode cX9_down 17 = .ok (.goto 5, 3) := by decide +kernel
theorem dX9_down_20 : decode cX9_down 20 = .ok (.lload 4, 2) := by decide +kernel
theorem dX9_down_22 : decode cX9_down 22 = .ok (.lreturn, 1) := by decide +kernel
theorem dX9_up_0 : decode cX9_up 0 = .ok (.lload_n 0, 1) := by decide +kernel
theorem dX9_up_1 : decode cX9_up 1 = .ok (.lneg, 1) := by decide +kernel
theorem dX9_up_2 : decode cX9_up 2 = .ok (.lload_n 2, 1) := by decide +kernel
theorem dX9_up_3 : decode cX9_up 3 = .ok (.invokestatic 101, 3) := by decide +kernel
theorem dX9_up_6 : decode cX9_up 6 = .ok (.lneg, 1) := by decide +kernel
theorem dX9_up_7 : decode cX9_up 7 = .ok (.lreturn, 1) := by decide +kernel
theorem dX9_limited_0 : decode cX9_limited 0 = .ok (.lload_n 0, 1) := by decide +kernel
theorem dX9_limited_1 : decode cX9_limited 1 = .ok (.iload_n 2, 1) := by decide +kernel
theorem dX9_limited_2 : decode cX9_limited 2 = .ok (.i2l, 1) := by decide +kernel
theorem dX9_limited_3 : decode cX9_limited 3 = .ok (.lcmp, 1) := by decide +kernel
theorem dX9_limited_4 : decode cX9_limited 4 = .ok (.ifCond .le 7, 3) := by decide +kernel
theorem dX9_limited_7 : decode cX9_limited 7 = .ok (.iload_n 2, 1) := by decide +kernel
theorem dX9_limited_8 : decode cX9_limited 8 = .ok (.goto 18, 3) := by decide +kernel
theorem dX9_limited_11 : decode cX9_limited 11 = .ok (.lload_n 0, 1) := by decide +kernel
theorem dX9_limited_12 : decode cX9_limited 12 = .ok (.iload_n 2, 1) := by decide +kernel
theorem dX9_limited_13 : decode cX9_limited 13 = .ok (.ineg, 1) := by decide +kernel
theorem dX9_limited_14 : decode cX9_limited 14 = .ok (.i2l, 1) := by decide +kernel
theorem dX9_limited_15 : decode cX9_limited 15 = .ok (.lcmp, 1) := by decide +kernel
theorem dX9_limited_16 : decode cX9_limited 16 = .ok (.ifCond .ge 8, 3) := by decide +kernel
theorem dX9_limited_19 : decode cX9_limited 19 = .ok (.iload_n 2, 1) := by decide +kernel
theorem dX9_limited_20 : decode cX9_limited 20 = .ok (.ineg, 1) := by decide +kernel
theorem dX9_limited_21 : decode cX9_limited 21 = .ok (.goto 5, 3) := by decide +kernel
theorem dX9_limited_24 : decode cX9_limited 24 = .ok (.lload_n 0, 1) := by decide +kernel
theorem dX9_limited_25 : decode cX9_limited 25 = .ok (.l2i, 1) := by decide +kernel
theorem dX9_limited_26 : decode cX9_limited 26 = .ok (.ireturn, 1) := by decide +kernel
theorem dX9_size_0 : decode cX9_size 0 = .ok (.iload_n 0, 1) := by decide +kernel
theorem dX9_size_1 : decode cX9_size 1 = .ok (.ifCond .ge 8, 3) := by decide +kernel
theorem dX9_size_4 : decode cX9_size 4 = .ok (.iload_n 0, 1) := by decide +kernel
theorem dX9_size_5 : decode cX9_size 5 = .ok (.ineg, 1) := by decide +kernel
theorem dX9_size_6 : decode cX9_size 6 = .ok (.goto 4, 3) := by decide +kernel
theorem dX9_size_9 : decode cX9_size 9 = .ok (.iload_n 0, 1) := by decide +kernel
theorem dX9_size_10 : decode cX9_size 10 = .ok (.ireturn, 1) := by decide +kernel
theorem dX9_layFirst_0 : decode cX9_layFirst 0 = .ok (.iconst 0, 1) := by decide +kernel
theorem dX9_layFirst_1 : decode cX9_layFirst 1 = .ok (.istore_n 1, 1) := by decide +kernel
theorem dX9_layFirst_2 : decode cX9_layFirst 2 = .ok (.iload_n 1, 1) := by decide +kernel
theorem dX9_layFirst_3 : decode cX9_layFirst 3 = .ok (.bipush 48, 2) := by decide +kernel
theorem dX9_layFirst_5 : decode cX9_layFirst 5 = .ok (.if_icmp .ge 13, 3) := by decide +kernel
theorem dX9_layFirst_8 : decode cX9_layFirst 8 = .ok (.aload_n 0, 1) := by decide +kernel
theorem dX9_layFirst_9 : decode cX9_layFirst 9 = .ok (.iload_n 1, 1) := by decide +kernel
theorem dX9_layFirst_10 : decode cX9_layFirst 10 = .ok (.iconst 0, 1) := by decide +kernel
theorem dX9_layFirst_11 : decode cX9_layFirst 11 = .ok (.iastore, 1) := by decide +kernel
theorem dX9_layFirst_12 : decode cX9_layFirst 12 = .ok (.iinc 1 1, 3) := by decide +kernel
theorem dX9_layFirst_15 : decode cX9_layFirst 15 = .ok (.goto (-13), 3) := by decide +kernel
theorem dX9_layFirst_18 : decode cX9_layFirst 18 = .ok (.iconst 0, 1) := by decide +kernel
theorem dX9_layFirst_19 : decode cX9_layFirst 19 = .ok (.istore_n 1, 1) := by decide +kernel
theorem dX9_layFirst_20 : decode cX9_layFirst 20 = .ok (.iload_n 1, 1) := by decide +kernel
theorem dX9_layFirst_21 : decode cX9_layFirst 21 = .ok (.iconst 4, 1) := by decide +kernel
theorem dX9_layFirst_22 : decode cX9_layFirst 22 = .ok (.if_icmp .ge 26, 3) := by decide +kernel
theorem dX9_layFirst_25 : decode cX9_layFirst 25 = .ok (.aload_n 0, 1) := by decide +kernel
theorem dX9_layFirst_26 : decode cX9_layFirst 26 = .ok (.iconst 4, 1) := by decide +kernel
theorem dX9_layFirst_27 : decode cX9_layFirst 27 = .ok (.iload_n 1, 1) := by decide +kernel
theorem dX9_layFirst_28 : decode cX9_layFirst 28 = .ok (.iadd, 1) := by decide +kernel
theorem dX9_layFirst_29 : decode cX9_layFirst 29 = .ok (.sipush (-1000), 3) := by decide +kernel
theorem dX9_layFirst_32 : decode cX9_layFirst 32 = .ok (.iastore, 1) := by decide +kernel
theorem dX9_layFirst_33 : decode cX9_layFirst 33 = .ok (.aload_n 0, 1) := by decide +kernel
theorem dX9_layFirst_34 : decode cX9_layFirst 34 = .ok (.bipush 8, 2) := by decide +kernel
theorem dX9_layFirst_36 : decode cX9_layFirst 36 = .ok (.iload_n 1, 1) := by decide +kernel
theorem dX9_layFirst_37 : decode cX9_layFirst 37 = .ok (.iadd, 1) := by decide +kernel
theorem dX9_layFirst_38 : decode cX9_layFirst 38 = .ok (.sipush 1000, 3) := by decide +kernel
theorem dX9_layFirst_41 : decode cX9_layFirst 41 = .ok (.iastore, 1) := by decide +kernel
theorem dX9_layFirst_42 : decode cX9_layFirst 42 = .ok (.iinc 1 1, 3) := by decide +kernel
theorem dX9_layFirst_45 : decode cX9_layFirst 45 = .ok (.goto (-25), 3) := by decide +kernel
theorem dX9_layFirst_48 : decode cX9_layFirst 48 = .ok (.iconst 0, 1) := by decide +kernel
theorem dX9_layFirst_49 : decode cX9_layFirst 49 = .ok (.istore_n 1, 1) := by decide +kernel
theorem dX9_layFirst_50 : decode cX9_layFirst 50 = .ok (.iload_n 1, 1) := by decide +kernel
theorem dX9_layFirst_51 : decode cX9_layFirst 51 = .ok (.iconst 3, 1) := by decide +kernel
theorem dX9_layFirst_52 : decode cX9_layFirst 52 = .ok (.if_icmp .ge 16, 3) := by decide +kernel
theorem dX9_layFirst_55 : decode cX9_layFirst 55 = .ok (.aload_n 0, 1) := by decide +kernel
theorem dX9_layFirst_56 : decode cX9_layFirst 56 = .ok (.bipush 34, 2) := by decide +kernel
theorem dX9_layFirst_58 : decode cX9_layFirst 58 = .ok (.iload_n 1, 1) := by decide +kernel
theorem dX9_layFirst_59 : decode cX9_layFirst 59 = .ok (.iadd, 1) := by decide +kernel
theorem dX9_layFirst_60 : decode cX9_layFirst 60 = .ok (.iconst (-1), 1) := by decide +kernel
theorem dX9_layFirst_61 : decode cX9_layFirst 61 = .ok (.iastore, 1) := by decide +kernel
theorem dX9_layFirst_62 : decode cX9_layFirst 62 = .ok (.iinc 1 1, 3) := by decide +kernel
theorem dX9_layFirst_65 : decode cX9_layFirst 65 = .ok (.goto (-15), 3) := by decide +kernel
theorem dX9_layFirst_68 : decode cX9_layFirst 68 = .ok (.return_, 1) := by decide +kernel
theorem dX9_append_0 : decode cX9_append 0 = .ok (.aload_n 0, 1) := by decide +kernel
theorem dX9_append_1 : decode cX9_append 1 = .ok (.iload_n 1, 1) := by decide +kernel
theorem dX9_append_2 : decode cX9_append 2 = .ok (.i2l, 1) := by decide +kernel
theorem dX9_append_3 : decode cX9_append 3 = .ok (.lconst 0, 1) := by decide +kernel
theorem dX9_append_4 : decode cX9_append 4 = .ok (.ldc2_w 105, 3) := by decide +kernel
theorem dX9_append_7 : decode cX9_append 7 = .ok (.invokestatic 107, 3) := by decide +kernel
theorem dX9_append_10 : decode cX9_append 10 = .ok (.ifCond .ne 7, 3) := by decide +kernel
theorem dX9_append_13 : decode cX9_append 13 = .ok (.iconst 1, 1) := by decide +kernel
theorem dX9_append_14 : decode cX9_append 14 = .ok (.goto 18, 3) := by decide +kernel
theorem dX9_append_17 : decode cX9_append 17 = .ok (.aload_n 0, 1) := by decide +kernel
theorem dX9_append_18 : decode cX9_append 18 = .ok (.getfield 111, 3) := by decide +kernel
theorem dX9_append_21 : decode cX9_append 21 = .ok (.sipush 200, 3) := by decide +kernel
theorem dX9_append_24 : decode cX9_append 24 = .ok (.if_icmp .ne 7, 3) := by decide +kernel
theorem dX9_append_27 : decode cX9_append 27 = .ok (.iconst 2, 1) := by decide +kernel
theorem dX9_append_28 : decode cX9_append 28 = .ok (.goto 4, 3) := by decide +kernel
theorem dX9_append_31 : decode cX9_append 31 = .ok (.iconst 0, 1) := by decide +kernel
theorem dX9_append_32 : decode cX9_append 32 = .ok (.invokevirtual 114, 3) := by decide +kernel
theorem dX9_append_35 : decode cX9_append 35 = .ok (.ifCond .eq 5, 3) := by decide +kernel
theorem dX9_append_38 : decode cX9_append 38 = .ok (.iconst 0, 1) := by decide +kernel
theorem dX9_append_39 : decode cX9_append 39 = .ok (.ireturn, 1) := by decide +kernel
theorem dX9_append_40 : decode cX9_append 40 = .ok (.aload_n 0, 1) := by decide +kernel
theorem dX9_append_41 : decode cX9_append 41 = .ok (.getfield 7, 3) := by decide +kernel
theorem dX9_append_44 : decode cX9_append 44 = .ok (.aload_n 0, 1) := by decide +kernel
theorem dX9_append_45 : decode cX9_append 45 = .ok (.getfield 111, 3) := by decide +kernel
theorem dX9_append_48 : decode cX9_append 48 = .ok (.iload_n 1, 1) := by decide +kernel
theorem dX9_append_49 : decode cX9_append 49 = .ok (.iastore, 1) := by decide +kernel
theorem dX9_append_50 : decode cX9_append 50 = .ok (.aload_n 0, 1) := by decide +kernel
theorem dX9_append_51 : decode cX9_append 51 = .ok (.dup, 1) := by decide +kernel
theorem dX9_append_52 : decode cX9_append 52 = .ok (.getfield 111, 3) := by decide +kernel
theorem dX9_append_55 : decode cX9_append 55 = .ok (.iconst 1, 1) := by decide +kernel
theorem dX9_append_56 : decode cX9_append 56 = .ok (.iadd, 1) := by decide +kernel
theorem dX9_append_57 : decode cX9_append 57 = .ok (.putfield 111, 3) := by decide +kernel
theorem dX9_append_60 : decode cX9_append 60 = .ok (.aload_n 0, 1) := by decide +kernel
theorem dX9_append_61 : decode cX9_append 61 = .ok (.getfield 111, 3) := by decide +kernel
theorem dX9_append_64 : decode cX9_append 64 = .ok (.ireturn, 1) := by decide +kernel
theorem dX9_clearText_0 : decode cX9_clearText 0 = .ok (.aload_n 0, 1) := by decide +kernel
theorem dX9_clearText_1 : decode cX9_clearText 1 = .ok (.iconst 0, 1) := by decide +kernel
theorem dX9_clearText_2 : decode cX9_clearText 2 = .ok (.putfield 98, 3) := by decide +kernel
theorem dX9_clearText_5 : decode cX9_clearText 5 = .ok (.aload_n 0, 1) := by decide +kernel
theorem dX9_clearText_6 : decode cX9_clearText 6 = .ok (.getfield 111, 3) := by decide +kernel
theorem dX9_clearText_9 : decode cX9_clearText 9 = .ok (.istore_n 1, 1) := by decide +kernel
theorem dX9_clearText_10 : decode cX9_clearText 10 = .ok (.aload_n 0, 1) := by decide +kernel
theorem dX9_clearText_11 : decode cX9_clearText 11 = .ok (.iconst 0, 1) := by decide +kernel
theorem dX9_clearText_12 : decode cX9_clearText 12 = .ok (.putfield 111, 3) := by decide +kernel
theorem dX9_clearText_15 : decode cX9_clearText 15 = .ok (.iload_n 1, 1) := by decide +kernel
theorem dX9_clearText_16 : decode cX9_clearText 16 = .ok (.ireturn, 1) := by decide +kernel
theorem dX9_passes_0 : decode cX9_passes 0 = .ok (.aload_n 0, 1) := by decide +kernel
theorem dX9_passes_1 : decode cX9_passes 1 = .ok (.getfield 118, 3) := by decide +kernel
theorem dX9_passes_4 : decode cX9_passes 4 = .ok (.aload_n 0, 1) := by decide +kernel
theorem dX9_passes_5 : decode cX9_passes 5 = .ok (.getfield 111, 3) := by decide +kernel
theorem dX9_passes_8 : decode cX9_passes 8 = .ok (.if_icmp .ge 20, 3) := by decide +kernel
theorem dX9_passes_11 : decode cX9_passes 11 = .ok (.aload_n 0, 1) := by decide +kernel
theorem dX9_passes_12 : decode cX9_passes 12 = .ok (.getfield 7, 3) := by decide +kernel
theorem dX9_passes_15 : decode cX9_passes 15 = .ok (.aload_n 0, 1) := by decide +kernel
theorem dX9_passes_16 : decode cX9_passes 16 = .ok (.getfield 118, 3) := by decide +kernel
theorem dX9_passes_19 : decode cX9_passes 19 = .ok (.iaload, 1) := by decide +kernel
theorem dX9_passes_20 : decode cX9_passes 20 = .ok (.iload_n 1, 1) := by decide +kernel
theorem dX9_passes_21 : decode cX9_passes 21 = .ok (.if_icmp .ne 7, 3) := by decide +kernel
theorem dX9_passes_24 : decode cX9_passes 24 = .ok (.iconst 1, 1) := by decide +kernel
theorem dX9_passes_25 : decode cX9_passes 25 = .ok (.goto 4, 3) := by decide +kernel
theorem dX9_passes_28 : decode cX9_passes 28 = .ok (.iconst 0, 1) := by decide +kernel
theorem dX9_passes_29 : decode cX9_passes 29 = .ok (.istore_n 2, 1) := by decide +kernel
theorem dX9_passes_30 : decode cX9_passes 30 = .ok (.aload_n 0, 1) := by decide +kernel
theorem dX9_passes_31 : decode cX9_passes 31 = .ok (.dup, 1) := by decide +kernel
theorem dX9_passes_32 : decode cX9_passes 32 = .ok (.getfield 118, 3) := by decide +kernel
theorem dX9_passes_35 : decode cX9_passes 35 = .ok (.iload_n 2, 1) := by decide +kernel
theorem dX9_passes_36 : decode cX9_passes 36 = .ok (.ifCond .eq 7, 3) := by decide +kernel
theorem dX9_passes_39 : decode cX9_passes 39 = .ok (.iconst 1, 1) := by decide +kernel
theorem dX9_passes_40 : decode cX9_passes 40 = .ok (.goto 4, 3) := by decide +kernel
theorem dX9_passes_43 : decode cX9_passes 43 = .ok (.iconst 0, 1) := by decide +kernel
theorem dX9_passes_44 : decode cX9_passes 44 = .ok (.iadd, 1) := by decide +kernel
theorem dX9_passes_45 : decode cX9_passes 45 = .ok (.putfield 118, 3) := by decide +kernel
theorem dX9_passes_48 : decode cX9_passes 48 = .ok (.iload_n 2, 1) := by decide +kernel
theorem dX9_passes_49 : decode cX9_passes 49 = .ok (.ireturn, 1) := by decide +kernel
theorem dX9_readDigit_0 : decode cX9_readDigit 0 = .ok (.aload_n 0, 1) := by decide +kernel
theorem dX9_readDigit_1 : decode cX9_readDigit 1 = .ok (.aload_n 0, 1) := by decide +kernel
theorem dX9_readDigit_2 : decode cX9_readDigit 2 = .ok (.getfield 118, 3) := by decide +kernel
theorem dX9_readDigit_5 : decode cX9_readDigit 5 = .ok (.aload_n 0, 1) := by decide +kernel
theorem dX9_readDigit_6 : decode cX9_readDigit 6 = .ok (.getfield 111, 3) := by decide +kernel
theorem dX9_readDigit_9 : decode cX9_readDigit 9 = .ok (.if_icmp .ge 18, 3) := by decide +kernel
theorem dX9_readDigit_12 : decode cX9_readDigit 12 = .ok (.aload_n 0, 1) := by decide +kernel
theorem dX9_readDigit_13 : decode cX9_readDigit 13 = .ok (.getfield 7, 3) := by decide +kernel
theorem dX9_readDigit_16 : decode cX9_readDigit 16 = .ok (.aload_n 0, 1) := by decide +kernel
theorem dX9_readDigit_17 : decode cX9_readDigit 17 = .ok (.getfield 118, 3) := by decide +kernel
theorem dX9_readDigit_20 : decode cX9_readDigit 20 = .ok (.iaload, 1) := by decide +kernel
theorem dX9_readDigit_21 : decode cX9_readDigit 21 = .ok (.bipush 48, 2) := by decide +kernel
theorem dX9_readDigit_23 : decode cX9_readDigit 23 = .ok (.isub, 1) := by decide +kernel
theorem dX9_readDigit_24 : decode cX9_readDigit 24 = .ok (.goto 5, 3) := by decide +kernel
theorem dX9_readDigit_27 : decode cX9_readDigit 27 = .ok (.bipush (-9), 2) := by decide +kernel
theorem dX9_readDigit_29 : decode cX9_readDigit 29 = .ok (.putfield 121, 3) := by decide +kernel
theorem dX9_readDigit_32 : decode cX9_readDigit 32 = .ok (.aload_n 0, 1) := by decide +kernel
theorem dX9_readDigit_33 : decode cX9_readDigit 33 = .ok (.getfield 121, 3) := by decide +kernel
theorem dX9_readDigit_36 : decode cX9_readDigit 36 = .ok (.i2l, 1) := by decide +kernel
theorem dX9_readDigit_37 : decode cX9_readDigit 37 = .ok (.iload_n 1, 1) := by decide +kernel
theorem dX9_readDigit_38 : decode cX9_readDigit 38 = .ok (.i2l, 1) := by decide +kernel
theorem dX9_readDigit_39 : decode cX9_readDigit 39 = .ok (.iload_n 2, 1) := by decide +kernel
theorem dX9_readDigit_40 : decode cX9_readDigit 40 = .ok (.i2l, 1) := by decide +kernel
theorem dX9_readDigit_41 : decode cX9_readDigit 41 = .ok (.invokestatic 107, 3) := by decide +kernel
theorem dX9_readDigit_44 : decode cX9_readDigit 44 = .ok (.istore_n 3, 1) := by decide +kernel
theorem dX9_readDigit_45 : decode cX9_readDigit 45 = .ok (.aload_n 0, 1) := by decide +kernel
theorem dX9_readDigit_46 : decode cX9_readDigit 46 = .ok (.dup, 1) := by decide +kernel
theorem dX9_readDigit_47 : decode cX9_readDigit 47 = .ok (.getfield 118, 3) := by decide +kernel
theorem dX9_readDigit_50 : decode cX9_readDigit 50 = .ok (.iload_n 3, 1) := by decide +kernel
theorem dX9_readDigit_51 : decode cX9_readDigit 51 = .ok (.ifCond .eq 7, 3) := by decide +kernel
theorem dX9_readDigit_54 : decode cX9_readDigit 54 = .ok (.iconst 1, 1) := by decide +kernel
theorem dX9_readDigit_55 : decode cX9_readDigit 55 = .ok (.goto 4, 3) := by decide +kernel
theorem dX9_readDigit_58 : decode cX9_readDigit 58 = .ok (.iconst 0, 1) := by decide +kernel
theorem dX9_readDigit_59 : decode cX9_readDigit 59 = .ok (.iadd, 1) := by decide +kernel
theorem dX9_readDigit_60 : decode cX9_readDigit 60 = .ok (.putfield 118, 3) := by decide +kernel
theorem dX9_readDigit_63 : decode cX9_readDigit 63 = .ok (.iload_n 3, 1) := by decide +kernel
theorem dX9_readDigit_64 : decode cX9_readDigit 64 = .ok (.ireturn, 1) := by decide +kernel
theorem dX9_readTwo_0 : decode cX9_readTwo 0 = .ok (.aload_n 0, 1) := by decide +kernel
theorem dX9_readTwo_1 : decode cX9_readTwo 1 = .ok (.iconst 0, 1) := by decide +kernel
theorem dX9_readTwo_2 : decode cX9_readTwo 2 = .ok (.bipush 9, 2) := by decide +kernel
theorem dX9_readTwo_4 : decode cX9_readTwo 4 = .ok (.invokevirtual 124, 3) := by decide +kernel
theorem dX9_readTwo_7 : decode cX9_readTwo 7 = .ok (.ifCond .ne 5, 3) := by decide +kernel
theorem dX9_readTwo_10 : decode cX9_readTwo 10 = .ok (.iconst 0, 1) := by decide +kernel
theorem dX9_readTwo_11 : decode cX9_readTwo 11 = .ok (.ireturn, 1) := by decide +kernel
theorem dX9_readTwo_12 : decode cX9_readTwo 12 = .ok (.aload_n 0, 1) := by decide +kernel
theorem dX9_readTwo_13 : decode cX9_readTwo 13 = .ok (.getfield 121, 3) := by decide +kernel
theorem dX9_readTwo_16 : decode cX9_readTwo 16 = .ok (.istore_n 2, 1) := by decide +kernel
theorem dX9_readTwo_17 : decode cX9_readTwo 17 = .ok (.aload_n 0, 1) := by decide +kernel
theorem dX9_readTwo_18 : decode cX9_readTwo 18 = .ok (.iload_n 2, 1) := by decide +kernel
theorem dX9_readTwo_19 : decode cX9_readTwo 19 = .ok (.ifCond .ne 7, 3) := by decide +kernel
theorem dX9_readTwo_22 : decode cX9_readTwo 22 = .ok (.iload_n 1, 1) := by decide +kernel
theorem dX9_readTwo_23 : decode cX9_readTwo 23 = .ok (.goto 4, 3) := by decide +kernel
theorem dX9_readTwo_26 : decode cX9_readTwo 26 = .ok (.iconst 0, 1) := by decide +kernel
theorem dX9_readTwo_27 : decode cX9_readTwo 27 = .ok (.bipush 9, 2) := by decide +kernel
theorem dX9_readTwo_29 : decode cX9_readTwo 29 = .ok (.invokevirtual 124, 3) := by decide +kernel
theorem dX9_readTwo_32 : decode cX9_readTwo 32 = .ok (.ifCond .ne 5, 3) := by decide +kernel
theorem dX9_readTwo_35 : decode cX9_readTwo 35 = .ok (.iconst 0, 1) := by decide +kernel
theorem dX9_readTwo_36 : decode cX9_readTwo 36 = .ok (.ireturn, 1) := by decide +kernel
theorem dX9_readTwo_37 : decode cX9_readTwo 37 = .ok (.aload_n 0, 1) := by decide +kernel
theorem dX9_readTwo_38 : decode cX9_readTwo 38 = .ok (.dup, 1) := by decide +kernel
theorem dX9_readTwo_39 : decode cX9_readTwo 39 = .ok (.getfield 121, 3) := by decide +kernel
theorem dX9_readTwo_42 : decode cX9_readTwo 42 = .ok (.bipush 10, 2) := by decide +kernel
theorem dX9_readTwo_44 : decode cX9_readTwo 44 = .ok (.iload_n 2, 1) := by decide +kernel
theorem dX9_readTwo_45 : decode cX9_readTwo 45 = .ok (.imul, 1) := by decide +kernel
theorem dX9_readTwo_46 : decode cX9_readTwo 46 = .ok (.iadd, 1) := by decide +kernel
theorem dX9_readTwo_47 : decode cX9_readTwo 47 = .ok (.putfield 121, 3) := by decide +kernel
theorem dX9_readTwo_50 : decode cX9_readTwo 50 = .ok (.iconst 1, 1) := by decide +kernel
theorem dX9_readTwo_51 : decode cX9_readTwo 51 = .ok (.ireturn, 1) := by decide +kernel
theorem dX9_readSigned_0 : decode cX9_readSigned 0 = .ok (.aload_n 0, 1) := by decide +kernel
theorem dX9_readSigned_1 : decode cX9_readSigned 1 = .ok (.bipush 45, 2) := by decide +kernel
theorem dX9_readSigned_3 : decode cX9_readSigned 3 = .ok (.invokevirtual 128, 3) := by decide +kernel
theorem dX9_readSigned_6 : decode cX9_readSigned 6 = .ok (.istore_n 1, 1) := by decide +kernel
theorem dX9_readSigned_7 : decode cX9_readSigned 7 = .ok (.iload_n 1, 1) := by decide +kernel
theorem dX9_readSigned_8 : decode cX9_readSigned 8 = .ok (.ifCond .ne 12, 3) := by decide +kernel
theorem dX9_readSigned_11 : decode cX9_readSigned 11 = .ok (.aload_n 0, 1) := by decide +kernel
theorem dX9_readSigned_12 : decode cX9_readSigned 12 = .ok (.bipush 43, 2) := by decide +kernel
theorem dX9_readSigned_14 : decode cX9_readSigned 14 = .ok (.invokevirtual 128, 3) := by decide +kernel
theorem dX9_readSigned_17 : decode cX9_readSigned 17 = .ok (.ifCond .eq 11, 3) := by decide +kernel
theorem dX9_readSigned_20 : decode cX9_readSigned 20 = .ok (.aload_n 0, 1) := by decide +kernel
theorem dX9_readSigned_21 : decode cX9_readSigned 21 = .ok (.iconst 0, 1) := by decide +kernel
theorem dX9_readSigned_22 : decode cX9_readSigned 22 = .ok (.invokevirtual 131, 3) := by decide +kernel
theorem dX9_readSigned_25 : decode cX9_readSigned 25 = .ok (.ifCond .ne 5, 3) := by decide +kernel
theorem dX9_readSigned_28 : decode cX9_readSigned 28 = .ok (.iconst 0, 1) := by decide +kernel
theorem dX9_readSigned_29 : decode cX9_readSigned 29 = .ok (.ireturn, 1) := by decide +kernel
theorem dX9_readSigned_30 : decode cX9_readSigned 30 = .ok (.aload_n 0, 1) := by decide +kernel
theorem dX9_readSigned_31 : decode cX9_readSigned 31 = .ok (.iload_n 1, 1) := by decide +kernel
theorem dX9_readSigned_32 : decode cX9_readSigned 32 = .ok (.ifCond .eq 11, 3) := by decide +kernel
theorem dX9_readSigned_35 : decode cX9_readSigned 35 = .ok (.aload_n 0, 1) := by decide +kernel
theorem dX9_readSigned_36 : decode cX9_readSigned 36 = .ok (.getfield 121, 3) := by decide +kernel
theorem dX9_readSigned_39 : decode cX9_readSigned 39 = .ok (.ineg, 1) := by decide +kernel
theorem dX9_readSigned_40 : decode cX9_readSigned 40 = .ok (.goto 7, 3) := by decide +kernel
theorem dX9_readSigned_43 : decode cX9_readSigned 43 = .ok (.aload_n 0, 1) := by decide +kernel
theorem dX9_readSigned_44 : decode cX9_readSigned 44 = .ok (.getfield 121, 3) := by decide +kernel
theorem dX9_readSigned_47 : decode cX9_readSigned 47 = .ok (.putfield 121, 3) := by decide +kernel
theorem dX9_readSigned_50 : decode cX9_readSigned 50 = .ok (.iconst 1, 1) := by decide +kernel
theorem dX9_readSigned_51 : decode cX9_readSigned 51 = .ok (.ireturn, 1) := by decide +kernel
theorem dX9_readHead_0 : decode cX9_readHead 0 = .ok (.aload_n 0, 1) := by decide +kernel
theorem dX9_readHead_1 : decode cX9_readHead 1 = .ok (.bipush 78, 2) := by decide +kernel
theorem dX9_readHead_3 : decode cX9_readHead 3 = .ok (.invokevirtual 128, 3) := by decide +kernel
theorem dX9_readHead_6 : decode cX9_readHead 6 = .ok (.ifCond .eq 12, 3) := by decide +kernel
theorem dX9_readHead_9 : decode cX9_readHead 9 = .ok (.aload_n 0, 1) := by decide +kernel
theorem dX9_readHead_10 : decode cX9_readHead 10 = .ok (.iconst 1, 1) := by decide +kernel
theorem dX9_readHead_11 : decode cX9_readHead 11 = .ok (.iconst 4, 1) := by decide +kernel
theorem dX9_readHead_12 : decode cX9_readHead 12 = .ok (.invokevirtual 124, 3) := by decide +kernel
theorem dX9_readHead_15 : decode cX9_readHead 15 = .ok (.ifCond .ne 5, 3) := by decide +kernel
theorem dX9_readHead_18 : decode cX9_readHead 18 = .ok (.iconst 0, 1) := by decide +kernel
theorem dX9_readHead_19 : decode cX9_readHead 19 = .ok (.ireturn, 1) := by decide +kernel
theorem dX9_readHead_20 : decode cX9_readHead 20 = .ok (.aload_n 0, 1) := by decide +kernel
theorem dX9_readHead_21 : decode cX9_readHead 21 = .ok (.aload_n 0, 1) := by decide +kernel
theorem dX9_readHead_22 : decode cX9_readHead 22 = .ok (.getfield 121, 3) := by decide +kernel
theorem dX9_readHead_25 : decode cX9_readHead 25 = .ok (.putfield 134, 3) := by decide +kernel
theorem dX9_readHead_28 : decode cX9_readHead 28 = .ok (.aload_n 0, 1) := by decide +kernel
theorem dX9_readHead_29 : decode cX9_readHead 29 = .ok (.iconst 1, 1) := by decide +kernel
theorem dX9_readHead_30 : decode cX9_readHead 30 = .ok (.iconst 3, 1) := by decide +kernel
theorem dX9_readHead_31 : decode cX9_readHead 31 = .ok (.invokevirtual 124, 3) := by decide +kernel
theorem dX9_readHead_34 : decode cX9_readHead 34 = .ok (.ifCond .ne 5, 3) := by decide +kernel
theorem dX9_readHead_37 : decode cX9_readHead 37 = .ok (.iconst 0, 1) := by decide +kernel
theorem dX9_readHead_38 : decode cX9_readHead 38 = .ok (.ireturn, 1) := by decide +kernel
theorem dX9_readHead_39 : decode cX9_readHead 39 = .ok (.aload_n 0, 1) := by decide +kernel
theorem dX9_readHead_40 : decode cX9_readHead 40 = .ok (.aload_n 0, 1) := by decide +kernel
theorem dX9_readHead_41 : decode cX9_readHead 41 = .ok (.getfield 121, 3) := by decide +kernel
theorem dX9_readHead_44 : decode cX9_readHead 44 = .ok (.putfield 137, 3) := by decide +kernel
theorem dX9_readHead_47 : decode cX9_readHead 47 = .ok (.aload_n 0, 1) := by decide +kernel
theorem dX9_readHead_48 : decode cX9_readHead 48 = .ok (.iconst 0, 1) := by decide +kernel
theorem dX9_readHead_49 : decode cX9_readHead 49 = .ok (.invokevirtual 131, 3) := by decide +kernel
theorem dX9_readHead_52 : decode cX9_readHead 52 = .ok (.ifCond .ne 5, 3) := by decide +kernel
theorem dX9_readHead_55 : decode cX9_readHead 55 = .ok (.iconst 0, 1) := by decide +kernel
theorem dX9_readHead_56 : decode cX9_readHead 56 = .ok (.ireturn, 1) := by decide +kernel
theorem dX9_readHead_57 : decode cX9_readHead 57 = .ok (.aload_n 0, 1) := by decide +kernel
theorem dX9_readHead_58 : decode cX9_readHead 58 = .ok (.getfield 50, 3) := by decide +kernel
theorem dX9_readHead_61 : decode cX9_readHead 61 = .ok (.bipush 29, 2) := by decide +kernel
theorem dX9_readHead_63 : decode cX9_readHead 63 = .ok (.aload_n 0, 1) := by decide +kernel
theorem dX9_readHead_64 : decode cX9_readHead 64 = .ok (.getfield 121, 3) := by decide +kernel
theorem dX9_readHead_67 : decode cX9_readHead 67 = .ok (.iastore, 1) := by decide +kernel
theorem dX9_readHead_68 : decode cX9_readHead 68 = .ok (.aload_n 0, 1) := by decide +kernel
theorem dX9_readHead_69 : decode cX9_readHead 69 = .ok (.iconst 0, 1) := by decide +kernel
theorem dX9_readHead_70 : decode cX9_readHead 70 = .ok (.bipush 9, 2) := by decide +kernel
theorem dX9_readHead_72 : decode cX9_readHead 72 = .ok (.invokevirtual 124, 3) := by decide +kernel
theorem dX9_readHead_75 : decode cX9_readHead 75 = .ok (.ifCond .ne 5, 3) := by decide +kernel
theorem dX9_readHead_78 : decode cX9_readHead 78 = .ok (.iconst 0, 1) := by decide +kernel
theorem dX9_readHead_79 : decode cX9_readHead 79 = .ok (.ireturn, 1) := by decide +kernel
theorem dX9_readHead_80 : decode cX9_readHead 80 = .ok (.aload_n 0, 1) := by decide +kernel
theorem dX9_readHead_81 : decode cX9_readHead 81 = .ok (.getfield 50, 3) := by decide +kernel
theorem dX9_readHead_84 : decode cX9_readHead 84 = .ok (.bipush 28, 2) := by decide +kernel
theorem dX9_readHead_86 : decode cX9_readHead 86 = .ok (.aload_n 0, 1) := by decide +kernel
theorem dX9_readHead_87 : decode cX9_readHead 87 = .ok (.getfield 121, 3) := by decide +kernel
theorem dX9_readHead_90 : decode cX9_readHead 90 = .ok (.iastore, 1) := by decide +kernel
theorem dX9_readHead_91 : decode cX9_readHead 91 = .ok (.iconst 1, 1) := by decide +kernel
theorem dX9_readHead_92 : decode cX9_readHead 92 = .ok (.ireturn, 1) := by decide +kernel
theorem dX9_readState_0 : decode cX9_readState 0 = .ok (.aload_n 0, 1) := by decide +kernel
theorem dX9_readState_1 : decode cX9_readState 1 = .ok (.bipush 114, 2) := by decide +kernel
theorem dX9_readState_3 : decode cX9_readState 3 = .ok (.invokevirtual 128, 3) := by decide +kernel
theorem dX9_readState_6 : decode cX9_readState 6 = .ok (.ifCond .ne 5, 3) := by decide +kernel
theorem dX9_readState_9 : decode cX9_readState 9 = .ok (.iconst 0, 1) := by decide +kernel
theorem dX9_readState_10 : decode cX9_readState 10 = .ok (.ireturn, 1) := by decide +kernel
theorem dX9_readState_11 : decode cX9_readState 11 = .ok (.iconst 0, 1) := by decide +kernel
theorem dX9_readState_12 : decode cX9_readState 12 = .ok (.istore_n 2, 1) := by decide +kernel
theorem dX9_readState_13 : decode cX9_readState 13 = .ok (.iload_n 2, 1) := by decide +kernel
theorem dX9_readState_14 : decode cX9_readState 14 = .ok (.aload_n 0, 1) := by decide +kernel
theorem dX9_readState_15 : decode cX9_readState 15 = .ok (.getfield 134, 3) := by decide +kernel
theorem dX9_readState_18 : decode cX9_readState 18 = .ok (.iconst 2, 1) := by decide +kernel
theorem dX9_readState_19 : decode cX9_readState 19 = .ok (.iadd, 1) := by decide +kernel
theorem dX9_readState_20 : decode cX9_readState 20 = .ok (.if_icmp .ge 74, 3) := by decide +kernel
theorem dX9_readState_23 : decode cX9_readState 23 = .ok (.aload_n 0, 1) := by decide +kernel
theorem dX9_readState_24 : decode cX9_readState 24 = .ok (.invokevirtual 140, 3) := by decide +kernel
theorem dX9_readState_27 : decode cX9_readState 27 = .ok (.ifCond .ne 5, 3) := by decide +kernel
theorem dX9_readState_30 : decode cX9_readState 30 = .ok (.iconst 0, 1) := by decide +kernel
theorem dX9_readState_31 : decode cX9_readState 31 = .ok (.ireturn, 1) := by decide +kernel
theorem dX9_readState_32 : decode cX9_readState 32 = .ok (.iload_n 2, 1) := by decide +kernel
theorem dX9_readState_33 : decode cX9_readState 33 = .ok (.aload_n 0, 1) := by decide +kernel
theorem dX9_readState_34 : decode cX9_readState 34 = .ok (.getfield 134, 3) := by decide +kernel
theorem dX9_readState_37 : decode cX9_readState 37 = .ok (.if_icmp .ge 20, 3) := by decide +kernel
theorem dX9_readState_40 : decode cX9_readState 40 = .ok (.aload_n 0, 1) := by decide +kernel
theorem dX9_readState_41 : decode cX9_readState 41 = .ok (.getfield 35, 3) := by decide +kernel
theorem dX9_readState_44 : decode cX9_readState 44 = .ok (.iconst 4, 1) := by decide +kernel
theorem dX9_readState_45 : decode cX9_readState 45 = .ok (.iload_n 1, 1) := by decide +kernel
theorem dX9_readState_46 : decode cX9_readState 46 = .ok (.imul, 1) := by decide +kernel
theorem dX9_readState_47 : decode cX9_readState 47 = .ok (.iload_n 2, 1) := by decide +kernel
theorem dX9_readState_48 : decode cX9_readState 48 = .ok (.iadd, 1) := by decide +kernel
theorem dX9_readState_49 : decode cX9_readState 49 = .ok (.aload_n 0, 1) := by decide +kernel
theorem dX9_readState_50 : decode cX9_readState 50 = .ok (.getfield 121, 3) := by decide +kernel
theorem dX9_readState_53 : decode cX9_readState 53 = .ok (.iastore, 1) := by decide +kernel
theorem dX9_readState_54 : decode cX9_readState 54 = .ok (.goto 34, 3) := by decide +kernel
theorem dX9_readState_57 : decode cX9_readState 57 = .ok (.iload_n 2, 1) := by decide +kernel
theorem dX9_readState_58 : decode cX9_readState 58 = .ok (.aload_n 0, 1) := by decide +kernel
theorem dX9_readState_59 : decode cX9_readState 59 = .ok (.getfield 134, 3) := by decide +kernel
theorem dX9_readState_62 : decode cX9_readState 62 = .ok (.if_icmp .ne 16, 3) := by decide +kernel
theorem dX9_readState_65 : decode cX9_readState 65 = .ok (.aload_n 0, 1) := by decide +kernel
theorem dX9_readState_66 : decode cX9_readState 66 = .ok (.getfield 38, 3) := by decide +kernel
theorem dX9_readState_69 : decode cX9_readState 69 = .ok (.iload_n 1, 1) := by decide +kernel
theorem dX9_readState_70 : decode cX9_readState 70 = .ok (.aload_n 0, 1) := by decide +kernel
theorem dX9_readState_71 : decode cX9_readState 71 = .ok (.getfield 121, 3) := by decide +kernel
theorem dX9_readState_74 : decode cX9_readState 74 = .ok (.iastore, 1) := by decide +kernel
theorem dX9_readState_75 : decode cX9_readState 75 = .ok (.goto 13, 3) := by decide +kernel
theorem dX9_readState_78 : decode cX9_readState 78 = .ok (.aload_n 0, 1) := by decide +kernel
theorem dX9_readState_79 : decode cX9_readState 79 = .ok (.getfield 41, 3) := by decide +kernel
theorem dX9_readState_82 : decode cX9_readState 82 = .ok (.iload_n 1, 1) := by decide +kernel
theorem dX9_readState_83 : decode cX9_readState 83 = .ok (.aload_n 0, 1) := by decide +kernel
theorem dX9_readState_84 : decode cX9_readState 84 = .ok (.getfield 121, 3) := by decide +kernel
theorem dX9_readState_87 : decode cX9_readState 87 = .ok (.iastore, 1) := by decide +kernel
theorem dX9_readState_88 : decode cX9_readState 88 = .ok (.iinc 2 1, 3) := by decide +kernel
theorem dX9_readState_91 : decode cX9_readState 91 = .ok (.goto (-78), 3) := by decide +kernel
theorem dX9_readState_94 : decode cX9_readState 94 = .ok (.iconst 1, 1) := by decide +kernel
theorem dX9_readState_95 : decode cX9_readState 95 = .ok (.ireturn, 1) := by decide +kernel
theorem dX9_readOutput_0 : decode cX9_readOutput 0 = .ok (.aload_n 0, 1) := by decide +kernel
theorem dX9_readOutput_1 : decode cX9_readOutput 1 = .ok (.bipush 111, 2) := by decide +kernel
theorem dX9_readOutput_3 : decode cX9_readOutput 3 = .ok (.invokevirtual 128, 3) := by decide +kernel
theorem dX9_readOutput_6 : decode cX9_readOutput 6 = .ok (.ifCond .ne 5, 3) := by decide +kernel
theorem dX9_readOutput_9 : decode cX9_readOutput 9 = .ok (.iconst 0, 1) := by decide +kernel
theorem dX9_readOutput_10 : decode cX9_readOutput 10 = .ok (.ireturn, 1) := by decide +kernel
theorem dX9_readOutput_11 : decode cX9_readOutput 11 = .ok (.iconst 0, 1) := by decide +kernel
theorem dX9_readOutput_12 : decode cX9_readOutput 12 = .ok (.istore_n 2, 1) := by decide +kernel
theorem dX9_readOutput_13 : decode cX9_readOutput 13 = .ok (.iload_n 2, 1) := by decide +kernel
theorem dX9_readOutput_14 : decode cX9_readOutput 14 = .ok (.aload_n 0, 1) := by decide +kernel
theorem dX9_readOutput_15 : decode cX9_readOutput 15 = .ok (.getfield 134, 3) := by decide +kernel
theorem dX9_readOutput_18 : decode cX9_readOutput 18 = .ok (.if_icmp .ge 32, 3) := by decide +kernel
theorem dX9_readOutput_21 : decode cX9_readOutput 21 = .ok (.aload_n 0, 1) := by decide +kernel
theorem dX9_readOutput_22 : decode cX9_readOutput 22 = .ok (.invokevirtual 140, 3) := by decide +kernel
theorem dX9_readOutput_25 : decode cX9_readOutput 25 = .ok (.ifCond .ne 5, 3) := by decide +kernel
theorem dX9_readOutput_28 : decode cX9_readOutput 28 = .ok (.iconst 0, 1) := by decide +kernel
theorem dX9_readOutput_29 : decode cX9_readOutput 29 = .ok (.ireturn, 1) := by decide +kernel
theorem dX9_readOutput_30 : decode cX9_readOutput 30 = .ok (.aload_n 0, 1) := by decide +kernel
theorem dX9_readOutput_31 : decode cX9_readOutput 31 = .ok (.getfield 44, 3) := by decide +kernel
theorem dX9_readOutput_34 : decode cX9_readOutput 34 = .ok (.iconst 4, 1) := by decide +kernel
theorem dX9_readOutput_35 : decode cX9_readOutput 35 = .ok (.iload_n 1, 1) := by decide +kernel
theorem dX9_readOutput_36 : decode cX9_readOutput 36 = .ok (.imul, 1) := by decide +kernel
theorem dX9_readOutput_37 : decode cX9_readOutput 37 = .ok (.iload_n 2, 1) := by decide +kernel
theorem dX9_readOutput_38 : decode cX9_readOutput 38 = .ok (.iadd, 1) := by decide +kernel
theorem dX9_readOutput_39 : decode cX9_readOutput 39 = .ok (.aload_n 0, 1) := by decide +kernel
theorem dX9_readOutput_40 : decode cX9_readOutput 40 = .ok (.getfield 121, 3) := by decide +kernel
theorem dX9_readOutput_43 : decode cX9_readOutput 43 = .ok (.iastore, 1) := by decide +kernel
theorem dX9_readOutput_44 : decode cX9_readOutput 44 = .ok (.iinc 2 1, 3) := by decide +kernel
theorem dX9_readOutput_47 : decode cX9_readOutput 47 = .ok (.goto (-34), 3) := by decide +kernel
theorem dX9_readOutput_50 : decode cX9_readOutput 50 = .ok (.aload_n 0, 1) := by decide +kernel
theorem dX9_readOutput_51 : decode cX9_readOutput 51 = .ok (.iconst 1, 1) := by decide +kernel
theorem dX9_readOutput_52 : decode cX9_readOutput 52 = .ok (.invokevirtual 131, 3) := by decide +kernel
theorem dX9_readOutput_55 : decode cX9_readOutput 55 = .ok (.ifCond .ne 5, 3) := by decide +kernel
theorem dX9_readOutput_58 : decode cX9_readOutput 58 = .ok (.iconst 0, 1) := by decide +kernel
theorem dX9_readOutput_59 : decode cX9_readOutput 59 = .ok (.ireturn, 1) := by decide +kernel
theorem dX9_readOutput_60 : decode cX9_readOutput 60 = .ok (.aload_n 0, 1) := by decide +kernel
theorem dX9_readOutput_61 : decode cX9_readOutput 61 = .ok (.getfield 47, 3) := by decide +kernel
theorem dX9_readOutput_64 : decode cX9_readOutput 64 = .ok (.iload_n 1, 1) := by decide +kernel
theorem dX9_readOutput_65 : decode cX9_readOutput 65 = .ok (.aload_n 0, 1) := by decide +kernel
theorem dX9_readOutput_66 : decode cX9_readOutput 66 = .ok (.getfield 121, 3) := by decide +kernel
theorem dX9_readOutput_69 : decode cX9_readOutput 69 = .ok (.iastore, 1) := by decide +kernel
theorem dX9_readOutput_70 : decode cX9_readOutput 70 = .ok (.iconst 1, 1) := by decide +kernel
theorem dX9_readOutput_71 : decode cX9_readOutput 71 = .ok (.ireturn, 1) := by decide +kernel
theorem dX9_readGain_0 : decode cX9_readGain 0 = .ok (.aload_n 0, 1) := by decide +kernel
theorem dX9_readGain_1 : decode cX9_readGain 1 = .ok (.bipush 103, 2) := by decide +kernel
theorem dX9_readGain_3 : decode cX9_readGain 3 = .ok (.invokevirtual 128, 3) := by decide +kernel
theorem dX9_readGain_6 : decode cX9_readGain 6 = .ok (.ifCond .eq 17, 3) := by decide +kernel
theorem dX9_readGain_9 : decode cX9_readGain 9 = .ok (.aload_n 0, 1) := by decide +kernel
theorem dX9_readGain_10 : decode cX9_readGain 10 = .ok (.iconst 0, 1) := by decide +kernel
theorem dX9_readGain_11 : decode cX9_readGain 11 = .ok (.aload_n 0, 1) := by decide +kernel
theorem dX9_readGain_12 : decode cX9_readGain 12 = .ok (.getfield 134, 3) := by decide +kernel
theorem dX9_readGain_15 : decode cX9_readGain 15 = .ok (.iconst 1, 1) := by decide +kernel
theorem dX9_readGain_16 : decode cX9_readGain 16 = .ok (.isub, 1) := by decide +kernel
theorem dX9_readGain_17 : decode cX9_readGain 17 = .ok (.invokevirtual 124, 3) := by decide +kernel
theorem dX9_readGain_20 : decode cX9_readGain 20 = .ok (.ifCond .ne 5, 3) := by decide +kernel
theorem dX9_readGain_23 : decode cX9_readGain 23 = .ok (.iconst 0, 1) := by decide +kernel
theorem dX9_readGain_24 : decode cX9_readGain 24 = .ok (.ireturn, 1) := by decide +kernel
theorem dX9_readGain_25 : decode cX9_readGain 25 = .ok (.aload_n 0, 1) := by decide +kernel
theorem dX9_readGain_26 : decode cX9_readGain 26 = .ok (.getfield 121, 3) := by decide +kernel
theorem dX9_readGain_29 : decode cX9_readGain 29 = .ok (.istore_n 1, 1) := by decide +kernel
theorem dX9_readGain_30 : decode cX9_readGain 30 = .ok (.aload_n 0, 1) := by decide +kernel
theorem dX9_readGain_31 : decode cX9_readGain 31 = .ok (.iconst 0, 1) := by decide +kernel
theorem dX9_readGain_32 : decode cX9_readGain 32 = .ok (.aload_n 0, 1) := by decide +kernel
theorem dX9_readGain_33 : decode cX9_readGain 33 = .ok (.getfield 137, 3) := by decide +kernel
theorem dX9_readGain_36 : decode cX9_readGain 36 = .ok (.iconst 1, 1) := by decide +kernel
theorem dX9_readGain_37 : decode cX9_readGain 37 = .ok (.isub, 1) := by decide +kernel
theorem dX9_readGain_38 : decode cX9_readGain 38 = .ok (.invokevirtual 124, 3) := by decide +kernel
theorem dX9_readGain_41 : decode cX9_readGain 41 = .ok (.ifCond .ne 5, 3) := by decide +kernel
theorem dX9_readGain_44 : decode cX9_readGain 44 = .ok (.iconst 0, 1) := by decide +kernel
theorem dX9_readGain_45 : decode cX9_readGain 45 = .ok (.ireturn, 1) := by decide +kernel
theorem dX9_readGain_46 : decode cX9_readGain 46 = .ok (.aload_n 0, 1) := by decide +kernel
theorem dX9_readGain_47 : decode cX9_readGain 47 = .ok (.getfield 121, 3) := by decide +kernel
theorem dX9_readGain_50 : decode cX9_readGain 50 = .ok (.istore_n 2, 1) := by decide +kernel
theorem dX9_readGain_51 : decode cX9_readGain 51 = .ok (.aload_n 0, 1) := by decide +kernel
theorem dX9_readGain_52 : decode cX9_readGain 52 = .ok (.invokevirtual 140, 3) := by decide +kernel
theorem dX9_readGain_55 : decode cX9_readGain 55 = .ok (.ifCond .ne 5, 3) := by decide +kernel
theorem dX9_readGain_58 : decode cX9_readGain 58 = .ok (.iconst 0, 1) := by decide +kernel
theorem dX9_readGain_59 : decode cX9_readGain 59 = .ok (.ireturn, 1) := by decide +kernel
theorem dX9_readGain_60 : decode cX9_readGain 60 = .ok (.aload_n 0, 1) := by decide +kernel
theorem dX9_readGain_61 : decode cX9_readGain 61 = .ok (.getfield 50, 3) := by decide +kernel
theorem dX9_readGain_64 : decode cX9_readGain 64 = .ok (.bipush 16, 2) := by decide +kernel
theorem dX9_readGain_66 : decode cX9_readGain 66 = .ok (.iconst 3, 1) := by decide +kernel
theorem dX9_readGain_67 : decode cX9_readGain 67 = .ok (.iload_n 1, 1) := by decide +kernel
theorem dX9_readGain_68 : decode cX9_readGain 68 = .ok (.imul, 1) := by decide +kernel
theorem dX9_readGain_69 : decode cX9_readGain 69 = .ok (.iadd, 1) := by decide +kernel
theorem dX9_readGain_70 : decode cX9_readGain 70 = .ok (.iload_n 2, 1) := by decide +kernel
theorem dX9_readGain_71 : decode cX9_readGain 71 = .ok (.iadd, 1) := by decide +kernel
theorem dX9_readGain_72 : decode cX9_readGain 72 = .ok (.aload_n 0, 1) := by decide +kernel
theorem dX9_readGain_73 : decode cX9_readGain 73 = .ok (.getfield 121, 3) := by decide +kernel
theorem dX9_readGain_76 : decode cX9_readGain 76 = .ok (.iastore, 1) := by decide +kernel
theorem dX9_readGain_77 : decode cX9_readGain 77 = .ok (.iconst 1, 1) := by decide +kernel
theorem dX9_readGain_78 : decode cX9_readGain 78 = .ok (.ireturn, 1) := by decide +kernel
theorem dX9_readAll_0 : decode cX9_readAll 0 = .ok (.aload_n 0, 1) := by decide +kernel
theorem dX9_readAll_1 : decode cX9_readAll 1 = .ok (.iconst 0, 1) := by decide +kernel
theorem dX9_readAll_2 : decode cX9_readAll 2 = .ok (.putfield 118, 3) := by decide +kernel
theorem dX9_readAll_5 : decode cX9_readAll 5 = .ok (.aload_n 0, 1) := by decide +kernel
theorem dX9_readAll_6 : decode cX9_readAll 6 = .ok (.getfield 50, 3) := by decide +kernel
theorem dX9_readAll_9 : decode cX9_readAll 9 = .ok (.invokestatic 94, 3) := by decide +kernel
theorem dX9_readAll_12 : decode cX9_readAll 12 = .ok (.iconst 0, 1) := by decide +kernel
theorem dX9_readAll_13 : decode cX9_readAll 13 = .ok (.istore_n 1, 1) := by decide +kernel
theorem dX9_readAll_14 : decode cX9_readAll 14 = .ok (.iload_n 1, 1) := by decide +kernel
theorem dX9_readAll_15 : decode cX9_readAll 15 = .ok (.bipush 16, 2) := by decide +kernel
theorem dX9_readAll_17 : decode cX9_readAll 17 = .ok (.if_icmp .ge 16, 3) := by decide +kernel
theorem dX9_readAll_20 : decode cX9_readAll 20 = .ok (.aload_n 0, 1) := by decide +kernel
theorem dX9_readAll_21 : decode cX9_readAll 21 = .ok (.getfield 35, 3) := by decide +kernel
theorem dX9_readAll_24 : decode cX9_readAll 24 = .ok (.iload_n 1, 1) := by decide +kernel
theorem dX9_readAll_25 : decode cX9_readAll 25 = .ok (.iconst 0, 1) := by decide +kernel
theorem dX9_readAll_26 : decode cX9_readAll 26 = .ok (.iastore, 1) := by decide +kernel
theorem dX9_readAll_27 : decode cX9_readAll 27 = .ok (.iinc 1 1, 3) := by decide +kernel
theorem dX9_readAll_30 : decode cX9_readAll 30 = .ok (.goto (-16), 3) := by decide +kernel
theorem dX9_readAll_33 : decode cX9_readAll 33 = .ok (.iconst 0, 1) := by decide +kernel
theorem dX9_readAll_34 : decode cX9_readAll 34 = .ok (.istore_n 1, 1) := by decide +kernel
theorem dX9_readAll_35 : decode cX9_readAll 35 = .ok (.iload_n 1, 1) := by decide +kernel
theorem dX9_readAll_36 : decode cX9_readAll 36 = .ok (.bipush 12, 2) := by decide +kernel
theorem dX9_readAll_38 : decode cX9_readAll 38 = .ok (.if_icmp .ge 16, 3) := by decide +kernel
theorem dX9_readAll_41 : decode cX9_readAll 41 = .ok (.aload_n 0, 1) := by decide +kernel
theorem dX9_readAll_42 : decode cX9_readAll 42 = .ok (.getfield 44, 3) := by decide +kernel
theorem dX9_readAll_45 : decode cX9_readAll 45 = .ok (.iload_n 1, 1) := by decide +kernel
theorem dX9_readAll_46 : decode cX9_readAll 46 = .ok (.iconst 0, 1) := by decide +kernel
theorem dX9_readAll_47 : decode cX9_readAll 47 = .ok (.iastore, 1) := by decide +kernel
theorem dX9_readAll_48 : decode cX9_readAll 48 = .ok (.iinc 1 1, 3) := by decide +kernel
theorem dX9_readAll_51 : decode cX9_readAll 51 = .ok (.goto (-16), 3) := by decide +kernel
theorem dX9_readAll_54 : decode cX9_readAll 54 = .ok (.iconst 0, 1) := by decide +kernel
theorem dX9_readAll_55 : decode cX9_readAll 55 = .ok (.istore_n 1, 1) := by decide +kernel
theorem dX9_readAll_56 : decode cX9_readAll 56 = .ok (.iload_n 1, 1) := by decide +kernel
theorem dX9_readAll_57 : decode cX9_readAll 57 = .ok (.iconst 4, 1) := by decide +kernel
theorem dX9_readAll_58 : decode cX9_readAll 58 = .ok (.if_icmp .ge 23, 3) := by decide +kernel
theorem dX9_readAll_61 : decode cX9_readAll 61 = .ok (.aload_n 0, 1) := by decide +kernel
theorem dX9_readAll_62 : decode cX9_readAll 62 = .ok (.getfield 38, 3) := by decide +kernel
theorem dX9_readAll_65 : decode cX9_readAll 65 = .ok (.iload_n 1, 1) := by decide +kernel
theorem dX9_readAll_66 : decode cX9_readAll 66 = .ok (.iconst 0, 1) := by decide +kernel
theorem dX9_readAll_67 : decode cX9_readAll 67 = .ok (.iastore, 1) := by decide +kernel
theorem dX9_readAll_68 : decode cX9_readAll 68 = .ok (.aload_n 0, 1) := by decide +kernel
theorem dX9_readAll_69 : decode cX9_readAll 69 = .ok (.getfield 41, 3) := by decide +kernel
theorem dX9_readAll_72 : decode cX9_readAll 72 = .ok (.iload_n 1, 1) := by decide +kernel
theorem dX9_readAll_73 : decode cX9_readAll 73 = .ok (.iconst 0, 1) := by decide +kernel
theorem dX9_readAll_74 : decode cX9_readAll 74 = .ok (.iastore, 1) := by decide +kernel
theorem dX9_readAll_75 : decode cX9_readAll 75 = .ok (.iinc 1 1, 3) := by decide +kernel
theorem dX9_readAll_78 : decode cX9_readAll 78 = .ok (.goto (-22), 3) := by decide +kernel
theorem dX9_readAll_81 : decode cX9_readAll 81 = .ok (.aload_n 0, 1) := by decide +kernel
theorem dX9_readAll_82 : decode cX9_readAll 82 = .ok (.invokevirtual 144, 3) := by decide +kernel
theorem dX9_readAll_85 : decode cX9_readAll 85 = .ok (.ifCond .ne 5, 3) := by decide +kernel
theorem dX9_readAll_88 : decode cX9_readAll 88 = .ok (.iconst 0, 1) := by decide +kernel
theorem dX9_readAll_89 : decode cX9_readAll 89 = .ok (.ireturn, 1) := by decide +kernel
theorem dX9_readAll_90 : decode cX9_readAll 90 = .ok (.iconst 0, 1) := by decide +kernel
theorem dX9_readAll_91 : decode cX9_readAll 91 = .ok (.istore_n 1, 1) := by decide +kernel
theorem dX9_readAll_92 : decode cX9_readAll 92 = .ok (.iload_n 1, 1) := by decide +kernel
theorem dX9_readAll_93 : decode cX9_readAll 93 = .ok (.aload_n 0, 1) := by decide +kernel
theorem dX9_readAll_94 : decode cX9_readAll 94 = .ok (.getfield 134, 3) := by decide +kernel
theorem dX9_readAll_97 : decode cX9_readAll 97 = .ok (.if_icmp .ge 19, 3) := by decide +kernel
theorem dX9_readAll_100 : decode cX9_readAll 100 = .ok (.aload_n 0, 1) := by decide +kernel
theorem dX9_readAll_101 : decode cX9_readAll 101 = .ok (.iload_n 1, 1) := by decide +kernel
theorem dX9_readAll_102 : decode cX9_readAll 102 = .ok (.invokevirtual 147, 3) := by decide +kernel
theorem dX9_readAll_105 : decode cX9_readAll 105 = .ok (.ifCond .ne 5, 3) := by decide +kernel
theorem dX9_readAll_108 : decode cX9_readAll 108 = .ok (.iconst 0, 1) := by decide +kernel
theorem dX9_readAll_109 : decode cX9_readAll 109 = .ok (.ireturn, 1) := by decide +kernel
theorem dX9_readAll_110 : decode cX9_readAll 110 = .ok (.iinc 1 1, 3) := by decide +kernel
theorem dX9_readAll_113 : decode cX9_readAll 113 = .ok (.goto (-21), 3) := by decide +kernel
theorem dX9_readAll_116 : decode cX9_readAll 116 = .ok (.iconst 0, 1) := by decide +kernel
theorem dX9_readAll_117 : decode cX9_readAll 117 = .ok (.istore_n 1, 1) := by decide +kernel
theorem dX9_readAll_118 : decode cX9_readAll 118 = .ok (.iload_n 1, 1) := by decide +kernel
theorem dX9_readAll_119 : decode cX9_readAll 119 = .ok (.aload_n 0, 1) := by decide +kernel
theorem dX9_readAll_120 : decode cX9_readAll 120 = .ok (.getfield 137, 3) := by decide +kernel
theorem dX9_readAll_123 : decode cX9_readAll 123 = .ok (.if_icmp .ge 19, 3) := by decide +kernel
theorem dX9_readAll_126 : decode cX9_readAll 126 = .ok (.aload_n 0, 1) := by decide +kernel
theorem dX9_readAll_127 : decode cX9_readAll 127 = .ok (.iload_n 1, 1) := by decide +kernel
theorem dX9_readAll_128 : decode cX9_readAll 128 = .ok (.invokevirtual 150, 3) := by decide +kernel
theorem dX9_readAll_131 : decode cX9_readAll 131 = .ok (.ifCond .ne 5, 3) := by decide +kernel
theorem dX9_readAll_134 : decode cX9_readAll 134 = .ok (.iconst 0, 1) := by decide +kernel
theorem dX9_readAll_135 : decode cX9_readAll 135 = .ok (.ireturn, 1) := by decide +kernel
theorem dX9_readAll_136 : decode cX9_readAll 136 = .ok (.iinc 1 1, 3) := by decide +kernel
theorem dX9_readAll_139 : decode cX9_readAll 139 = .ok (.goto (-21), 3) := by decide +kernel
theorem dX9_readAll_142 : decode cX9_readAll 142 = .ok (.aload_n 0, 1) := by decide +kernel
theorem dX9_readAll_143 : decode cX9_readAll 143 = .ok (.getfield 118, 3) := by decide +kernel
theorem dX9_readAll_146 : decode cX9_readAll 146 = .ok (.aload_n 0, 1) := by decide +kernel
theorem dX9_readAll_147 : decode cX9_readAll 147 = .ok (.getfield 111, 3) := by decide +kernel
theorem dX9_readAll_150 : decode cX9_readAll 150 = .ok (.if_icmp .ge 12, 3) := by decide +kernel
theorem dX9_readAll_153 : decode cX9_readAll 153 = .ok (.aload_n 0, 1) := by decide +kernel
theorem dX9_readAll_154 : decode cX9_readAll 154 = .ok (.invokevirtual 153, 3) := by decide +kernel
theorem dX9_readAll_157 : decode cX9_readAll 157 = .ok (.ifCond .ne (-15), 3) := by decide +kernel
theorem dX9_readAll_160 : decode cX9_readAll 160 = .ok (.iconst 0, 1) := by decide +kernel
theorem dX9_readAll_161 : decode cX9_readAll 161 = .ok (.ireturn, 1) := by decide +kernel
theorem dX9_readAll_162 : decode cX9_readAll 162 = .ok (.iconst 1, 1) := by decide +kernel
theorem dX9_readAll_163 : decode cX9_readAll 163 = .ok (.ireturn, 1) := by decide +kernel
theorem dX9_errorPosition_0 : decode cX9_errorPosition 0 = .ok (.aload_n 0, 1) := by decide +kernel
theorem dX9_errorPosition_1 : decode cX9_errorPosition 1 = .ok (.iconst 0, 1) := by decide +kernel
theorem dX9_errorPosition_2 : decode cX9_errorPosition 2 = .ok (.putfield 98, 3) := by decide +kernel
theorem dX9_errorPosition_5 : decode cX9_errorPosition 5 = .ok (.aload_n 0, 1) := by decide +kernel
theorem dX9_errorPosition_6 : decode cX9_errorPosition 6 = .ok (.invokevirtual 156, 3) := by decide +kernel
theorem dX9_errorPosition_9 : decode cX9_errorPosition 9 = .ok (.ifCond .eq 8, 3) := by decide +kernel
theorem dX9_errorPosition_12 : decode cX9_errorPosition 12 = .ok (.bipush (-9), 2) := by decide +kernel
theorem dX9_errorPosition_14 : decode cX9_errorPosition 14 = .ok (.goto 7, 3) := by decide +kernel
theorem dX9_errorPosition_17 : decode cX9_errorPosition 17 = .ok (.aload_n 0, 1) := by decide +kernel
theorem dX9_errorPosition_18 : decode cX9_errorPosition 18 = .ok (.getfield 118, 3) := by decide +kernel
theorem dX9_errorPosition_21 : decode cX9_errorPosition 21 = .ok (.ireturn, 1) := by decide +kernel
theorem dX9_load_0 : decode cX9_load 0 = .ok (.aload_n 0, 1) := by decide +kernel
theorem dX9_load_1 : decode cX9_load 1 = .ok (.aload_n 0, 1) := by decide +kernel
theorem dX9_load_2 : decode cX9_load 2 = .ok (.invokevirtual 156, 3) := by decide +kernel
theorem dX9_load_5 : decode cX9_load 5 = .ok (.ifCond .eq 7, 3) := by decide +kernel
theorem dX9_load_8 : decode cX9_load 8 = .ok (.iconst 0, 1) := by decide +kernel
theorem dX9_load_9 : decode cX9_load 9 = .ok (.goto 4, 3) := by decide +kernel
theorem dX9_load_12 : decode cX9_load 12 = .ok (.iconst 1, 1) := by decide +kernel
theorem dX9_load_13 : decode cX9_load 13 = .ok (.invokevirtual 114, 3) := by decide +kernel
theorem dX9_load_16 : decode cX9_load 16 = .ok (.ifCond .eq 5, 3) := by decide +kernel
theorem dX9_load_19 : decode cX9_load 19 = .ok (.iconst 0, 1) := by decide +kernel
theorem dX9_load_20 : decode cX9_load 20 = .ok (.ireturn, 1) := by decide +kernel
theorem dX9_load_21 : decode cX9_load 21 = .ok (.aload_n 0, 1) := by decide +kernel
theorem dX9_load_22 : decode cX9_load 22 = .ok (.aload_n 0, 1) := by decide +kernel
theorem dX9_load_23 : decode cX9_load 23 = .ok (.getfield 134, 3) := by decide +kernel
theorem dX9_load_26 : decode cX9_load 26 = .ok (.putfield 13, 3) := by decide +kernel
theorem dX9_load_29 : decode cX9_load 29 = .ok (.aload_n 0, 1) := by decide +kernel
theorem dX9_load_30 : decode cX9_load 30 = .ok (.aload_n 0, 1) := by decide +kernel
theorem dX9_load_31 : decode cX9_load 31 = .ok (.getfield 137, 3) := by decide +kernel
theorem dX9_load_34 : decode cX9_load 34 = .ok (.putfield 17, 3) := by decide +kernel
theorem dX9_load_37 : decode cX9_load 37 = .ok (.aload_n 0, 1) := by decide +kernel
theorem dX9_load_38 : decode cX9_load 38 = .ok (.getfield 35, 3) := by decide +kernel
theorem dX9_load_41 : decode cX9_load 41 = .ok (.iconst 0, 1) := by decide +kernel
theorem dX9_load_42 : decode cX9_load 42 = .ok (.aload_n 0, 1) := by decide +kernel
theorem dX9_load_43 : decode cX9_load 43 = .ok (.getfield 20, 3) := by decide +kernel
theorem dX9_load_46 : decode cX9_load 46 = .ok (.iconst 0, 1) := by decide +kernel
theorem dX9_load_47 : decode cX9_load 47 = .ok (.bipush 16, 2) := by decide +kernel
theorem dX9_load_49 : decode cX9_load 49 = .ok (.invokestatic 159, 3) := by decide +kernel
theorem dX9_load_52 : decode cX9_load 52 = .ok (.aload_n 0, 1) := by decide +kernel
theorem dX9_load_53 : decode cX9_load 53 = .ok (.getfield 44, 3) := by decide +kernel
theorem dX9_load_56 : decode cX9_load 56 = .ok (.iconst 0, 1) := by decide +kernel
theorem dX9_load_57 : decode cX9_load 57 = .ok (.aload_n 0, 1) := by decide +kernel
theorem dX9_load_58 : decode cX9_load 58 = .ok (.getfield 29, 3) := by decide +kernel
theorem dX9_load_61 : decode cX9_load 61 = .ok (.iconst 0, 1) := by decide +kernel
theorem dX9_load_62 : decode cX9_load 62 = .ok (.bipush 12, 2) := by decide +kernel
theorem dX9_load_64 : decode cX9_load 64 = .ok (.invokestatic 159, 3) := by decide +kernel
theorem dX9_load_67 : decode cX9_load 67 = .ok (.aload_n 0, 1) := by decide +kernel
theorem dX9_load_68 : decode cX9_load 68 = .ok (.getfield 38, 3) := by decide +kernel
theorem dX9_load_71 : decode cX9_load 71 = .ok (.iconst 0, 1) := by decide +kernel
theorem dX9_load_72 : decode cX9_load 72 = .ok (.aload_n 0, 1) := by decide +kernel
theorem dX9_load_73 : decode cX9_load 73 = .ok (.getfield 23, 3) := by decide +kernel
theorem dX9_load_76 : decode cX9_load 76 = .ok (.iconst 0, 1) := by decide +kernel
theorem dX9_load_77 : decode cX9_load 77 = .ok (.iconst 4, 1) := by decide +kernel
theorem dX9_load_78 : decode cX9_load 78 = .ok (.invokestatic 159, 3) := by decide +kernel
theorem dX9_load_81 : decode cX9_load 81 = .ok (.aload_n 0, 1) := by decide +kernel
theorem dX9_load_82 : decode cX9_load 82 = .ok (.getfield 41, 3) := by decide +kernel
theorem dX9_load_85 : decode cX9_load 85 = .ok (.iconst 0, 1) := by decide +kernel
theorem dX9_load_86 : decode cX9_load 86 = .ok (.aload_n 0, 1) := by decide +kernel
theorem dX9_load_87 : decode cX9_load 87 = .ok (.getfield 26, 3) := by decide +kernel
theorem dX9_load_90 : decode cX9_load 90 = .ok (.iconst 0, 1) := by decide +kernel
theorem dX9_load_91 : decode cX9_load 91 = .ok (.iconst 4, 1) := by decide +kernel
theorem dX9_load_92 : decode cX9_load 92 = .ok (.invokestatic 159, 3) := by decide +kernel
theorem dX9_load_95 : decode cX9_load 95 = .ok (.aload_n 0, 1) := by decide +kernel
theorem dX9_load_96 : decode cX9_load 96 = .ok (.getfield 47, 3) := by decide +kernel
theorem dX9_load_99 : decode cX9_load 99 = .ok (.iconst 0, 1) := by decide +kernel
theorem dX9_load_100 : decode cX9_load 100 = .ok (.aload_n 0, 1) := by decide +kernel
theorem dX9_load_101 : decode cX9_load 101 = .ok (.getfield 32, 3) := by decide +kernel
theorem dX9_load_104 : decode cX9_load 104 = .ok (.iconst 0, 1) := by decide +kernel
theorem dX9_load_105 : decode cX9_load 105 = .ok (.iconst 3, 1) := by decide +kernel
theorem dX9_load_106 : decode cX9_load 106 = .ok (.invokestatic 159, 3) := by decide +kernel
theorem dX9_load_109 : decode cX9_load 109 = .ok (.aload_n 0, 1) := by decide +kernel
theorem dX9_load_110 : decode cX9_load 110 = .ok (.getfield 50, 3) := by decide +kernel
theorem dX9_load_113 : decode cX9_load 113 = .ok (.iconst 0, 1) := by decide +kernel
theorem dX9_load_114 : decode cX9_load 114 = .ok (.aload_n 0, 1) := by decide +kernel
theorem dX9_load_115 : decode cX9_load 115 = .ok (.getfield 53, 3) := by decide +kernel
theorem dX9_load_118 : decode cX9_load 118 = .ok (.iconst 0, 1) := by decide +kernel
theorem dX9_load_119 : decode cX9_load 119 = .ok (.bipush 48, 2) := by decide +kernel
theorem dX9_load_121 : decode cX9_load 121 = .ok (.invokestatic 159, 3) := by decide +kernel
theorem dX9_load_124 : decode cX9_load 124 = .ok (.aload_n 0, 1) := by decide +kernel
theorem dX9_load_125 : decode cX9_load 125 = .ok (.iconst 0, 1) := by decide +kernel
theorem dX9_load_126 : decode cX9_load 126 = .ok (.putfield 163, 3) := by decide +kernel
theorem dX9_load_129 : decode cX9_load 129 = .ok (.aload_n 0, 1) := by decide +kernel
theorem dX9_load_130 : decode cX9_load 130 = .ok (.getfield 68, 3) := by decide +kernel
theorem dX9_load_133 : decode cX9_load 133 = .ok (.iconst 0, 1) := by decide +kernel
theorem dX9_load_134 : decode cX9_load 134 = .ok (.iconst 0, 1) := by decide +kernel
theorem dX9_load_135 : decode cX9_load 135 = .ok (.bastore, 1) := by decide +kernel
theorem dX9_load_136 : decode cX9_load 136 = .ok (.aload_n 0, 1) := by decide +kernel
theorem dX9_load_137 : decode cX9_load 137 = .ok (.getfield 68, 3) := by decide +kernel
theorem dX9_load_140 : decode cX9_load 140 = .ok (.iconst 1, 1) := by decide +kernel
theorem dX9_load_141 : decode cX9_load 141 = .ok (.iconst 0, 1) := by decide +kernel
theorem dX9_load_142 : decode cX9_load 142 = .ok (.bastore, 1) := by decide +kernel
theorem dX9_load_143 : decode cX9_load 143 = .ok (.aload_n 0, 1) := by decide +kernel
theorem dX9_load_144 : decode cX9_load 144 = .ok (.getfield 13, 3) := by decide +kernel
theorem dX9_load_147 : decode cX9_load 147 = .ok (.ireturn, 1) := by decide +kernel
theorem dX9_isState_0 : decode cX9_isState 0 = .ok (.iload_n 1, 1) := by decide +kernel
theorem dX9_isState_1 : decode cX9_isState 1 = .ok (.i2l, 1) := by decide +kernel
theorem dX9_isState_2 : decode cX9_isState 2 = .ok (.lconst 0, 1) := by decide +kernel
theorem dX9_isState_3 : decode cX9_isState 3 = .ok (.aload_n 0, 1) := by decide +kernel
theorem dX9_isState_4 : decode cX9_isState 4 = .ok (.getfield 13, 3) := by decide +kernel
theorem dX9_isState_7 : decode cX9_isState 7 = .ok (.iconst 1, 1) := by decide +kernel
theorem dX9_isState_8 : decode cX9_isState 8 = .ok (.isub, 1) := by decide +kernel
theorem dX9_isState_9 : decode cX9_isState 9 = .ok (.i2l, 1) := by decide +kernel
theorem dX9_isState_10 : decode cX9_isState 10 = .ok (.invokestatic 107, 3) := by decide +kernel
theorem dX9_isState_13 : decode cX9_isState 13 = .ok (.ireturn, 1) := by decide +kernel
theorem dX9_isOutput_0 : decode cX9_isOutput 0 = .ok (.iload_n 1, 1) := by decide +kernel
theorem dX9_isOutput_1 : decode cX9_isOutput 1 = .ok (.i2l, 1) := by decide +kernel
theorem dX9_isOutput_2 : decode cX9_isOutput 2 = .ok (.lconst 0, 1) := by decide +kernel
theorem dX9_isOutput_3 : decode cX9_isOutput 3 = .ok (.aload_n 0, 1) := by decide +kernel
theorem dX9_isOutput_4 : decode cX9_isOutput 4 = .ok (.getfield 17, 3) := by decide +kernel
theorem dX9_isOutput_7 : decode cX9_isOutput 7 = .ok (.iconst 1, 1) := by decide +kernel
theorem dX9_isOutput_8 : decode cX9_isOutput 8 = .ok (.isub, 1) := by decide +kernel
theorem dX9_isOutput_9 : decode cX9_isOutput 9 = .ok (.i2l, 1) := by decide +kernel
theorem dX9_isOutput_10 : decode cX9_isOutput 10 = .ok (.invokestatic 107, 3) := by decide +kernel
theorem dX9_isOutput_13 : decode cX9_isOutput 13 = .ok (.ireturn, 1) := by decide +kernel
theorem dX9_about_0 : decode cX9_about 0 = .ok (.aload_n 0, 1) := by decide +kernel
theorem dX9_about_1 : decode cX9_about 1 = .ok (.iload_n 1, 1) := by decide +kernel
theorem dX9_about_2 : decode cX9_about 2 = .ok (.i2l, 1) := by decide +kernel
theorem dX9_about_3 : decode cX9_about 3 = .ok (.lconst 0, 1) := by decide +kernel
theorem dX9_about_4 : decode cX9_about 4 = .ok (.ldc2_w 166, 3) := by decide +kernel
theorem dX9_about_7 : decode cX9_about 7 = .ok (.invokestatic 107, 3) := by decide +kernel
theorem dX9_about_10 : decode cX9_about 10 = .ok (.ifCond .eq 7, 3) := by decide +kernel
theorem dX9_about_13 : decode cX9_about 13 = .ok (.iconst 0, 1) := by decide +kernel
theorem dX9_about_14 : decode cX9_about 14 = .ok (.goto 4, 3) := by decide +kernel
theorem dX9_about_17 : decode cX9_about 17 = .ok (.iconst 1, 1) := by decide +kernel
theorem dX9_about_18 : decode cX9_about 18 = .ok (.invokevirtual 114, 3) := by decide +kernel
theorem dX9_about_21 : decode cX9_about 21 = .ok (.ifCond .eq 5, 3) := by decide +kernel
theorem dX9_about_24 : decode cX9_about 24 = .ok (.iconst 0, 1) := by decide +kernel
theorem dX9_about_25 : decode cX9_about 25 = .ok (.ireturn, 1) := by decide +kernel
theorem dX9_about_26 : decode cX9_about 26 = .ok (.iload_n 1, 1) := by decide +kernel
theorem dX9_about_27 : decode cX9_about 27 = .ok (.ifCond .ne 10, 3) := by decide +kernel
theorem dX9_about_30 : decode cX9_about 30 = .ok (.aload_n 0, 1) := by decide +kernel
theorem dX9_about_31 : decode cX9_about 31 = .ok (.getfield 13, 3) := by decide +kernel
theorem dX9_about_34 : decode cX9_about 34 = .ok (.goto 52, 3) := by decide +kernel
theorem dX9_about_37 : decode cX9_about 37 = .ok (.iload_n 1, 1) := by decide +kernel
theorem dX9_about_38 : decode cX9_about 38 = .ok (.iconst 1, 1) := by decide +kernel
theorem dX9_about_39 : decode cX9_about 39 = .ok (.if_icmp .ne 10, 3) := by decide +kernel
theorem dX9_about_42 : decode cX9_about 42 = .ok (.aload_n 0, 1) := by decide +kernel
theorem dX9_about_43 : decode cX9_about 43 = .ok (.getfield 17, 3) := by decide +kernel
theorem dX9_about_46 : decode cX9_about 46 = .ok (.goto 40, 3) := by decide +kernel
theorem dX9_about_49 : decode cX9_about 49 = .ok (.iload_n 1, 1) := by decide +kernel
theorem dX9_about_50 : decode cX9_about 50 = .ok (.iconst 2, 1) := by decide +kernel
theorem dX9_about_51 : decode cX9_about 51 = .ok (.if_icmp .ne 13, 3) := by decide +kernel
theorem dX9_about_54 : decode cX9_about 54 = .ok (.aload_n 0, 1) := by decide +kernel
theorem dX9_about_55 : decode cX9_about 55 = .ok (.getfield 53, 3) := by decide +kernel
theorem dX9_about_58 : decode cX9_about 58 = .ok (.bipush 29, 2) := by decide +kernel
theorem dX9_about_60 : decode cX9_about 60 = .ok (.iaload, 1) := by decide +kernel
theorem dX9_about_61 : decode cX9_about 61 = .ok (.goto 25, 3) := by decide +kernel
theorem dX9_about_64 : decode cX9_about 64 = .ok (.iload_n 1, 1) := by decide +kernel
theorem dX9_about_65 : decode cX9_about 65 = .ok (.iconst 3, 1) := by decide +kernel
theorem dX9_about_66 : decode cX9_about 66 = .ok (.if_icmp .ne 13, 3) := by decide +kernel
theorem dX9_about_69 : decode cX9_about 69 = .ok (.aload_n 0, 1) := by decide +kernel
theorem dX9_about_70 : decode cX9_about 70 = .ok (.getfield 53, 3) := by decide +kernel
theorem dX9_about_73 : decode cX9_about 73 = .ok (.bipush 28, 2) := by decide +kernel
theorem dX9_about_75 : decode cX9_about 75 = .ok (.iaload, 1) := by decide +kernel
theorem dX9_about_76 : decode cX9_about 76 = .ok (.goto 10, 3) := by decide +kernel
theorem dX9_about_79 : decode cX9_about 79 = .ok (.aload_n 0, 1) := by decide +kernel
theorem dX9_about_80 : decode cX9_about 80 = .ok (.getfield 53, 3) := by decide +kernel
theorem dX9_about_83 : decode cX9_about 83 = .ok (.bipush 30, 2) := by decide +kernel
theorem dX9_about_85 : decode cX9_about 85 = .ok (.iaload, 1) := by decide +kernel
theorem dX9_about_86 : decode cX9_about 86 = .ok (.ireturn, 1) := by decide +kernel
theorem dX9_coefficient_0 : decode cX9_coefficient 0 = .ok (.aload_n 0, 1) := by decide +kernel
theorem dX9_coefficient_1 : decode cX9_coefficient 1 = .ok (.iload_n 1, 1) := by decide +kernel
theorem dX9_coefficient_2 : decode cX9_coefficient 2 = .ok (.i2l, 1) := by decide +kernel
theorem dX9_coefficient_3 : decode cX9_coefficient 3 = .ok (.lconst 0, 1) := by decide +kernel
theorem dX9_coefficient_4 : decode cX9_coefficient 4 = .ok (.ldc2_w 168, 3) := by decide +kernel
theorem dX9_coefficient_7 : decode cX9_coefficient 7 = .ok (.invokestatic 107, 3) := by decide +kernel
theorem dX9_coefficient_10 : decode cX9_coefficient 10 = .ok (.ifCond .eq 7, 3) := by decide +kernel
theorem dX9_coefficient_13 : decode cX9_coefficient 13 = .ok (.iconst 0, 1) := by decide +kernel
theorem dX9_coefficient_14 : decode cX9_coefficient 14 = .ok (.goto 4, 3) := by decide +kernel
theorem dX9_coefficient_17 : decode cX9_coefficient 17 = .ok (.iconst 2, 1) := by decide +kernel
theorem dX9_coefficient_18 : decode cX9_coefficient 18 = .ok (.invokevirtual 114, 3) := by decide +kernel
theorem dX9_coefficient_21 : decode cX9_coefficient 21 = .ok (.ifCond .eq 5, 3) := by decide +kernel
theorem dX9_coefficient_24 : decode cX9_coefficient 24 = .ok (.iconst 0, 1) := by decide +kernel
theorem dX9_coefficient_25 : decode cX9_coefficient 25 = .ok (.ireturn, 1) := by decide +kernel
theorem dX9_coefficient_26 : decode cX9_coefficient 26 = .ok (.iload_n 1, 1) := by decide +kernel
theorem dX9_coefficient_27 : decode cX9_coefficient 27 = .ok (.iconst 3, 1) := by decide +kernel
theorem dX9_coefficient_28 : decode cX9_coefficient 28 = .ok (.if_icmp .eq 8, 3) := by decide +kernel
theorem dX9_coefficient_31 : decode cX9_coefficient 31 = .ok (.iload_n 1, 1) := by decide +kernel
theorem dX9_coefficient_32 : decode cX9_coefficient 32 = .ok (.iconst 4, 1) := by decide +kernel
theorem dX9_coefficient_33 : decode cX9_coefficient 33 = .ok (.if_icmp .ne 11, 3) := by decide +kernel
theorem dX9_coefficient_36 : decode cX9_coefficient 36 = .ok (.aload_n 0, 1) := by decide +kernel
theorem dX9_coefficient_37 : decode cX9_coefficient 37 = .ok (.iload_n 2, 1) := by decide +kernel
theorem dX9_coefficient_38 : decode cX9_coefficient 38 = .ok (.invokevirtual 170, 3) := by decide +kernel
theorem dX9_coefficient_41 : decode cX9_coefficient 41 = .ok (.goto 8, 3) := by decide +kernel
theorem dX9_coefficient_44 : decode cX9_coefficient 44 = .ok (.aload_n 0, 1) := by decide +kernel
theorem dX9_coefficient_45 : decode cX9_coefficient 45 = .ok (.iload_n 2, 1) := by decide +kernel
theorem dX9_coefficient_46 : decode cX9_coefficient 46 = .ok (.invokevirtual 173, 3) := by decide +kernel
theorem dX9_coefficient_49 : decode cX9_coefficient 49 = .ok (.istore 4, 2) := by decide +kernel
theorem dX9_coefficient_51 : decode cX9_coefficient 51 = .ok (.iload_n 1, 1) := by decide +kernel
theorem dX9_coefficient_52 : decode cX9_coefficient 52 = .ok (.ifCond .eq 8, 3) := by decide +kernel
theorem dX9_coefficient_55 : decode cX9_coefficient 55 = .ok (.iload_n 1, 1) := by decide +kernel
theorem dX9_coefficient_56 : decode cX9_coefficient 56 = .ok (.iconst 3, 1) := by decide +kernel
theorem dX9_coefficient_57 : decode cX9_coefficient 57 = .ok (.if_icmp .ne 11, 3) := by decide +kernel
theorem dX9_coefficient_60 : decode cX9_coefficient 60 = .ok (.aload_n 0, 1) := by decide +kernel
theorem dX9_coefficient_61 : decode cX9_coefficient 61 = .ok (.iload_n 3, 1) := by decide +kernel
theorem dX9_coefficient_62 : decode cX9_coefficient 62 = .ok (.invokevirtual 173, 3) := by decide +kernel
theorem dX9_coefficient_65 : decode cX9_coefficient 65 = .ok (.goto 25, 3) := by decide +kernel
theorem dX9_coefficient_68 : decode cX9_coefficient 68 = .ok (.iload_n 1, 1) := by decide +kernel
theorem dX9_coefficient_69 : decode cX9_coefficient 69 = .ok (.iconst 5, 1) := by decide +kernel
theorem dX9_coefficient_70 : decode cX9_coefficient 70 = .ok (.if_icmp .ne 11, 3) := by decide +kernel
theorem dX9_coefficient_73 : decode cX9_coefficient 73 = .ok (.aload_n 0, 1) := by decide +kernel
theorem dX9_coefficient_74 : decode cX9_coefficient 74 = .ok (.iload_n 3, 1) := by decide +kernel
theorem dX9_coefficient_75 : decode cX9_coefficient 75 = .ok (.invokevirtual 170, 3) := by decide +kernel
theorem dX9_coefficient_78 : decode cX9_coefficient 78 = .ok (.goto 12, 3) := by decide +kernel
theorem dX9_coefficient_81 : decode cX9_coefficient 81 = .ok (.iload_n 3, 1) := by decide +kernel
theorem dX9_coefficient_82 : decode cX9_coefficient 82 = .ok (.ifCond .ne 7, 3) := by decide +kernel
theorem dX9_coefficient_85 : decode cX9_coefficient 85 = .ok (.iconst 1, 1) := by decide +kernel
theorem dX9_coefficient_86 : decode cX9_coefficient 86 = .ok (.goto 4, 3) := by decide +kernel
theorem dX9_coefficient_89 : decode cX9_coefficient 89 = .ok (.iconst 0, 1) := by decide +kernel
theorem dX9_coefficient_90 : decode cX9_coefficient 90 = .ok (.istore 5, 2) := by decide +kernel
theorem dX9_coefficient_92 : decode cX9_coefficient 92 = .ok (.aload_n 0, 1) := by decide +kernel
theorem dX9_coefficient_93 : decode cX9_coefficient 93 = .ok (.iload 4, 2) := by decide +kernel
theorem dX9_coefficient_95 : decode cX9_coefficient 95 = .ok (.ifCond .eq 12, 3) := by decide +kernel
theorem dX9_coefficient_98 : decode cX9_coefficient 98 = .ok (.iload 5, 2) := by decide +kernel
theorem dX9_coefficient_100 : decode cX9_coefficient 100 = .ok (.ifCond .eq 7, 3) := by decide +kernel
theorem dX9_coefficient_103 : decode cX9_coefficient 103 = .ok (.iconst 0, 1) := by decide +kernel
theorem dX9_coefficient_104 : decode cX9_coefficient 104 = .ok (.goto 4, 3) := by decide +kernel
theorem dX9_coefficient_107 : decode cX9_coefficient 107 = .ok (.iconst 1, 1) := by decide +kernel
theorem dX9_coefficient_108 : decode cX9_coefficient 108 = .ok (.invokevirtual 114, 3) := by decide +kernel
theorem dX9_coefficient_111 : decode cX9_coefficient 111 = .ok (.ifCond .eq 5, 3) := by decide +kernel
theorem dX9_coefficient_114 : decode cX9_coefficient 114 = .ok (.iconst 0, 1) := by decide +kernel
theorem dX9_coefficient_115 : decode cX9_coefficient 115 = .ok (.ireturn, 1) := by decide +kernel
theorem dX9_coefficient_116 : decode cX9_coefficient 116 = .ok (.iload_n 1, 1) := by decide +kernel
theorem dX9_coefficient_117 : decode cX9_coefficient 117 = .ok (.tableswitch 78 0 4 #[35, 46, 53, 60, 71], 35) := by decide +kernel
theorem dX9_coefficient_152 : decode cX9_coefficient 152 = .ok (.aload_n 0, 1) := by decide +kernel
theorem dX9_coefficient_153 : decode cX9_coefficient 153 = .ok (.getfield 20, 3) := by decide +kernel
theorem dX9_coefficient_156 : decode cX9_coefficient 156 = .ok (.iconst 4, 1) := by decide +kernel
theorem dX9_coefficient_157 : decode cX9_coefficient 157 = .ok (.iload_n 2, 1) := by decide +kernel
theorem dX9_coefficient_158 : decode cX9_coefficient 158 = .ok (.imul, 1) := by decide +kernel
theorem dX9_coefficient_159 : decode cX9_coefficient 159 = .ok (.iload_n 3, 1) := by decide +kernel
theorem dX9_coefficient_160 : decode cX9_coefficient 160 = .ok (.iadd, 1) := by decide +kernel
theorem dX9_coefficient_161 : decode cX9_coefficient 161 = .ok (.iaload, 1) := by decide +kernel
theorem dX9_coefficient_162 : decode cX9_coefficient 162 = .ok (.ireturn, 1) := by decide +kernel
theorem dX9_coefficient_163 : decode cX9_coefficient 163 = .ok (.aload_n 0, 1) := by decide +kernel
theorem dX9_coefficient_164 : decode cX9_coefficient 164 = .ok (.getfield 23, 3) := by decide +kernel
theorem dX9_coefficient_167 : decode cX9_coefficient 167 = .ok (.iload_n 2, 1) := by decide +kernel
theorem dX9_coefficient_168 : decode cX9_coefficient 168 = .ok (.iaload, 1) := by decide +kernel
theorem dX9_coefficient_169 : decode cX9_coefficient 169 = .ok (.ireturn, 1) := by decide +kernel
theorem dX9_coefficient_170 : decode cX9_coefficient 170 = .ok (.aload_n 0, 1) := by decide +kernel
theorem dX9_coefficient_171 : decode cX9_coefficient 171 = .ok (.getfield 26, 3) := by decide +kernel
theorem dX9_coefficient_174 : decode cX9_coefficient 174 = .ok (.iload_n 2, 1) := by decide +kernel
theorem dX9_coefficient_175 : decode cX9_coefficient 175 = .ok (.iaload, 1) := by decide +kernel
theorem dX9_coefficient_176 : decode cX9_coefficient 176 = .ok (.ireturn, 1) := by decide +kernel
theorem dX9_coefficient_177 : decode cX9_coefficient 177 = .ok (.aload_n 0, 1) := by decide +kernel
theorem dX9_coefficient_178 : decode cX9_coefficient 178 = .ok (.getfield 29, 3) := by decide +kernel
theorem dX9_coefficient_181 : decode cX9_coefficient 181 = .ok (.iconst 4, 1) := by decide +kernel
theorem dX9_coefficient_182 : decode cX9_coefficient 182 = .ok (.iload_n 2, 1) := by decide +kernel
theorem dX9_coefficient_183 : decode cX9_coefficient 183 = .ok (.imul, 1) := by decide +kernel
theorem dX9_coefficient_184 : decode cX9_coefficient 184 = .ok (.iload_n 3, 1) := by decide +kernel
theorem dX9_coefficient_185 : decode cX9_coefficient 185 = .ok (.iadd, 1) := by decide +kernel
theorem dX9_coefficient_186 : decode cX9_coefficient 186 = .ok (.iaload, 1) := by decide +kernel
theorem dX9_coefficient_187 : decode cX9_coefficient 187 = .ok (.ireturn, 1) := by decide +kernel
theorem dX9_coefficient_188 : decode cX9_coefficient 188 = .ok (.aload_n 0, 1) := by decide +kernel
theorem dX9_coefficient_189 : decode cX9_coefficient 189 = .ok (.getfield 32, 3) := by decide +kernel
theorem dX9_coefficient_192 : decode cX9_coefficient 192 = .ok (.iload_n 2, 1) := by decide +kernel
theorem dX9_coefficient_193 : decode cX9_coefficient 193 = .ok (.iaload, 1) := by decide +kernel
theorem dX9_coefficient_194 : decode cX9_coefficient 194 = .ok (.ireturn, 1) := by decide +kernel
theorem dX9_coefficient_195 : decode cX9_coefficient 195 = .ok (.aload_n 0, 1) := by decide +kernel
theorem dX9_coefficient_196 : decode cX9_coefficient 196 = .ok (.getfield 53, 3) := by decide +kernel
theorem dX9_coefficient_199 : decode cX9_coefficient 199 = .ok (.bipush 16, 2) := by decide +kernel
theorem dX9_coefficient_201 : decode cX9_coefficient 201 = .ok (.iconst 3, 1) := by decide +kernel
theorem dX9_coefficient_202 : decode cX9_coefficient 202 = .ok (.iload_n 2, 1) := by decide +kernel
theorem dX9_coefficient_203 : decode cX9_coefficient 203 = .ok (.imul, 1) := by decide +kernel
theorem dX9_coefficient_204 : decode cX9_coefficient 204 = .ok (.iadd, 1) := by decide +kernel
theorem dX9_coefficient_205 : decode cX9_coefficient 205 = .ok (.iload_n 3, 1) := by decide +kernel
theorem dX9_coefficient_206 : decode cX9_coefficient 206 = .ok (.iadd, 1) := by decide +kernel
theorem dX9_coefficient_207 : decode cX9_coefficient 207 = .ok (.iaload, 1) := by decide +kernel
theorem dX9_coefficient_208 : decode cX9_coefficient 208 = .ok (.ireturn, 1) := by decide +kernel
theorem dX9_state_0 : decode cX9_state 0 = .ok (.aload_n 0, 1) := by decide +kernel
theorem dX9_state_1 : decode cX9_state 1 = .ok (.aload_n 0, 1) := by decide +kernel
theorem dX9_state_2 : decode cX9_state 2 = .ok (.iload_n 1, 1) := by decide +kernel
theorem dX9_state_3 : decode cX9_state 3 = .ok (.invokevirtual 173, 3) := by decide +kernel
theorem dX9_state_6 : decode cX9_state 6 = .ok (.ifCond .ne 7, 3) := by decide +kernel
theorem dX9_state_9 : decode cX9_state 9 = .ok (.iconst 1, 1) := by decide +kernel
theorem dX9_state_10 : decode cX9_state 10 = .ok (.goto 20, 3) := by decide +kernel
theorem dX9_state_13 : decode cX9_state 13 = .ok (.iload_n 2, 1) := by decide +kernel
theorem dX9_state_14 : decode cX9_state 14 = .ok (.i2l, 1) := by decide +kernel
theorem dX9_state_15 : decode cX9_state 15 = .ok (.lconst 0, 1) := by decide +kernel
theorem dX9_state_16 : decode cX9_state 16 = .ok (.ldc2_w 166, 3) := by decide +kernel
theorem dX9_state_19 : decode cX9_state 19 = .ok (.invokestatic 107, 3) := by decide +kernel
theorem dX9_state_22 : decode cX9_state 22 = .ok (.ifCond .ne 7, 3) := by decide +kernel
theorem dX9_state_25 : decode cX9_state 25 = .ok (.iconst 2, 1) := by decide +kernel
theorem dX9_state_26 : decode cX9_state 26 = .ok (.goto 4, 3) := by decide +kernel
theorem dX9_state_29 : decode cX9_state 29 = .ok (.iconst 0, 1) := by decide +kernel
theorem dX9_state_30 : decode cX9_state 30 = .ok (.invokevirtual 114, 3) := by decide +kernel
theorem dX9_state_33 : decode cX9_state 33 = .ok (.ifCond .eq 5, 3) := by decide +kernel
theorem dX9_state_36 : decode cX9_state 36 = .ok (.iconst 0, 1) := by decide +kernel
theorem dX9_state_37 : decode cX9_state 37 = .ok (.ireturn, 1) := by decide +kernel
theorem dX9_state_38 : decode cX9_state 38 = .ok (.iload_n 2, 1) := by decide +kernel
theorem dX9_state_39 : decode cX9_state 39 = .ok (.iconst 4, 1) := by decide +kernel
theorem dX9_state_40 : decode cX9_state 40 = .ok (.if_icmp .ge 14, 3) := by decide +kernel
theorem dX9_state_43 : decode cX9_state 43 = .ok (.aload_n 0, 1) := by decide +kernel
theorem dX9_state_44 : decode cX9_state 44 = .ok (.getfield 53, 3) := by decide +kernel
theorem dX9_state_47 : decode cX9_state 47 = .ok (.iconst 4, 1) := by decide +kernel
theorem dX9_state_48 : decode cX9_state 48 = .ok (.iload_n 2, 1) := by decide +kernel
theorem dX9_state_49 : decode cX9_state 49 = .ok (.imul, 1) := by decide +kernel
theorem dX9_state_50 : decode cX9_state 50 = .ok (.iload_n 1, 1) := by decide +kernel
theorem dX9_state_51 : decode cX9_state 51 = .ok (.iadd, 1) := by decide +kernel
theorem dX9_state_52 : decode cX9_state 52 = .ok (.iaload, 1) := by decide +kernel
theorem dX9_state_53 : decode cX9_state 53 = .ok (.ireturn, 1) := by decide +kernel
theorem dX9_state_54 : decode cX9_state 54 = .ok (.bipush 16, 2) := by decide +kernel
theorem dX9_state_56 : decode cX9_state 56 = .ok (.aload_n 0, 1) := by decide +kernel
theorem dX9_state_57 : decode cX9_state 57 = .ok (.getfield 53, 3) := by decide +kernel
theorem dX9_state_60 : decode cX9_state 60 = .ok (.iconst 4, 1) := by decide +kernel
theorem dX9_state_61 : decode cX9_state 61 = .ok (.iload_n 1, 1) := by decide +kernel
theorem dX9_state_62 : decode cX9_state 62 = .ok (.iadd, 1) := by decide +kernel
theorem dX9_state_63 : decode cX9_state 63 = .ok (.iaload, 1) := by decide +kernel
theorem dX9_state_64 : decode cX9_state 64 = .ok (.imul, 1) := by decide +kernel
theorem dX9_state_65 : decode cX9_state 65 = .ok (.istore_n 3, 1) := by decide +kernel
theorem dX9_state_66 : decode cX9_state 66 = .ok (.bipush 16, 2) := by decide +kernel
theorem dX9_state_68 : decode cX9_state 68 = .ok (.aload_n 0, 1) := by decide +kernel
theorem dX9_state_69 : decode cX9_state 69 = .ok (.getfield 53, 3) := by decide +kernel
theorem dX9_state_72 : decode cX9_state 72 = .ok (.bipush 8, 2) := by decide +kernel
theorem dX9_state_74 : decode cX9_state 74 = .ok (.iload_n 1, 1) := by decide +kernel
theorem dX9_state_75 : decode cX9_state 75 = .ok (.iadd, 1) := by decide +kernel
theorem dX9_state_76 : decode cX9_state 76 = .ok (.iaload, 1) := by decide +kernel
theorem dX9_state_77 : decode cX9_state 77 = .ok (.imul, 1) := by decide +kernel
theorem dX9_state_78 : decode cX9_state 78 = .ok (.istore 4, 2) := by decide +kernel
theorem dX9_state_80 : decode cX9_state 80 = .ok (.aload_n 0, 1) := by decide +kernel
theorem dX9_state_81 : decode cX9_state 81 = .ok (.getfield 53, 3) := by decide +kernel
theorem dX9_state_84 : decode cX9_state 84 = .ok (.bipush 12, 2) := by decide +kernel
theorem dX9_state_86 : decode cX9_state 86 = .ok (.iload_n 1, 1) := by decide +kernel
theorem dX9_state_87 : decode cX9_state 87 = .ok (.iadd, 1) := by decide +kernel
theorem dX9_state_88 : decode cX9_state 88 = .ok (.iaload, 1) := by decide +kernel
theorem dX9_state_89 : decode cX9_state 89 = .ok (.istore 5, 2) := by decide +kernel
theorem dX9_state_91 : decode cX9_state 91 = .ok (.iload 5, 2) := by decide +kernel
theorem dX9_state_93 : decode cX9_state 93 = .ok (.iload_n 3, 1) := by decide +kernel
theorem dX9_state_94 : decode cX9_state 94 = .ok (.if_icmp .ge 7, 3) := by decide +kernel
theorem dX9_state_97 : decode cX9_state 97 = .ok (.iload_n 3, 1) := by decide +kernel
theorem dX9_state_98 : decode cX9_state 98 = .ok (.goto 17, 3) := by decide +kernel
theorem dX9_state_101 : decode cX9_state 101 = .ok (.iload 5, 2) := by decide +kernel
theorem dX9_state_103 : decode cX9_state 103 = .ok (.iload 4, 2) := by decide +kernel
theorem dX9_state_105 : decode cX9_state 105 = .ok (.if_icmp .le 8, 3) := by decide +kernel
theorem dX9_state_108 : decode cX9_state 108 = .ok (.iload 4, 2) := by decide +kernel
theorem dX9_state_110 : decode cX9_state 110 = .ok (.goto 5, 3) := by decide +kernel
theorem dX9_state_113 : decode cX9_state 113 = .ok (.iload 5, 2) := by decide +kernel
theorem dX9_state_115 : decode cX9_state 115 = .ok (.ireturn, 1) := by decide +kernel
theorem dX9_end_0 : decode cX9_end 0 = .ok (.lconst 0, 1) := by decide +kernel
theorem dX9_end_1 : decode cX9_end 1 = .ok (.lstore 6, 2) := by decide +kernel
theorem dX9_end_3 : decode cX9_end 3 = .ok (.iconst 0, 1) := by decide +kernel
theorem dX9_end_4 : decode cX9_end 4 = .ok (.istore 8, 2) := by decide +kernel
theorem dX9_end_6 : decode cX9_end 6 = .ok (.iload 8, 2) := by decide +kernel
theorem dX9_end_8 : decode cX9_end 8 = .ok (.aload_n 0, 1) := by decide +kernel
theorem dX9_end_9 : decode cX9_end 9 = .ok (.getfield 13, 3) := by decide +kernel
theorem dX9_end_12 : decode cX9_end 12 = .ok (.if_icmp .ge 69, 3) := by decide +kernel
theorem dX9_end_15 : decode cX9_end 15 = .ok (.iload 8, 2) := by decide +kernel
theorem dX9_end_17 : decode cX9_end 17 = .ok (.iload 4, 2) := by decide +kernel
theorem dX9_end_19 : decode cX9_end 19 = .ok (.if_icmp .ne 7, 3) := by decide +kernel
theorem dX9_end_22 : decode cX9_end 22 = .ok (.lconst 0, 1) := by decide +kernel
theorem dX9_end_23 : decode cX9_end 23 = .ok (.goto 10, 3) := by decide +kernel
theorem dX9_end_26 : decode cX9_end 26 = .ok (.aload_n 2, 1) := by decide +kernel
theorem dX9_end_27 : decode cX9_end 27 = .ok (.iload_n 3, 1) := by decide +kernel
theorem dX9_end_28 : decode cX9_end 28 = .ok (.iload 8, 2) := by decide +kernel
theorem dX9_end_30 : decode cX9_end 30 = .ok (.iadd, 1) := by decide +kernel
theorem dX9_end_31 : decode cX9_end 31 = .ok (.iaload, 1) := by decide +kernel
theorem dX9_end_32 : decode cX9_end 32 = .ok (.i2l, 1) := by decide +kernel
theorem dX9_end_33 : decode cX9_end 33 = .ok (.lstore 9, 2) := by decide +kernel
theorem dX9_end_35 : decode cX9_end 35 = .ok (.lload 6, 2) := by decide +kernel
theorem dX9_end_37 : decode cX9_end 37 = .ok (.lload 9, 2) := by decide +kernel
theorem dX9_end_39 : decode cX9_end 39 = .ok (.aload_n 1, 1) := by decide +kernel
theorem dX9_end_40 : decode cX9_end 40 = .ok (.lload 9, 2) := by decide +kernel
theorem dX9_end_42 : decode cX9_end 42 = .ok (.lconst 0, 1) := by decide +kernel
theorem dX9_end_43 : decode cX9_end 43 = .ok (.lcmp, 1) := by decide +kernel
theorem dX9_end_44 : decode cX9_end 44 = .ok (.ifCond .le 7, 3) := by decide +kernel
theorem dX9_end_47 : decode cX9_end 47 = .ok (.iconst 1, 1) := by decide +kernel
theorem dX9_end_48 : decode cX9_end 48 = .ok (.goto 4, 3) := by decide +kernel
theorem dX9_end_51 : decode cX9_end 51 = .ok (.iconst 0, 1) := by decide +kernel
theorem dX9_end_52 : decode cX9_end 52 = .ok (.iload 5, 2) := by decide +kernel
theorem dX9_end_54 : decode cX9_end 54 = .ok (.if_icmp .ne 11, 3) := by decide +kernel
theorem dX9_end_57 : decode cX9_end 57 = .ok (.bipush 8, 2) := by decide +kernel
theorem dX9_end_59 : decode cX9_end 59 = .ok (.iload 8, 2) := by decide +kernel
theorem dX9_end_61 : decode cX9_end 61 = .ok (.iadd, 1) := by decide +kernel
theorem dX9_end_62 : decode cX9_end 62 = .ok (.goto 7, 3) := by decide +kernel
theorem dX9_end_65 : decode cX9_end 65 = .ok (.iconst 4, 1) := by decide +kernel
theorem dX9_end_66 : decode cX9_end 66 = .ok (.iload 8, 2) := by decide +kernel
theorem dX9_end_68 : decode cX9_end 68 = .ok (.iadd, 1) := by decide +kernel
theorem dX9_end_69 : decode cX9_end 69 = .ok (.iaload, 1) := by decide +kernel
theorem dX9_end_70 : decode cX9_end 70 = .ok (.i2l, 1) := by decide +kernel
theorem dX9_end_71 : decode cX9_end 71 = .ok (.lmul, 1) := by decide +kernel
theorem dX9_end_72 : decode cX9_end 72 = .ok (.ladd, 1) := by decide +kernel
theorem dX9_end_73 : decode cX9_end 73 = .ok (.lstore 6, 2) := by decide +kernel
theorem dX9_end_75 : decode cX9_end 75 = .ok (.iinc 8 1, 3) := by decide +kernel
theorem dX9_end_78 : decode cX9_end 78 = .ok (.goto (-72), 3) := by decide +kernel
theorem dX9_end_81 : decode cX9_end 81 = .ok (.lload 6, 2) := by decide +kernel
theorem dX9_end_83 : decode cX9_end 83 = .ok (.lreturn, 1) := by decide +kernel
theorem dX9_output_0 : decode cX9_output 0 = .ok (.aload_n 0, 1) := by decide +kernel
theorem dX9_output_1 : decode cX9_output 1 = .ok (.aload_n 0, 1) := by decide +kernel
theorem dX9_output_2 : decode cX9_output 2 = .ok (.iload_n 1, 1) := by decide +kernel
theorem dX9_output_3 : decode cX9_output 3 = .ok (.invokevirtual 170, 3) := by decide +kernel
theorem dX9_output_6 : decode cX9_output 6 = .ok (.ifCond .ne 7, 3) := by decide +kernel
theorem dX9_output_9 : decode cX9_output 9 = .ok (.iconst 1, 1) := by decide +kernel
theorem dX9_output_10 : decode cX9_output 10 = .ok (.goto 41, 3) := by decide +kernel
theorem dX9_output_13 : decode cX9_output 13 = .ok (.iload_n 2, 1) := by decide +kernel
theorem dX9_output_14 : decode cX9_output 14 = .ok (.i2l, 1) := by decide +kernel
theorem dX9_output_15 : decode cX9_output 15 = .ok (.lconst 0, 1) := by decide +kernel
theorem dX9_output_16 : decode cX9_output 16 = .ok (.ldc2_w 176, 3) := by decide +kernel
theorem dX9_output_19 : decode cX9_output 19 = .ok (.invokestatic 107, 3) := by decide +kernel
theorem dX9_output_22 : decode cX9_output 22 = .ok (.ifCond .ne 7, 3) := by decide +kernel
theorem dX9_output_25 : decode cX9_output 25 = .ok (.iconst 2, 1) := by decide +kernel
theorem dX9_output_26 : decode cX9_output 26 = .ok (.goto 25, 3) := by decide +kernel
theorem dX9_output_29 : decode cX9_output 29 = .ok (.iload_n 2, 1) := by decide +kernel
theorem dX9_output_30 : decode cX9_output 30 = .ok (.iconst 2, 1) := by decide +kernel
theorem dX9_output_31 : decode cX9_output 31 = .ok (.if_icmp .ge 19, 3) := by decide +kernel
theorem dX9_output_34 : decode cX9_output 34 = .ok (.aload_n 0, 1) := by decide +kernel
theorem dX9_output_35 : decode cX9_output 35 = .ok (.getfield 53, 3) := by decide +kernel
theorem dX9_output_38 : decode cX9_output 38 = .ok (.bipush 34, 2) := by decide +kernel
theorem dX9_output_40 : decode cX9_output 40 = .ok (.iload_n 1, 1) := by decide +kernel
theorem dX9_output_41 : decode cX9_output 41 = .ok (.iadd, 1) := by decide +kernel
theorem dX9_output_42 : decode cX9_output 42 = .ok (.iaload, 1) := by decide +kernel
theorem dX9_output_43 : decode cX9_output 43 = .ok (.ifCond .ge 7, 3) := by decide +kernel
theorem dX9_output_46 : decode cX9_output 46 = .ok (.iconst 3, 1) := by decide +kernel
theorem dX9_output_47 : decode cX9_output 47 = .ok (.goto 4, 3) := by decide +kernel
theorem dX9_output_50 : decode cX9_output 50 = .ok (.iconst 0, 1) := by decide +kernel
theorem dX9_output_51 : decode cX9_output 51 = .ok (.invokevirtual 114, 3) := by decide +kernel
theorem dX9_output_54 : decode cX9_output 54 = .ok (.ifCond .eq 5, 3) := by decide +kernel
theorem dX9_output_57 : decode cX9_output 57 = .ok (.iconst 0, 1) := by decide +kernel
theorem dX9_output_58 : decode cX9_output 58 = .ok (.ireturn, 1) := by decide +kernel
theorem dX9_output_59 : decode cX9_output 59 = .ok (.iload_n 2, 1) := by decide +kernel
theorem dX9_output_60 : decode cX9_output 60 = .ok (.iconst 2, 1) := by decide +kernel
theorem dX9_output_61 : decode cX9_output 61 = .ok (.if_icmp .ge 24, 3) := by decide +kernel
theorem dX9_output_64 : decode cX9_output 64 = .ok (.aload_n 0, 1) := by decide +kernel
theorem dX9_output_65 : decode cX9_output 65 = .ok (.getfield 53, 3) := by decide +kernel
theorem dX9_output_68 : decode cX9_output 68 = .ok (.iload_n 2, 1) := by decide +kernel
theorem dX9_output_69 : decode cX9_output 69 = .ok (.ifCond .ne 10, 3) := by decide +kernel
theorem dX9_output_72 : decode cX9_output 72 = .ok (.bipush 31, 2) := by decide +kernel
theorem dX9_output_74 : decode cX9_output 74 = .ok (.iload_n 1, 1) := by decide +kernel
theorem dX9_output_75 : decode cX9_output 75 = .ok (.iadd, 1) := by decide +kernel
theorem dX9_output_76 : decode cX9_output 76 = .ok (.goto 7, 3) := by decide +kernel
theorem dX9_output_79 : decode cX9_output 79 = .ok (.bipush 34, 2) := by decide +kernel
theorem dX9_output_81 : decode cX9_output 81 = .ok (.iload_n 1, 1) := by decide +kernel
theorem dX9_output_82 : decode cX9_output 82 = .ok (.iadd, 1) := by decide +kernel
theorem dX9_output_83 : decode cX9_output 83 = .ok (.iaload, 1) := by decide +kernel
theorem dX9_output_84 : decode cX9_output 84 = .ok (.ireturn, 1) := by decide +kernel
theorem dX9_output_85 : decode cX9_output 85 = .ok (.aload_n 0, 1) := by decide +kernel
theorem dX9_output_86 : decode cX9_output 86 = .ok (.aload_n 0, 1) := by decide +kernel
theorem dX9_output_87 : decode cX9_output 87 = .ok (.getfield 53, 3) := by decide +kernel
theorem dX9_output_90 : decode cX9_output 90 = .ok (.aload_n 0, 1) := by decide +kernel
theorem dX9_output_91 : decode cX9_output 91 = .ok (.getfield 29, 3) := by decide +kernel
theorem dX9_output_94 : decode cX9_output 94 = .ok (.iconst 4, 1) := by decide +kernel
theorem dX9_output_95 : decode cX9_output 95 = .ok (.iload_n 1, 1) := by decide +kernel
theorem dX9_output_96 : decode cX9_output 96 = .ok (.imul, 1) := by decide +kernel
theorem dX9_output_97 : decode cX9_output 97 = .ok (.bipush (-9), 2) := by decide +kernel
theorem dX9_output_99 : decode cX9_output 99 = .ok (.iload_n 2, 1) := by decide +kernel
theorem dX9_output_100 : decode cX9_output 100 = .ok (.iconst 3, 1) := by decide +kernel
theorem dX9_output_101 : decode cX9_output 101 = .ok (.if_icmp .ne 7, 3) := by decide +kernel
theorem dX9_output_104 : decode cX9_output 104 = .ok (.iconst 1, 1) := by decide +kernel
theorem dX9_output_105 : decode cX9_output 105 = .ok (.goto 4, 3) := by decide +kernel
theorem dX9_output_108 : decode cX9_output 108 = .ok (.iconst 0, 1) := by decide +kernel
theorem dX9_output_109 : decode cX9_output 109 = .ok (.invokevirtual 178, 3) := by decide +kernel
theorem dX9_output_112 : decode cX9_output 112 = .ok (.aload_n 0, 1) := by decide +kernel
theorem dX9_output_113 : decode cX9_output 113 = .ok (.getfield 32, 3) := by decide +kernel
theorem dX9_output_116 : decode cX9_output 116 = .ok (.iload_n 1, 1) := by decide +kernel
theorem dX9_output_117 : decode cX9_output 117 = .ok (.iaload, 1) := by decide +kernel
theorem dX9_output_118 : decode cX9_output 118 = .ok (.i2l, 1) := by decide +kernel
theorem dX9_output_119 : decode cX9_output 119 = .ok (.invokestatic 101, 3) := by decide +kernel
theorem dX9_output_122 : decode cX9_output 122 = .ok (.l2i, 1) := by decide +kernel
theorem dX9_output_123 : decode cX9_output 123 = .ok (.ireturn, 1) := by decide +kernel
theorem dX9_widths_0 : decode cX9_widths 0 = .ok (.iconst 0, 1) := by decide +kernel
theorem dX9_widths_1 : decode cX9_widths 1 = .ok (.istore_n 2, 1) := by decide +kernel
theorem dX9_widths_2 : decode cX9_widths 2 = .ok (.iconst 0, 1) := by decide +kernel
theorem dX9_widths_3 : decode cX9_widths 3 = .ok (.istore_n 3, 1) := by decide +kernel
theorem dX9_widths_4 : decode cX9_widths 4 = .ok (.iload_n 3, 1) := by decide +kernel
theorem dX9_widths_5 : decode cX9_widths 5 = .ok (.aload_n 0, 1) := by decide +kernel
theorem dX9_widths_6 : decode cX9_widths 6 = .ok (.getfield 13, 3) := by decide +kernel
theorem dX9_widths_9 : decode cX9_widths 9 = .ok (.if_icmp .ge 24, 3) := by decide +kernel
theorem dX9_widths_12 : decode cX9_widths 12 = .ok (.iload_n 2, 1) := by decide +kernel
theorem dX9_widths_13 : decode cX9_widths 13 = .ok (.aload_n 1, 1) := by decide +kernel
theorem dX9_widths_14 : decode cX9_widths 14 = .ok (.bipush 8, 2) := by decide +kernel
theorem dX9_widths_16 : decode cX9_widths 16 = .ok (.iload_n 3, 1) := by decide +kernel
theorem dX9_widths_17 : decode cX9_widths 17 = .ok (.iadd, 1) := by decide +kernel
theorem dX9_widths_18 : decode cX9_widths 18 = .ok (.iaload, 1) := by decide +kernel
theorem dX9_widths_19 : decode cX9_widths 19 = .ok (.aload_n 1, 1) := by decide +kernel
theorem dX9_widths_20 : decode cX9_widths 20 = .ok (.iconst 4, 1) := by decide +kernel
theorem dX9_widths_21 : decode cX9_widths 21 = .ok (.iload_n 3, 1) := by decide +kernel
theorem dX9_widths_22 : decode cX9_widths 22 = .ok (.iadd, 1) := by decide +kernel
theorem dX9_widths_23 : decode cX9_widths 23 = .ok (.iaload, 1) := by decide +kernel
theorem dX9_widths_24 : decode cX9_widths 24 = .ok (.isub, 1) := by decide +kernel
theorem dX9_widths_25 : decode cX9_widths 25 = .ok (.iadd, 1) := by decide +kernel
theorem dX9_widths_26 : decode cX9_widths 26 = .ok (.istore_n 2, 1) := by decide +kernel
theorem dX9_widths_27 : decode cX9_widths 27 = .ok (.iinc 3 1, 3) := by decide +kernel
theorem dX9_widths_30 : decode cX9_widths 30 = .ok (.goto (-26), 3) := by decide +kernel
theorem dX9_widths_33 : decode cX9_widths 33 = .ok (.iload_n 2, 1) := by decide +kernel
theorem dX9_widths_34 : decode cX9_widths 34 = .ok (.ireturn, 1) := by decide +kernel
theorem dX9_width_0 : decode cX9_width 0 = .ok (.aload_n 0, 1) := by decide +kernel
theorem dX9_width_1 : decode cX9_width 1 = .ok (.iconst 0, 1) := by decide +kernel
theorem dX9_width_2 : decode cX9_width 2 = .ok (.putfield 98, 3) := by decide +kernel
theorem dX9_width_5 : decode cX9_width 5 = .ok (.aload_n 0, 1) := by decide +kernel
theorem dX9_width_6 : decode cX9_width 6 = .ok (.aload_n 0, 1) := by decide +kernel
theorem dX9_width_7 : decode cX9_width 7 = .ok (.getfield 53, 3) := by decide +kernel
theorem dX9_width_10 : decode cX9_width 10 = .ok (.invokevirtual 182, 3) := by decide +kernel
theorem dX9_width_13 : decode cX9_width 13 = .ok (.ireturn, 1) := by decide +kernel
theorem dX9_note_0 : decode cX9_note 0 = .ok (.aload_n 0, 1) := by decide +kernel
theorem dX9_note_1 : decode cX9_note 1 = .ok (.getfield 163, 3) := by decide +kernel
theorem dX9_note_4 : decode cX9_note 4 = .ok (.bipush 14, 2) := by decide +kernel
theorem dX9_note_6 : decode cX9_note 6 = .ok (.if_icmp .ne 30, 3) := by decide +kernel
theorem dX9_note_9 : decode cX9_note 9 = .ok (.aload_n 0, 1) := by decide +kernel
theorem dX9_note_10 : decode cX9_note 10 = .ok (.getfield 62, 3) := by decide +kernel
theorem dX9_note_13 : decode cX9_note 13 = .ok (.bipush 48, 2) := by decide +kernel
theorem dX9_note_15 : decode cX9_note 15 = .ok (.aload_n 0, 1) := by decide +kernel
theorem dX9_note_16 : decode cX9_note 16 = .ok (.getfield 62, 3) := by decide +kernel
theorem dX9_note_19 : decode cX9_note 19 = .ok (.iconst 0, 1) := by decide +kernel
theorem dX9_note_20 : decode cX9_note 20 = .ok (.sipush 624, 3) := by decide +kernel
theorem dX9_note_23 : decode cX9_note 23 = .ok (.invokestatic 159, 3) := by decide +kernel
theorem dX9_note_26 : decode cX9_note 26 = .ok (.aload_n 0, 1) := by decide +kernel
theorem dX9_note_27 : decode cX9_note 27 = .ok (.dup, 1) := by decide +kernel
theorem dX9_note_28 : decode cX9_note 28 = .ok (.getfield 163, 3) := by decide +kernel
theorem dX9_note_31 : decode cX9_note 31 = .ok (.iconst 1, 1) := by decide +kernel
theorem dX9_note_32 : decode cX9_note 32 = .ok (.isub, 1) := by decide +kernel
theorem dX9_note_33 : decode cX9_note 33 = .ok (.putfield 163, 3) := by decide +kernel
theorem dX9_note_36 : decode cX9_note 36 = .ok (.aload_n 0, 1) := by decide +kernel
theorem dX9_note_37 : decode cX9_note 37 = .ok (.getfield 53, 3) := by decide +kernel
theorem dX9_note_40 : decode cX9_note 40 = .ok (.iconst 0, 1) := by decide +kernel
theorem dX9_note_41 : decode cX9_note 41 = .ok (.aload_n 0, 1) := by decide +kernel
theorem dX9_note_42 : decode cX9_note 42 = .ok (.getfield 62, 3) := by decide +kernel
theorem dX9_note_45 : decode cX9_note 45 = .ok (.bipush 48, 2) := by decide +kernel
theorem dX9_note_47 : decode cX9_note 47 = .ok (.aload_n 0, 1) := by decide +kernel
theorem dX9_note_48 : decode cX9_note 48 = .ok (.getfield 163, 3) := by decide +kernel
theorem dX9_note_51 : decode cX9_note 51 = .ok (.imul, 1) := by decide +kernel
theorem dX9_note_52 : decode cX9_note 52 = .ok (.bipush 48, 2) := by decide +kernel
theorem dX9_note_54 : decode cX9_note 54 = .ok (.invokestatic 159, 3) := by decide +kernel
theorem dX9_note_57 : decode cX9_note 57 = .ok (.aload_n 0, 1) := by decide +kernel
theorem dX9_note_58 : decode cX9_note 58 = .ok (.dup, 1) := by decide +kernel
theorem dX9_note_59 : decode cX9_note 59 = .ok (.getfield 163, 3) := by decide +kernel
theorem dX9_note_62 : decode cX9_note 62 = .ok (.iconst 1, 1) := by decide +kernel
theorem dX9_note_63 : decode cX9_note 63 = .ok (.iadd, 1) := by decide +kernel
theorem dX9_note_64 : decode cX9_note 64 = .ok (.putfield 163, 3) := by decide +kernel
theorem dX9_note_67 : decode cX9_note 67 = .ok (.return_, 1) := by decide +kernel
theorem dX9_change_0 : decode cX9_change 0 = .ok (.aload_n 0, 1) := by decide +kernel
theorem dX9_change_1 : decode cX9_change 1 = .ok (.invokevirtual 186, 3) := by decide +kernel
theorem dX9_change_4 : decode cX9_change 4 = .ok (.aload_n 0, 1) := by decide +kernel
theorem dX9_change_5 : decode cX9_change 5 = .ok (.getfield 53, 3) := by decide +kernel
theorem dX9_change_8 : decode cX9_change 8 = .ok (.iload_n 1, 1) := by decide +kernel
theorem dX9_change_9 : decode cX9_change 9 = .ok (.iaload, 1) := by decide +kernel
theorem dX9_change_10 : decode cX9_change 10 = .ok (.istore_n 3, 1) := by decide +kernel
theorem dX9_change_11 : decode cX9_change 11 = .ok (.aload_n 0, 1) := by decide +kernel
theorem dX9_change_12 : decode cX9_change 12 = .ok (.getfield 53, 3) := by decide +kernel
theorem dX9_change_15 : decode cX9_change 15 = .ok (.iload_n 1, 1) := by decide +kernel
theorem dX9_change_16 : decode cX9_change 16 = .ok (.iload_n 2, 1) := by decide +kernel
theorem dX9_change_17 : decode cX9_change 17 = .ok (.iastore, 1) := by decide +kernel
theorem dX9_change_18 : decode cX9_change 18 = .ok (.iload_n 3, 1) := by decide +kernel
theorem dX9_change_19 : decode cX9_change 19 = .ok (.ireturn, 1) := by decide +kernel
theorem dX9_seenBy_0 : decode cX9_seenBy 0 = .ok (.lconst 0, 1) := by decide +kernel
theorem dX9_seenBy_1 : decode cX9_seenBy 1 = .ok (.lstore 4, 2) := by decide +kernel
theorem dX9_seenBy_3 : decode cX9_seenBy 3 = .ok (.iconst 0, 1) := by decide +kernel
theorem dX9_seenBy_4 : decode cX9_seenBy 4 = .ok (.istore 6, 2) := by decide +kernel
theorem dX9_seenBy_6 : decode cX9_seenBy 6 = .ok (.iload 6, 2) := by decide +kernel
theorem dX9_seenBy_8 : decode cX9_seenBy 8 = .ok (.aload_n 0, 1) := by decide +kernel
theorem dX9_seenBy_9 : decode cX9_seenBy 9 = .ok (.getfield 13, 3) := by decide +kernel
theorem dX9_seenBy_12 : decode cX9_seenBy 12 = .ok (.if_icmp .ge 34, 3) := by decide +kernel
theorem dX9_seenBy_15 : decode cX9_seenBy 15 = .ok (.lload 4, 2) := by decide +kernel
theorem dX9_seenBy_17 : decode cX9_seenBy 17 = .ok (.aload_n 0, 1) := by decide +kernel
theorem dX9_seenBy_18 : decode cX9_seenBy 18 = .ok (.getfield 29, 3) := by decide +kernel
theorem dX9_seenBy_21 : decode cX9_seenBy 21 = .ok (.iconst 4, 1) := by decide +kernel
theorem dX9_seenBy_22 : decode cX9_seenBy 22 = .ok (.iload_n 3, 1) := by decide +kernel
theorem dX9_seenBy_23 : decode cX9_seenBy 23 = .ok (.imul, 1) := by decide +kernel
theorem dX9_seenBy_24 : decode cX9_seenBy 24 = .ok (.iload 6, 2) := by decide +kernel
theorem dX9_seenBy_26 : decode cX9_seenBy 26 = .ok (.iadd, 1) := by decide +kernel
theorem dX9_seenBy_27 : decode cX9_seenBy 27 = .ok (.iaload, 1) := by decide +kernel
theorem dX9_seenBy_28 : decode cX9_seenBy 28 = .ok (.i2l, 1) := by decide +kernel
theorem dX9_seenBy_29 : decode cX9_seenBy 29 = .ok (.aload_n 1, 1) := by decide +kernel
theorem dX9_seenBy_30 : decode cX9_seenBy 30 = .ok (.iload_n 2, 1) := by decide +kernel
theorem dX9_seenBy_31 : decode cX9_seenBy 31 = .ok (.iload 6, 2) := by decide +kernel
theorem dX9_seenBy_33 : decode cX9_seenBy 33 = .ok (.iadd, 1) := by decide +kernel
theorem dX9_seenBy_34 : decode cX9_seenBy 34 = .ok (.iaload, 1) := by decide +kernel
theorem dX9_seenBy_35 : decode cX9_seenBy 35 = .ok (.i2l, 1) := by decide +kernel
theorem dX9_seenBy_36 : decode cX9_seenBy 36 = .ok (.lmul, 1) := by decide +kernel
theorem dX9_seenBy_37 : decode cX9_seenBy 37 = .ok (.ladd, 1) := by decide +kernel
theorem dX9_seenBy_38 : decode cX9_seenBy 38 = .ok (.lstore 4, 2) := by decide +kernel
theorem dX9_seenBy_40 : decode cX9_seenBy 40 = .ok (.iinc 6 1, 3) := by decide +kernel
theorem dX9_seenBy_43 : decode cX9_seenBy 43 = .ok (.goto (-37), 3) := by decide +kernel
theorem dX9_seenBy_46 : decode cX9_seenBy 46 = .ok (.lload 4, 2) := by decide +kernel
theorem dX9_seenBy_48 : decode cX9_seenBy 48 = .ok (.lreturn, 1) := by decide +kernel
theorem dX9_fits_0 : decode cX9_fits 0 = .ok (.iconst 1, 1) := by decide +kernel
theorem dX9_fits_1 : decode cX9_fits 1 = .ok (.istore_n 3, 1) := by decide +kernel
theorem dX9_fits_2 : decode cX9_fits 2 = .ok (.iconst 0, 1) := by decide +kernel
theorem dX9_fits_3 : decode cX9_fits 3 = .ok (.istore 4, 2) := by decide +kernel
theorem dX9_fits_5 : decode cX9_fits 5 = .ok (.iload 4, 2) := by decide +kernel
theorem dX9_fits_7 : decode cX9_fits 7 = .ok (.aload_n 0, 1) := by decide +kernel
theorem dX9_fits_8 : decode cX9_fits 8 = .ok (.getfield 13, 3) := by decide +kernel
theorem dX9_fits_11 : decode cX9_fits 11 = .ok (.if_icmp .ge 47, 3) := by decide +kernel
theorem dX9_fits_14 : decode cX9_fits 14 = .ok (.iload_n 3, 1) := by decide +kernel
theorem dX9_fits_15 : decode cX9_fits 15 = .ok (.ifCond .eq 35, 3) := by decide +kernel
theorem dX9_fits_18 : decode cX9_fits 18 = .ok (.aload_n 1, 1) := by decide +kernel
theorem dX9_fits_19 : decode cX9_fits 19 = .ok (.iload_n 2, 1) := by decide +kernel
theorem dX9_fits_20 : decode cX9_fits 20 = .ok (.iload 4, 2) := by decide +kernel
theorem dX9_fits_22 : decode cX9_fits 22 = .ok (.iadd, 1) := by decide +kernel
theorem dX9_fits_23 : decode cX9_fits 23 = .ok (.iaload, 1) := by decide +kernel
theorem dX9_fits_24 : decode cX9_fits 24 = .ok (.i2l, 1) := by decide +kernel
theorem dX9_fits_25 : decode cX9_fits 25 = .ok (.aload_n 1, 1) := by decide +kernel
theorem dX9_fits_26 : decode cX9_fits 26 = .ok (.iconst 4, 1) := by decide +kernel
theorem dX9_fits_27 : decode cX9_fits 27 = .ok (.iload 4, 2) := by decide +kernel
theorem dX9_fits_29 : decode cX9_fits 29 = .ok (.iadd, 1) := by decide +kernel
theorem dX9_fits_30 : decode cX9_fits 30 = .ok (.iaload, 1) := by decide +kernel
theorem dX9_fits_31 : decode cX9_fits 31 = .ok (.i2l, 1) := by decide +kernel
theorem dX9_fits_32 : decode cX9_fits 32 = .ok (.aload_n 1, 1) := by decide +kernel
theorem dX9_fits_33 : decode cX9_fits 33 = .ok (.bipush 8, 2) := by decide +kernel
theorem dX9_fits_35 : decode cX9_fits 35 = .ok (.iload 4, 2) := by decide +kernel
theorem dX9_fits_37 : decode cX9_fits 37 = .ok (.iadd, 1) := by decide +kernel
theorem dX9_fits_38 : decode cX9_fits 38 = .ok (.iaload, 1) := by decide +kernel
theorem dX9_fits_39 : decode cX9_fits 39 = .ok (.i2l, 1) := by decide +kernel
theorem dX9_fits_40 : decode cX9_fits 40 = .ok (.invokestatic 107, 3) := by decide +kernel
theorem dX9_fits_43 : decode cX9_fits 43 = .ok (.ifCond .eq 7, 3) := by decide +kernel
theorem dX9_fits_46 : decode cX9_fits 46 = .ok (.iconst 1, 1) := by decide +kernel
theorem dX9_fits_47 : decode cX9_fits 47 = .ok (.goto 4, 3) := by decide +kernel
theorem dX9_fits_50 : decode cX9_fits 50 = .ok (.iconst 0, 1) := by decide +kernel
theorem dX9_fits_51 : decode cX9_fits 51 = .ok (.istore_n 3, 1) := by decide +kernel
theorem dX9_fits_52 : decode cX9_fits 52 = .ok (.iinc 4 1, 3) := by decide +kernel
theorem dX9_fits_55 : decode cX9_fits 55 = .ok (.goto (-50), 3) := by decide +kernel
theorem dX9_fits_58 : decode cX9_fits 58 = .ok (.iconst 0, 1) := by decide +kernel
theorem dX9_fits_59 : decode cX9_fits 59 = .ok (.istore 4, 2) := by decide +kernel
theorem dX9_fits_61 : decode cX9_fits 61 = .ok (.iload 4, 2) := by decide +kernel
theorem dX9_fits_63 : decode cX9_fits 63 = .ok (.aload_n 0, 1) := by decide +kernel
theorem dX9_fits_64 : decode cX9_fits 64 = .ok (.getfield 17, 3) := by decide +kernel
theorem dX9_fits_67 : decode cX9_fits 67 = .ok (.if_icmp .ge 60, 3) := by decide +kernel
theorem dX9_fits_70 : decode cX9_fits 70 = .ok (.iload_n 3, 1) := by decide +kernel
theorem dX9_fits_71 : decode cX9_fits 71 = .ok (.ifCond .eq 56, 3) := by decide +kernel
theorem dX9_fits_74 : decode cX9_fits 74 = .ok (.aload_n 1, 1) := by decide +kernel
theorem dX9_fits_75 : decode cX9_fits 75 = .ok (.bipush 34, 2) := by decide +kernel
theorem dX9_fits_77 : decode cX9_fits 77 = .ok (.iload 4, 2) := by decide +kernel
theorem dX9_fits_79 : decode cX9_fits 79 = .ok (.iadd, 1) := by decide +kernel
theorem dX9_fits_80 : decode cX9_fits 80 = .ok (.iaload, 1) := by decide +kernel
theorem dX9_fits_81 : decode cX9_fits 81 = .ok (.ifCond .ne 34, 3) := by decide +kernel
theorem dX9_fits_84 : decode cX9_fits 84 = .ok (.aload_n 0, 1) := by decide +kernel
theorem dX9_fits_85 : decode cX9_fits 85 = .ok (.aload_n 1, 1) := by decide +kernel
theorem dX9_fits_86 : decode cX9_fits 86 = .ok (.iload_n 2, 1) := by decide +kernel
theorem dX9_fits_87 : decode cX9_fits 87 = .ok (.iload 4, 2) := by decide +kernel
theorem dX9_fits_89 : decode cX9_fits 89 = .ok (.invokevirtual 189, 3) := by decide +kernel
theorem dX9_fits_92 : decode cX9_fits 92 = .ok (.aload_n 0, 1) := by decide +kernel
theorem dX9_fits_93 : decode cX9_fits 93 = .ok (.getfield 32, 3) := by decide +kernel
theorem dX9_fits_96 : decode cX9_fits 96 = .ok (.iload 4, 2) := by decide +kernel
theorem dX9_fits_98 : decode cX9_fits 98 = .ok (.iaload, 1) := by decide +kernel
theorem dX9_fits_99 : decode cX9_fits 99 = .ok (.i2l, 1) := by decide +kernel
theorem dX9_fits_100 : decode cX9_fits 100 = .ok (.invokestatic 101, 3) := by decide +kernel
theorem dX9_fits_103 : decode cX9_fits 103 = .ok (.aload_n 1, 1) := by decide +kernel
theorem dX9_fits_104 : decode cX9_fits 104 = .ok (.bipush 31, 2) := by decide +kernel
theorem dX9_fits_106 : decode cX9_fits 106 = .ok (.iload 4, 2) := by decide +kernel
theorem dX9_fits_108 : decode cX9_fits 108 = .ok (.iadd, 1) := by decide +kernel
theorem dX9_fits_109 : decode cX9_fits 109 = .ok (.iaload, 1) := by decide +kernel
theorem dX9_fits_110 : decode cX9_fits 110 = .ok (.i2l, 1) := by decide +kernel
theorem dX9_fits_111 : decode cX9_fits 111 = .ok (.lcmp, 1) := by decide +kernel
theorem dX9_fits_112 : decode cX9_fits 112 = .ok (.ifCond .ne 7, 3) := by decide +kernel
theorem dX9_fits_115 : decode cX9_fits 115 = .ok (.iconst 1, 1) := by decide +kernel
theorem dX9_fits_116 : decode cX9_fits 116 = .ok (.goto 4, 3) := by decide +kernel
theorem dX9_fits_119 : decode cX9_fits 119 = .ok (.iconst 0, 1) := by decide +kernel
theorem dX9_fits_120 : decode cX9_fits 120 = .ok (.istore_n 3, 1) := by decide +kernel
theorem dX9_fits_121 : decode cX9_fits 121 = .ok (.iinc 4 1, 3) := by decide +kernel
theorem dX9_fits_124 : decode cX9_fits 124 = .ok (.goto (-63), 3) := by decide +kernel
theorem dX9_fits_127 : decode cX9_fits 127 = .ok (.iload_n 3, 1) := by decide +kernel
theorem dX9_fits_128 : decode cX9_fits 128 = .ok (.ireturn, 1) := by decide +kernel
theorem dX9_place_0 : decode cX9_place 0 = .ok (.aload_n 0, 1) := by decide +kernel
theorem dX9_place_1 : decode cX9_place 1 = .ok (.aload_n 0, 1) := by decide +kernel
theorem dX9_place_2 : decode cX9_place 2 = .ok (.iload_n 1, 1) := by decide +kernel
theorem dX9_place_3 : decode cX9_place 3 = .ok (.invokevirtual 173, 3) := by decide +kernel
theorem dX9_place_6 : decode cX9_place 6 = .ok (.ifCond .eq 7, 3) := by decide +kernel
theorem dX9_place_9 : decode cX9_place 9 = .ok (.iconst 0, 1) := by decide +kernel
theorem dX9_place_10 : decode cX9_place 10 = .ok (.goto 4, 3) := by decide +kernel
theorem dX9_place_13 : decode cX9_place 13 = .ok (.iconst 1, 1) := by decide +kernel
theorem dX9_place_14 : decode cX9_place 14 = .ok (.invokevirtual 114, 3) := by decide +kernel
theorem dX9_place_17 : decode cX9_place 17 = .ok (.ifCond .eq 5, 3) := by decide +kernel
theorem dX9_place_20 : decode cX9_place 20 = .ok (.iconst 0, 1) := by decide +kernel
theorem dX9_place_21 : decode cX9_place 21 = .ok (.ireturn, 1) := by decide +kernel
theorem dX9_place_22 : decode cX9_place 22 = .ok (.aload_n 0, 1) := by decide +kernel
theorem dX9_place_23 : decode cX9_place 23 = .ok (.getfield 53, 3) := by decide +kernel
theorem dX9_place_26 : decode cX9_place 26 = .ok (.iconst 0, 1) := by decide +kernel
theorem dX9_place_27 : decode cX9_place 27 = .ok (.aload_n 0, 1) := by decide +kernel
theorem dX9_place_28 : decode cX9_place 28 = .ok (.getfield 56, 3) := by decide +kernel
theorem dX9_place_31 : decode cX9_place 31 = .ok (.iconst 0, 1) := by decide +kernel
theorem dX9_place_32 : decode cX9_place 32 = .ok (.bipush 48, 2) := by decide +kernel
theorem dX9_place_34 : decode cX9_place 34 = .ok (.invokestatic 159, 3) := by decide +kernel
theorem dX9_place_37 : decode cX9_place 37 = .ok (.aload_n 0, 1) := by decide +kernel
theorem dX9_place_38 : decode cX9_place 38 = .ok (.getfield 56, 3) := by decide +kernel
theorem dX9_place_41 : decode cX9_place 41 = .ok (.iconst 0, 1) := by decide +kernel
theorem dX9_place_42 : decode cX9_place 42 = .ok (.iload_n 1, 1) := by decide +kernel
theorem dX9_place_43 : decode cX9_place 43 = .ok (.iadd, 1) := by decide +kernel
theorem dX9_place_44 : decode cX9_place 44 = .ok (.iload_n 2, 1) := by decide +kernel
theorem dX9_place_45 : decode cX9_place 45 = .ok (.iastore, 1) := by decide +kernel
theorem dX9_place_46 : decode cX9_place 46 = .ok (.aload_n 0, 1) := by decide +kernel
theorem dX9_place_47 : decode cX9_place 47 = .ok (.aload_n 0, 1) := by decide +kernel
theorem dX9_place_48 : decode cX9_place 48 = .ok (.aload_n 0, 1) := by decide +kernel
theorem dX9_place_49 : decode cX9_place 49 = .ok (.getfield 56, 3) := by decide +kernel
theorem dX9_place_52 : decode cX9_place 52 = .ok (.iconst 0, 1) := by decide +kernel
theorem dX9_place_53 : decode cX9_place 53 = .ok (.invokevirtual 193, 3) := by decide +kernel
theorem dX9_place_56 : decode cX9_place 56 = .ok (.ifCond .eq 7, 3) := by decide +kernel
theorem dX9_place_59 : decode cX9_place 59 = .ok (.iconst 0, 1) := by decide +kernel
theorem dX9_place_60 : decode cX9_place 60 = .ok (.goto 4, 3) := by decide +kernel
theorem dX9_place_63 : decode cX9_place 63 = .ok (.iconst 2, 1) := by decide +kernel
theorem dX9_place_64 : decode cX9_place 64 = .ok (.invokevirtual 114, 3) := by decide +kernel
theorem dX9_place_67 : decode cX9_place 67 = .ok (.ifCond .eq 7, 3) := by decide +kernel
theorem dX9_place_70 : decode cX9_place 70 = .ok (.iconst 0, 1) := by decide +kernel
theorem dX9_place_71 : decode cX9_place 71 = .ok (.goto 11, 3) := by decide +kernel
theorem dX9_place_74 : decode cX9_place 74 = .ok (.aload_n 0, 1) := by decide +kernel
theorem dX9_place_75 : decode cX9_place 75 = .ok (.iconst 0, 1) := by decide +kernel
theorem dX9_place_76 : decode cX9_place 76 = .ok (.iload_n 1, 1) := by decide +kernel
theorem dX9_place_77 : decode cX9_place 77 = .ok (.iadd, 1) := by decide +kernel
theorem dX9_place_78 : decode cX9_place 78 = .ok (.iload_n 2, 1) := by decide +kernel
theorem dX9_place_79 : decode cX9_place 79 = .ok (.invokevirtual 197, 3) := by decide +kernel
theorem dX9_place_82 : decode cX9_place 82 = .ok (.ireturn, 1) := by decide +kernel
theorem dX9_guessOn_0 : decode cX9_guessOn 0 = .ok (.iconst 0, 1) := by decide +kernel
theorem dX9_guessOn_1 : decode cX9_guessOn 1 = .ok (.istore_n 3, 1) := by decide +kernel
theorem dX9_guessOn_2 : decode cX9_guessOn 2 = .ok (.iload_n 3, 1) := by decide +kernel
theorem dX9_guessOn_3 : decode cX9_guessOn 3 = .ok (.aload_n 0, 1) := by decide +kernel
theorem dX9_guessOn_4 : decode cX9_guessOn 4 = .ok (.getfield 17, 3) := by decide +kernel
theorem dX9_guessOn_7 : decode cX9_guessOn 7 = .ok (.if_icmp .ge 95, 3) := by decide +kernel
theorem dX9_guessOn_10 : decode cX9_guessOn 10 = .ok (.aload_n 1, 1) := by decide +kernel
theorem dX9_guessOn_11 : decode cX9_guessOn 11 = .ok (.bipush 34, 2) := by decide +kernel
theorem dX9_guessOn_13 : decode cX9_guessOn 13 = .ok (.iload_n 3, 1) := by decide +kernel
theorem dX9_guessOn_14 : decode cX9_guessOn 14 = .ok (.iadd, 1) := by decide +kernel
theorem dX9_guessOn_15 : decode cX9_guessOn 15 = .ok (.iaload, 1) := by decide +kernel
theorem dX9_guessOn_16 : decode cX9_guessOn 16 = .ok (.ifCond .lt 20, 3) := by decide +kernel
theorem dX9_guessOn_19 : decode cX9_guessOn 19 = .ok (.aload_n 1, 1) := by decide +kernel
theorem dX9_guessOn_20 : decode cX9_guessOn 20 = .ok (.bipush 34, 2) := by decide +kernel
theorem dX9_guessOn_22 : decode cX9_guessOn 22 = .ok (.iload_n 3, 1) := by decide +kernel
theorem dX9_guessOn_23 : decode cX9_guessOn 23 = .ok (.iadd, 1) := by decide +kernel
theorem dX9_guessOn_24 : decode cX9_guessOn 24 = .ok (.iaload, 1) := by decide +kernel
theorem dX9_guessOn_25 : decode cX9_guessOn 25 = .ok (.aload_n 1, 1) := by decide +kernel
theorem dX9_guessOn_26 : decode cX9_guessOn 26 = .ok (.bipush 28, 2) := by decide +kernel
theorem dX9_guessOn_28 : decode cX9_guessOn 28 = .ok (.iaload, 1) := by decide +kernel
theorem dX9_guessOn_29 : decode cX9_guessOn 29 = .ok (.if_icmp .gt 7, 3) := by decide +kernel
theorem dX9_guessOn_32 : decode cX9_guessOn 32 = .ok (.iconst 1, 1) := by decide +kernel
theorem dX9_guessOn_33 : decode cX9_guessOn 33 = .ok (.goto 4, 3) := by decide +kernel
theorem dX9_guessOn_36 : decode cX9_guessOn 36 = .ok (.iconst 0, 1) := by decide +kernel
theorem dX9_guessOn_37 : decode cX9_guessOn 37 = .ok (.istore 4, 2) := by decide +kernel
theorem dX9_guessOn_39 : decode cX9_guessOn 39 = .ok (.aload_n 0, 1) := by decide +kernel
theorem dX9_guessOn_40 : decode cX9_guessOn 40 = .ok (.getfield 75, 3) := by decide +kernel
theorem dX9_guessOn_43 : decode cX9_guessOn 43 = .ok (.iload_n 3, 1) := by decide +kernel
theorem dX9_guessOn_44 : decode cX9_guessOn 44 = .ok (.iload 4, 2) := by decide +kernel
theorem dX9_guessOn_46 : decode cX9_guessOn 46 = .ok (.ifCond .eq 48, 3) := by decide +kernel
theorem dX9_guessOn_49 : decode cX9_guessOn 49 = .ok (.ldc2_w 201, 3) := by decide +kernel
theorem dX9_guessOn_52 : decode cX9_guessOn 52 = .ok (.aload_n 0, 1) := by decide +kernel
theorem dX9_guessOn_53 : decode cX9_guessOn 53 = .ok (.getfield 32, 3) := by decide +kernel
theorem dX9_guessOn_56 : decode cX9_guessOn 56 = .ok (.iload_n 3, 1) := by decide +kernel
theorem dX9_guessOn_57 : decode cX9_guessOn 57 = .ok (.iaload, 1) := by decide +kernel
theorem dX9_guessOn_58 : decode cX9_guessOn 58 = .ok (.i2l, 1) := by decide +kernel
theorem dX9_guessOn_59 : decode cX9_guessOn 59 = .ok (.lmul, 1) := by decide +kernel
theorem dX9_guessOn_60 : decode cX9_guessOn 60 = .ok (.aload_n 1, 1) := by decide +kernel
theorem dX9_guessOn_61 : decode cX9_guessOn 61 = .ok (.bipush 31, 2) := by decide +kernel
theorem dX9_guessOn_63 : decode cX9_guessOn 63 = .ok (.iload_n 3, 1) := by decide +kernel
theorem dX9_guessOn_64 : decode cX9_guessOn 64 = .ok (.iadd, 1) := by decide +kernel
theorem dX9_guessOn_65 : decode cX9_guessOn 65 = .ok (.iaload, 1) := by decide +kernel
theorem dX9_guessOn_66 : decode cX9_guessOn 66 = .ok (.i2l, 1) := by decide +kernel
theorem dX9_guessOn_67 : decode cX9_guessOn 67 = .ok (.lmul, 1) := by decide +kernel
theorem dX9_guessOn_68 : decode cX9_guessOn 68 = .ok (.ldc2_w 203, 3) := by decide +kernel
theorem dX9_guessOn_71 : decode cX9_guessOn 71 = .ok (.aload_n 0, 1) := by decide +kernel
theorem dX9_guessOn_72 : decode cX9_guessOn 72 = .ok (.getfield 32, 3) := by decide +kernel
theorem dX9_guessOn_75 : decode cX9_guessOn 75 = .ok (.iload_n 3, 1) := by decide +kernel
theorem dX9_guessOn_76 : decode cX9_guessOn 76 = .ok (.iaload, 1) := by decide +kernel
theorem dX9_guessOn_77 : decode cX9_guessOn 77 = .ok (.iconst 1, 1) := by decide +kernel
theorem dX9_guessOn_78 : decode cX9_guessOn 78 = .ok (.isub, 1) := by decide +kernel
theorem dX9_guessOn_79 : decode cX9_guessOn 79 = .ok (.i2l, 1) := by decide +kernel
theorem dX9_guessOn_80 : decode cX9_guessOn 80 = .ok (.lmul, 1) := by decide +kernel
theorem dX9_guessOn_81 : decode cX9_guessOn 81 = .ok (.ladd, 1) := by decide +kernel
theorem dX9_guessOn_82 : decode cX9_guessOn 82 = .ok (.aload_n 0, 1) := by decide +kernel
theorem dX9_guessOn_83 : decode cX9_guessOn 83 = .ok (.aload_n 1, 1) := by decide +kernel
theorem dX9_guessOn_84 : decode cX9_guessOn 84 = .ok (.bipush 12, 2) := by decide +kernel
theorem dX9_guessOn_86 : decode cX9_guessOn 86 = .ok (.iload_n 3, 1) := by decide +kernel
theorem dX9_guessOn_87 : decode cX9_guessOn 87 = .ok (.invokevirtual 189, 3) := by decide +kernel
theorem dX9_guessOn_90 : decode cX9_guessOn 90 = .ok (.lsub, 1) := by decide +kernel
theorem dX9_guessOn_91 : decode cX9_guessOn 91 = .ok (.goto 4, 3) := by decide +kernel
theorem dX9_guessOn_94 : decode cX9_guessOn 94 = .ok (.lconst 0, 1) := by decide +kernel
theorem dX9_guessOn_95 : decode cX9_guessOn 95 = .ok (.lastore, 1) := by decide +kernel
theorem dX9_guessOn_96 : decode cX9_guessOn 96 = .ok (.iinc 3 1, 3) := by decide +kernel
theorem dX9_guessOn_99 : decode cX9_guessOn 99 = .ok (.goto (-97), 3) := by decide +kernel
theorem dX9_guessOn_102 : decode cX9_guessOn 102 = .ok (.aload_n 1, 1) := by decide +kernel
theorem dX9_guessOn_103 : decode cX9_guessOn 103 = .ok (.bipush 12, 2) := by decide +kernel
theorem dX9_guessOn_105 : decode cX9_guessOn 105 = .ok (.aload_n 0, 1) := by decide +kernel
theorem dX9_guessOn_106 : decode cX9_guessOn 106 = .ok (.getfield 72, 3) := by decide +kernel
theorem dX9_guessOn_109 : decode cX9_guessOn 109 = .ok (.iconst 0, 1) := by decide +kernel
theorem dX9_guessOn_110 : decode cX9_guessOn 110 = .ok (.iconst 4, 1) := by decide +kernel
theorem dX9_guessOn_111 : decode cX9_guessOn 111 = .ok (.invokestatic 159, 3) := by decide +kernel
theorem dX9_guessOn_114 : decode cX9_guessOn 114 = .ok (.iconst 0, 1) := by decide +kernel
theorem dX9_guessOn_115 : decode cX9_guessOn 115 = .ok (.istore_n 3, 1) := by decide +kernel
theorem dX9_guessOn_116 : decode cX9_guessOn 116 = .ok (.iload_n 3, 1) := by decide +kernel
theorem dX9_guessOn_117 : decode cX9_guessOn 117 = .ok (.aload_n 0, 1) := by decide +kernel
theorem dX9_guessOn_118 : decode cX9_guessOn 118 = .ok (.getfield 13, 3) := by decide +kernel
theorem dX9_guessOn_121 : decode cX9_guessOn 121 = .ok (.if_icmp .ge 145, 3) := by decide +kernel
theorem dX9_guessOn_124 : decode cX9_guessOn 124 = .ok (.lconst 0, 1) := by decide +kernel
theorem dX9_guessOn_125 : decode cX9_guessOn 125 = .ok (.lstore 4, 2) := by decide +kernel
theorem dX9_guessOn_127 : decode cX9_guessOn 127 = .ok (.lconst 0, 1) := by decide +kernel
theorem dX9_guessOn_128 : decode cX9_guessOn 128 = .ok (.lstore 6, 2) := by decide +kernel
theorem dX9_guessOn_130 : decode cX9_guessOn 130 = .ok (.iconst 0, 1) := by decide +kernel
theorem dX9_guessOn_131 : decode cX9_guessOn 131 = .ok (.istore 8, 2) := by decide +kernel
theorem dX9_guessOn_133 : decode cX9_guessOn 133 = .ok (.iload 8, 2) := by decide +kernel
theorem dX9_guessOn_135 : decode cX9_guessOn 135 = .ok (.aload_n 0, 1) := by decide +kernel
theorem dX9_guessOn_136 : decode cX9_guessOn 136 = .ok (.getfield 13, 3) := by decide +kernel
theorem dX9_guessOn_139 : decode cX9_guessOn 139 = .ok (.if_icmp .ge 35, 3) := by decide +kernel
theorem dX9_guessOn_142 : decode cX9_guessOn 142 = .ok (.lload 4, 2) := by decide +kernel
theorem dX9_guessOn_144 : decode cX9_guessOn 144 = .ok (.aload_n 0, 1) := by decide +kernel
theorem dX9_guessOn_145 : decode cX9_guessOn 145 = .ok (.getfield 20, 3) := by decide +kernel
theorem dX9_guessOn_148 : decode cX9_guessOn 148 = .ok (.iconst 4, 1) := by decide +kernel
theorem dX9_guessOn_149 : decode cX9_guessOn 149 = .ok (.iload_n 3, 1) := by decide +kernel
theorem dX9_guessOn_150 : decode cX9_guessOn 150 = .ok (.imul, 1) := by decide +kernel
theorem dX9_guessOn_151 : decode cX9_guessOn 151 = .ok (.iload 8, 2) := by decide +kernel
theorem dX9_guessOn_153 : decode cX9_guessOn 153 = .ok (.iadd, 1) := by decide +kernel
theorem dX9_guessOn_154 : decode cX9_guessOn 154 = .ok (.iaload, 1) := by decide +kernel
theorem dX9_guessOn_155 : decode cX9_guessOn 155 = .ok (.i2l, 1) := by decide +kernel
theorem dX9_guessOn_156 : decode cX9_guessOn 156 = .ok (.aload_n 0, 1) := by decide +kernel
theorem dX9_guessOn_157 : decode cX9_guessOn 157 = .ok (.getfield 72, 3) := by decide +kernel
theorem dX9_guessOn_160 : decode cX9_guessOn 160 = .ok (.iload 8, 2) := by decide +kernel
theorem dX9_guessOn_162 : decode cX9_guessOn 162 = .ok (.iaload, 1) := by decide +kernel
theorem dX9_guessOn_163 : decode cX9_guessOn 163 = .ok (.i2l, 1) := by decide +kernel
theorem dX9_guessOn_164 : decode cX9_guessOn 164 = .ok (.lmul, 1) := by decide +kernel
theorem dX9_guessOn_165 : decode cX9_guessOn 165 = .ok (.ladd, 1) := by decide +kernel
theorem dX9_guessOn_166 : decode cX9_guessOn 166 = .ok (.lstore 4, 2) := by decide +kernel
theorem dX9_guessOn_168 : decode cX9_guessOn 168 = .ok (.iinc 8 1, 3) := by decide +kernel
theorem dX9_guessOn_171 : decode cX9_guessOn 171 = .ok (.goto (-38), 3) := by decide +kernel
theorem dX9_guessOn_174 : decode cX9_guessOn 174 = .ok (.iconst 0, 1) := by decide +kernel
theorem dX9_guessOn_175 : decode cX9_guessOn 175 = .ok (.istore 8, 2) := by decide +kernel
theorem dX9_guessOn_177 : decode cX9_guessOn 177 = .ok (.iload 8, 2) := by decide +kernel
theorem dX9_guessOn_179 : decode cX9_guessOn 179 = .ok (.aload_n 0, 1) := by decide +kernel
theorem dX9_guessOn_180 : decode cX9_guessOn 180 = .ok (.getfield 17, 3) := by decide +kernel
theorem dX9_guessOn_183 : decode cX9_guessOn 183 = .ok (.if_icmp .ge 34, 3) := by decide +kernel
theorem dX9_guessOn_186 : decode cX9_guessOn 186 = .ok (.lload 6, 2) := by decide +kernel
theorem dX9_guessOn_188 : decode cX9_guessOn 188 = .ok (.aload_n 1, 1) := by decide +kernel
theorem dX9_guessOn_189 : decode cX9_guessOn 189 = .ok (.bipush 16, 2) := by decide +kernel
theorem dX9_guessOn_191 : decode cX9_guessOn 191 = .ok (.iconst 3, 1) := by decide +kernel
theorem dX9_guessOn_192 : decode cX9_guessOn 192 = .ok (.iload_n 3, 1) := by decide +kernel
theorem dX9_guessOn_193 : decode cX9_guessOn 193 = .ok (.imul, 1) := by decide +kernel
theorem dX9_guessOn_194 : decode cX9_guessOn 194 = .ok (.iadd, 1) := by decide +kernel
theorem dX9_guessOn_195 : decode cX9_guessOn 195 = .ok (.iload 8, 2) := by decide +kernel
theorem dX9_guessOn_197 : decode cX9_guessOn 197 = .ok (.iadd, 1) := by decide +kernel
theorem dX9_guessOn_198 : decode cX9_guessOn 198 = .ok (.iaload, 1) := by decide +kernel
theorem dX9_guessOn_199 : decode cX9_guessOn 199 = .ok (.i2l, 1) := by decide +kernel
theorem dX9_guessOn_200 : decode cX9_guessOn 200 = .ok (.aload_n 0, 1) := by decide +kernel
theorem dX9_guessOn_201 : decode cX9_guessOn 201 = .ok (.getfield 75, 3) := by decide +kernel
theorem dX9_guessOn_204 : decode cX9_guessOn 204 = .ok (.iload 8, 2) := by decide +kernel
theorem dX9_guessOn_206 : decode cX9_guessOn 206 = .ok (.laload, 1) := by decide +kernel
theorem dX9_guessOn_207 : decode cX9_guessOn 207 = .ok (.lmul, 1) := by decide +kernel
theorem dX9_guessOn_208 : decode cX9_guessOn 208 = .ok (.ladd, 1) := by decide +kernel
theorem dX9_guessOn_209 : decode cX9_guessOn 209 = .ok (.lstore 6, 2) := by decide +kernel
theorem dX9_guessOn_211 : decode cX9_guessOn 211 = .ok (.iinc 8 1, 3) := by decide +kernel
theorem dX9_guessOn_214 : decode cX9_guessOn 214 = .ok (.goto (-37), 3) := by decide +kernel
theorem dX9_guessOn_217 : decode cX9_guessOn 217 = .ok (.aload_n 1, 1) := by decide +kernel
theorem dX9_guessOn_218 : decode cX9_guessOn 218 = .ok (.bipush 12, 2) := by decide +kernel
theorem dX9_guessOn_220 : decode cX9_guessOn 220 = .ok (.iload_n 3, 1) := by decide +kernel
theorem dX9_guessOn_221 : decode cX9_guessOn 221 = .ok (.iadd, 1) := by decide +kernel
theorem dX9_guessOn_222 : decode cX9_guessOn 222 = .ok (.lload 4, 2) := by decide +kernel
theorem dX9_guessOn_224 : decode cX9_guessOn 224 = .ok (.ldc2_w 201, 3) := by decide +kernel
theorem dX9_guessOn_227 : decode cX9_guessOn 227 = .ok (.invokestatic 101, 3) := by decide +kernel
theorem dX9_guessOn_230 : decode cX9_guessOn 230 = .ok (.ldc2_w 201, 3) := by decide +kernel
theorem dX9_guessOn_233 : decode cX9_guessOn 233 = .ok (.aload_n 0, 1) := by decide +kernel
theorem dX9_guessOn_234 : decode cX9_guessOn 234 = .ok (.getfield 23, 3) := by decide +kernel
theorem dX9_guessOn_237 : decode cX9_guessOn 237 = .ok (.iload_n 3, 1) := by decide +kernel
theorem dX9_guessOn_238 : decode cX9_guessOn 238 = .ok (.iaload, 1) := by decide +kernel
theorem dX9_guessOn_239 : decode cX9_guessOn 239 = .ok (.i2l, 1) := by decide +kernel
theorem dX9_guessOn_240 : decode cX9_guessOn 240 = .ok (.lmul, 1) := by decide +kernel
theorem dX9_guessOn_241 : decode cX9_guessOn 241 = .ok (.iload_n 2, 1) := by decide +kernel
theorem dX9_guessOn_242 : decode cX9_guessOn 242 = .ok (.i2l, 1) := by decide +kernel
theorem dX9_guessOn_243 : decode cX9_guessOn 243 = .ok (.lmul, 1) := by decide +kernel
theorem dX9_guessOn_244 : decode cX9_guessOn 244 = .ok (.ladd, 1) := by decide +kernel
theorem dX9_guessOn_245 : decode cX9_guessOn 245 = .ok (.lload 6, 2) := by decide +kernel
theorem dX9_guessOn_247 : decode cX9_guessOn 247 = .ok (.ldc2_w 201, 3) := by decide +kernel
theorem dX9_guessOn_250 : decode cX9_guessOn 250 = .ok (.invokestatic 101, 3) := by decide +kernel
theorem dX9_guessOn_253 : decode cX9_guessOn 253 = .ok (.ladd, 1) := by decide +kernel
theorem dX9_guessOn_254 : decode cX9_guessOn 254 = .ok (.ldc 205, 2) := by decide +kernel
theorem dX9_guessOn_256 : decode cX9_guessOn 256 = .ok (.invokestatic 206, 3) := by decide +kernel
theorem dX9_guessOn_259 : decode cX9_guessOn 259 = .ok (.iastore, 1) := by decide +kernel
theorem dX9_guessOn_260 : decode cX9_guessOn 260 = .ok (.iinc 3 1, 3) := by decide +kernel
theorem dX9_guessOn_263 : decode cX9_guessOn 263 = .ok (.goto (-147), 3) := by decide +kernel
theorem dX9_guessOn_266 : decode cX9_guessOn 266 = .ok (.return_, 1) := by decide +kernel
theorem dX9_boundsOn_0 : decode cX9_boundsOn 0 = .ok (.iconst 0, 1) := by decide +kernel
theorem dX9_boundsOn_1 : decode cX9_boundsOn 1 = .ok (.istore_n 3, 1) := by decide +kernel
theorem dX9_boundsOn_2 : decode cX9_boundsOn 2 = .ok (.iload_n 3, 1) := by decide +kernel
theorem dX9_boundsOn_3 : decode cX9_boundsOn 3 = .ok (.aload_n 0, 1) := by decide +kernel
theorem dX9_boundsOn_4 : decode cX9_boundsOn 4 = .ok (.getfield 13, 3) := by decide +kernel
theorem dX9_boundsOn_7 : decode cX9_boundsOn 7 = .ok (.if_icmp .ge 65, 3) := by decide +kernel
theorem dX9_boundsOn_10 : decode cX9_boundsOn 10 = .ok (.aload_n 1, 1) := by decide +kernel
theorem dX9_boundsOn_11 : decode cX9_boundsOn 11 = .ok (.bipush 40, 2) := by decide +kernel
theorem dX9_boundsOn_13 : decode cX9_boundsOn 13 = .ok (.iload_n 3, 1) := by decide +kernel
theorem dX9_boundsOn_14 : decode cX9_boundsOn 14 = .ok (.iadd, 1) := by decide +kernel
theorem dX9_boundsOn_15 : decode cX9_boundsOn 15 = .ok (.aload_n 0, 1) := by decide +kernel
theorem dX9_boundsOn_16 : decode cX9_boundsOn 16 = .ok (.aload_n 1, 1) := by decide +kernel
theorem dX9_boundsOn_17 : decode cX9_boundsOn 17 = .ok (.aload_n 0, 1) := by decide +kernel
theorem dX9_boundsOn_18 : decode cX9_boundsOn 18 = .ok (.getfield 20, 3) := by decide +kernel
theorem dX9_boundsOn_21 : decode cX9_boundsOn 21 = .ok (.iconst 4, 1) := by decide +kernel
theorem dX9_boundsOn_22 : decode cX9_boundsOn 22 = .ok (.iload_n 3, 1) := by decide +kernel
theorem dX9_boundsOn_23 : decode cX9_boundsOn 23 = .ok (.imul, 1) := by decide +kernel
theorem dX9_boundsOn_24 : decode cX9_boundsOn 24 = .ok (.bipush (-9), 2) := by decide +kernel
theorem dX9_boundsOn_26 : decode cX9_boundsOn 26 = .ok (.iconst 0, 1) := by decide +kernel
theorem dX9_boundsOn_27 : decode cX9_boundsOn 27 = .ok (.invokevirtual 178, 3) := by decide +kernel
theorem dX9_boundsOn_30 : decode cX9_boundsOn 30 = .ok (.ldc2_w 201, 3) := by decide +kernel
theorem dX9_boundsOn_33 : decode cX9_boundsOn 33 = .ok (.invokestatic 101, 3) := by decide +kernel
theorem dX9_boundsOn_36 : decode cX9_boundsOn 36 = .ok (.l2i, 1) := by decide +kernel
theorem dX9_boundsOn_37 : decode cX9_boundsOn 37 = .ok (.iastore, 1) := by decide +kernel
theorem dX9_boundsOn_38 : decode cX9_boundsOn 38 = .ok (.aload_n 1, 1) := by decide +kernel
theorem dX9_boundsOn_39 : decode cX9_boundsOn 39 = .ok (.bipush 44, 2) := by decide +kernel
theorem dX9_boundsOn_41 : decode cX9_boundsOn 41 = .ok (.iload_n 3, 1) := by decide +kernel
theorem dX9_boundsOn_42 : decode cX9_boundsOn 42 = .ok (.iadd, 1) := by decide +kernel
theorem dX9_boundsOn_43 : decode cX9_boundsOn 43 = .ok (.aload_n 0, 1) := by decide +kernel
theorem dX9_boundsOn_44 : decode cX9_boundsOn 44 = .ok (.aload_n 1, 1) := by decide +kernel
theorem dX9_boundsOn_45 : decode cX9_boundsOn 45 = .ok (.aload_n 0, 1) := by decide +kernel
theorem dX9_boundsOn_46 : decode cX9_boundsOn 46 = .ok (.getfield 20, 3) := by decide +kernel
theorem dX9_boundsOn_49 : decode cX9_boundsOn 49 = .ok (.iconst 4, 1) := by decide +kernel
theorem dX9_boundsOn_50 : decode cX9_boundsOn 50 = .ok (.iload_n 3, 1) := by decide +kernel
theorem dX9_boundsOn_51 : decode cX9_boundsOn 51 = .ok (.imul, 1) := by decide +kernel
theorem dX9_boundsOn_52 : decode cX9_boundsOn 52 = .ok (.bipush (-9), 2) := by decide +kernel
theorem dX9_boundsOn_54 : decode cX9_boundsOn 54 = .ok (.iconst 1, 1) := by decide +kernel
theorem dX9_boundsOn_55 : decode cX9_boundsOn 55 = .ok (.invokevirtual 178, 3) := by decide +kernel
theorem dX9_boundsOn_58 : decode cX9_boundsOn 58 = .ok (.ldc2_w 201, 3) := by decide +kernel
theorem dX9_boundsOn_61 : decode cX9_boundsOn 61 = .ok (.invokestatic 101, 3) := by decide +kernel
theorem dX9_boundsOn_64 : decode cX9_boundsOn 64 = .ok (.l2i, 1) := by decide +kernel
theorem dX9_boundsOn_65 : decode cX9_boundsOn 65 = .ok (.iastore, 1) := by decide +kernel
theorem dX9_boundsOn_66 : decode cX9_boundsOn 66 = .ok (.iinc 3 1, 3) := by decide +kernel
theorem dX9_boundsOn_69 : decode cX9_boundsOn 69 = .ok (.goto (-67), 3) := by decide +kernel
theorem dX9_boundsOn_72 : decode cX9_boundsOn 72 = .ok (.iconst 0, 1) := by decide +kernel
theorem dX9_boundsOn_73 : decode cX9_boundsOn 73 = .ok (.istore_n 3, 1) := by decide +kernel
theorem dX9_boundsOn_74 : decode cX9_boundsOn 74 = .ok (.iload_n 3, 1) := by decide +kernel
theorem dX9_boundsOn_75 : decode cX9_boundsOn 75 = .ok (.aload_n 0, 1) := by decide +kernel
theorem dX9_boundsOn_76 : decode cX9_boundsOn 76 = .ok (.getfield 13, 3) := by decide +kernel
theorem dX9_boundsOn_79 : decode cX9_boundsOn 79 = .ok (.if_icmp .ge 90, 3) := by decide +kernel
theorem dX9_boundsOn_82 : decode cX9_boundsOn 82 = .ok (.aload_n 0, 1) := by decide +kernel
theorem dX9_boundsOn_83 : decode cX9_boundsOn 83 = .ok (.getfield 26, 3) := by decide +kernel
theorem dX9_boundsOn_86 : decode cX9_boundsOn 86 = .ok (.iload_n 3, 1) := by decide +kernel
theorem dX9_boundsOn_87 : decode cX9_boundsOn 87 = .ok (.iaload, 1) := by decide +kernel
theorem dX9_boundsOn_88 : decode cX9_boundsOn 88 = .ok (.invokestatic 210, 3) := by decide +kernel
theorem dX9_boundsOn_91 : decode cX9_boundsOn 91 = .ok (.aload_n 1, 1) := by decide +kernel
theorem dX9_boundsOn_92 : decode cX9_boundsOn 92 = .ok (.bipush 29, 2) := by decide +kernel
theorem dX9_boundsOn_94 : decode cX9_boundsOn 94 = .ok (.iaload, 1) := by decide +kernel
theorem dX9_boundsOn_95 : decode cX9_boundsOn 95 = .ok (.imul, 1) := by decide +kernel
theorem dX9_boundsOn_96 : decode cX9_boundsOn 96 = .ok (.istore 4, 2) := by decide +kernel
theorem dX9_boundsOn_98 : decode cX9_boundsOn 98 = .ok (.aload_n 1, 1) := by decide +kernel
theorem dX9_boundsOn_99 : decode cX9_boundsOn 99 = .ok (.iconst 4, 1) := by decide +kernel
theorem dX9_boundsOn_100 : decode cX9_boundsOn 100 = .ok (.iload_n 3, 1) := by decide +kernel
theorem dX9_boundsOn_101 : decode cX9_boundsOn 101 = .ok (.iadd, 1) := by decide +kernel
theorem dX9_boundsOn_102 : decode cX9_boundsOn 102 = .ok (.aload_n 1, 1) := by decide +kernel
theorem dX9_boundsOn_103 : decode cX9_boundsOn 103 = .ok (.bipush 40, 2) := by decide +kernel
theorem dX9_boundsOn_105 : decode cX9_boundsOn 105 = .ok (.iload_n 3, 1) := by decide +kernel
theorem dX9_boundsOn_106 : decode cX9_boundsOn 106 = .ok (.iadd, 1) := by decide +kernel
theorem dX9_boundsOn_107 : decode cX9_boundsOn 107 = .ok (.iaload, 1) := by decide +kernel
theorem dX9_boundsOn_108 : decode cX9_boundsOn 108 = .ok (.i2l, 1) := by decide +kernel
theorem dX9_boundsOn_109 : decode cX9_boundsOn 109 = .ok (.aload_n 0, 1) := by decide +kernel
theorem dX9_boundsOn_110 : decode cX9_boundsOn 110 = .ok (.getfield 23, 3) := by decide +kernel
theorem dX9_boundsOn_113 : decode cX9_boundsOn 113 = .ok (.iload_n 3, 1) := by decide +kernel
theorem dX9_boundsOn_114 : decode cX9_boundsOn 114 = .ok (.iaload, 1) := by decide +kernel
theorem dX9_boundsOn_115 : decode cX9_boundsOn 115 = .ok (.i2l, 1) := by decide +kernel
theorem dX9_boundsOn_116 : decode cX9_boundsOn 116 = .ok (.iload_n 2, 1) := by decide +kernel
theorem dX9_boundsOn_117 : decode cX9_boundsOn 117 = .ok (.i2l, 1) := by decide +kernel
theorem dX9_boundsOn_118 : decode cX9_boundsOn 118 = .ok (.lmul, 1) := by decide +kernel
theorem dX9_boundsOn_119 : decode cX9_boundsOn 119 = .ok (.ladd, 1) := by decide +kernel
theorem dX9_boundsOn_120 : decode cX9_boundsOn 120 = .ok (.iload 4, 2) := by decide +kernel
theorem dX9_boundsOn_122 : decode cX9_boundsOn 122 = .ok (.i2l, 1) := by decide +kernel
theorem dX9_boundsOn_123 : decode cX9_boundsOn 123 = .ok (.lsub, 1) := by decide +kernel
theorem dX9_boundsOn_124 : decode cX9_boundsOn 124 = .ok (.ldc 214, 2) := by decide +kernel
theorem dX9_boundsOn_126 : decode cX9_boundsOn 126 = .ok (.invokestatic 206, 3) := by decide +kernel
theorem dX9_boundsOn_129 : decode cX9_boundsOn 129 = .ok (.iastore, 1) := by decide +kernel
theorem dX9_boundsOn_130 : decode cX9_boundsOn 130 = .ok (.aload_n 1, 1) := by decide +kernel
theorem dX9_boundsOn_131 : decode cX9_boundsOn 131 = .ok (.bipush 8, 2) := by decide +kernel
theorem dX9_boundsOn_133 : decode cX9_boundsOn 133 = .ok (.iload_n 3, 1) := by decide +kernel
theorem dX9_boundsOn_134 : decode cX9_boundsOn 134 = .ok (.iadd, 1) := by decide +kernel
theorem dX9_boundsOn_135 : decode cX9_boundsOn 135 = .ok (.aload_n 1, 1) := by decide +kernel
theorem dX9_boundsOn_136 : decode cX9_boundsOn 136 = .ok (.bipush 44, 2) := by decide +kernel
theorem dX9_boundsOn_138 : decode cX9_boundsOn 138 = .ok (.iload_n 3, 1) := by decide +kernel
theorem dX9_boundsOn_139 : decode cX9_boundsOn 139 = .ok (.iadd, 1) := by decide +kernel
theorem dX9_boundsOn_140 : decode cX9_boundsOn 140 = .ok (.iaload, 1) := by decide +kernel
theorem dX9_boundsOn_141 : decode cX9_boundsOn 141 = .ok (.i2l, 1) := by decide +kernel
theorem dX9_boundsOn_142 : decode cX9_boundsOn 142 = .ok (.aload_n 0, 1) := by decide +kernel
theorem dX9_boundsOn_143 : decode cX9_boundsOn 143 = .ok (.getfield 23, 3) := by decide +kernel
theorem dX9_boundsOn_146 : decode cX9_boundsOn 146 = .ok (.iload_n 3, 1) := by decide +kernel
theorem dX9_boundsOn_147 : decode cX9_boundsOn 147 = .ok (.iaload, 1) := by decide +kernel
theorem dX9_boundsOn_148 : decode cX9_boundsOn 148 = .ok (.i2l, 1) := by decide +kernel
theorem dX9_boundsOn_149 : decode cX9_boundsOn 149 = .ok (.iload_n 2, 1) := by decide +kernel
theorem dX9_boundsOn_150 : decode cX9_boundsOn 150 = .ok (.i2l, 1) := by decide +kernel
theorem dX9_boundsOn_151 : decode cX9_boundsOn 151 = .ok (.lmul, 1) := by decide +kernel
theorem dX9_boundsOn_152 : decode cX9_boundsOn 152 = .ok (.ladd, 1) := by decide +kernel
theorem dX9_boundsOn_153 : decode cX9_boundsOn 153 = .ok (.iload 4, 2) := by decide +kernel
theorem dX9_boundsOn_155 : decode cX9_boundsOn 155 = .ok (.i2l, 1) := by decide +kernel
theorem dX9_boundsOn_156 : decode cX9_boundsOn 156 = .ok (.ladd, 1) := by decide +kernel
theorem dX9_boundsOn_157 : decode cX9_boundsOn 157 = .ok (.ldc 214, 2) := by decide +kernel
theorem dX9_boundsOn_159 : decode cX9_boundsOn 159 = .ok (.invokestatic 206, 3) := by decide +kernel
theorem dX9_boundsOn_162 : decode cX9_boundsOn 162 = .ok (.iastore, 1) := by decide +kernel
theorem dX9_boundsOn_163 : decode cX9_boundsOn 163 = .ok (.iinc 3 1, 3) := by decide +kernel
theorem dX9_boundsOn_166 : decode cX9_boundsOn 166 = .ok (.goto (-92), 3) := by decide +kernel
theorem dX9_boundsOn_169 : decode cX9_boundsOn 169 = .ok (.aload_n 1, 1) := by decide +kernel
theorem dX9_boundsOn_170 : decode cX9_boundsOn 170 = .ok (.bipush 37, 2) := by decide +kernel
theorem dX9_boundsOn_172 : decode cX9_boundsOn 172 = .ok (.iconst 1, 1) := by decide +kernel
theorem dX9_boundsOn_173 : decode cX9_boundsOn 173 = .ok (.iastore, 1) := by decide +kernel
theorem dX9_boundsOn_174 : decode cX9_boundsOn 174 = .ok (.aload_n 1, 1) := by decide +kernel
theorem dX9_boundsOn_175 : decode cX9_boundsOn 175 = .ok (.bipush 38, 2) := by decide +kernel
theorem dX9_boundsOn_177 : decode cX9_boundsOn 177 = .ok (.iload_n 2, 1) := by decide +kernel
theorem dX9_boundsOn_178 : decode cX9_boundsOn 178 = .ok (.iastore, 1) := by decide +kernel
theorem dX9_boundsOn_179 : decode cX9_boundsOn 179 = .ok (.aload_n 1, 1) := by decide +kernel
theorem dX9_boundsOn_180 : decode cX9_boundsOn 180 = .ok (.bipush 39, 2) := by decide +kernel
theorem dX9_boundsOn_182 : decode cX9_boundsOn 182 = .ok (.aload_n 1, 1) := by decide +kernel
theorem dX9_boundsOn_183 : decode cX9_boundsOn 183 = .ok (.bipush 29, 2) := by decide +kernel
theorem dX9_boundsOn_185 : decode cX9_boundsOn 185 = .ok (.iaload, 1) := by decide +kernel
theorem dX9_boundsOn_186 : decode cX9_boundsOn 186 = .ok (.iastore, 1) := by decide +kernel
theorem dX9_boundsOn_187 : decode cX9_boundsOn 187 = .ok (.return_, 1) := by decide +kernel
theorem dX9_stepOn_0 : decode cX9_stepOn 0 = .ok (.aload_n 0, 1) := by decide +kernel
theorem dX9_stepOn_1 : decode cX9_stepOn 1 = .ok (.aload_n 1, 1) := by decide +kernel
theorem dX9_stepOn_2 : decode cX9_stepOn 2 = .ok (.iload_n 2, 1) := by decide +kernel
theorem dX9_stepOn_3 : decode cX9_stepOn 3 = .ok (.invokevirtual 215, 3) := by decide +kernel
theorem dX9_stepOn_6 : decode cX9_stepOn 6 = .ok (.aload_n 0, 1) := by decide +kernel
theorem dX9_stepOn_7 : decode cX9_stepOn 7 = .ok (.aload_n 1, 1) := by decide +kernel
theorem dX9_stepOn_8 : decode cX9_stepOn 8 = .ok (.iload_n 2, 1) := by decide +kernel
theorem dX9_stepOn_9 : decode cX9_stepOn 9 = .ok (.invokevirtual 219, 3) := by decide +kernel
theorem dX9_stepOn_12 : decode cX9_stepOn 12 = .ok (.aload_n 1, 1) := by decide +kernel
theorem dX9_stepOn_13 : decode cX9_stepOn 13 = .ok (.iconst 0, 1) := by decide +kernel
theorem dX9_stepOn_14 : decode cX9_stepOn 14 = .ok (.aload_n 0, 1) := by decide +kernel
theorem dX9_stepOn_15 : decode cX9_stepOn 15 = .ok (.getfield 72, 3) := by decide +kernel
theorem dX9_stepOn_18 : decode cX9_stepOn 18 = .ok (.iconst 0, 1) := by decide +kernel
theorem dX9_stepOn_19 : decode cX9_stepOn 19 = .ok (.iconst 4, 1) := by decide +kernel
theorem dX9_stepOn_20 : decode cX9_stepOn 20 = .ok (.invokestatic 159, 3) := by decide +kernel
theorem dX9_stepOn_23 : decode cX9_stepOn 23 = .ok (.iconst 0, 1) := by decide +kernel
theorem dX9_stepOn_24 : decode cX9_stepOn 24 = .ok (.istore 4, 2) := by decide +kernel
theorem dX9_stepOn_26 : decode cX9_stepOn 26 = .ok (.iload 4, 2) := by decide +kernel
theorem dX9_stepOn_28 : decode cX9_stepOn 28 = .ok (.aload_n 0, 1) := by decide +kernel
theorem dX9_stepOn_29 : decode cX9_stepOn 29 = .ok (.getfield 13, 3) := by decide +kernel
theorem dX9_stepOn_32 : decode cX9_stepOn 32 = .ok (.if_icmp .ge 100, 3) := by decide +kernel
theorem dX9_stepOn_35 : decode cX9_stepOn 35 = .ok (.lconst 0, 1) := by decide +kernel
theorem dX9_stepOn_36 : decode cX9_stepOn 36 = .ok (.lstore 5, 2) := by decide +kernel
theorem dX9_stepOn_38 : decode cX9_stepOn 38 = .ok (.iconst 0, 1) := by decide +kernel
theorem dX9_stepOn_39 : decode cX9_stepOn 39 = .ok (.istore 7, 2) := by decide +kernel
theorem dX9_stepOn_41 : decode cX9_stepOn 41 = .ok (.iload 7, 2) := by decide +kernel
theorem dX9_stepOn_43 : decode cX9_stepOn 43 = .ok (.aload_n 0, 1) := by decide +kernel
theorem dX9_stepOn_44 : decode cX9_stepOn 44 = .ok (.getfield 13, 3) := by decide +kernel
theorem dX9_stepOn_47 : decode cX9_stepOn 47 = .ok (.if_icmp .ge 36, 3) := by decide +kernel
theorem dX9_stepOn_50 : decode cX9_stepOn 50 = .ok (.lload 5, 2) := by decide +kernel
theorem dX9_stepOn_52 : decode cX9_stepOn 52 = .ok (.aload_n 0, 1) := by decide +kernel
theorem dX9_stepOn_53 : decode cX9_stepOn 53 = .ok (.getfield 20, 3) := by decide +kernel
theorem dX9_stepOn_56 : decode cX9_stepOn 56 = .ok (.iconst 4, 1) := by decide +kernel
theorem dX9_stepOn_57 : decode cX9_stepOn 57 = .ok (.iload 4, 2) := by decide +kernel
theorem dX9_stepOn_59 : decode cX9_stepOn 59 = .ok (.imul, 1) := by decide +kernel
theorem dX9_stepOn_60 : decode cX9_stepOn 60 = .ok (.iload 7, 2) := by decide +kernel
theorem dX9_stepOn_62 : decode cX9_stepOn 62 = .ok (.iadd, 1) := by decide +kernel
theorem dX9_stepOn_63 : decode cX9_stepOn 63 = .ok (.iaload, 1) := by decide +kernel
theorem dX9_stepOn_64 : decode cX9_stepOn 64 = .ok (.i2l, 1) := by decide +kernel
theorem dX9_stepOn_65 : decode cX9_stepOn 65 = .ok (.aload_n 0, 1) := by decide +kernel
theorem dX9_stepOn_66 : decode cX9_stepOn 66 = .ok (.getfield 72, 3) := by decide +kernel
theorem dX9_stepOn_69 : decode cX9_stepOn 69 = .ok (.iload 7, 2) := by decide +kernel
theorem dX9_stepOn_71 : decode cX9_stepOn 71 = .ok (.iaload, 1) := by decide +kernel
theorem dX9_stepOn_72 : decode cX9_stepOn 72 = .ok (.i2l, 1) := by decide +kernel
theorem dX9_stepOn_73 : decode cX9_stepOn 73 = .ok (.lmul, 1) := by decide +kernel
theorem dX9_stepOn_74 : decode cX9_stepOn 74 = .ok (.ladd, 1) := by decide +kernel
theorem dX9_stepOn_75 : decode cX9_stepOn 75 = .ok (.lstore 5, 2) := by decide +kernel
theorem dX9_stepOn_77 : decode cX9_stepOn 77 = .ok (.iinc 7 1, 3) := by decide +kernel
theorem dX9_stepOn_80 : decode cX9_stepOn 80 = .ok (.goto (-39), 3) := by decide +kernel
theorem dX9_stepOn_83 : decode cX9_stepOn 83 = .ok (.aload_n 1, 1) := by decide +kernel
theorem dX9_stepOn_84 : decode cX9_stepOn 84 = .ok (.iconst 0, 1) := by decide +kernel
theorem dX9_stepOn_85 : decode cX9_stepOn 85 = .ok (.iload 4, 2) := by decide +kernel
theorem dX9_stepOn_87 : decode cX9_stepOn 87 = .ok (.iadd, 1) := by decide +kernel
theorem dX9_stepOn_88 : decode cX9_stepOn 88 = .ok (.lload 5, 2) := by decide +kernel
theorem dX9_stepOn_90 : decode cX9_stepOn 90 = .ok (.ldc2_w 201, 3) := by decide +kernel
theorem dX9_stepOn_93 : decode cX9_stepOn 93 = .ok (.invokestatic 101, 3) := by decide +kernel
theorem dX9_stepOn_96 : decode cX9_stepOn 96 = .ok (.aload_n 0, 1) := by decide +kernel
theorem dX9_stepOn_97 : decode cX9_stepOn 97 = .ok (.getfield 23, 3) := by decide +kernel
theorem dX9_stepOn_100 : decode cX9_stepOn 100 = .ok (.iload 4, 2) := by decide +kernel
theorem dX9_stepOn_102 : decode cX9_stepOn 102 = .ok (.iaload, 1) := by decide +kernel
theorem dX9_stepOn_103 : decode cX9_stepOn 103 = .ok (.i2l, 1) := by decide +kernel
theorem dX9_stepOn_104 : decode cX9_stepOn 104 = .ok (.iload_n 2, 1) := by decide +kernel
theorem dX9_stepOn_105 : decode cX9_stepOn 105 = .ok (.i2l, 1) := by decide +kernel
theorem dX9_stepOn_106 : decode cX9_stepOn 106 = .ok (.lmul, 1) := by decide +kernel
theorem dX9_stepOn_107 : decode cX9_stepOn 107 = .ok (.ladd, 1) := by decide +kernel
theorem dX9_stepOn_108 : decode cX9_stepOn 108 = .ok (.aload_n 0, 1) := by decide +kernel
theorem dX9_stepOn_109 : decode cX9_stepOn 109 = .ok (.getfield 26, 3) := by decide +kernel
theorem dX9_stepOn_112 : decode cX9_stepOn 112 = .ok (.iload 4, 2) := by decide +kernel
theorem dX9_stepOn_114 : decode cX9_stepOn 114 = .ok (.iaload, 1) := by decide +kernel
theorem dX9_stepOn_115 : decode cX9_stepOn 115 = .ok (.i2l, 1) := by decide +kernel
theorem dX9_stepOn_116 : decode cX9_stepOn 116 = .ok (.iload_n 3, 1) := by decide +kernel
theorem dX9_stepOn_117 : decode cX9_stepOn 117 = .ok (.i2l, 1) := by decide +kernel
theorem dX9_stepOn_118 : decode cX9_stepOn 118 = .ok (.lmul, 1) := by decide +kernel
theorem dX9_stepOn_119 : decode cX9_stepOn 119 = .ok (.ladd, 1) := by decide +kernel
theorem dX9_stepOn_120 : decode cX9_stepOn 120 = .ok (.ldc 214, 2) := by decide +kernel
theorem dX9_stepOn_122 : decode cX9_stepOn 122 = .ok (.invokestatic 206, 3) := by decide +kernel
theorem dX9_stepOn_125 : decode cX9_stepOn 125 = .ok (.iastore, 1) := by decide +kernel
theorem dX9_stepOn_126 : decode cX9_stepOn 126 = .ok (.iinc 4 1, 3) := by decide +kernel
theorem dX9_stepOn_129 : decode cX9_stepOn 129 = .ok (.goto (-103), 3) := by decide +kernel
theorem dX9_stepOn_132 : decode cX9_stepOn 132 = .ok (.aload_n 1, 1) := by decide +kernel
theorem dX9_stepOn_133 : decode cX9_stepOn 133 = .ok (.bipush 30, 2) := by decide +kernel
theorem dX9_stepOn_135 : decode cX9_stepOn 135 = .ok (.dup2, 1) := by decide +kernel
theorem dX9_stepOn_136 : decode cX9_stepOn 136 = .ok (.iaload, 1) := by decide +kernel
theorem dX9_stepOn_137 : decode cX9_stepOn 137 = .ok (.iconst 1, 1) := by decide +kernel
theorem dX9_stepOn_138 : decode cX9_stepOn 138 = .ok (.iadd, 1) := by decide +kernel
theorem dX9_stepOn_139 : decode cX9_stepOn 139 = .ok (.iastore, 1) := by decide +kernel
theorem dX9_stepOn_140 : decode cX9_stepOn 140 = .ok (.iconst 0, 1) := by decide +kernel
theorem dX9_stepOn_141 : decode cX9_stepOn 141 = .ok (.istore 4, 2) := by decide +kernel
theorem dX9_stepOn_143 : decode cX9_stepOn 143 = .ok (.iload 4, 2) := by decide +kernel
theorem dX9_stepOn_145 : decode cX9_stepOn 145 = .ok (.aload_n 0, 1) := by decide +kernel
theorem dX9_stepOn_146 : decode cX9_stepOn 146 = .ok (.getfield 17, 3) := by decide +kernel
theorem dX9_stepOn_149 : decode cX9_stepOn 149 = .ok (.if_icmp .ge 34, 3) := by decide +kernel
theorem dX9_stepOn_152 : decode cX9_stepOn 152 = .ok (.aload_n 1, 1) := by decide +kernel
theorem dX9_stepOn_153 : decode cX9_stepOn 153 = .ok (.bipush 34, 2) := by decide +kernel
theorem dX9_stepOn_155 : decode cX9_stepOn 155 = .ok (.iload 4, 2) := by decide +kernel
theorem dX9_stepOn_157 : decode cX9_stepOn 157 = .ok (.iadd, 1) := by decide +kernel
theorem dX9_stepOn_158 : decode cX9_stepOn 158 = .ok (.dup2, 1) := by decide +kernel
theorem dX9_stepOn_159 : decode cX9_stepOn 159 = .ok (.iaload, 1) := by decide +kernel
theorem dX9_stepOn_160 : decode cX9_stepOn 160 = .ok (.aload_n 1, 1) := by decide +kernel
theorem dX9_stepOn_161 : decode cX9_stepOn 161 = .ok (.bipush 34, 2) := by decide +kernel
theorem dX9_stepOn_163 : decode cX9_stepOn 163 = .ok (.iload 4, 2) := by decide +kernel
theorem dX9_stepOn_165 : decode cX9_stepOn 165 = .ok (.iadd, 1) := by decide +kernel
theorem dX9_stepOn_166 : decode cX9_stepOn 166 = .ok (.iaload, 1) := by decide +kernel
theorem dX9_stepOn_167 : decode cX9_stepOn 167 = .ok (.ifCond .ge 7, 3) := by decide +kernel
theorem dX9_stepOn_170 : decode cX9_stepOn 170 = .ok (.iconst 0, 1) := by decide +kernel
theorem dX9_stepOn_171 : decode cX9_stepOn 171 = .ok (.goto 4, 3) := by decide +kernel
theorem dX9_stepOn_174 : decode cX9_stepOn 174 = .ok (.iconst 1, 1) := by decide +kernel
theorem dX9_stepOn_175 : decode cX9_stepOn 175 = .ok (.iadd, 1) := by decide +kernel
theorem dX9_stepOn_176 : decode cX9_stepOn 176 = .ok (.iastore, 1) := by decide +kernel
theorem dX9_stepOn_177 : decode cX9_stepOn 177 = .ok (.iinc 4 1, 3) := by decide +kernel
theorem dX9_stepOn_180 : decode cX9_stepOn 180 = .ok (.goto (-37), 3) := by decide +kernel
theorem dX9_stepOn_183 : decode cX9_stepOn 183 = .ok (.return_, 1) := by decide +kernel
theorem dX9_step_0 : decode cX9_step 0 = .ok (.aload_n 0, 1) := by decide +kernel
theorem dX9_step_1 : decode cX9_step 1 = .ok (.iload_n 1, 1) := by decide +kernel
theorem dX9_step_2 : decode cX9_step 2 = .ok (.i2l, 1) := by decide +kernel
theorem dX9_step_3 : decode cX9_step 3 = .ok (.ldc2_w 222, 3) := by decide +kernel
theorem dX9_step_6 : decode cX9_step 6 = .ok (.ldc2_w 224, 3) := by decide +kernel
theorem dX9_step_9 : decode cX9_step 9 = .ok (.invokestatic 107, 3) := by decide +kernel
theorem dX9_step_12 : decode cX9_step 12 = .ok (.ifCond .eq 32, 3) := by decide +kernel
theorem dX9_step_15 : decode cX9_step 15 = .ok (.iload_n 2, 1) := by decide +kernel
theorem dX9_step_16 : decode cX9_step 16 = .ok (.i2l, 1) := by decide +kernel
theorem dX9_step_17 : decode cX9_step 17 = .ok (.aload_n 0, 1) := by decide +kernel
theorem dX9_step_18 : decode cX9_step 18 = .ok (.getfield 53, 3) := by decide +kernel
theorem dX9_step_21 : decode cX9_step 21 = .ok (.bipush 29, 2) := by decide +kernel
theorem dX9_step_23 : decode cX9_step 23 = .ok (.iaload, 1) := by decide +kernel
theorem dX9_step_24 : decode cX9_step 24 = .ok (.ineg, 1) := by decide +kernel
theorem dX9_step_25 : decode cX9_step 25 = .ok (.i2l, 1) := by decide +kernel
theorem dX9_step_26 : decode cX9_step 26 = .ok (.aload_n 0, 1) := by decide +kernel
theorem dX9_step_27 : decode cX9_step 27 = .ok (.getfield 53, 3) := by decide +kernel
theorem dX9_step_30 : decode cX9_step 30 = .ok (.bipush 29, 2) := by decide +kernel
theorem dX9_step_32 : decode cX9_step 32 = .ok (.iaload, 1) := by decide +kernel
theorem dX9_step_33 : decode cX9_step 33 = .ok (.i2l, 1) := by decide +kernel
theorem dX9_step_34 : decode cX9_step 34 = .ok (.invokestatic 107, 3) := by decide +kernel
theorem dX9_step_37 : decode cX9_step 37 = .ok (.ifCond .eq 7, 3) := by decide +kernel
theorem dX9_step_40 : decode cX9_step 40 = .ok (.iconst 0, 1) := by decide +kernel
theorem dX9_step_41 : decode cX9_step 41 = .ok (.goto 4, 3) := by decide +kernel
theorem dX9_step_44 : decode cX9_step 44 = .ok (.iconst 1, 1) := by decide +kernel
theorem dX9_step_45 : decode cX9_step 45 = .ok (.invokevirtual 114, 3) := by decide +kernel
theorem dX9_step_48 : decode cX9_step 48 = .ok (.ifCond .eq 5, 3) := by decide +kernel
theorem dX9_step_51 : decode cX9_step 51 = .ok (.iconst 0, 1) := by decide +kernel
theorem dX9_step_52 : decode cX9_step 52 = .ok (.ireturn, 1) := by decide +kernel
theorem dX9_step_53 : decode cX9_step 53 = .ok (.aload_n 0, 1) := by decide +kernel
theorem dX9_step_54 : decode cX9_step 54 = .ok (.invokevirtual 186, 3) := by decide +kernel
theorem dX9_step_57 : decode cX9_step 57 = .ok (.aload_n 0, 1) := by decide +kernel
theorem dX9_step_58 : decode cX9_step 58 = .ok (.aload_n 0, 1) := by decide +kernel
theorem dX9_step_59 : decode cX9_step 59 = .ok (.getfield 53, 3) := by decide +kernel
theorem dX9_step_62 : decode cX9_step 62 = .ok (.iload_n 1, 1) := by decide +kernel
theorem dX9_step_63 : decode cX9_step 63 = .ok (.iload_n 2, 1) := by decide +kernel
theorem dX9_step_64 : decode cX9_step 64 = .ok (.invokevirtual 226, 3) := by decide +kernel
theorem dX9_step_67 : decode cX9_step 67 = .ok (.aload_n 0, 1) := by decide +kernel
theorem dX9_step_68 : decode cX9_step 68 = .ok (.getfield 53, 3) := by decide +kernel
theorem dX9_step_71 : decode cX9_step 71 = .ok (.bipush 30, 2) := by decide +kernel
theorem dX9_step_73 : decode cX9_step 73 = .ok (.iaload, 1) := by decide +kernel
theorem dX9_step_74 : decode cX9_step 74 = .ok (.ireturn, 1) := by decide +kernel
theorem dX9_cut_0 : decode cX9_cut 0 = .ok (.aload_n 0, 1) := by decide +kernel
theorem dX9_cut_1 : decode cX9_cut 1 = .ok (.getfield 29, 3) := by decide +kernel
theorem dX9_cut_4 : decode cX9_cut 4 = .ok (.iconst 4, 1) := by decide +kernel
theorem dX9_cut_5 : decode cX9_cut 5 = .ok (.iload_n 2, 1) := by decide +kernel
theorem dX9_cut_6 : decode cX9_cut 6 = .ok (.imul, 1) := by decide +kernel
theorem dX9_cut_7 : decode cX9_cut 7 = .ok (.iload_n 3, 1) := by decide +kernel
theorem dX9_cut_8 : decode cX9_cut 8 = .ok (.iadd, 1) := by decide +kernel
theorem dX9_cut_9 : decode cX9_cut 9 = .ok (.iaload, 1) := by decide +kernel
theorem dX9_cut_10 : decode cX9_cut 10 = .ok (.i2l, 1) := by decide +kernel
theorem dX9_cut_11 : decode cX9_cut 11 = .ok (.lstore 4, 2) := by decide +kernel
theorem dX9_cut_13 : decode cX9_cut 13 = .ok (.aload_n 0, 1) := by decide +kernel
theorem dX9_cut_14 : decode cX9_cut 14 = .ok (.getfield 32, 3) := by decide +kernel
theorem dX9_cut_17 : decode cX9_cut 17 = .ok (.iload_n 2, 1) := by decide +kernel
theorem dX9_cut_18 : decode cX9_cut 18 = .ok (.iaload, 1) := by decide +kernel
theorem dX9_cut_19 : decode cX9_cut 19 = .ok (.i2l, 1) := by decide +kernel
theorem dX9_cut_20 : decode cX9_cut 20 = .ok (.aload_n 1, 1) := by decide +kernel
theorem dX9_cut_21 : decode cX9_cut 21 = .ok (.bipush 31, 2) := by decide +kernel
theorem dX9_cut_23 : decode cX9_cut 23 = .ok (.iload_n 2, 1) := by decide +kernel
theorem dX9_cut_24 : decode cX9_cut 24 = .ok (.iadd, 1) := by decide +kernel
theorem dX9_cut_25 : decode cX9_cut 25 = .ok (.iaload, 1) := by decide +kernel
theorem dX9_cut_26 : decode cX9_cut 26 = .ok (.i2l, 1) := by decide +kernel
theorem dX9_cut_27 : decode cX9_cut 27 = .ok (.lmul, 1) := by decide +kernel
theorem dX9_cut_28 : decode cX9_cut 28 = .ok (.aload_n 0, 1) := by decide +kernel
theorem dX9_cut_29 : decode cX9_cut 29 = .ok (.aload_n 1, 1) := by decide +kernel
theorem dX9_cut_30 : decode cX9_cut 30 = .ok (.aload_n 0, 1) := by decide +kernel
theorem dX9_cut_31 : decode cX9_cut 31 = .ok (.getfield 29, 3) := by decide +kernel
theorem dX9_cut_34 : decode cX9_cut 34 = .ok (.iconst 4, 1) := by decide +kernel
theorem dX9_cut_35 : decode cX9_cut 35 = .ok (.iload_n 2, 1) := by decide +kernel
theorem dX9_cut_36 : decode cX9_cut 36 = .ok (.imul, 1) := by decide +kernel
theorem dX9_cut_37 : decode cX9_cut 37 = .ok (.iload_n 3, 1) := by decide +kernel
theorem dX9_cut_38 : decode cX9_cut 38 = .ok (.iconst 1, 1) := by decide +kernel
theorem dX9_cut_39 : decode cX9_cut 39 = .ok (.invokevirtual 178, 3) := by decide +kernel
theorem dX9_cut_42 : decode cX9_cut 42 = .ok (.lsub, 1) := by decide +kernel
theorem dX9_cut_43 : decode cX9_cut 43 = .ok (.lstore 6, 2) := by decide +kernel
theorem dX9_cut_45 : decode cX9_cut 45 = .ok (.aload_n 0, 1) := by decide +kernel
theorem dX9_cut_46 : decode cX9_cut 46 = .ok (.getfield 32, 3) := by decide +kernel
theorem dX9_cut_49 : decode cX9_cut 49 = .ok (.iload_n 2, 1) := by decide +kernel
theorem dX9_cut_50 : decode cX9_cut 50 = .ok (.iaload, 1) := by decide +kernel
theorem dX9_cut_51 : decode cX9_cut 51 = .ok (.i2l, 1) := by decide +kernel
theorem dX9_cut_52 : decode cX9_cut 52 = .ok (.aload_n 1, 1) := by decide +kernel
theorem dX9_cut_53 : decode cX9_cut 53 = .ok (.bipush 31, 2) := by decide +kernel
theorem dX9_cut_55 : decode cX9_cut 55 = .ok (.iload_n 2, 1) := by decide +kernel
theorem dX9_cut_56 : decode cX9_cut 56 = .ok (.iadd, 1) := by decide +kernel
theorem dX9_cut_57 : decode cX9_cut 57 = .ok (.iaload, 1) := by decide +kernel
theorem dX9_cut_58 : decode cX9_cut 58 = .ok (.i2l, 1) := by decide +kernel
theorem dX9_cut_59 : decode cX9_cut 59 = .ok (.lmul, 1) := by decide +kernel
theorem dX9_cut_60 : decode cX9_cut 60 = .ok (.aload_n 0, 1) := by decide +kernel
theorem dX9_cut_61 : decode cX9_cut 61 = .ok (.getfield 32, 3) := by decide +kernel
theorem dX9_cut_64 : decode cX9_cut 64 = .ok (.iload_n 2, 1) := by decide +kernel
theorem dX9_cut_65 : decode cX9_cut 65 = .ok (.iaload, 1) := by decide +kernel
theorem dX9_cut_66 : decode cX9_cut 66 = .ok (.i2l, 1) := by decide +kernel
theorem dX9_cut_67 : decode cX9_cut 67 = .ok (.ladd, 1) := by decide +kernel
theorem dX9_cut_68 : decode cX9_cut 68 = .ok (.lconst 1, 1) := by decide +kernel
theorem dX9_cut_69 : decode cX9_cut 69 = .ok (.lsub, 1) := by decide +kernel
theorem dX9_cut_70 : decode cX9_cut 70 = .ok (.aload_n 0, 1) := by decide +kernel
theorem dX9_cut_71 : decode cX9_cut 71 = .ok (.aload_n 1, 1) := by decide +kernel
theorem dX9_cut_72 : decode cX9_cut 72 = .ok (.aload_n 0, 1) := by decide +kernel
theorem dX9_cut_73 : decode cX9_cut 73 = .ok (.getfield 29, 3) := by decide +kernel
theorem dX9_cut_76 : decode cX9_cut 76 = .ok (.iconst 4, 1) := by decide +kernel
theorem dX9_cut_77 : decode cX9_cut 77 = .ok (.iload_n 2, 1) := by decide +kernel
theorem dX9_cut_78 : decode cX9_cut 78 = .ok (.imul, 1) := by decide +kernel
theorem dX9_cut_79 : decode cX9_cut 79 = .ok (.iload_n 3, 1) := by decide +kernel
theorem dX9_cut_80 : decode cX9_cut 80 = .ok (.iconst 0, 1) := by decide +kernel
theorem dX9_cut_81 : decode cX9_cut 81 = .ok (.invokevirtual 178, 3) := by decide +kernel
theorem dX9_cut_84 : decode cX9_cut 84 = .ok (.lsub, 1) := by decide +kernel
theorem dX9_cut_85 : decode cX9_cut 85 = .ok (.lstore 8, 2) := by decide +kernel
theorem dX9_cut_87 : decode cX9_cut 87 = .ok (.lload 4, 2) := by decide +kernel
theorem dX9_cut_89 : decode cX9_cut 89 = .ok (.lconst 0, 1) := by decide +kernel
theorem dX9_cut_90 : decode cX9_cut 90 = .ok (.lcmp, 1) := by decide +kernel
theorem dX9_cut_91 : decode cX9_cut 91 = .ok (.ifCond .le 13, 3) := by decide +kernel
theorem dX9_cut_94 : decode cX9_cut 94 = .ok (.lload 6, 2) := by decide +kernel
theorem dX9_cut_96 : decode cX9_cut 96 = .ok (.lload 4, 2) := by decide +kernel
theorem dX9_cut_98 : decode cX9_cut 98 = .ok (.invokestatic 230, 3) := by decide +kernel
theorem dX9_cut_101 : decode cX9_cut 101 = .ok (.goto 12, 3) := by decide +kernel
theorem dX9_cut_104 : decode cX9_cut 104 = .ok (.lload 8, 2) := by decide +kernel
theorem dX9_cut_106 : decode cX9_cut 106 = .ok (.lneg, 1) := by decide +kernel
theorem dX9_cut_107 : decode cX9_cut 107 = .ok (.lload 4, 2) := by decide +kernel
theorem dX9_cut_109 : decode cX9_cut 109 = .ok (.lneg, 1) := by decide +kernel
theorem dX9_cut_110 : decode cX9_cut 110 = .ok (.invokestatic 230, 3) := by decide +kernel
theorem dX9_cut_113 : decode cX9_cut 113 = .ok (.lstore 10, 2) := by decide +kernel
theorem dX9_cut_115 : decode cX9_cut 115 = .ok (.lload 4, 2) := by decide +kernel
theorem dX9_cut_117 : decode cX9_cut 117 = .ok (.lconst 0, 1) := by decide +kernel
theorem dX9_cut_118 : decode cX9_cut 118 = .ok (.lcmp, 1) := by decide +kernel
theorem dX9_cut_119 : decode cX9_cut 119 = .ok (.ifCond .le 13, 3) := by decide +kernel
theorem dX9_cut_122 : decode cX9_cut 122 = .ok (.lload 8, 2) := by decide +kernel
theorem dX9_cut_124 : decode cX9_cut 124 = .ok (.lload 4, 2) := by decide +kernel
theorem dX9_cut_126 : decode cX9_cut 126 = .ok (.invokestatic 101, 3) := by decide +kernel
theorem dX9_cut_129 : decode cX9_cut 129 = .ok (.goto 12, 3) := by decide +kernel
theorem dX9_cut_132 : decode cX9_cut 132 = .ok (.lload 6, 2) := by decide +kernel
theorem dX9_cut_134 : decode cX9_cut 134 = .ok (.lneg, 1) := by decide +kernel
theorem dX9_cut_135 : decode cX9_cut 135 = .ok (.lload 4, 2) := by decide +kernel
theorem dX9_cut_137 : decode cX9_cut 137 = .ok (.lneg, 1) := by decide +kernel
theorem dX9_cut_138 : decode cX9_cut 138 = .ok (.invokestatic 101, 3) := by decide +kernel
theorem dX9_cut_141 : decode cX9_cut 141 = .ok (.lstore 12, 2) := by decide +kernel
theorem dX9_cut_143 : decode cX9_cut 143 = .ok (.lload 10, 2) := by decide +kernel
theorem dX9_cut_145 : decode cX9_cut 145 = .ok (.aload_n 1, 1) := by decide +kernel
theorem dX9_cut_146 : decode cX9_cut 146 = .ok (.iconst 4, 1) := by decide +kernel
theorem dX9_cut_147 : decode cX9_cut 147 = .ok (.iload_n 3, 1) := by decide +kernel
theorem dX9_cut_148 : decode cX9_cut 148 = .ok (.iadd, 1) := by decide +kernel
theorem dX9_cut_149 : decode cX9_cut 149 = .ok (.iaload, 1) := by decide +kernel
theorem dX9_cut_150 : decode cX9_cut 150 = .ok (.i2l, 1) := by decide +kernel
theorem dX9_cut_151 : decode cX9_cut 151 = .ok (.lcmp, 1) := by decide +kernel
theorem dX9_cut_152 : decode cX9_cut 152 = .ok (.ifCond .le 7, 3) := by decide +kernel
theorem dX9_cut_155 : decode cX9_cut 155 = .ok (.iconst 1, 1) := by decide +kernel
theorem dX9_cut_156 : decode cX9_cut 156 = .ok (.goto 4, 3) := by decide +kernel
theorem dX9_cut_159 : decode cX9_cut 159 = .ok (.iconst 0, 1) := by decide +kernel
theorem dX9_cut_160 : decode cX9_cut 160 = .ok (.istore 14, 2) := by decide +kernel
theorem dX9_cut_162 : decode cX9_cut 162 = .ok (.lload 12, 2) := by decide +kernel
theorem dX9_cut_164 : decode cX9_cut 164 = .ok (.aload_n 1, 1) := by decide +kernel
theorem dX9_cut_165 : decode cX9_cut 165 = .ok (.bipush 8, 2) := by decide +kernel
theorem dX9_cut_167 : decode cX9_cut 167 = .ok (.iload_n 3, 1) := by decide +kernel
theorem dX9_cut_168 : decode cX9_cut 168 = .ok (.iadd, 1) := by decide +kernel
theorem dX9_cut_169 : decode cX9_cut 169 = .ok (.iaload, 1) := by decide +kernel
theorem dX9_cut_170 : decode cX9_cut 170 = .ok (.i2l, 1) := by decide +kernel
theorem dX9_cut_171 : decode cX9_cut 171 = .ok (.lcmp, 1) := by decide +kernel
theorem dX9_cut_172 : decode cX9_cut 172 = .ok (.ifCond .ge 7, 3) := by decide +kernel
theorem dX9_cut_175 : decode cX9_cut 175 = .ok (.iconst 1, 1) := by decide +kernel
theorem dX9_cut_176 : decode cX9_cut 176 = .ok (.goto 4, 3) := by decide +kernel
theorem dX9_cut_179 : decode cX9_cut 179 = .ok (.iconst 0, 1) := by decide +kernel
theorem dX9_cut_180 : decode cX9_cut 180 = .ok (.istore 15, 2) := by decide +kernel
theorem dX9_cut_182 : decode cX9_cut 182 = .ok (.iload 14, 2) := by decide +kernel
theorem dX9_cut_184 : decode cX9_cut 184 = .ok (.ifCond .eq 16, 3) := by decide +kernel
theorem dX9_cut_187 : decode cX9_cut 187 = .ok (.lload 10, 2) := by decide +kernel
theorem dX9_cut_189 : decode cX9_cut 189 = .ok (.aload_n 1, 1) := by decide +kernel
theorem dX9_cut_190 : decode cX9_cut 190 = .ok (.bipush 8, 2) := by decide +kernel
theorem dX9_cut_192 : decode cX9_cut 192 = .ok (.iload_n 3, 1) := by decide +kernel
theorem dX9_cut_193 : decode cX9_cut 193 = .ok (.iadd, 1) := by decide +kernel
theorem dX9_cut_194 : decode cX9_cut 194 = .ok (.iaload, 1) := by decide +kernel
theorem dX9_cut_195 : decode cX9_cut 195 = .ok (.i2l, 1) := by decide +kernel
theorem dX9_cut_196 : decode cX9_cut 196 = .ok (.lcmp, 1) := by decide +kernel
theorem dX9_cut_197 : decode cX9_cut 197 = .ok (.ifCond .gt 28, 3) := by decide +kernel
theorem dX9_cut_200 : decode cX9_cut 200 = .ok (.iload 15, 2) := by decide +kernel
theorem dX9_cut_202 : decode cX9_cut 202 = .ok (.ifCond .eq 15, 3) := by decide +kernel
theorem dX9_cut_205 : decode cX9_cut 205 = .ok (.lload 12, 2) := by decide +kernel
theorem dX9_cut_207 : decode cX9_cut 207 = .ok (.aload_n 1, 1) := by decide +kernel
theorem dX9_cut_208 : decode cX9_cut 208 = .ok (.iconst 4, 1) := by decide +kernel
theorem dX9_cut_209 : decode cX9_cut 209 = .ok (.iload_n 3, 1) := by decide +kernel
theorem dX9_cut_210 : decode cX9_cut 210 = .ok (.iadd, 1) := by decide +kernel
theorem dX9_cut_211 : decode cX9_cut 211 = .ok (.iaload, 1) := by decide +kernel
theorem dX9_cut_212 : decode cX9_cut 212 = .ok (.i2l, 1) := by decide +kernel
theorem dX9_cut_213 : decode cX9_cut 213 = .ok (.lcmp, 1) := by decide +kernel
theorem dX9_cut_214 : decode cX9_cut 214 = .ok (.ifCond .lt 11, 3) := by decide +kernel
theorem dX9_cut_217 : decode cX9_cut 217 = .ok (.lload 10, 2) := by decide +kernel
theorem dX9_cut_219 : decode cX9_cut 219 = .ok (.lload 12, 2) := by decide +kernel
theorem dX9_cut_221 : decode cX9_cut 221 = .ok (.lcmp, 1) := by decide +kernel
theorem dX9_cut_222 : decode cX9_cut 222 = .ok (.ifCond .le 5, 3) := by decide +kernel
theorem dX9_cut_225 : decode cX9_cut 225 = .ok (.iconst 2, 1) := by decide +kernel
theorem dX9_cut_226 : decode cX9_cut 226 = .ok (.ireturn, 1) := by decide +kernel
theorem dX9_cut_227 : decode cX9_cut 227 = .ok (.aload_n 1, 1) := by decide +kernel
theorem dX9_cut_228 : decode cX9_cut 228 = .ok (.iconst 4, 1) := by decide +kernel
theorem dX9_cut_229 : decode cX9_cut 229 = .ok (.iload_n 3, 1) := by decide +kernel
theorem dX9_cut_230 : decode cX9_cut 230 = .ok (.iadd, 1) := by decide +kernel
theorem dX9_cut_231 : decode cX9_cut 231 = .ok (.iload 14, 2) := by decide +kernel
theorem dX9_cut_233 : decode cX9_cut 233 = .ok (.ifCond .eq 9, 3) := by decide +kernel
theorem dX9_cut_236 : decode cX9_cut 236 = .ok (.lload 10, 2) := by decide +kernel
theorem dX9_cut_238 : decode cX9_cut 238 = .ok (.l2i, 1) := by decide +kernel
theorem dX9_cut_239 : decode cX9_cut 239 = .ok (.goto 8, 3) := by decide +kernel
theorem dX9_cut_242 : decode cX9_cut 242 = .ok (.aload_n 1, 1) := by decide +kernel
theorem dX9_cut_243 : decode cX9_cut 243 = .ok (.iconst 4, 1) := by decide +kernel
theorem dX9_cut_244 : decode cX9_cut 244 = .ok (.iload_n 3, 1) := by decide +kernel
theorem dX9_cut_245 : decode cX9_cut 245 = .ok (.iadd, 1) := by decide +kernel
theorem dX9_cut_246 : decode cX9_cut 246 = .ok (.iaload, 1) := by decide +kernel
theorem dX9_cut_247 : decode cX9_cut 247 = .ok (.iastore, 1) := by decide +kernel
theorem dX9_cut_248 : decode cX9_cut 248 = .ok (.aload_n 1, 1) := by decide +kernel
theorem dX9_cut_249 : decode cX9_cut 249 = .ok (.bipush 8, 2) := by decide +kernel
theorem dX9_cut_251 : decode cX9_cut 251 = .ok (.iload_n 3, 1) := by decide +kernel
theorem dX9_cut_252 : decode cX9_cut 252 = .ok (.iadd, 1) := by decide +kernel
theorem dX9_cut_253 : decode cX9_cut 253 = .ok (.iload 15, 2) := by decide +kernel
theorem dX9_cut_255 : decode cX9_cut 255 = .ok (.ifCond .eq 9, 3) := by decide +kernel
theorem dX9_cut_258 : decode cX9_cut 258 = .ok (.lload 12, 2) := by decide +kernel
theorem dX9_cut_260 : decode cX9_cut 260 = .ok (.l2i, 1) := by decide +kernel
theorem dX9_cut_261 : decode cX9_cut 261 = .ok (.goto 9, 3) := by decide +kernel
theorem dX9_cut_264 : decode cX9_cut 264 = .ok (.aload_n 1, 1) := by decide +kernel
theorem dX9_cut_265 : decode cX9_cut 265 = .ok (.bipush 8, 2) := by decide +kernel
theorem dX9_cut_267 : decode cX9_cut 267 = .ok (.iload_n 3, 1) := by decide +kernel
theorem dX9_cut_268 : decode cX9_cut 268 = .ok (.iadd, 1) := by decide +kernel
theorem dX9_cut_269 : decode cX9_cut 269 = .ok (.iaload, 1) := by decide +kernel
theorem dX9_cut_270 : decode cX9_cut 270 = .ok (.iastore, 1) := by decide +kernel
theorem dX9_cut_271 : decode cX9_cut 271 = .ok (.iload 14, 2) := by decide +kernel
theorem dX9_cut_273 : decode cX9_cut 273 = .ok (.ifCond .ne 8, 3) := by decide +kernel
theorem dX9_cut_276 : decode cX9_cut 276 = .ok (.iload 15, 2) := by decide +kernel
theorem dX9_cut_278 : decode cX9_cut 278 = .ok (.ifCond .eq 7, 3) := by decide +kernel
theorem dX9_cut_281 : decode cX9_cut 281 = .ok (.iconst 1, 1) := by decide +kernel
theorem dX9_cut_282 : decode cX9_cut 282 = .ok (.goto 4, 3) := by decide +kernel
theorem dX9_cut_285 : decode cX9_cut 285 = .ok (.iconst 0, 1) := by decide +kernel
theorem dX9_cut_286 : decode cX9_cut 286 = .ok (.ireturn, 1) := by decide +kernel
theorem dX9_tighten_0 : decode cX9_tighten 0 = .ok (.iconst 1, 1) := by decide +kernel
theorem dX9_tighten_1 : decode cX9_tighten 1 = .ok (.istore_n 2, 1) := by decide +kernel
theorem dX9_tighten_2 : decode cX9_tighten 2 = .ok (.iconst 0, 1) := by decide +kernel
theorem dX9_tighten_3 : decode cX9_tighten 3 = .ok (.istore_n 3, 1) := by decide +kernel
theorem dX9_tighten_4 : decode cX9_tighten 4 = .ok (.iload_n 3, 1) := by decide +kernel
theorem dX9_tighten_5 : decode cX9_tighten 5 = .ok (.bipush 100, 2) := by decide +kernel
theorem dX9_tighten_7 : decode cX9_tighten 7 = .ok (.if_icmp .ge 115, 3) := by decide +kernel
theorem dX9_tighten_10 : decode cX9_tighten 10 = .ok (.iload_n 2, 1) := by decide +kernel
theorem dX9_tighten_11 : decode cX9_tighten 11 = .ok (.ifCond .eq 111, 3) := by decide +kernel
theorem dX9_tighten_14 : decode cX9_tighten 14 = .ok (.iconst 0, 1) := by decide +kernel
theorem dX9_tighten_15 : decode cX9_tighten 15 = .ok (.istore_n 2, 1) := by decide +kernel
theorem dX9_tighten_16 : decode cX9_tighten 16 = .ok (.iconst 0, 1) := by decide +kernel
theorem dX9_tighten_17 : decode cX9_tighten 17 = .ok (.istore 4, 2) := by decide +kernel
theorem dX9_tighten_19 : decode cX9_tighten 19 = .ok (.iload 4, 2) := by decide +kernel
theorem dX9_tighten_21 : decode cX9_tighten 21 = .ok (.aload_n 0, 1) := by decide +kernel
theorem dX9_tighten_22 : decode cX9_tighten 22 = .ok (.getfield 17, 3) := by decide +kernel
theorem dX9_tighten_25 : decode cX9_tighten 25 = .ok (.if_icmp .ge 91, 3) := by decide +kernel
theorem dX9_tighten_28 : decode cX9_tighten 28 = .ok (.iconst 0, 1) := by decide +kernel
theorem dX9_tighten_29 : decode cX9_tighten 29 = .ok (.istore 5, 2) := by decide +kernel
theorem dX9_tighten_31 : decode cX9_tighten 31 = .ok (.iload 5, 2) := by decide +kernel
theorem dX9_tighten_33 : decode cX9_tighten 33 = .ok (.aload_n 0, 1) := by decide +kernel
theorem dX9_tighten_34 : decode cX9_tighten 34 = .ok (.getfield 13, 3) := by decide +kernel
theorem dX9_tighten_37 : decode cX9_tighten 37 = .ok (.if_icmp .ge 73, 3) := by decide +kernel
theorem dX9_tighten_40 : decode cX9_tighten 40 = .ok (.aload_n 1, 1) := by decide +kernel
theorem dX9_tighten_41 : decode cX9_tighten 41 = .ok (.bipush 34, 2) := by decide +kernel
theorem dX9_tighten_43 : decode cX9_tighten 43 = .ok (.iload 4, 2) := by decide +kernel
theorem dX9_tighten_45 : decode cX9_tighten 45 = .ok (.iadd, 1) := by decide +kernel
theorem dX9_tighten_46 : decode cX9_tighten 46 = .ok (.iaload, 1) := by decide +kernel
theorem dX9_tighten_47 : decode cX9_tighten 47 = .ok (.ifCond .ne 30, 3) := by decide +kernel
theorem dX9_tighten_50 : decode cX9_tighten 50 = .ok (.aload_n 0, 1) := by decide +kernel
theorem dX9_tighten_51 : decode cX9_tighten 51 = .ok (.getfield 29, 3) := by decide +kernel
theorem dX9_tighten_54 : decode cX9_tighten 54 = .ok (.iconst 4, 1) := by decide +kernel
theorem dX9_tighten_55 : decode cX9_tighten 55 = .ok (.iload 4, 2) := by decide +kernel
theorem dX9_tighten_57 : decode cX9_tighten 57 = .ok (.imul, 1) := by decide +kernel
theorem dX9_tighten_58 : decode cX9_tighten 58 = .ok (.iload 5, 2) := by decide +kernel
theorem dX9_tighten_60 : decode cX9_tighten 60 = .ok (.iadd, 1) := by decide +kernel
theorem dX9_tighten_61 : decode cX9_tighten 61 = .ok (.iaload, 1) := by decide +kernel
theorem dX9_tighten_62 : decode cX9_tighten 62 = .ok (.ifCond .eq 15, 3) := by decide +kernel
theorem dX9_tighten_65 : decode cX9_tighten 65 = .ok (.aload_n 0, 1) := by decide +kernel
theorem dX9_tighten_66 : decode cX9_tighten 66 = .ok (.aload_n 1, 1) := by decide +kernel
theorem dX9_tighten_67 : decode cX9_tighten 67 = .ok (.iload 4, 2) := by decide +kernel
theorem dX9_tighten_69 : decode cX9_tighten 69 = .ok (.iload 5, 2) := by decide +kernel
theorem dX9_tighten_71 : decode cX9_tighten 71 = .ok (.invokevirtual 233, 3) := by decide +kernel
theorem dX9_tighten_74 : decode cX9_tighten 74 = .ok (.goto 4, 3) := by decide +kernel
theorem dX9_tighten_77 : decode cX9_tighten 77 = .ok (.iconst 0, 1) := by decide +kernel
theorem dX9_tighten_78 : decode cX9_tighten 78 = .ok (.istore 6, 2) := by decide +kernel
theorem dX9_tighten_80 : decode cX9_tighten 80 = .ok (.iload 6, 2) := by decide +kernel
theorem dX9_tighten_82 : decode cX9_tighten 82 = .ok (.iconst 2, 1) := by decide +kernel
theorem dX9_tighten_83 : decode cX9_tighten 83 = .ok (.if_icmp .ne 5, 3) := by decide +kernel
theorem dX9_tighten_86 : decode cX9_tighten 86 = .ok (.iconst 0, 1) := by decide +kernel
theorem dX9_tighten_87 : decode cX9_tighten 87 = .ok (.ireturn, 1) := by decide +kernel
theorem dX9_tighten_88 : decode cX9_tighten 88 = .ok (.iload_n 2, 1) := by decide +kernel
theorem dX9_tighten_89 : decode cX9_tighten 89 = .ok (.ifCond .ne 9, 3) := by decide +kernel
theorem dX9_tighten_92 : decode cX9_tighten 92 = .ok (.iload 6, 2) := by decide +kernel
theorem dX9_tighten_94 : decode cX9_tighten 94 = .ok (.iconst 1, 1) := by decide +kernel
theorem dX9_tighten_95 : decode cX9_tighten 95 = .ok (.if_icmp .ne 7, 3) := by decide +kernel
theorem dX9_tighten_98 : decode cX9_tighten 98 = .ok (.iconst 1, 1) := by decide +kernel
theorem dX9_tighten_99 : decode cX9_tighten 99 = .ok (.goto 4, 3) := by decide +kernel
theorem dX9_tighten_102 : decode cX9_tighten 102 = .ok (.iconst 0, 1) := by decide +kernel
theorem dX9_tighten_103 : decode cX9_tighten 103 = .ok (.istore_n 2, 1) := by decide +kernel
theorem dX9_tighten_104 : decode cX9_tighten 104 = .ok (.iinc 5 1, 3) := by decide +kernel
theorem dX9_tighten_107 : decode cX9_tighten 107 = .ok (.goto (-76), 3) := by decide +kernel
theorem dX9_tighten_110 : decode cX9_tighten 110 = .ok (.iinc 4 1, 3) := by decide +kernel
theorem dX9_tighten_113 : decode cX9_tighten 113 = .ok (.goto (-94), 3) := by decide +kernel
theorem dX9_tighten_116 : decode cX9_tighten 116 = .ok (.iinc 3 1, 3) := by decide +kernel
theorem dX9_tighten_119 : decode cX9_tighten 119 = .ok (.goto (-115), 3) := by decide +kernel
theorem dX9_tighten_122 : decode cX9_tighten 122 = .ok (.iconst 1, 1) := by decide +kernel
theorem dX9_tighten_123 : decode cX9_tighten 123 = .ok (.ireturn, 1) := by decide +kernel
theorem dX9_readOn_0 : decode cX9_readOn 0 = .ok (.aload_n 1, 1) := by decide +kernel
theorem dX9_readOn_1 : decode cX9_readOn 1 = .ok (.bipush 31, 2) := by decide +kernel
theorem dX9_readOn_3 : decode cX9_readOn 3 = .ok (.iload_n 2, 1) := by decide +kernel
theorem dX9_readOn_4 : decode cX9_readOn 4 = .ok (.iadd, 1) := by decide +kernel
theorem dX9_readOn_5 : decode cX9_readOn 5 = .ok (.aload_n 0, 1) := by decide +kernel
theorem dX9_readOn_6 : decode cX9_readOn 6 = .ok (.aload_n 1, 1) := by decide +kernel
theorem dX9_readOn_7 : decode cX9_readOn 7 = .ok (.iconst 0, 1) := by decide +kernel
theorem dX9_readOn_8 : decode cX9_readOn 8 = .ok (.iload_n 2, 1) := by decide +kernel
theorem dX9_readOn_9 : decode cX9_readOn 9 = .ok (.invokevirtual 189, 3) := by decide +kernel
theorem dX9_readOn_12 : decode cX9_readOn 12 = .ok (.aload_n 0, 1) := by decide +kernel
theorem dX9_readOn_13 : decode cX9_readOn 13 = .ok (.getfield 32, 3) := by decide +kernel
theorem dX9_readOn_16 : decode cX9_readOn 16 = .ok (.iload_n 2, 1) := by decide +kernel
theorem dX9_readOn_17 : decode cX9_readOn 17 = .ok (.iaload, 1) := by decide +kernel
theorem dX9_readOn_18 : decode cX9_readOn 18 = .ok (.i2l, 1) := by decide +kernel
theorem dX9_readOn_19 : decode cX9_readOn 19 = .ok (.invokestatic 101, 3) := by decide +kernel
theorem dX9_readOn_22 : decode cX9_readOn 22 = .ok (.l2i, 1) := by decide +kernel
theorem dX9_readOn_23 : decode cX9_readOn 23 = .ok (.iastore, 1) := by decide +kernel
theorem dX9_readOn_24 : decode cX9_readOn 24 = .ok (.aload_n 1, 1) := by decide +kernel
theorem dX9_readOn_25 : decode cX9_readOn 25 = .ok (.bipush 34, 2) := by decide +kernel
theorem dX9_readOn_27 : decode cX9_readOn 27 = .ok (.iload_n 2, 1) := by decide +kernel
theorem dX9_readOn_28 : decode cX9_readOn 28 = .ok (.iadd, 1) := by decide +kernel
theorem dX9_readOn_29 : decode cX9_readOn 29 = .ok (.iconst 0, 1) := by decide +kernel
theorem dX9_readOn_30 : decode cX9_readOn 30 = .ok (.iastore, 1) := by decide +kernel
theorem dX9_readOn_31 : decode cX9_readOn 31 = .ok (.aload_n 0, 1) := by decide +kernel
theorem dX9_readOn_32 : decode cX9_readOn 32 = .ok (.aload_n 1, 1) := by decide +kernel
theorem dX9_readOn_33 : decode cX9_readOn 33 = .ok (.invokevirtual 237, 3) := by decide +kernel
theorem dX9_readOn_36 : decode cX9_readOn 36 = .ok (.pop, 1) := by decide +kernel
theorem dX9_readOn_37 : decode cX9_readOn 37 = .ok (.return_, 1) := by decide +kernel
theorem dX9_read_0 : decode cX9_read 0 = .ok (.aload_n 0, 1) := by decide +kernel
theorem dX9_read_1 : decode cX9_read 1 = .ok (.aload_n 0, 1) := by decide +kernel
theorem dX9_read_2 : decode cX9_read 2 = .ok (.iload_n 1, 1) := by decide +kernel
theorem dX9_read_3 : decode cX9_read 3 = .ok (.invokevirtual 170, 3) := by decide +kernel
theorem dX9_read_6 : decode cX9_read 6 = .ok (.ifCond .eq 7, 3) := by decide +kernel
theorem dX9_read_9 : decode cX9_read 9 = .ok (.iconst 0, 1) := by decide +kernel
theorem dX9_read_10 : decode cX9_read 10 = .ok (.goto 4, 3) := by decide +kernel
theorem dX9_read_13 : decode cX9_read 13 = .ok (.iconst 1, 1) := by decide +kernel
theorem dX9_read_14 : decode cX9_read 14 = .ok (.invokevirtual 114, 3) := by decide +kernel
theorem dX9_read_17 : decode cX9_read 17 = .ok (.ifCond .eq 5, 3) := by decide +kernel
theorem dX9_read_20 : decode cX9_read 20 = .ok (.iconst 0, 1) := by decide +kernel
theorem dX9_read_21 : decode cX9_read 21 = .ok (.ireturn, 1) := by decide +kernel
theorem dX9_read_22 : decode cX9_read 22 = .ok (.aload_n 0, 1) := by decide +kernel
theorem dX9_read_23 : decode cX9_read 23 = .ok (.invokevirtual 186, 3) := by decide +kernel
theorem dX9_read_26 : decode cX9_read 26 = .ok (.aload_n 0, 1) := by decide +kernel
theorem dX9_read_27 : decode cX9_read 27 = .ok (.aload_n 0, 1) := by decide +kernel
theorem dX9_read_28 : decode cX9_read 28 = .ok (.getfield 53, 3) := by decide +kernel
theorem dX9_read_31 : decode cX9_read 31 = .ok (.iload_n 1, 1) := by decide +kernel
theorem dX9_read_32 : decode cX9_read 32 = .ok (.invokevirtual 241, 3) := by decide +kernel
theorem dX9_read_35 : decode cX9_read 35 = .ok (.aload_n 0, 1) := by decide +kernel
theorem dX9_read_36 : decode cX9_read 36 = .ok (.getfield 53, 3) := by decide +kernel
theorem dX9_read_39 : decode cX9_read 39 = .ok (.bipush 31, 2) := by decide +kernel
theorem dX9_read_41 : decode cX9_read 41 = .ok (.iload_n 1, 1) := by decide +kernel
theorem dX9_read_42 : decode cX9_read 42 = .ok (.iadd, 1) := by decide +kernel
theorem dX9_read_43 : decode cX9_read 43 = .ok (.iaload, 1) := by decide +kernel
theorem dX9_read_44 : decode cX9_read 44 = .ok (.ireturn, 1) := by decide +kernel
theorem dX9_isOut_0 : decode cX9_isOut 0 = .ok (.aload_n 0, 1) := by decide +kernel
theorem dX9_isOut_1 : decode cX9_isOut 1 = .ok (.getfield 53, 3) := by decide +kernel
theorem dX9_isOut_4 : decode cX9_isOut 4 = .ok (.iconst 0, 1) := by decide +kernel
theorem dX9_isOut_5 : decode cX9_isOut 5 = .ok (.aload_n 0, 1) := by decide +kernel
theorem dX9_isOut_6 : decode cX9_isOut 6 = .ok (.getfield 59, 3) := by decide +kernel
theorem dX9_isOut_9 : decode cX9_isOut 9 = .ok (.iconst 0, 1) := by decide +kernel
theorem dX9_isOut_10 : decode cX9_isOut 10 = .ok (.bipush 48, 2) := by decide +kernel
theorem dX9_isOut_12 : decode cX9_isOut 12 = .ok (.invokestatic 159, 3) := by decide +kernel
theorem dX9_isOut_15 : decode cX9_isOut 15 = .ok (.aload_n 0, 1) := by decide +kernel
theorem dX9_isOut_16 : decode cX9_isOut 16 = .ok (.getfield 59, 3) := by decide +kernel
theorem dX9_isOut_19 : decode cX9_isOut 19 = .ok (.iconst 4, 1) := by decide +kernel
theorem dX9_isOut_20 : decode cX9_isOut 20 = .ok (.iload_n 1, 1) := by decide +kernel
theorem dX9_isOut_21 : decode cX9_isOut 21 = .ok (.iadd, 1) := by decide +kernel
theorem dX9_isOut_22 : decode cX9_isOut 22 = .ok (.aload_n 0, 1) := by decide +kernel
theorem dX9_isOut_23 : decode cX9_isOut 23 = .ok (.getfield 53, 3) := by decide +kernel
theorem dX9_isOut_26 : decode cX9_isOut 26 = .ok (.iload_n 2, 1) := by decide +kernel
theorem dX9_isOut_27 : decode cX9_isOut 27 = .ok (.iaload, 1) := by decide +kernel
theorem dX9_isOut_28 : decode cX9_isOut 28 = .ok (.iastore, 1) := by decide +kernel
theorem dX9_isOut_29 : decode cX9_isOut 29 = .ok (.aload_n 0, 1) := by decide +kernel
theorem dX9_isOut_30 : decode cX9_isOut 30 = .ok (.getfield 59, 3) := by decide +kernel
theorem dX9_isOut_33 : decode cX9_isOut 33 = .ok (.bipush 8, 2) := by decide +kernel
theorem dX9_isOut_35 : decode cX9_isOut 35 = .ok (.iload_n 1, 1) := by decide +kernel
theorem dX9_isOut_36 : decode cX9_isOut 36 = .ok (.iadd, 1) := by decide +kernel
theorem dX9_isOut_37 : decode cX9_isOut 37 = .ok (.aload_n 0, 1) := by decide +kernel
theorem dX9_isOut_38 : decode cX9_isOut 38 = .ok (.getfield 53, 3) := by decide +kernel
theorem dX9_isOut_41 : decode cX9_isOut 41 = .ok (.iload_n 2, 1) := by decide +kernel
theorem dX9_isOut_42 : decode cX9_isOut 42 = .ok (.iaload, 1) := by decide +kernel
theorem dX9_isOut_43 : decode cX9_isOut 43 = .ok (.iastore, 1) := by decide +kernel
theorem dX9_isOut_44 : decode cX9_isOut 44 = .ok (.aload_n 0, 1) := by decide +kernel
theorem dX9_isOut_45 : decode cX9_isOut 45 = .ok (.aload_n 0, 1) := by decide +kernel
theorem dX9_isOut_46 : decode cX9_isOut 46 = .ok (.getfield 59, 3) := by decide +kernel
theorem dX9_isOut_49 : decode cX9_isOut 49 = .ok (.invokevirtual 237, 3) := by decide +kernel
theorem dX9_isOut_52 : decode cX9_isOut 52 = .ok (.ifCond .ne 7, 3) := by decide +kernel
theorem dX9_isOut_55 : decode cX9_isOut 55 = .ok (.iconst 1, 1) := by decide +kernel
theorem dX9_isOut_56 : decode cX9_isOut 56 = .ok (.goto 4, 3) := by decide +kernel
theorem dX9_isOut_59 : decode cX9_isOut 59 = .ok (.iconst 0, 1) := by decide +kernel
theorem dX9_isOut_60 : decode cX9_isOut 60 = .ok (.ireturn, 1) := by decide +kernel
theorem dX9_shave_0 : decode cX9_shave 0 = .ok (.aload_n 0, 1) := by decide +kernel
theorem dX9_shave_1 : decode cX9_shave 1 = .ok (.aload_n 0, 1) := by decide +kernel
theorem dX9_shave_2 : decode cX9_shave 2 = .ok (.iload_n 1, 1) := by decide +kernel
theorem dX9_shave_3 : decode cX9_shave 3 = .ok (.invokevirtual 173, 3) := by decide +kernel
theorem dX9_shave_6 : decode cX9_shave 6 = .ok (.ifCond .ne 7, 3) := by decide +kernel
theorem dX9_shave_9 : decode cX9_shave 9 = .ok (.iconst 1, 1) := by decide +kernel
theorem dX9_shave_10 : decode cX9_shave 10 = .ok (.goto 20, 3) := by decide +kernel
theorem dX9_shave_13 : decode cX9_shave 13 = .ok (.iload_n 2, 1) := by decide +kernel
theorem dX9_shave_14 : decode cX9_shave 14 = .ok (.i2l, 1) := by decide +kernel
theorem dX9_shave_15 : decode cX9_shave 15 = .ok (.lconst 1, 1) := by decide +kernel
theorem dX9_shave_16 : decode cX9_shave 16 = .ok (.ldc2_w 244, 3) := by decide +kernel
theorem dX9_shave_19 : decode cX9_shave 19 = .ok (.invokestatic 107, 3) := by decide +kernel
theorem dX9_shave_22 : decode cX9_shave 22 = .ok (.ifCond .ne 7, 3) := by decide +kernel
theorem dX9_shave_25 : decode cX9_shave 25 = .ok (.iconst 2, 1) := by decide +kernel
theorem dX9_shave_26 : decode cX9_shave 26 = .ok (.goto 4, 3) := by decide +kernel
theorem dX9_shave_29 : decode cX9_shave 29 = .ok (.iconst 0, 1) := by decide +kernel
theorem dX9_shave_30 : decode cX9_shave 30 = .ok (.invokevirtual 114, 3) := by decide +kernel
theorem dX9_shave_33 : decode cX9_shave 33 = .ok (.ifCond .eq 5, 3) := by decide +kernel
theorem dX9_shave_36 : decode cX9_shave 36 = .ok (.iconst 0, 1) := by decide +kernel
theorem dX9_shave_37 : decode cX9_shave 37 = .ok (.ireturn, 1) := by decide +kernel
theorem dX9_shave_38 : decode cX9_shave 38 = .ok (.aload_n 0, 1) := by decide +kernel
theorem dX9_shave_39 : decode cX9_shave 39 = .ok (.invokevirtual 186, 3) := by decide +kernel
theorem dX9_shave_42 : decode cX9_shave 42 = .ok (.iconst 0, 1) := by decide +kernel
theorem dX9_shave_43 : decode cX9_shave 43 = .ok (.istore_n 3, 1) := by decide +kernel
theorem dX9_shave_44 : decode cX9_shave 44 = .ok (.iconst 0, 1) := by decide +kernel
theorem dX9_shave_45 : decode cX9_shave 45 = .ok (.istore 4, 2) := by decide +kernel
theorem dX9_shave_47 : decode cX9_shave 47 = .ok (.iload 4, 2) := by decide +kernel
theorem dX9_shave_49 : decode cX9_shave 49 = .ok (.iload_n 2, 1) := by decide +kernel
theorem dX9_shave_50 : decode cX9_shave 50 = .ok (.if_icmp .ge 35, 3) := by decide +kernel
theorem dX9_shave_53 : decode cX9_shave 53 = .ok (.aload_n 0, 1) := by decide +kernel
theorem dX9_shave_54 : decode cX9_shave 54 = .ok (.iload_n 1, 1) := by decide +kernel
theorem dX9_shave_55 : decode cX9_shave 55 = .ok (.iconst 4, 1) := by decide +kernel
theorem dX9_shave_56 : decode cX9_shave 56 = .ok (.iload_n 1, 1) := by decide +kernel
theorem dX9_shave_57 : decode cX9_shave 57 = .ok (.iadd, 1) := by decide +kernel
theorem dX9_shave_58 : decode cX9_shave 58 = .ok (.invokevirtual 246, 3) := by decide +kernel
theorem dX9_shave_61 : decode cX9_shave 61 = .ok (.ifCond .eq 24, 3) := by decide +kernel
theorem dX9_shave_64 : decode cX9_shave 64 = .ok (.aload_n 0, 1) := by decide +kernel
theorem dX9_shave_65 : decode cX9_shave 65 = .ok (.getfield 53, 3) := by decide +kernel
theorem dX9_shave_68 : decode cX9_shave 68 = .ok (.iconst 4, 1) := by decide +kernel
theorem dX9_shave_69 : decode cX9_shave 69 = .ok (.iload_n 1, 1) := by decide +kernel
theorem dX9_shave_70 : decode cX9_shave 70 = .ok (.iadd, 1) := by decide +kernel
theorem dX9_shave_71 : decode cX9_shave 71 = .ok (.dup2, 1) := by decide +kernel
theorem dX9_shave_72 : decode cX9_shave 72 = .ok (.iaload, 1) := by decide +kernel
theorem dX9_shave_73 : decode cX9_shave 73 = .ok (.iconst 1, 1) := by decide +kernel
theorem dX9_shave_74 : decode cX9_shave 74 = .ok (.iadd, 1) := by decide +kernel
theorem dX9_shave_75 : decode cX9_shave 75 = .ok (.iastore, 1) := by decide +kernel
theorem dX9_shave_76 : decode cX9_shave 76 = .ok (.iinc 3 1, 3) := by decide +kernel
theorem dX9_shave_79 : decode cX9_shave 79 = .ok (.iinc 4 1, 3) := by decide +kernel
theorem dX9_shave_82 : decode cX9_shave 82 = .ok (.goto (-35), 3) := by decide +kernel
theorem dX9_shave_85 : decode cX9_shave 85 = .ok (.iconst 0, 1) := by decide +kernel
theorem dX9_shave_86 : decode cX9_shave 86 = .ok (.istore 4, 2) := by decide +kernel
theorem dX9_shave_88 : decode cX9_shave 88 = .ok (.iload 4, 2) := by decide +kernel
theorem dX9_shave_90 : decode cX9_shave 90 = .ok (.iload_n 2, 1) := by decide +kernel
theorem dX9_shave_91 : decode cX9_shave 91 = .ok (.if_icmp .ge 37, 3) := by decide +kernel
theorem dX9_shave_94 : decode cX9_shave 94 = .ok (.aload_n 0, 1) := by decide +kernel
theorem dX9_shave_95 : decode cX9_shave 95 = .ok (.iload_n 1, 1) := by decide +kernel
theorem dX9_shave_96 : decode cX9_shave 96 = .ok (.bipush 8, 2) := by decide +kernel
theorem dX9_shave_98 : decode cX9_shave 98 = .ok (.iload_n 1, 1) := by decide +kernel
theorem dX9_shave_99 : decode cX9_shave 99 = .ok (.iadd, 1) := by decide +kernel
theorem dX9_shave_100 : decode cX9_shave 100 = .ok (.invokevirtual 246, 3) := by decide +kernel
theorem dX9_shave_103 : decode cX9_shave 103 = .ok (.ifCond .eq 25, 3) := by decide +kernel
theorem dX9_shave_106 : decode cX9_shave 106 = .ok (.aload_n 0, 1) := by decide +kernel
theorem dX9_shave_107 : decode cX9_shave 107 = .ok (.getfield 53, 3) := by decide +kernel
theorem dX9_shave_110 : decode cX9_shave 110 = .ok (.bipush 8, 2) := by decide +kernel
theorem dX9_shave_112 : decode cX9_shave 112 = .ok (.iload_n 1, 1) := by decide +kernel
theorem dX9_shave_113 : decode cX9_shave 113 = .ok (.iadd, 1) := by decide +kernel
theorem dX9_shave_114 : decode cX9_shave 114 = .ok (.dup2, 1) := by decide +kernel
theorem dX9_shave_115 : decode cX9_shave 115 = .ok (.iaload, 1) := by decide +kernel
theorem dX9_shave_116 : decode cX9_shave 116 = .ok (.iconst 1, 1) := by decide +kernel
theorem dX9_shave_117 : decode cX9_shave 117 = .ok (.isub, 1) := by decide +kernel
theorem dX9_shave_118 : decode cX9_shave 118 = .ok (.iastore, 1) := by decide +kernel
theorem dX9_shave_119 : decode cX9_shave 119 = .ok (.iinc 3 1, 3) := by decide +kernel
theorem dX9_shave_122 : decode cX9_shave 122 = .ok (.iinc 4 1, 3) := by decide +kernel
theorem dX9_shave_125 : decode cX9_shave 125 = .ok (.goto (-37), 3) := by decide +kernel
theorem dX9_shave_128 : decode cX9_shave 128 = .ok (.iload_n 3, 1) := by decide +kernel
theorem dX9_shave_129 : decode cX9_shave 129 = .ok (.ireturn, 1) := by decide +kernel
theorem dX9_setGain_0 : decode cX9_setGain 0 = .ok (.aload_n 0, 1) := by decide +kernel
theorem dX9_setGain_1 : decode cX9_setGain 1 = .ok (.aload_n 0, 1) := by decide +kernel
theorem dX9_setGain_2 : decode cX9_setGain 2 = .ok (.iload_n 1, 1) := by decide +kernel
theorem dX9_setGain_3 : decode cX9_setGain 3 = .ok (.invokevirtual 173, 3) := by decide +kernel
theorem dX9_setGain_6 : decode cX9_setGain 6 = .ok (.ifCond .eq 11, 3) := by decide +kernel
theorem dX9_setGain_9 : decode cX9_setGain 9 = .ok (.aload_n 0, 1) := by decide +kernel
theorem dX9_setGain_10 : decode cX9_setGain 10 = .ok (.iload_n 2, 1) := by decide +kernel
theorem dX9_setGain_11 : decode cX9_setGain 11 = .ok (.invokevirtual 170, 3) := by decide +kernel
theorem dX9_setGain_14 : decode cX9_setGain 14 = .ok (.ifCond .ne 7, 3) := by decide +kernel
theorem dX9_setGain_17 : decode cX9_setGain 17 = .ok (.iconst 1, 1) := by decide +kernel
theorem dX9_setGain_18 : decode cX9_setGain 18 = .ok (.goto 22, 3) := by decide +kernel
theorem dX9_setGain_21 : decode cX9_setGain 21 = .ok (.iload_n 3, 1) := by decide +kernel
theorem dX9_setGain_22 : decode cX9_setGain 22 = .ok (.i2l, 1) := by decide +kernel
theorem dX9_setGain_23 : decode cX9_setGain 23 = .ok (.ldc2_w 222, 3) := by decide +kernel
theorem dX9_setGain_26 : decode cX9_setGain 26 = .ok (.ldc2_w 224, 3) := by decide +kernel
theorem dX9_setGain_29 : decode cX9_setGain 29 = .ok (.invokestatic 107, 3) := by decide +kernel
theorem dX9_setGain_32 : decode cX9_setGain 32 = .ok (.ifCond .ne 7, 3) := by decide +kernel
theorem dX9_setGain_35 : decode cX9_setGain 35 = .ok (.iconst 2, 1) := by decide +kernel
theorem dX9_setGain_36 : decode cX9_setGain 36 = .ok (.goto 4, 3) := by decide +kernel
theorem dX9_setGain_39 : decode cX9_setGain 39 = .ok (.iconst 0, 1) := by decide +kernel
theorem dX9_setGain_40 : decode cX9_setGain 40 = .ok (.invokevirtual 114, 3) := by decide +kernel
theorem dX9_setGain_43 : decode cX9_setGain 43 = .ok (.ifCond .eq 5, 3) := by decide +kernel
theorem dX9_setGain_46 : decode cX9_setGain 46 = .ok (.iconst 0, 1) := by decide +kernel
theorem dX9_setGain_47 : decode cX9_setGain 47 = .ok (.ireturn, 1) := by decide +kernel
theorem dX9_setGain_48 : decode cX9_setGain 48 = .ok (.aload_n 0, 1) := by decide +kernel
theorem dX9_setGain_49 : decode cX9_setGain 49 = .ok (.bipush 16, 2) := by decide +kernel
theorem dX9_setGain_51 : decode cX9_setGain 51 = .ok (.iconst 3, 1) := by decide +kernel
theorem dX9_setGain_52 : decode cX9_setGain 52 = .ok (.iload_n 1, 1) := by decide +kernel
theorem dX9_setGain_53 : decode cX9_setGain 53 = .ok (.imul, 1) := by decide +kernel
theorem dX9_setGain_54 : decode cX9_setGain 54 = .ok (.iadd, 1) := by decide +kernel
theorem dX9_setGain_55 : decode cX9_setGain 55 = .ok (.iload_n 2, 1) := by decide +kernel
theorem dX9_setGain_56 : decode cX9_setGain 56 = .ok (.iadd, 1) := by decide +kernel
theorem dX9_setGain_57 : decode cX9_setGain 57 = .ok (.iload_n 3, 1) := by decide +kernel
theorem dX9_setGain_58 : decode cX9_setGain 58 = .ok (.invokevirtual 197, 3) := by decide +kernel
theorem dX9_setGain_61 : decode cX9_setGain 61 = .ok (.ireturn, 1) := by decide +kernel
theorem dX9_setHold_0 : decode cX9_setHold 0 = .ok (.aload_n 0, 1) := by decide +kernel
theorem dX9_setHold_1 : decode cX9_setHold 1 = .ok (.iload_n 1, 1) := by decide +kernel
theorem dX9_setHold_2 : decode cX9_setHold 2 = .ok (.i2l, 1) := by decide +kernel
theorem dX9_setHold_3 : decode cX9_setHold 3 = .ok (.lconst 0, 1) := by decide +kernel
theorem dX9_setHold_4 : decode cX9_setHold 4 = .ok (.ldc2_w 249, 3) := by decide +kernel
theorem dX9_setHold_7 : decode cX9_setHold 7 = .ok (.invokestatic 107, 3) := by decide +kernel
theorem dX9_setHold_10 : decode cX9_setHold 10 = .ok (.ifCond .eq 7, 3) := by decide +kernel
theorem dX9_setHold_13 : decode cX9_setHold 13 = .ok (.iconst 0, 1) := by decide +kernel
theorem dX9_setHold_14 : decode cX9_setHold 14 = .ok (.goto 4, 3) := by decide +kernel
theorem dX9_setHold_17 : decode cX9_setHold 17 = .ok (.iconst 1, 1) := by decide +kernel
theorem dX9_setHold_18 : decode cX9_setHold 18 = .ok (.invokevirtual 114, 3) := by decide +kernel
theorem dX9_setHold_21 : decode cX9_setHold 21 = .ok (.ifCond .eq 7, 3) := by decide +kernel
theorem dX9_setHold_24 : decode cX9_setHold 24 = .ok (.iconst 0, 1) := by decide +kernel
theorem dX9_setHold_25 : decode cX9_setHold 25 = .ok (.goto 10, 3) := by decide +kernel
theorem dX9_setHold_28 : decode cX9_setHold 28 = .ok (.aload_n 0, 1) := by decide +kernel
theorem dX9_setHold_29 : decode cX9_setHold 29 = .ok (.bipush 28, 2) := by decide +kernel
theorem dX9_setHold_31 : decode cX9_setHold 31 = .ok (.iload_n 1, 1) := by decide +kernel
theorem dX9_setHold_32 : decode cX9_setHold 32 = .ok (.invokevirtual 197, 3) := by decide +kernel
theorem dX9_setHold_35 : decode cX9_setHold 35 = .ok (.ireturn, 1) := by decide +kernel
theorem dX9_setBound_0 : decode cX9_setBound 0 = .ok (.aload_n 0, 1) := by decide +kernel
theorem dX9_setBound_1 : decode cX9_setBound 1 = .ok (.iload_n 1, 1) := by decide +kernel
theorem dX9_setBound_2 : decode cX9_setBound 2 = .ok (.i2l, 1) := by decide +kernel
theorem dX9_setBound_3 : decode cX9_setBound 3 = .ok (.lconst 0, 1) := by decide +kernel
theorem dX9_setBound_4 : decode cX9_setBound 4 = .ok (.ldc2_w 224, 3) := by decide +kernel
theorem dX9_setBound_7 : decode cX9_setBound 7 = .ok (.invokestatic 107, 3) := by decide +kernel
theorem dX9_setBound_10 : decode cX9_setBound 10 = .ok (.ifCond .eq 7, 3) := by decide +kernel
theorem dX9_setBound_13 : decode cX9_setBound 13 = .ok (.iconst 0, 1) := by decide +kernel
theorem dX9_setBound_14 : decode cX9_setBound 14 = .ok (.goto 4, 3) := by decide +kernel
theorem dX9_setBound_17 : decode cX9_setBound 17 = .ok (.iconst 1, 1) := by decide +kernel
theorem dX9_setBound_18 : decode cX9_setBound 18 = .ok (.invokevirtual 114, 3) := by decide +kernel
theorem dX9_setBound_21 : decode cX9_setBound 21 = .ok (.ifCond .eq 7, 3) := by decide +kernel
theorem dX9_setBound_24 : decode cX9_setBound 24 = .ok (.iconst 0, 1) := by decide +kernel
theorem dX9_setBound_25 : decode cX9_setBound 25 = .ok (.goto 10, 3) := by decide +kernel
theorem dX9_setBound_28 : decode cX9_setBound 28 = .ok (.aload_n 0, 1) := by decide +kernel
theorem dX9_setBound_29 : decode cX9_setBound 29 = .ok (.bipush 29, 2) := by decide +kernel
theorem dX9_setBound_31 : decode cX9_setBound 31 = .ok (.iload_n 1, 1) := by decide +kernel
theorem dX9_setBound_32 : decode cX9_setBound 32 = .ok (.invokevirtual 197, 3) := by decide +kernel
theorem dX9_setBound_35 : decode cX9_setBound 35 = .ok (.ireturn, 1) := by decide +kernel
theorem dX9_undo_0 : decode cX9_undo 0 = .ok (.aload_n 0, 1) := by decide +kernel
theorem dX9_undo_1 : decode cX9_undo 1 = .ok (.aload_n 0, 1) := by decide +kernel
theorem dX9_undo_2 : decode cX9_undo 2 = .ok (.getfield 163, 3) := by decide +kernel
theorem dX9_undo_5 : decode cX9_undo 5 = .ok (.ifCond .ne 7, 3) := by decide +kernel
theorem dX9_undo_8 : decode cX9_undo 8 = .ok (.iconst 1, 1) := by decide +kernel
theorem dX9_undo_9 : decode cX9_undo 9 = .ok (.goto 4, 3) := by decide +kernel
theorem dX9_undo_12 : decode cX9_undo 12 = .ok (.iconst 0, 1) := by decide +kernel
theorem dX9_undo_13 : decode cX9_undo 13 = .ok (.invokevirtual 114, 3) := by decide +kernel
theorem dX9_undo_16 : decode cX9_undo 16 = .ok (.ifCond .eq 5, 3) := by decide +kernel
theorem dX9_undo_19 : decode cX9_undo 19 = .ok (.iconst 0, 1) := by decide +kernel
theorem dX9_undo_20 : decode cX9_undo 20 = .ok (.ireturn, 1) := by decide +kernel
theorem dX9_undo_21 : decode cX9_undo 21 = .ok (.aload_n 0, 1) := by decide +kernel
theorem dX9_undo_22 : decode cX9_undo 22 = .ok (.dup, 1) := by decide +kernel
theorem dX9_undo_23 : decode cX9_undo 23 = .ok (.getfield 163, 3) := by decide +kernel
theorem dX9_undo_26 : decode cX9_undo 26 = .ok (.iconst 1, 1) := by decide +kernel
theorem dX9_undo_27 : decode cX9_undo 27 = .ok (.isub, 1) := by decide +kernel
theorem dX9_undo_28 : decode cX9_undo 28 = .ok (.putfield 163, 3) := by decide +kernel
theorem dX9_undo_31 : decode cX9_undo 31 = .ok (.aload_n 0, 1) := by decide +kernel
theorem dX9_undo_32 : decode cX9_undo 32 = .ok (.getfield 62, 3) := by decide +kernel
theorem dX9_undo_35 : decode cX9_undo 35 = .ok (.bipush 48, 2) := by decide +kernel
theorem dX9_undo_37 : decode cX9_undo 37 = .ok (.aload_n 0, 1) := by decide +kernel
theorem dX9_undo_38 : decode cX9_undo 38 = .ok (.getfield 163, 3) := by decide +kernel
theorem dX9_undo_41 : decode cX9_undo 41 = .ok (.imul, 1) := by decide +kernel
theorem dX9_undo_42 : decode cX9_undo 42 = .ok (.aload_n 0, 1) := by decide +kernel
theorem dX9_undo_43 : decode cX9_undo 43 = .ok (.getfield 53, 3) := by decide +kernel
theorem dX9_undo_46 : decode cX9_undo 46 = .ok (.iconst 0, 1) := by decide +kernel
theorem dX9_undo_47 : decode cX9_undo 47 = .ok (.bipush 48, 2) := by decide +kernel
theorem dX9_undo_49 : decode cX9_undo 49 = .ok (.invokestatic 159, 3) := by decide +kernel
theorem dX9_undo_52 : decode cX9_undo 52 = .ok (.aload_n 0, 1) := by decide +kernel
theorem dX9_undo_53 : decode cX9_undo 53 = .ok (.getfield 163, 3) := by decide +kernel
theorem dX9_undo_56 : decode cX9_undo 56 = .ok (.ireturn, 1) := by decide +kernel
theorem dX9_canBe_0 : decode cX9_canBe 0 = .ok (.aload_n 0, 1) := by decide +kernel
theorem dX9_canBe_1 : decode cX9_canBe 1 = .ok (.getfield 53, 3) := by decide +kernel
theorem dX9_canBe_4 : decode cX9_canBe 4 = .ok (.iconst 0, 1) := by decide +kernel
theorem dX9_canBe_5 : decode cX9_canBe 5 = .ok (.aload_n 0, 1) := by decide +kernel
theorem dX9_canBe_6 : decode cX9_canBe 6 = .ok (.getfield 56, 3) := by decide +kernel
theorem dX9_canBe_9 : decode cX9_canBe 9 = .ok (.iconst 0, 1) := by decide +kernel
theorem dX9_canBe_10 : decode cX9_canBe 10 = .ok (.bipush 48, 2) := by decide +kernel
theorem dX9_canBe_12 : decode cX9_canBe 12 = .ok (.invokestatic 159, 3) := by decide +kernel
theorem dX9_canBe_15 : decode cX9_canBe 15 = .ok (.aload_n 0, 1) := by decide +kernel
theorem dX9_canBe_16 : decode cX9_canBe 16 = .ok (.getfield 56, 3) := by decide +kernel
theorem dX9_canBe_19 : decode cX9_canBe 19 = .ok (.bipush 12, 2) := by decide +kernel
theorem dX9_canBe_21 : decode cX9_canBe 21 = .ok (.iload_n 1, 1) := by decide +kernel
theorem dX9_canBe_22 : decode cX9_canBe 22 = .ok (.iastore, 1) := by decide +kernel
theorem dX9_canBe_23 : decode cX9_canBe 23 = .ok (.aload_n 0, 1) := by decide +kernel
theorem dX9_canBe_24 : decode cX9_canBe 24 = .ok (.getfield 56, 3) := by decide +kernel
theorem dX9_canBe_27 : decode cX9_canBe 27 = .ok (.bipush 13, 2) := by decide +kernel
theorem dX9_canBe_29 : decode cX9_canBe 29 = .ok (.iload_n 2, 1) := by decide +kernel
theorem dX9_canBe_30 : decode cX9_canBe 30 = .ok (.iastore, 1) := by decide +kernel
theorem dX9_canBe_31 : decode cX9_canBe 31 = .ok (.aload_n 0, 1) := by decide +kernel
theorem dX9_canBe_32 : decode cX9_canBe 32 = .ok (.getfield 56, 3) := by decide +kernel
theorem dX9_canBe_35 : decode cX9_canBe 35 = .ok (.bipush 14, 2) := by decide +kernel
theorem dX9_canBe_37 : decode cX9_canBe 37 = .ok (.iload_n 3, 1) := by decide +kernel
theorem dX9_canBe_38 : decode cX9_canBe 38 = .ok (.iastore, 1) := by decide +kernel
theorem dX9_canBe_39 : decode cX9_canBe 39 = .ok (.aload_n 0, 1) := by decide +kernel
theorem dX9_canBe_40 : decode cX9_canBe 40 = .ok (.getfield 56, 3) := by decide +kernel
theorem dX9_canBe_43 : decode cX9_canBe 43 = .ok (.bipush 15, 2) := by decide +kernel
theorem dX9_canBe_45 : decode cX9_canBe 45 = .ok (.iload 4, 2) := by decide +kernel
theorem dX9_canBe_47 : decode cX9_canBe 47 = .ok (.iastore, 1) := by decide +kernel
theorem dX9_canBe_48 : decode cX9_canBe 48 = .ok (.iconst 1, 1) := by decide +kernel
theorem dX9_canBe_49 : decode cX9_canBe 49 = .ok (.istore 5, 2) := by decide +kernel
theorem dX9_canBe_51 : decode cX9_canBe 51 = .ok (.aload_n 0, 1) := by decide +kernel
theorem dX9_canBe_52 : decode cX9_canBe 52 = .ok (.getfield 13, 3) := by decide +kernel
theorem dX9_canBe_55 : decode cX9_canBe 55 = .ok (.istore 6, 2) := by decide +kernel
theorem dX9_canBe_57 : decode cX9_canBe 57 = .ok (.iload 6, 2) := by decide +kernel
theorem dX9_canBe_59 : decode cX9_canBe 59 = .ok (.iconst 4, 1) := by decide +kernel
theorem dX9_canBe_60 : decode cX9_canBe 60 = .ok (.if_icmp .ge 34, 3) := by decide +kernel
theorem dX9_canBe_63 : decode cX9_canBe 63 = .ok (.iload 5, 2) := by decide +kernel
theorem dX9_canBe_65 : decode cX9_canBe 65 = .ok (.ifCond .eq 20, 3) := by decide +kernel
theorem dX9_canBe_68 : decode cX9_canBe 68 = .ok (.aload_n 0, 1) := by decide +kernel
theorem dX9_canBe_69 : decode cX9_canBe 69 = .ok (.getfield 56, 3) := by decide +kernel
theorem dX9_canBe_72 : decode cX9_canBe 72 = .ok (.bipush 12, 2) := by decide +kernel
theorem dX9_canBe_74 : decode cX9_canBe 74 = .ok (.iload 6, 2) := by decide +kernel
theorem dX9_canBe_76 : decode cX9_canBe 76 = .ok (.iadd, 1) := by decide +kernel
theorem dX9_canBe_77 : decode cX9_canBe 77 = .ok (.iaload, 1) := by decide +kernel
theorem dX9_canBe_78 : decode cX9_canBe 78 = .ok (.ifCond .ne 7, 3) := by decide +kernel
theorem dX9_canBe_81 : decode cX9_canBe 81 = .ok (.iconst 1, 1) := by decide +kernel
theorem dX9_canBe_82 : decode cX9_canBe 82 = .ok (.goto 4, 3) := by decide +kernel
theorem dX9_canBe_85 : decode cX9_canBe 85 = .ok (.iconst 0, 1) := by decide +kernel
theorem dX9_canBe_86 : decode cX9_canBe 86 = .ok (.istore 5, 2) := by decide +kernel
theorem dX9_canBe_88 : decode cX9_canBe 88 = .ok (.iinc 6 1, 3) := by decide +kernel
theorem dX9_canBe_91 : decode cX9_canBe 91 = .ok (.goto (-34), 3) := by decide +kernel
theorem dX9_canBe_94 : decode cX9_canBe 94 = .ok (.aload_n 0, 1) := by decide +kernel
theorem dX9_canBe_95 : decode cX9_canBe 95 = .ok (.iload 5, 2) := by decide +kernel
theorem dX9_canBe_97 : decode cX9_canBe 97 = .ok (.ifCond .eq 7, 3) := by decide +kernel
theorem dX9_canBe_100 : decode cX9_canBe 100 = .ok (.iconst 0, 1) := by decide +kernel
theorem dX9_canBe_101 : decode cX9_canBe 101 = .ok (.goto 4, 3) := by decide +kernel
theorem dX9_canBe_104 : decode cX9_canBe 104 = .ok (.iconst 1, 1) := by decide +kernel
theorem dX9_canBe_105 : decode cX9_canBe 105 = .ok (.invokevirtual 114, 3) := by decide +kernel
theorem dX9_canBe_108 : decode cX9_canBe 108 = .ok (.ifCond .ne 20, 3) := by decide +kernel
theorem dX9_canBe_111 : decode cX9_canBe 111 = .ok (.aload_n 0, 1) := by decide +kernel
theorem dX9_canBe_112 : decode cX9_canBe 112 = .ok (.aload_n 0, 1) := by decide +kernel
theorem dX9_canBe_113 : decode cX9_canBe 113 = .ok (.getfield 56, 3) := by decide +kernel
theorem dX9_canBe_116 : decode cX9_canBe 116 = .ok (.bipush 12, 2) := by decide +kernel
theorem dX9_canBe_118 : decode cX9_canBe 118 = .ok (.invokevirtual 193, 3) := by decide +kernel
theorem dX9_canBe_121 : decode cX9_canBe 121 = .ok (.ifCond .eq 7, 3) := by decide +kernel
theorem dX9_canBe_124 : decode cX9_canBe 124 = .ok (.iconst 1, 1) := by decide +kernel
theorem dX9_canBe_125 : decode cX9_canBe 125 = .ok (.goto 4, 3) := by decide +kernel
theorem dX9_canBe_128 : decode cX9_canBe 128 = .ok (.iconst 0, 1) := by decide +kernel
theorem dX9_canBe_129 : decode cX9_canBe 129 = .ok (.ireturn, 1) := by decide +kernel
theorem dX9_widthIf_0 : decode cX9_widthIf 0 = .ok (.aload_n 0, 1) := by decide +kernel
theorem dX9_widthIf_1 : decode cX9_widthIf 1 = .ok (.aload_n 0, 1) := by decide +kernel
theorem dX9_widthIf_2 : decode cX9_widthIf 2 = .ok (.iload_n 1, 1) := by decide +kernel
theorem dX9_widthIf_3 : decode cX9_widthIf 3 = .ok (.invokevirtual 170, 3) := by decide +kernel
theorem dX9_widthIf_6 : decode cX9_widthIf 6 = .ok (.ifCond .ne 7, 3) := by decide +kernel
theorem dX9_widthIf_9 : decode cX9_widthIf 9 = .ok (.iconst 1, 1) := by decide +kernel
theorem dX9_widthIf_10 : decode cX9_widthIf 10 = .ok (.goto 22, 3) := by decide +kernel
theorem dX9_widthIf_13 : decode cX9_widthIf 13 = .ok (.iload_n 2, 1) := by decide +kernel
theorem dX9_widthIf_14 : decode cX9_widthIf 14 = .ok (.i2l, 1) := by decide +kernel
theorem dX9_widthIf_15 : decode cX9_widthIf 15 = .ok (.ldc2_w 251, 3) := by decide +kernel
theorem dX9_widthIf_18 : decode cX9_widthIf 18 = .ok (.ldc2_w 253, 3) := by decide +kernel
theorem dX9_widthIf_21 : decode cX9_widthIf 21 = .ok (.invokestatic 107, 3) := by decide +kernel
theorem dX9_widthIf_24 : decode cX9_widthIf 24 = .ok (.ifCond .ne 7, 3) := by decide +kernel
theorem dX9_widthIf_27 : decode cX9_widthIf 27 = .ok (.iconst 2, 1) := by decide +kernel
theorem dX9_widthIf_28 : decode cX9_widthIf 28 = .ok (.goto 4, 3) := by decide +kernel
theorem dX9_widthIf_31 : decode cX9_widthIf 31 = .ok (.iconst 0, 1) := by decide +kernel
theorem dX9_widthIf_32 : decode cX9_widthIf 32 = .ok (.invokevirtual 114, 3) := by decide +kernel
theorem dX9_widthIf_35 : decode cX9_widthIf 35 = .ok (.ifCond .eq 5, 3) := by decide +kernel
theorem dX9_widthIf_38 : decode cX9_widthIf 38 = .ok (.iconst 0, 1) := by decide +kernel
theorem dX9_widthIf_39 : decode cX9_widthIf 39 = .ok (.ireturn, 1) := by decide +kernel
theorem dX9_widthIf_40 : decode cX9_widthIf 40 = .ok (.aload_n 0, 1) := by decide +kernel
theorem dX9_widthIf_41 : decode cX9_widthIf 41 = .ok (.getfield 53, 3) := by decide +kernel
theorem dX9_widthIf_44 : decode cX9_widthIf 44 = .ok (.iconst 0, 1) := by decide +kernel
theorem dX9_widthIf_45 : decode cX9_widthIf 45 = .ok (.aload_n 0, 1) := by decide +kernel
theorem dX9_widthIf_46 : decode cX9_widthIf 46 = .ok (.getfield 56, 3) := by decide +kernel
theorem dX9_widthIf_49 : decode cX9_widthIf 49 = .ok (.iconst 0, 1) := by decide +kernel
theorem dX9_widthIf_50 : decode cX9_widthIf 50 = .ok (.bipush 48, 2) := by decide +kernel
theorem dX9_widthIf_52 : decode cX9_widthIf 52 = .ok (.invokestatic 159, 3) := by decide +kernel
theorem dX9_widthIf_55 : decode cX9_widthIf 55 = .ok (.aload_n 0, 1) := by decide +kernel
theorem dX9_widthIf_56 : decode cX9_widthIf 56 = .ok (.getfield 56, 3) := by decide +kernel
theorem dX9_widthIf_59 : decode cX9_widthIf 59 = .ok (.bipush 31, 2) := by decide +kernel
theorem dX9_widthIf_61 : decode cX9_widthIf 61 = .ok (.iload_n 1, 1) := by decide +kernel
theorem dX9_widthIf_62 : decode cX9_widthIf 62 = .ok (.iadd, 1) := by decide +kernel
theorem dX9_widthIf_63 : decode cX9_widthIf 63 = .ok (.iload_n 2, 1) := by decide +kernel
theorem dX9_widthIf_64 : decode cX9_widthIf 64 = .ok (.iastore, 1) := by decide +kernel
theorem dX9_widthIf_65 : decode cX9_widthIf 65 = .ok (.aload_n 0, 1) := by decide +kernel
theorem dX9_widthIf_66 : decode cX9_widthIf 66 = .ok (.getfield 56, 3) := by decide +kernel
theorem dX9_widthIf_69 : decode cX9_widthIf 69 = .ok (.bipush 34, 2) := by decide +kernel
theorem dX9_widthIf_71 : decode cX9_widthIf 71 = .ok (.iload_n 1, 1) := by decide +kernel
theorem dX9_widthIf_72 : decode cX9_widthIf 72 = .ok (.iadd, 1) := by decide +kernel
theorem dX9_widthIf_73 : decode cX9_widthIf 73 = .ok (.iconst 0, 1) := by decide +kernel
theorem dX9_widthIf_74 : decode cX9_widthIf 74 = .ok (.iastore, 1) := by decide +kernel
theorem dX9_widthIf_75 : decode cX9_widthIf 75 = .ok (.aload_n 0, 1) := by decide +kernel
theorem dX9_widthIf_76 : decode cX9_widthIf 76 = .ok (.aload_n 0, 1) := by decide +kernel
theorem dX9_widthIf_77 : decode cX9_widthIf 77 = .ok (.getfield 56, 3) := by decide +kernel
theorem dX9_widthIf_80 : decode cX9_widthIf 80 = .ok (.invokevirtual 237, 3) := by decide +kernel
theorem dX9_widthIf_83 : decode cX9_widthIf 83 = .ok (.ifCond .eq 14, 3) := by decide +kernel
theorem dX9_widthIf_86 : decode cX9_widthIf 86 = .ok (.aload_n 0, 1) := by decide +kernel
theorem dX9_widthIf_87 : decode cX9_widthIf 87 = .ok (.aload_n 0, 1) := by decide +kernel
theorem dX9_widthIf_88 : decode cX9_widthIf 88 = .ok (.getfield 56, 3) := by decide +kernel
theorem dX9_widthIf_91 : decode cX9_widthIf 91 = .ok (.invokevirtual 182, 3) := by decide +kernel
theorem dX9_widthIf_94 : decode cX9_widthIf 94 = .ok (.goto 5, 3) := by decide +kernel
theorem dX9_widthIf_97 : decode cX9_widthIf 97 = .ok (.bipush (-9), 2) := by decide +kernel
theorem dX9_widthIf_99 : decode cX9_widthIf 99 = .ok (.ireturn, 1) := by decide +kernel
theorem dX9_ahead_0 : decode cX9_ahead 0 = .ok (.aload_n 0, 1) := by decide +kernel
theorem dX9_ahead_1 : decode cX9_ahead 1 = .ok (.aload_n 0, 1) := by decide +kernel
theorem dX9_ahead_2 : decode cX9_ahead 2 = .ok (.iload_n 3, 1) := by decide +kernel
theorem dX9_ahead_3 : decode cX9_ahead 3 = .ok (.invokevirtual 173, 3) := by decide +kernel
theorem dX9_ahead_6 : decode cX9_ahead 6 = .ok (.ifCond .ne 7, 3) := by decide +kernel
theorem dX9_ahead_9 : decode cX9_ahead 9 = .ok (.iconst 1, 1) := by decide +kernel
theorem dX9_ahead_10 : decode cX9_ahead 10 = .ok (.goto 34, 3) := by decide +kernel
theorem dX9_ahead_13 : decode cX9_ahead 13 = .ok (.iload_n 1, 1) := by decide +kernel
theorem dX9_ahead_14 : decode cX9_ahead 14 = .ok (.i2l, 1) := by decide +kernel
theorem dX9_ahead_15 : decode cX9_ahead 15 = .ok (.lconst 0, 1) := by decide +kernel
theorem dX9_ahead_16 : decode cX9_ahead 16 = .ok (.ldc2_w 255, 3) := by decide +kernel
theorem dX9_ahead_19 : decode cX9_ahead 19 = .ok (.invokestatic 107, 3) := by decide +kernel
theorem dX9_ahead_22 : decode cX9_ahead 22 = .ok (.ifCond .eq 17, 3) := by decide +kernel
theorem dX9_ahead_25 : decode cX9_ahead 25 = .ok (.iload_n 2, 1) := by decide +kernel
theorem dX9_ahead_26 : decode cX9_ahead 26 = .ok (.i2l, 1) := by decide +kernel
theorem dX9_ahead_27 : decode cX9_ahead 27 = .ok (.ldc2_w 222, 3) := by decide +kernel
theorem dX9_ahead_30 : decode cX9_ahead 30 = .ok (.ldc2_w 224, 3) := by decide +kernel
theorem dX9_ahead_33 : decode cX9_ahead 33 = .ok (.invokestatic 107, 3) := by decide +kernel
theorem dX9_ahead_36 : decode cX9_ahead 36 = .ok (.ifCond .ne 7, 3) := by decide +kernel
theorem dX9_ahead_39 : decode cX9_ahead 39 = .ok (.iconst 2, 1) := by decide +kernel
theorem dX9_ahead_40 : decode cX9_ahead 40 = .ok (.goto 4, 3) := by decide +kernel
theorem dX9_ahead_43 : decode cX9_ahead 43 = .ok (.iconst 0, 1) := by decide +kernel
theorem dX9_ahead_44 : decode cX9_ahead 44 = .ok (.invokevirtual 114, 3) := by decide +kernel
theorem dX9_ahead_47 : decode cX9_ahead 47 = .ok (.ifCond .eq 5, 3) := by decide +kernel
theorem dX9_ahead_50 : decode cX9_ahead 50 = .ok (.iconst 0, 1) := by decide +kernel
theorem dX9_ahead_51 : decode cX9_ahead 51 = .ok (.ireturn, 1) := by decide +kernel
theorem dX9_ahead_52 : decode cX9_ahead 52 = .ok (.aload_n 0, 1) := by decide +kernel
theorem dX9_ahead_53 : decode cX9_ahead 53 = .ok (.getfield 53, 3) := by decide +kernel
theorem dX9_ahead_56 : decode cX9_ahead 56 = .ok (.iconst 0, 1) := by decide +kernel
theorem dX9_ahead_57 : decode cX9_ahead 57 = .ok (.aload_n 0, 1) := by decide +kernel
theorem dX9_ahead_58 : decode cX9_ahead 58 = .ok (.getfield 56, 3) := by decide +kernel
theorem dX9_ahead_61 : decode cX9_ahead 61 = .ok (.iconst 0, 1) := by decide +kernel
theorem dX9_ahead_62 : decode cX9_ahead 62 = .ok (.bipush 48, 2) := by decide +kernel
theorem dX9_ahead_64 : decode cX9_ahead 64 = .ok (.invokestatic 159, 3) := by decide +kernel
theorem dX9_ahead_67 : decode cX9_ahead 67 = .ok (.iconst 0, 1) := by decide +kernel
theorem dX9_ahead_68 : decode cX9_ahead 68 = .ok (.istore 5, 2) := by decide +kernel
theorem dX9_ahead_70 : decode cX9_ahead 70 = .ok (.iload 5, 2) := by decide +kernel
theorem dX9_ahead_72 : decode cX9_ahead 72 = .ok (.iload_n 1, 1) := by decide +kernel
theorem dX9_ahead_73 : decode cX9_ahead 73 = .ok (.if_icmp .ge 18, 3) := by decide +kernel
theorem dX9_ahead_76 : decode cX9_ahead 76 = .ok (.aload_n 0, 1) := by decide +kernel
theorem dX9_ahead_77 : decode cX9_ahead 77 = .ok (.aload_n 0, 1) := by decide +kernel
theorem dX9_ahead_78 : decode cX9_ahead 78 = .ok (.getfield 56, 3) := by decide +kernel
theorem dX9_ahead_81 : decode cX9_ahead 81 = .ok (.iload_n 2, 1) := by decide +kernel
theorem dX9_ahead_82 : decode cX9_ahead 82 = .ok (.invokevirtual 219, 3) := by decide +kernel
theorem dX9_ahead_85 : decode cX9_ahead 85 = .ok (.iinc 5 1, 3) := by decide +kernel
theorem dX9_ahead_88 : decode cX9_ahead 88 = .ok (.goto (-18), 3) := by decide +kernel
theorem dX9_ahead_91 : decode cX9_ahead 91 = .ok (.aload_n 0, 1) := by decide +kernel
theorem dX9_ahead_92 : decode cX9_ahead 92 = .ok (.getfield 56, 3) := by decide +kernel
theorem dX9_ahead_95 : decode cX9_ahead 95 = .ok (.iload 4, 2) := by decide +kernel
theorem dX9_ahead_97 : decode cX9_ahead 97 = .ok (.ifCond .eq 10, 3) := by decide +kernel
theorem dX9_ahead_100 : decode cX9_ahead 100 = .ok (.bipush 8, 2) := by decide +kernel
theorem dX9_ahead_102 : decode cX9_ahead 102 = .ok (.iload_n 3, 1) := by decide +kernel
theorem dX9_ahead_103 : decode cX9_ahead 103 = .ok (.iadd, 1) := by decide +kernel
theorem dX9_ahead_104 : decode cX9_ahead 104 = .ok (.goto 6, 3) := by decide +kernel
theorem dX9_ahead_107 : decode cX9_ahead 107 = .ok (.iconst 4, 1) := by decide +kernel
theorem dX9_ahead_108 : decode cX9_ahead 108 = .ok (.iload_n 3, 1) := by decide +kernel
theorem dX9_ahead_109 : decode cX9_ahead 109 = .ok (.iadd, 1) := by decide +kernel
theorem dX9_ahead_110 : decode cX9_ahead 110 = .ok (.iaload, 1) := by decide +kernel
theorem dX9_ahead_111 : decode cX9_ahead 111 = .ok (.ireturn, 1) := by decide +kernel
theorem dX9_earliest_0 : decode cX9_earliest 0 = .ok (.aload_n 0, 1) := by decide +kernel
theorem dX9_earliest_1 : decode cX9_earliest 1 = .ok (.aload_n 0, 1) := by decide +kernel
theorem dX9_earliest_2 : decode cX9_earliest 2 = .ok (.iload_n 1, 1) := by decide +kernel
theorem dX9_earliest_3 : decode cX9_earliest 3 = .ok (.invokevirtual 173, 3) := by decide +kernel
theorem dX9_earliest_6 : decode cX9_earliest 6 = .ok (.ifCond .ne 7, 3) := by decide +kernel
theorem dX9_earliest_9 : decode cX9_earliest 9 = .ok (.iconst 1, 1) := by decide +kernel
theorem dX9_earliest_10 : decode cX9_earliest 10 = .ok (.goto 22, 3) := by decide +kernel
theorem dX9_earliest_13 : decode cX9_earliest 13 = .ok (.iload_n 3, 1) := by decide +kernel
theorem dX9_earliest_14 : decode cX9_earliest 14 = .ok (.i2l, 1) := by decide +kernel
theorem dX9_earliest_15 : decode cX9_earliest 15 = .ok (.ldc2_w 222, 3) := by decide +kernel
theorem dX9_earliest_18 : decode cX9_earliest 18 = .ok (.ldc2_w 224, 3) := by decide +kernel
theorem dX9_earliest_21 : decode cX9_earliest 21 = .ok (.invokestatic 107, 3) := by decide +kernel
theorem dX9_earliest_24 : decode cX9_earliest 24 = .ok (.ifCond .ne 7, 3) := by decide +kernel
theorem dX9_earliest_27 : decode cX9_earliest 27 = .ok (.iconst 2, 1) := by decide +kernel
theorem dX9_earliest_28 : decode cX9_earliest 28 = .ok (.goto 4, 3) := by decide +kernel
theorem dX9_earliest_31 : decode cX9_earliest 31 = .ok (.iconst 0, 1) := by decide +kernel
theorem dX9_earliest_32 : decode cX9_earliest 32 = .ok (.invokevirtual 114, 3) := by decide +kernel
theorem dX9_earliest_35 : decode cX9_earliest 35 = .ok (.ifCond .eq 5, 3) := by decide +kernel
theorem dX9_earliest_38 : decode cX9_earliest 38 = .ok (.iconst 0, 1) := by decide +kernel
theorem dX9_earliest_39 : decode cX9_earliest 39 = .ok (.ireturn, 1) := by decide +kernel
theorem dX9_earliest_40 : decode cX9_earliest 40 = .ok (.aload_n 0, 1) := by decide +kernel
theorem dX9_earliest_41 : decode cX9_earliest 41 = .ok (.getfield 53, 3) := by decide +kernel
theorem dX9_earliest_44 : decode cX9_earliest 44 = .ok (.iconst 0, 1) := by decide +kernel
theorem dX9_earliest_45 : decode cX9_earliest 45 = .ok (.aload_n 0, 1) := by decide +kernel
theorem dX9_earliest_46 : decode cX9_earliest 46 = .ok (.getfield 56, 3) := by decide +kernel
theorem dX9_earliest_49 : decode cX9_earliest 49 = .ok (.iconst 0, 1) := by decide +kernel
theorem dX9_earliest_50 : decode cX9_earliest 50 = .ok (.bipush 48, 2) := by decide +kernel
theorem dX9_earliest_52 : decode cX9_earliest 52 = .ok (.invokestatic 159, 3) := by decide +kernel
theorem dX9_earliest_55 : decode cX9_earliest 55 = .ok (.iconst 0, 1) := by decide +kernel
theorem dX9_earliest_56 : decode cX9_earliest 56 = .ok (.istore 5, 2) := by decide +kernel
theorem dX9_earliest_58 : decode cX9_earliest 58 = .ok (.iload 5, 2) := by decide +kernel
theorem dX9_earliest_60 : decode cX9_earliest 60 = .ok (.bipush 60, 2) := by decide +kernel
theorem dX9_earliest_62 : decode cX9_earliest 62 = .ok (.if_icmp .gt 45, 3) := by decide +kernel
theorem dX9_earliest_65 : decode cX9_earliest 65 = .ok (.aload_n 0, 1) := by decide +kernel
theorem dX9_earliest_66 : decode cX9_earliest 66 = .ok (.getfield 56, 3) := by decide +kernel
theorem dX9_earliest_69 : decode cX9_earliest 69 = .ok (.iload 4, 2) := by decide +kernel
theorem dX9_earliest_71 : decode cX9_earliest 71 = .ok (.ifCond .eq 9, 3) := by decide +kernel
theorem dX9_earliest_74 : decode cX9_earliest 74 = .ok (.iconst 4, 1) := by decide +kernel
theorem dX9_earliest_75 : decode cX9_earliest 75 = .ok (.iload_n 1, 1) := by decide +kernel
theorem dX9_earliest_76 : decode cX9_earliest 76 = .ok (.iadd, 1) := by decide +kernel
theorem dX9_earliest_77 : decode cX9_earliest 77 = .ok (.goto 7, 3) := by decide +kernel
theorem dX9_earliest_80 : decode cX9_earliest 80 = .ok (.bipush 8, 2) := by decide +kernel
theorem dX9_earliest_82 : decode cX9_earliest 82 = .ok (.iload_n 1, 1) := by decide +kernel
theorem dX9_earliest_83 : decode cX9_earliest 83 = .ok (.iadd, 1) := by decide +kernel
theorem dX9_earliest_84 : decode cX9_earliest 84 = .ok (.iaload, 1) := by decide +kernel
theorem dX9_earliest_85 : decode cX9_earliest 85 = .ok (.iload_n 2, 1) := by decide +kernel
theorem dX9_earliest_86 : decode cX9_earliest 86 = .ok (.if_icmp .lt 6, 3) := by decide +kernel
theorem dX9_earliest_89 : decode cX9_earliest 89 = .ok (.iload 5, 2) := by decide +kernel
theorem dX9_earliest_91 : decode cX9_earliest 91 = .ok (.ireturn, 1) := by decide +kernel
theorem dX9_earliest_92 : decode cX9_earliest 92 = .ok (.aload_n 0, 1) := by decide +kernel
theorem dX9_earliest_93 : decode cX9_earliest 93 = .ok (.aload_n 0, 1) := by decide +kernel
theorem dX9_earliest_94 : decode cX9_earliest 94 = .ok (.getfield 56, 3) := by decide +kernel
theorem dX9_earliest_97 : decode cX9_earliest 97 = .ok (.iload_n 3, 1) := by decide +kernel
theorem dX9_earliest_98 : decode cX9_earliest 98 = .ok (.invokevirtual 219, 3) := by decide +kernel
theorem dX9_earliest_101 : decode cX9_earliest 101 = .ok (.iinc 5 1, 3) := by decide +kernel
theorem dX9_earliest_104 : decode cX9_earliest 104 = .ok (.goto (-46), 3) := by decide +kernel
theorem dX9_earliest_107 : decode cX9_earliest 107 = .ok (.bipush (-9), 2) := by decide +kernel
theorem dX9_earliest_109 : decode cX9_earliest 109 = .ok (.ireturn, 1) := by decide +kernel
theorem dX9_mayPush_0 : decode cX9_mayPush 0 = .ok (.iconst 1, 1) := by decide +kernel
theorem dX9_mayPush_1 : decode cX9_mayPush 1 = .ok (.istore_n 2, 1) := by decide +kernel
theorem dX9_mayPush_2 : decode cX9_mayPush 2 = .ok (.iconst 0, 1) := by decide +kernel
theorem dX9_mayPush_3 : decode cX9_mayPush 3 = .ok (.istore_n 3, 1) := by decide +kernel
theorem dX9_mayPush_4 : decode cX9_mayPush 4 = .ok (.iload_n 3, 1) := by decide +kernel
theorem dX9_mayPush_5 : decode cX9_mayPush 5 = .ok (.aload_n 0, 1) := by decide +kernel
theorem dX9_mayPush_6 : decode cX9_mayPush 6 = .ok (.getfield 13, 3) := by decide +kernel
theorem dX9_mayPush_9 : decode cX9_mayPush 9 = .ok (.if_icmp .ge 137, 3) := by decide +kernel
theorem dX9_mayPush_12 : decode cX9_mayPush 12 = .ok (.aload_n 0, 1) := by decide +kernel
theorem dX9_mayPush_13 : decode cX9_mayPush 13 = .ok (.getfield 23, 3) := by decide +kernel
theorem dX9_mayPush_16 : decode cX9_mayPush 16 = .ok (.iload_n 3, 1) := by decide +kernel
theorem dX9_mayPush_17 : decode cX9_mayPush 17 = .ok (.iaload, 1) := by decide +kernel
theorem dX9_mayPush_18 : decode cX9_mayPush 18 = .ok (.aload_n 0, 1) := by decide +kernel
theorem dX9_mayPush_19 : decode cX9_mayPush 19 = .ok (.getfield 53, 3) := by decide +kernel
theorem dX9_mayPush_22 : decode cX9_mayPush 22 = .ok (.bipush 38, 2) := by decide +kernel
theorem dX9_mayPush_24 : decode cX9_mayPush 24 = .ok (.iaload, 1) := by decide +kernel
theorem dX9_mayPush_25 : decode cX9_mayPush 25 = .ok (.imul, 1) := by decide +kernel
theorem dX9_mayPush_26 : decode cX9_mayPush 26 = .ok (.istore 4, 2) := by decide +kernel
theorem dX9_mayPush_28 : decode cX9_mayPush 28 = .ok (.iload_n 2, 1) := by decide +kernel
theorem dX9_mayPush_29 : decode cX9_mayPush 29 = .ok (.ifCond .eq 109, 3) := by decide +kernel
theorem dX9_mayPush_32 : decode cX9_mayPush 32 = .ok (.aload_n 0, 1) := by decide +kernel
theorem dX9_mayPush_33 : decode cX9_mayPush 33 = .ok (.getfield 26, 3) := by decide +kernel
theorem dX9_mayPush_36 : decode cX9_mayPush 36 = .ok (.iload_n 3, 1) := by decide +kernel
theorem dX9_mayPush_37 : decode cX9_mayPush 37 = .ok (.iaload, 1) := by decide +kernel
theorem dX9_mayPush_38 : decode cX9_mayPush 38 = .ok (.ifCond .eq 96, 3) := by decide +kernel
theorem dX9_mayPush_41 : decode cX9_mayPush 41 = .ok (.aload_n 0, 1) := by decide +kernel
theorem dX9_mayPush_42 : decode cX9_mayPush 42 = .ok (.getfield 53, 3) := by decide +kernel
theorem dX9_mayPush_45 : decode cX9_mayPush 45 = .ok (.iconst 4, 1) := by decide +kernel
theorem dX9_mayPush_46 : decode cX9_mayPush 46 = .ok (.iload_n 3, 1) := by decide +kernel
theorem dX9_mayPush_47 : decode cX9_mayPush 47 = .ok (.iadd, 1) := by decide +kernel
theorem dX9_mayPush_48 : decode cX9_mayPush 48 = .ok (.iaload, 1) := by decide +kernel
theorem dX9_mayPush_49 : decode cX9_mayPush 49 = .ok (.ldc_w 257, 3) := by decide +kernel
theorem dX9_mayPush_52 : decode cX9_mayPush 52 = .ok (.if_icmp .eq 35, 3) := by decide +kernel
theorem dX9_mayPush_55 : decode cX9_mayPush 55 = .ok (.aload_n 0, 1) := by decide +kernel
theorem dX9_mayPush_56 : decode cX9_mayPush 56 = .ok (.getfield 26, 3) := by decide +kernel
theorem dX9_mayPush_59 : decode cX9_mayPush 59 = .ok (.iload_n 3, 1) := by decide +kernel
theorem dX9_mayPush_60 : decode cX9_mayPush 60 = .ok (.iaload, 1) := by decide +kernel
theorem dX9_mayPush_61 : decode cX9_mayPush 61 = .ok (.iload_n 1, 1) := by decide +kernel
theorem dX9_mayPush_62 : decode cX9_mayPush 62 = .ok (.imul, 1) := by decide +kernel
theorem dX9_mayPush_63 : decode cX9_mayPush 63 = .ok (.aload_n 0, 1) := by decide +kernel
theorem dX9_mayPush_64 : decode cX9_mayPush 64 = .ok (.getfield 53, 3) := by decide +kernel
theorem dX9_mayPush_67 : decode cX9_mayPush 67 = .ok (.iconst 4, 1) := by decide +kernel
theorem dX9_mayPush_68 : decode cX9_mayPush 68 = .ok (.iload_n 3, 1) := by decide +kernel
theorem dX9_mayPush_69 : decode cX9_mayPush 69 = .ok (.iadd, 1) := by decide +kernel
theorem dX9_mayPush_70 : decode cX9_mayPush 70 = .ok (.iaload, 1) := by decide +kernel
theorem dX9_mayPush_71 : decode cX9_mayPush 71 = .ok (.iload 4, 2) := by decide +kernel
theorem dX9_mayPush_73 : decode cX9_mayPush 73 = .ok (.isub, 1) := by decide +kernel
theorem dX9_mayPush_74 : decode cX9_mayPush 74 = .ok (.aload_n 0, 1) := by decide +kernel
theorem dX9_mayPush_75 : decode cX9_mayPush 75 = .ok (.getfield 53, 3) := by decide +kernel
theorem dX9_mayPush_78 : decode cX9_mayPush 78 = .ok (.bipush 44, 2) := by decide +kernel
theorem dX9_mayPush_80 : decode cX9_mayPush 80 = .ok (.iload_n 3, 1) := by decide +kernel
theorem dX9_mayPush_81 : decode cX9_mayPush 81 = .ok (.iadd, 1) := by decide +kernel
theorem dX9_mayPush_82 : decode cX9_mayPush 82 = .ok (.iaload, 1) := by decide +kernel
theorem dX9_mayPush_83 : decode cX9_mayPush 83 = .ok (.isub, 1) := by decide +kernel
theorem dX9_mayPush_84 : decode cX9_mayPush 84 = .ok (.if_icmp .lt 54, 3) := by decide +kernel
theorem dX9_mayPush_87 : decode cX9_mayPush 87 = .ok (.aload_n 0, 1) := by decide +kernel
theorem dX9_mayPush_88 : decode cX9_mayPush 88 = .ok (.getfield 53, 3) := by decide +kernel
theorem dX9_mayPush_91 : decode cX9_mayPush 91 = .ok (.bipush 8, 2) := by decide +kernel
theorem dX9_mayPush_93 : decode cX9_mayPush 93 = .ok (.iload_n 3, 1) := by decide +kernel
theorem dX9_mayPush_94 : decode cX9_mayPush 94 = .ok (.iadd, 1) := by decide +kernel
theorem dX9_mayPush_95 : decode cX9_mayPush 95 = .ok (.iaload, 1) := by decide +kernel
theorem dX9_mayPush_96 : decode cX9_mayPush 96 = .ok (.ldc 214, 2) := by decide +kernel
theorem dX9_mayPush_98 : decode cX9_mayPush 98 = .ok (.if_icmp .eq 36, 3) := by decide +kernel
theorem dX9_mayPush_101 : decode cX9_mayPush 101 = .ok (.aload_n 0, 1) := by decide +kernel
theorem dX9_mayPush_102 : decode cX9_mayPush 102 = .ok (.getfield 26, 3) := by decide +kernel
theorem dX9_mayPush_105 : decode cX9_mayPush 105 = .ok (.iload_n 3, 1) := by decide +kernel
theorem dX9_mayPush_106 : decode cX9_mayPush 106 = .ok (.iaload, 1) := by decide +kernel
theorem dX9_mayPush_107 : decode cX9_mayPush 107 = .ok (.iload_n 1, 1) := by decide +kernel
theorem dX9_mayPush_108 : decode cX9_mayPush 108 = .ok (.imul, 1) := by decide +kernel
theorem dX9_mayPush_109 : decode cX9_mayPush 109 = .ok (.aload_n 0, 1) := by decide +kernel
theorem dX9_mayPush_110 : decode cX9_mayPush 110 = .ok (.getfield 53, 3) := by decide +kernel
theorem dX9_mayPush_113 : decode cX9_mayPush 113 = .ok (.bipush 8, 2) := by decide +kernel
theorem dX9_mayPush_115 : decode cX9_mayPush 115 = .ok (.iload_n 3, 1) := by decide +kernel
theorem dX9_mayPush_116 : decode cX9_mayPush 116 = .ok (.iadd, 1) := by decide +kernel
theorem dX9_mayPush_117 : decode cX9_mayPush 117 = .ok (.iaload, 1) := by decide +kernel
theorem dX9_mayPush_118 : decode cX9_mayPush 118 = .ok (.iload 4, 2) := by decide +kernel
theorem dX9_mayPush_120 : decode cX9_mayPush 120 = .ok (.isub, 1) := by decide +kernel
theorem dX9_mayPush_121 : decode cX9_mayPush 121 = .ok (.aload_n 0, 1) := by decide +kernel
theorem dX9_mayPush_122 : decode cX9_mayPush 122 = .ok (.getfield 53, 3) := by decide +kernel
theorem dX9_mayPush_125 : decode cX9_mayPush 125 = .ok (.bipush 40, 2) := by decide +kernel
theorem dX9_mayPush_127 : decode cX9_mayPush 127 = .ok (.iload_n 3, 1) := by decide +kernel
theorem dX9_mayPush_128 : decode cX9_mayPush 128 = .ok (.iadd, 1) := by decide +kernel
theorem dX9_mayPush_129 : decode cX9_mayPush 129 = .ok (.iaload, 1) := by decide +kernel
theorem dX9_mayPush_130 : decode cX9_mayPush 130 = .ok (.isub, 1) := by decide +kernel
theorem dX9_mayPush_131 : decode cX9_mayPush 131 = .ok (.if_icmp .gt 7, 3) := by decide +kernel
theorem dX9_mayPush_134 : decode cX9_mayPush 134 = .ok (.iconst 1, 1) := by decide +kernel
theorem dX9_mayPush_135 : decode cX9_mayPush 135 = .ok (.goto 4, 3) := by decide +kernel
theorem dX9_mayPush_138 : decode cX9_mayPush 138 = .ok (.iconst 0, 1) := by decide +kernel
theorem dX9_mayPush_139 : decode cX9_mayPush 139 = .ok (.istore_n 2, 1) := by decide +kernel
theorem dX9_mayPush_140 : decode cX9_mayPush 140 = .ok (.iinc 3 1, 3) := by decide +kernel
theorem dX9_mayPush_143 : decode cX9_mayPush 143 = .ok (.goto (-139), 3) := by decide +kernel
theorem dX9_mayPush_146 : decode cX9_mayPush 146 = .ok (.iload_n 2, 1) := by decide +kernel
theorem dX9_mayPush_147 : decode cX9_mayPush 147 = .ok (.ireturn, 1) := by decide +kernel
theorem dX9_unknown_0 : decode cX9_unknown 0 = .ok (.iconst 0, 1) := by decide +kernel
theorem dX9_unknown_1 : decode cX9_unknown 1 = .ok (.istore_n 2, 1) := by decide +kernel
theorem dX9_unknown_2 : decode cX9_unknown 2 = .ok (.iconst 0, 1) := by decide +kernel
theorem dX9_unknown_3 : decode cX9_unknown 3 = .ok (.istore_n 3, 1) := by decide +kernel
theorem dX9_unknown_4 : decode cX9_unknown 4 = .ok (.aload_n 0, 1) := by decide +kernel
theorem dX9_unknown_5 : decode cX9_unknown 5 = .ok (.getfield 53, 3) := by decide +kernel
theorem dX9_unknown_8 : decode cX9_unknown 8 = .ok (.bipush 39, 2) := by decide +kernel
theorem dX9_unknown_10 : decode cX9_unknown 10 = .ok (.iaload, 1) := by decide +kernel
theorem dX9_unknown_11 : decode cX9_unknown 11 = .ok (.ineg, 1) := by decide +kernel
theorem dX9_unknown_12 : decode cX9_unknown 12 = .ok (.istore 4, 2) := by decide +kernel
theorem dX9_unknown_14 : decode cX9_unknown 14 = .ok (.iload 4, 2) := by decide +kernel
theorem dX9_unknown_16 : decode cX9_unknown 16 = .ok (.aload_n 0, 1) := by decide +kernel
theorem dX9_unknown_17 : decode cX9_unknown 17 = .ok (.getfield 53, 3) := by decide +kernel
theorem dX9_unknown_20 : decode cX9_unknown 20 = .ok (.bipush 39, 2) := by decide +kernel
theorem dX9_unknown_22 : decode cX9_unknown 22 = .ok (.iaload, 1) := by decide +kernel
theorem dX9_unknown_23 : decode cX9_unknown 23 = .ok (.if_icmp .gt 42, 3) := by decide +kernel
theorem dX9_unknown_26 : decode cX9_unknown 26 = .ok (.aload_n 0, 1) := by decide +kernel
theorem dX9_unknown_27 : decode cX9_unknown 27 = .ok (.getfield 53, 3) := by decide +kernel
theorem dX9_unknown_30 : decode cX9_unknown 30 = .ok (.bipush 37, 2) := by decide +kernel
theorem dX9_unknown_32 : decode cX9_unknown 32 = .ok (.iaload, 1) := by decide +kernel
theorem dX9_unknown_33 : decode cX9_unknown 33 = .ok (.iconst 1, 1) := by decide +kernel
theorem dX9_unknown_34 : decode cX9_unknown 34 = .ok (.if_icmp .ne 31, 3) := by decide +kernel
theorem dX9_unknown_37 : decode cX9_unknown 37 = .ok (.aload_n 0, 1) := by decide +kernel
theorem dX9_unknown_38 : decode cX9_unknown 38 = .ok (.iload 4, 2) := by decide +kernel
theorem dX9_unknown_40 : decode cX9_unknown 40 = .ok (.invokevirtual 258, 3) := by decide +kernel
theorem dX9_unknown_43 : decode cX9_unknown 43 = .ok (.ifCond .eq 16, 3) := by decide +kernel
theorem dX9_unknown_46 : decode cX9_unknown 46 = .ok (.iload_n 1, 1) := by decide +kernel
theorem dX9_unknown_47 : decode cX9_unknown 47 = .ok (.ifCond .ne 7, 3) := by decide +kernel
theorem dX9_unknown_50 : decode cX9_unknown 50 = .ok (.iload_n 3, 1) := by decide +kernel
theorem dX9_unknown_51 : decode cX9_unknown 51 = .ok (.ifCond .ne 8, 3) := by decide +kernel
theorem dX9_unknown_54 : decode cX9_unknown 54 = .ok (.iload 4, 2) := by decide +kernel
theorem dX9_unknown_56 : decode cX9_unknown 56 = .ok (.istore_n 2, 1) := by decide +kernel
theorem dX9_unknown_57 : decode cX9_unknown 57 = .ok (.iconst 1, 1) := by decide +kernel
theorem dX9_unknown_58 : decode cX9_unknown 58 = .ok (.istore_n 3, 1) := by decide +kernel
theorem dX9_unknown_59 : decode cX9_unknown 59 = .ok (.iinc 4 1, 3) := by decide +kernel
theorem dX9_unknown_62 : decode cX9_unknown 62 = .ok (.goto (-48), 3) := by decide +kernel
theorem dX9_unknown_65 : decode cX9_unknown 65 = .ok (.aload_n 0, 1) := by decide +kernel
theorem dX9_unknown_66 : decode cX9_unknown 66 = .ok (.iload_n 3, 1) := by decide +kernel
theorem dX9_unknown_67 : decode cX9_unknown 67 = .ok (.ifCond .eq 7, 3) := by decide +kernel
theorem dX9_unknown_70 : decode cX9_unknown 70 = .ok (.iconst 0, 1) := by decide +kernel
theorem dX9_unknown_71 : decode cX9_unknown 71 = .ok (.goto 4, 3) := by decide +kernel
theorem dX9_unknown_74 : decode cX9_unknown 74 = .ok (.iconst 1, 1) := by decide +kernel
theorem dX9_unknown_75 : decode cX9_unknown 75 = .ok (.invokevirtual 114, 3) := by decide +kernel
theorem dX9_unknown_78 : decode cX9_unknown 78 = .ok (.ifCond .eq 7, 3) := by decide +kernel
theorem dX9_unknown_81 : decode cX9_unknown 81 = .ok (.iconst 0, 1) := by decide +kernel
theorem dX9_unknown_82 : decode cX9_unknown 82 = .ok (.goto 4, 3) := by decide +kernel
theorem dX9_unknown_85 : decode cX9_unknown 85 = .ok (.iload_n 2, 1) := by decide +kernel
theorem dX9_unknown_86 : decode cX9_unknown 86 = .ok (.ireturn, 1) := by decide +kernel
theorem dX9_residue_0 : decode cX9_residue 0 = .ok (.lload_n 0, 1) := by decide +kernel
theorem dX9_residue_1 : decode cX9_residue 1 = .ok (.ldc2_w 261, 3) := by decide +kernel
theorem dX9_residue_4 : decode cX9_residue 4 = .ok (.lrem, 1) := by decide +kernel
theorem dX9_residue_5 : decode cX9_residue 5 = .ok (.lstore_n 2, 1) := by decide +kernel
theorem dX9_residue_6 : decode cX9_residue 6 = .ok (.lload_n 2, 1) := by decide +kernel
theorem dX9_residue_7 : decode cX9_residue 7 = .ok (.lconst 0, 1) := by decide +kernel
theorem dX9_residue_8 : decode cX9_residue 8 = .ok (.lcmp, 1) := by decide +kernel
theorem dX9_residue_9 : decode cX9_residue 9 = .ok (.ifCond .ge 11, 3) := by decide +kernel
theorem dX9_residue_12 : decode cX9_residue 12 = .ok (.lload_n 2, 1) := by decide +kernel
theorem dX9_residue_13 : decode cX9_residue 13 = .ok (.ldc2_w 261, 3) := by decide +kernel
theorem dX9_residue_16 : decode cX9_residue 16 = .ok (.ladd, 1) := by decide +kernel
theorem dX9_residue_17 : decode cX9_residue 17 = .ok (.goto 4, 3) := by decide +kernel
theorem dX9_residue_20 : decode cX9_residue 20 = .ok (.lload_n 2, 1) := by decide +kernel
theorem dX9_residue_21 : decode cX9_residue 21 = .ok (.lreturn, 1) := by decide +kernel
theorem dX9_inverse_0 : decode cX9_inverse 0 = .ok (.lconst 1, 1) := by decide +kernel
theorem dX9_inverse_1 : decode cX9_inverse 1 = .ok (.lstore_n 2, 1) := by decide +kernel
theorem dX9_inverse_2 : decode cX9_inverse 2 = .ok (.lload_n 0, 1) := by decide +kernel
theorem dX9_inverse_3 : decode cX9_inverse 3 = .ok (.lstore 4, 2) := by decide +kernel
theorem dX9_inverse_5 : decode cX9_inverse 5 = .ok (.ldc2_w 263, 3) := by decide +kernel
theorem dX9_inverse_8 : decode cX9_inverse 8 = .ok (.lstore 6, 2) := by decide +kernel
theorem dX9_inverse_10 : decode cX9_inverse 10 = .ok (.lload 6, 2) := by decide +kernel
theorem dX9_inverse_12 : decode cX9_inverse 12 = .ok (.lconst 0, 1) := by decide +kernel
theorem dX9_inverse_13 : decode cX9_inverse 13 = .ok (.lcmp, 1) := by decide +kernel
theorem dX9_inverse_14 : decode cX9_inverse 14 = .ok (.ifCond .le 49, 3) := by decide +kernel
theorem dX9_inverse_17 : decode cX9_inverse 17 = .ok (.lload 6, 2) := by decide +kernel
theorem dX9_inverse_19 : decode cX9_inverse 19 = .ok (.ldc2_w 265, 3) := by decide +kernel
theorem dX9_inverse_22 : decode cX9_inverse 22 = .ok (.lrem, 1) := by decide +kernel
theorem dX9_inverse_23 : decode cX9_inverse 23 = .ok (.lconst 1, 1) := by decide +kernel
theorem dX9_inverse_24 : decode cX9_inverse 24 = .ok (.lcmp, 1) := by decide +kernel
theorem dX9_inverse_25 : decode cX9_inverse 25 = .ok (.ifCond .ne 14, 3) := by decide +kernel
theorem dX9_inverse_28 : decode cX9_inverse 28 = .ok (.lload_n 2, 1) := by decide +kernel
theorem dX9_inverse_29 : decode cX9_inverse 29 = .ok (.lload 4, 2) := by decide +kernel
theorem dX9_inverse_31 : decode cX9_inverse 31 = .ok (.lmul, 1) := by decide +kernel
theorem dX9_inverse_32 : decode cX9_inverse 32 = .ok (.ldc2_w 261, 3) := by decide +kernel
theorem dX9_inverse_35 : decode cX9_inverse 35 = .ok (.lrem, 1) := by decide +kernel
theorem dX9_inverse_36 : decode cX9_inverse 36 = .ok (.goto 4, 3) := by decide +kernel
theorem dX9_inverse_39 : decode cX9_inverse 39 = .ok (.lload_n 2, 1) := by decide +kernel
theorem dX9_inverse_40 : decode cX9_inverse 40 = .ok (.lstore_n 2, 1) := by decide +kernel
theorem dX9_inverse_41 : decode cX9_inverse 41 = .ok (.lload 4, 2) := by decide +kernel
theorem dX9_inverse_43 : decode cX9_inverse 43 = .ok (.lload 4, 2) := by decide +kernel
theorem dX9_inverse_45 : decode cX9_inverse 45 = .ok (.lmul, 1) := by decide +kernel
theorem dX9_inverse_46 : decode cX9_inverse 46 = .ok (.ldc2_w 261, 3) := by decide +kernel
theorem dX9_inverse_49 : decode cX9_inverse 49 = .ok (.lrem, 1) := by decide +kernel
theorem dX9_inverse_50 : decode cX9_inverse 50 = .ok (.lstore 4, 2) := by decide +kernel
theorem dX9_inverse_52 : decode cX9_inverse 52 = .ok (.lload 6, 2) := by decide +kernel
theorem dX9_inverse_54 : decode cX9_inverse 54 = .ok (.ldc2_w 265, 3) := by decide +kernel
theorem dX9_inverse_57 : decode cX9_inverse 57 = .ok (.ldiv, 1) := by decide +kernel
theorem dX9_inverse_58 : decode cX9_inverse 58 = .ok (.lstore 6, 2) := by decide +kernel
theorem dX9_inverse_60 : decode cX9_inverse 60 = .ok (.goto (-50), 3) := by decide +kernel
theorem dX9_inverse_63 : decode cX9_inverse 63 = .ok (.lload_n 2, 1) := by decide +kernel
theorem dX9_inverse_64 : decode cX9_inverse 64 = .ok (.lreturn, 1) := by decide +kernel
theorem dX9_eliminate_0 : decode cX9_eliminate 0 = .ok (.iconst 0, 1) := by decide +kernel
theorem dX9_eliminate_1 : decode cX9_eliminate 1 = .ok (.istore_n 2, 1) := by decide +kernel
theorem dX9_eliminate_2 : decode cX9_eliminate 2 = .ok (.iconst 0, 1) := by decide +kernel
theorem dX9_eliminate_3 : decode cX9_eliminate 3 = .ok (.istore_n 3, 1) := by decide +kernel
theorem dX9_eliminate_4 : decode cX9_eliminate 4 = .ok (.iload_n 3, 1) := by decide +kernel
theorem dX9_eliminate_5 : decode cX9_eliminate 5 = .ok (.iconst 4, 1) := by decide +kernel
theorem dX9_eliminate_6 : decode cX9_eliminate 6 = .ok (.if_icmp .ge 198, 3) := by decide +kernel
theorem dX9_eliminate_9 : decode cX9_eliminate 9 = .ok (.iload_n 2, 1) := by decide +kernel
theorem dX9_eliminate_10 : decode cX9_eliminate 10 = .ok (.istore 4, 2) := by decide +kernel
theorem dX9_eliminate_12 : decode cX9_eliminate 12 = .ok (.iload 4, 2) := by decide +kernel
theorem dX9_eliminate_14 : decode cX9_eliminate 14 = .ok (.iload_n 1, 1) := by decide +kernel
theorem dX9_eliminate_15 : decode cX9_eliminate 15 = .ok (.if_icmp .ge 22, 3) := by decide +kernel
theorem dX9_eliminate_18 : decode cX9_eliminate 18 = .ok (.aload_n 0, 1) := by decide +kernel
theorem dX9_eliminate_19 : decode cX9_eliminate 19 = .ok (.iconst 4, 1) := by decide +kernel
theorem dX9_eliminate_20 : decode cX9_eliminate 20 = .ok (.iload 4, 2) := by decide +kernel
theorem dX9_eliminate_22 : decode cX9_eliminate 22 = .ok (.imul, 1) := by decide +kernel
theorem dX9_eliminate_23 : decode cX9_eliminate 23 = .ok (.iload_n 3, 1) := by decide +kernel
theorem dX9_eliminate_24 : decode cX9_eliminate 24 = .ok (.iadd, 1) := by decide +kernel
theorem dX9_eliminate_25 : decode cX9_eliminate 25 = .ok (.laload, 1) := by decide +kernel
theorem dX9_eliminate_26 : decode cX9_eliminate 26 = .ok (.lconst 0, 1) := by decide +kernel
theorem dX9_eliminate_27 : decode cX9_eliminate 27 = .ok (.lcmp, 1) := by decide +kernel
theorem dX9_eliminate_28 : decode cX9_eliminate 28 = .ok (.ifCond .ne 9, 3) := by decide +kernel
theorem dX9_eliminate_31 : decode cX9_eliminate 31 = .ok (.iinc 4 1, 3) := by decide +kernel
theorem dX9_eliminate_34 : decode cX9_eliminate 34 = .ok (.goto (-22), 3) := by decide +kernel
theorem dX9_eliminate_37 : decode cX9_eliminate 37 = .ok (.iload 4, 2) := by decide +kernel
theorem dX9_eliminate_39 : decode cX9_eliminate 39 = .ok (.iload_n 1, 1) := by decide +kernel
theorem dX9_eliminate_40 : decode cX9_eliminate 40 = .ok (.if_icmp .ge 158, 3) := by decide +kernel
theorem dX9_eliminate_43 : decode cX9_eliminate 43 = .ok (.aload_n 0, 1) := by decide +kernel
theorem dX9_eliminate_44 : decode cX9_eliminate 44 = .ok (.iconst 4, 1) := by decide +kernel
theorem dX9_eliminate_45 : decode cX9_eliminate 45 = .ok (.iload 4, 2) := by decide +kernel
theorem dX9_eliminate_47 : decode cX9_eliminate 47 = .ok (.imul, 1) := by decide +kernel
theorem dX9_eliminate_48 : decode cX9_eliminate 48 = .ok (.iload_n 3, 1) := by decide +kernel
theorem dX9_eliminate_49 : decode cX9_eliminate 49 = .ok (.iadd, 1) := by decide +kernel
theorem dX9_eliminate_50 : decode cX9_eliminate 50 = .ok (.laload, 1) := by decide +kernel
theorem dX9_eliminate_51 : decode cX9_eliminate 51 = .ok (.invokestatic 267, 3) := by decide +kernel
theorem dX9_eliminate_54 : decode cX9_eliminate 54 = .ok (.lstore 5, 2) := by decide +kernel
theorem dX9_eliminate_56 : decode cX9_eliminate 56 = .ok (.iconst 0, 1) := by decide +kernel
theorem dX9_eliminate_57 : decode cX9_eliminate 57 = .ok (.istore 7, 2) := by decide +kernel
theorem dX9_eliminate_59 : decode cX9_eliminate 59 = .ok (.iload 7, 2) := by decide +kernel
theorem dX9_eliminate_61 : decode cX9_eliminate 61 = .ok (.iconst 4, 1) := by decide +kernel
theorem dX9_eliminate_62 : decode cX9_eliminate 62 = .ok (.if_icmp .ge 54, 3) := by decide +kernel
theorem dX9_eliminate_65 : decode cX9_eliminate 65 = .ok (.aload_n 0, 1) := by decide +kernel
theorem dX9_eliminate_66 : decode cX9_eliminate 66 = .ok (.iconst 4, 1) := by decide +kernel
theorem dX9_eliminate_67 : decode cX9_eliminate 67 = .ok (.iload 4, 2) := by decide +kernel
theorem dX9_eliminate_69 : decode cX9_eliminate 69 = .ok (.imul, 1) := by decide +kernel
theorem dX9_eliminate_70 : decode cX9_eliminate 70 = .ok (.iload 7, 2) := by decide +kernel
theorem dX9_eliminate_72 : decode cX9_eliminate 72 = .ok (.iadd, 1) := by decide +kernel
theorem dX9_eliminate_73 : decode cX9_eliminate 73 = .ok (.laload, 1) := by decide +kernel
theorem dX9_eliminate_74 : decode cX9_eliminate 74 = .ok (.lstore 8, 2) := by decide +kernel
theorem dX9_eliminate_76 : decode cX9_eliminate 76 = .ok (.aload_n 0, 1) := by decide +kernel
theorem dX9_eliminate_77 : decode cX9_eliminate 77 = .ok (.iconst 4, 1) := by decide +kernel
theorem dX9_eliminate_78 : decode cX9_eliminate 78 = .ok (.iload 4, 2) := by decide +kernel
theorem dX9_eliminate_80 : decode cX9_eliminate 80 = .ok (.imul, 1) := by decide +kernel
theorem dX9_eliminate_81 : decode cX9_eliminate 81 = .ok (.iload 7, 2) := by decide +kernel
theorem dX9_eliminate_83 : decode cX9_eliminate 83 = .ok (.iadd, 1) := by decide +kernel
theorem dX9_eliminate_84 : decode cX9_eliminate 84 = .ok (.aload_n 0, 1) := by decide +kernel
theorem dX9_eliminate_85 : decode cX9_eliminate 85 = .ok (.iconst 4, 1) := by decide +kernel
theorem dX9_eliminate_86 : decode cX9_eliminate 86 = .ok (.iload_n 2, 1) := by decide +kernel
theorem dX9_eliminate_87 : decode cX9_eliminate 87 = .ok (.imul, 1) := by decide +kernel
theorem dX9_eliminate_88 : decode cX9_eliminate 88 = .ok (.iload 7, 2) := by decide +kernel
theorem dX9_eliminate_90 : decode cX9_eliminate 90 = .ok (.iadd, 1) := by decide +kernel
theorem dX9_eliminate_91 : decode cX9_eliminate 91 = .ok (.laload, 1) := by decide +kernel
theorem dX9_eliminate_92 : decode cX9_eliminate 92 = .ok (.lastore, 1) := by decide +kernel
theorem dX9_eliminate_93 : decode cX9_eliminate 93 = .ok (.aload_n 0, 1) := by decide +kernel
theorem dX9_eliminate_94 : decode cX9_eliminate 94 = .ok (.iconst 4, 1) := by decide +kernel
theorem dX9_eliminate_95 : decode cX9_eliminate 95 = .ok (.iload_n 2, 1) := by decide +kernel
theorem dX9_eliminate_96 : decode cX9_eliminate 96 = .ok (.imul, 1) := by decide +kernel
theorem dX9_eliminate_97 : decode cX9_eliminate 97 = .ok (.iload 7, 2) := by decide +kernel
theorem dX9_eliminate_99 : decode cX9_eliminate 99 = .ok (.iadd, 1) := by decide +kernel
theorem dX9_eliminate_100 : decode cX9_eliminate 100 = .ok (.lload 8, 2) := by decide +kernel
theorem dX9_eliminate_102 : decode cX9_eliminate 102 = .ok (.lload 5, 2) := by decide +kernel
theorem dX9_eliminate_104 : decode cX9_eliminate 104 = .ok (.lmul, 1) := by decide +kernel
theorem dX9_eliminate_105 : decode cX9_eliminate 105 = .ok (.ldc2_w 261, 3) := by decide +kernel
theorem dX9_eliminate_108 : decode cX9_eliminate 108 = .ok (.lrem, 1) := by decide +kernel
theorem dX9_eliminate_109 : decode cX9_eliminate 109 = .ok (.lastore, 1) := by decide +kernel
theorem dX9_eliminate_110 : decode cX9_eliminate 110 = .ok (.iinc 7 1, 3) := by decide +kernel
theorem dX9_eliminate_113 : decode cX9_eliminate 113 = .ok (.goto (-54), 3) := by decide +kernel
theorem dX9_eliminate_116 : decode cX9_eliminate 116 = .ok (.iconst 0, 1) := by decide +kernel
theorem dX9_eliminate_117 : decode cX9_eliminate 117 = .ok (.istore 7, 2) := by decide +kernel
theorem dX9_eliminate_119 : decode cX9_eliminate 119 = .ok (.iload 7, 2) := by decide +kernel
theorem dX9_eliminate_121 : decode cX9_eliminate 121 = .ok (.iload_n 1, 1) := by decide +kernel
theorem dX9_eliminate_122 : decode cX9_eliminate 122 = .ok (.if_icmp .ge 73, 3) := by decide +kernel
theorem dX9_eliminate_125 : decode cX9_eliminate 125 = .ok (.aload_n 0, 1) := by decide +kernel
theorem dX9_eliminate_126 : decode cX9_eliminate 126 = .ok (.iconst 4, 1) := by decide +kernel
theorem dX9_eliminate_127 : decode cX9_eliminate 127 = .ok (.iload 7, 2) := by decide +kernel
theorem dX9_eliminate_129 : decode cX9_eliminate 129 = .ok (.imul, 1) := by decide +kernel
theorem dX9_eliminate_130 : decode cX9_eliminate 130 = .ok (.iload_n 3, 1) := by decide +kernel
theorem dX9_eliminate_131 : decode cX9_eliminate 131 = .ok (.iadd, 1) := by decide +kernel
theorem dX9_eliminate_132 : decode cX9_eliminate 132 = .ok (.laload, 1) := by decide +kernel
theorem dX9_eliminate_133 : decode cX9_eliminate 133 = .ok (.lstore 8, 2) := by decide +kernel
theorem dX9_eliminate_135 : decode cX9_eliminate 135 = .ok (.iconst 0, 1) := by decide +kernel
theorem dX9_eliminate_136 : decode cX9_eliminate 136 = .ok (.istore 10, 2) := by decide +kernel
theorem dX9_eliminate_138 : decode cX9_eliminate 138 = .ok (.iload 10, 2) := by decide +kernel
theorem dX9_eliminate_140 : decode cX9_eliminate 140 = .ok (.iconst 4, 1) := by decide +kernel
theorem dX9_eliminate_141 : decode cX9_eliminate 141 = .ok (.if_icmp .ge 48, 3) := by decide +kernel
theorem dX9_eliminate_144 : decode cX9_eliminate 144 = .ok (.iload 7, 2) := by decide +kernel
theorem dX9_eliminate_146 : decode cX9_eliminate 146 = .ok (.iload_n 2, 1) := by decide +kernel
theorem dX9_eliminate_147 : decode cX9_eliminate 147 = .ok (.if_icmp .eq 42, 3) := by decide +kernel
theorem dX9_eliminate_150 : decode cX9_eliminate 150 = .ok (.aload_n 0, 1) := by decide +kernel
theorem dX9_eliminate_151 : decode cX9_eliminate 151 = .ok (.iconst 4, 1) := by decide +kernel
theorem dX9_eliminate_152 : decode cX9_eliminate 152 = .ok (.iload 7, 2) := by decide +kernel
theorem dX9_eliminate_154 : decode cX9_eliminate 154 = .ok (.imul, 1) := by decide +kernel
theorem dX9_eliminate_155 : decode cX9_eliminate 155 = .ok (.iload 10, 2) := by decide +kernel
theorem dX9_eliminate_157 : decode cX9_eliminate 157 = .ok (.iadd, 1) := by decide +kernel
theorem dX9_eliminate_158 : decode cX9_eliminate 158 = .ok (.aload_n 0, 1) := by decide +kernel
theorem dX9_eliminate_159 : decode cX9_eliminate 159 = .ok (.iconst 4, 1) := by decide +kernel
theorem dX9_eliminate_160 : decode cX9_eliminate 160 = .ok (.iload 7, 2) := by decide +kernel
theorem dX9_eliminate_162 : decode cX9_eliminate 162 = .ok (.imul, 1) := by decide +kernel
theorem dX9_eliminate_163 : decode cX9_eliminate 163 = .ok (.iload 10, 2) := by decide +kernel
theorem dX9_eliminate_165 : decode cX9_eliminate 165 = .ok (.iadd, 1) := by decide +kernel
theorem dX9_eliminate_166 : decode cX9_eliminate 166 = .ok (.laload, 1) := by decide +kernel
theorem dX9_eliminate_167 : decode cX9_eliminate 167 = .ok (.lload 8, 2) := by decide +kernel
theorem dX9_eliminate_169 : decode cX9_eliminate 169 = .ok (.aload_n 0, 1) := by decide +kernel
theorem dX9_eliminate_170 : decode cX9_eliminate 170 = .ok (.iconst 4, 1) := by decide +kernel
theorem dX9_eliminate_171 : decode cX9_eliminate 171 = .ok (.iload_n 2, 1) := by decide +kernel
theorem dX9_eliminate_172 : decode cX9_eliminate 172 = .ok (.imul, 1) := by decide +kernel
theorem dX9_eliminate_173 : decode cX9_eliminate 173 = .ok (.iload 10, 2) := by decide +kernel
theorem dX9_eliminate_175 : decode cX9_eliminate 175 = .ok (.iadd, 1) := by decide +kernel
theorem dX9_eliminate_176 : decode cX9_eliminate 176 = .ok (.laload, 1) := by decide +kernel
theorem dX9_eliminate_177 : decode cX9_eliminate 177 = .ok (.lmul, 1) := by decide +kernel
theorem dX9_eliminate_178 : decode cX9_eliminate 178 = .ok (.lsub, 1) := by decide +kernel
theorem dX9_eliminate_179 : decode cX9_eliminate 179 = .ok (.invokestatic 271, 3) := by decide +kernel
theorem dX9_eliminate_182 : decode cX9_eliminate 182 = .ok (.lastore, 1) := by decide +kernel
theorem dX9_eliminate_183 : decode cX9_eliminate 183 = .ok (.iinc 10 1, 3) := by decide +kernel
theorem dX9_eliminate_186 : decode cX9_eliminate 186 = .ok (.goto (-48), 3) := by decide +kernel
theorem dX9_eliminate_189 : decode cX9_eliminate 189 = .ok (.iinc 7 1, 3) := by decide +kernel
theorem dX9_eliminate_192 : decode cX9_eliminate 192 = .ok (.goto (-73), 3) := by decide +kernel
theorem dX9_eliminate_195 : decode cX9_eliminate 195 = .ok (.iinc 2 1, 3) := by decide +kernel
theorem dX9_eliminate_198 : decode cX9_eliminate 198 = .ok (.iinc 3 1, 3) := by decide +kernel
theorem dX9_eliminate_201 : decode cX9_eliminate 201 = .ok (.goto (-197), 3) := by decide +kernel
theorem dX9_eliminate_204 : decode cX9_eliminate 204 = .ok (.iload_n 2, 1) := by decide +kernel
theorem dX9_eliminate_205 : decode cX9_eliminate 205 = .ok (.ireturn, 1) := by decide +kernel
theorem dX9_layTimes_0 : decode cX9_layTimes 0 = .ok (.iconst 0, 1) := by decide +kernel
theorem dX9_layTimes_1 : decode cX9_layTimes 1 = .ok (.istore 5, 2) := by decide +kernel
theorem dX9_layTimes_3 : decode cX9_layTimes 3 = .ok (.iload 5, 2) := by decide +kernel
theorem dX9_layTimes_5 : decode cX9_layTimes 5 = .ok (.iconst 4, 1) := by decide +kernel
theorem dX9_layTimes_6 : decode cX9_layTimes 6 = .ok (.if_icmp .ge 71, 3) := by decide +kernel
theorem dX9_layTimes_9 : decode cX9_layTimes 9 = .ok (.lconst 0, 1) := by decide +kernel
theorem dX9_layTimes_10 : decode cX9_layTimes 10 = .ok (.lstore 6, 2) := by decide +kernel
theorem dX9_layTimes_12 : decode cX9_layTimes 12 = .ok (.iconst 0, 1) := by decide +kernel
theorem dX9_layTimes_13 : decode cX9_layTimes 13 = .ok (.istore 8, 2) := by decide +kernel
theorem dX9_layTimes_15 : decode cX9_layTimes 15 = .ok (.iload 8, 2) := by decide +kernel
theorem dX9_layTimes_17 : decode cX9_layTimes 17 = .ok (.aload_n 0, 1) := by decide +kernel
theorem dX9_layTimes_18 : decode cX9_layTimes 18 = .ok (.getfield 13, 3) := by decide +kernel
theorem dX9_layTimes_21 : decode cX9_layTimes 21 = .ok (.if_icmp .ge 38, 3) := by decide +kernel
theorem dX9_layTimes_24 : decode cX9_layTimes 24 = .ok (.lload 6, 2) := by decide +kernel
theorem dX9_layTimes_26 : decode cX9_layTimes 26 = .ok (.aload_n 1, 1) := by decide +kernel
theorem dX9_layTimes_27 : decode cX9_layTimes 27 = .ok (.iload_n 2, 1) := by decide +kernel
theorem dX9_layTimes_28 : decode cX9_layTimes 28 = .ok (.iload 8, 2) := by decide +kernel
theorem dX9_layTimes_30 : decode cX9_layTimes 30 = .ok (.iadd, 1) := by decide +kernel
theorem dX9_layTimes_31 : decode cX9_layTimes 31 = .ok (.laload, 1) := by decide +kernel
theorem dX9_layTimes_32 : decode cX9_layTimes 32 = .ok (.aload_n 0, 1) := by decide +kernel
theorem dX9_layTimes_33 : decode cX9_layTimes 33 = .ok (.getfield 20, 3) := by decide +kernel
theorem dX9_layTimes_36 : decode cX9_layTimes 36 = .ok (.iconst 4, 1) := by decide +kernel
theorem dX9_layTimes_37 : decode cX9_layTimes 37 = .ok (.iload 8, 2) := by decide +kernel
theorem dX9_layTimes_39 : decode cX9_layTimes 39 = .ok (.imul, 1) := by decide +kernel
theorem dX9_layTimes_40 : decode cX9_layTimes 40 = .ok (.iload 5, 2) := by decide +kernel
theorem dX9_layTimes_42 : decode cX9_layTimes 42 = .ok (.iadd, 1) := by decide +kernel
theorem dX9_layTimes_43 : decode cX9_layTimes 43 = .ok (.iaload, 1) := by decide +kernel
theorem dX9_layTimes_44 : decode cX9_layTimes 44 = .ok (.i2l, 1) := by decide +kernel
theorem dX9_layTimes_45 : decode cX9_layTimes 45 = .ok (.lmul, 1) := by decide +kernel
theorem dX9_layTimes_46 : decode cX9_layTimes 46 = .ok (.ldc2_w 261, 3) := by decide +kernel
theorem dX9_layTimes_49 : decode cX9_layTimes 49 = .ok (.lrem, 1) := by decide +kernel
theorem dX9_layTimes_50 : decode cX9_layTimes 50 = .ok (.ladd, 1) := by decide +kernel
theorem dX9_layTimes_51 : decode cX9_layTimes 51 = .ok (.lstore 6, 2) := by decide +kernel
theorem dX9_layTimes_53 : decode cX9_layTimes 53 = .ok (.iinc 8 1, 3) := by decide +kernel
theorem dX9_layTimes_56 : decode cX9_layTimes 56 = .ok (.goto (-41), 3) := by decide +kernel
theorem dX9_layTimes_59 : decode cX9_layTimes 59 = .ok (.aload_n 3, 1) := by decide +kernel
theorem dX9_layTimes_60 : decode cX9_layTimes 60 = .ok (.iload 4, 2) := by decide +kernel
theorem dX9_layTimes_62 : decode cX9_layTimes 62 = .ok (.iload 5, 2) := by decide +kernel
theorem dX9_layTimes_64 : decode cX9_layTimes 64 = .ok (.iadd, 1) := by decide +kernel
theorem dX9_layTimes_65 : decode cX9_layTimes 65 = .ok (.lload 6, 2) := by decide +kernel
theorem dX9_layTimes_67 : decode cX9_layTimes 67 = .ok (.invokestatic 271, 3) := by decide +kernel
theorem dX9_layTimes_70 : decode cX9_layTimes 70 = .ok (.lastore, 1) := by decide +kernel
theorem dX9_layTimes_71 : decode cX9_layTimes 71 = .ok (.iinc 5 1, 3) := by decide +kernel
theorem dX9_layTimes_74 : decode cX9_layTimes 74 = .ok (.goto (-71), 3) := by decide +kernel
theorem dX9_layTimes_77 : decode cX9_layTimes 77 = .ok (.return_, 1) := by decide +kernel
theorem dX9_rank_0 : decode cX9_rank 0 = .ok (.iconst 0, 1) := by decide +kernel
theorem dX9_rank_1 : decode cX9_rank 1 = .ok (.istore_n 2, 1) := by decide +kernel
theorem dX9_rank_2 : decode cX9_rank 2 = .ok (.iload_n 2, 1) := by decide +kernel
theorem dX9_rank_3 : decode cX9_rank 3 = .ok (.iconst 4, 1) := by decide +kernel
theorem dX9_rank_4 : decode cX9_rank 4 = .ok (.aload_n 0, 1) := by decide +kernel
theorem dX9_rank_5 : decode cX9_rank 5 = .ok (.getfield 17, 3) := by decide +kernel
theorem dX9_rank_8 : decode cX9_rank 8 = .ok (.imul, 1) := by decide +kernel
theorem dX9_rank_9 : decode cX9_rank 9 = .ok (.if_icmp .ge 25, 3) := by decide +kernel
theorem dX9_rank_12 : decode cX9_rank 12 = .ok (.aload_n 0, 1) := by decide +kernel
theorem dX9_rank_13 : decode cX9_rank 13 = .ok (.getfield 82, 3) := by decide +kernel
theorem dX9_rank_16 : decode cX9_rank 16 = .ok (.iload_n 2, 1) := by decide +kernel
theorem dX9_rank_17 : decode cX9_rank 17 = .ok (.aload_n 0, 1) := by decide +kernel
theorem dX9_rank_18 : decode cX9_rank 18 = .ok (.getfield 29, 3) := by decide +kernel
theorem dX9_rank_21 : decode cX9_rank 21 = .ok (.iload_n 2, 1) := by decide +kernel
theorem dX9_rank_22 : decode cX9_rank 22 = .ok (.iaload, 1) := by decide +kernel
theorem dX9_rank_23 : decode cX9_rank 23 = .ok (.i2l, 1) := by decide +kernel
theorem dX9_rank_24 : decode cX9_rank 24 = .ok (.invokestatic 271, 3) := by decide +kernel
theorem dX9_rank_27 : decode cX9_rank 27 = .ok (.lastore, 1) := by decide +kernel
theorem dX9_rank_28 : decode cX9_rank 28 = .ok (.iinc 2 1, 3) := by decide +kernel
theorem dX9_rank_31 : decode cX9_rank 31 = .ok (.goto (-29), 3) := by decide +kernel
theorem dX9_rank_34 : decode cX9_rank 34 = .ok (.iconst 0, 1) := by decide +kernel
theorem dX9_rank_35 : decode cX9_rank 35 = .ok (.istore_n 2, 1) := by decide +kernel
theorem dX9_rank_36 : decode cX9_rank 36 = .ok (.iconst 0, 1) := by decide +kernel
theorem dX9_rank_37 : decode cX9_rank 37 = .ok (.istore_n 3, 1) := by decide +kernel
theorem dX9_rank_38 : decode cX9_rank 38 = .ok (.iload_n 3, 1) := by decide +kernel
theorem dX9_rank_39 : decode cX9_rank 39 = .ok (.iload_n 1, 1) := by decide +kernel
theorem dX9_rank_40 : decode cX9_rank 40 = .ok (.if_icmp .ge 126, 3) := by decide +kernel
theorem dX9_rank_43 : decode cX9_rank 43 = .ok (.iconst 0, 1) := by decide +kernel
theorem dX9_rank_44 : decode cX9_rank 44 = .ok (.istore 4, 2) := by decide +kernel
theorem dX9_rank_46 : decode cX9_rank 46 = .ok (.iload 4, 2) := by decide +kernel
theorem dX9_rank_48 : decode cX9_rank 48 = .ok (.iconst 4, 1) := by decide +kernel
theorem dX9_rank_49 : decode cX9_rank 49 = .ok (.aload_n 0, 1) := by decide +kernel
theorem dX9_rank_50 : decode cX9_rank 50 = .ok (.getfield 17, 3) := by decide +kernel
theorem dX9_rank_53 : decode cX9_rank 53 = .ok (.imul, 1) := by decide +kernel
theorem dX9_rank_54 : decode cX9_rank 54 = .ok (.if_icmp .ge 27, 3) := by decide +kernel
theorem dX9_rank_57 : decode cX9_rank 57 = .ok (.aload_n 0, 1) := by decide +kernel
theorem dX9_rank_58 : decode cX9_rank 58 = .ok (.getfield 79, 3) := by decide +kernel
theorem dX9_rank_61 : decode cX9_rank 61 = .ok (.iconst 4, 1) := by decide +kernel
theorem dX9_rank_62 : decode cX9_rank 62 = .ok (.iload_n 2, 1) := by decide +kernel
theorem dX9_rank_63 : decode cX9_rank 63 = .ok (.imul, 1) := by decide +kernel
theorem dX9_rank_64 : decode cX9_rank 64 = .ok (.iload 4, 2) := by decide +kernel
theorem dX9_rank_66 : decode cX9_rank 66 = .ok (.iadd, 1) := by decide +kernel
theorem dX9_rank_67 : decode cX9_rank 67 = .ok (.aload_n 0, 1) := by decide +kernel
theorem dX9_rank_68 : decode cX9_rank 68 = .ok (.getfield 82, 3) := by decide +kernel
theorem dX9_rank_71 : decode cX9_rank 71 = .ok (.iload 4, 2) := by decide +kernel
theorem dX9_rank_73 : decode cX9_rank 73 = .ok (.laload, 1) := by decide +kernel
theorem dX9_rank_74 : decode cX9_rank 74 = .ok (.lastore, 1) := by decide +kernel
theorem dX9_rank_75 : decode cX9_rank 75 = .ok (.iinc 4 1, 3) := by decide +kernel
theorem dX9_rank_78 : decode cX9_rank 78 = .ok (.goto (-32), 3) := by decide +kernel
theorem dX9_rank_81 : decode cX9_rank 81 = .ok (.iload_n 2, 1) := by decide +kernel
theorem dX9_rank_82 : decode cX9_rank 82 = .ok (.aload_n 0, 1) := by decide +kernel
theorem dX9_rank_83 : decode cX9_rank 83 = .ok (.getfield 17, 3) := by decide +kernel
theorem dX9_rank_86 : decode cX9_rank 86 = .ok (.iadd, 1) := by decide +kernel
theorem dX9_rank_87 : decode cX9_rank 87 = .ok (.istore_n 2, 1) := by decide +kernel
theorem dX9_rank_88 : decode cX9_rank 88 = .ok (.iconst 0, 1) := by decide +kernel
theorem dX9_rank_89 : decode cX9_rank 89 = .ok (.istore 4, 2) := by decide +kernel
theorem dX9_rank_91 : decode cX9_rank 91 = .ok (.iload 4, 2) := by decide +kernel
theorem dX9_rank_93 : decode cX9_rank 93 = .ok (.aload_n 0, 1) := by decide +kernel
theorem dX9_rank_94 : decode cX9_rank 94 = .ok (.getfield 17, 3) := by decide +kernel
theorem dX9_rank_97 : decode cX9_rank 97 = .ok (.if_icmp .ge 29, 3) := by decide +kernel
theorem dX9_rank_100 : decode cX9_rank 100 = .ok (.aload_n 0, 1) := by decide +kernel
theorem dX9_rank_101 : decode cX9_rank 101 = .ok (.aload_n 0, 1) := by decide +kernel
theorem dX9_rank_102 : decode cX9_rank 102 = .ok (.getfield 82, 3) := by decide +kernel
theorem dX9_rank_105 : decode cX9_rank 105 = .ok (.iconst 4, 1) := by decide +kernel
theorem dX9_rank_106 : decode cX9_rank 106 = .ok (.iload 4, 2) := by decide +kernel
theorem dX9_rank_108 : decode cX9_rank 108 = .ok (.imul, 1) := by decide +kernel
theorem dX9_rank_109 : decode cX9_rank 109 = .ok (.aload_n 0, 1) := by decide +kernel
theorem dX9_rank_110 : decode cX9_rank 110 = .ok (.getfield 85, 3) := by decide +kernel
theorem dX9_rank_113 : decode cX9_rank 113 = .ok (.iconst 4, 1) := by decide +kernel
theorem dX9_rank_114 : decode cX9_rank 114 = .ok (.iload 4, 2) := by decide +kernel
theorem dX9_rank_116 : decode cX9_rank 116 = .ok (.imul, 1) := by decide +kernel
theorem dX9_rank_117 : decode cX9_rank 117 = .ok (.invokevirtual 274, 3) := by decide +kernel
theorem dX9_rank_120 : decode cX9_rank 120 = .ok (.iinc 4 1, 3) := by decide +kernel
theorem dX9_rank_123 : decode cX9_rank 123 = .ok (.goto (-32), 3) := by decide +kernel
theorem dX9_rank_126 : decode cX9_rank 126 = .ok (.iconst 0, 1) := by decide +kernel
theorem dX9_rank_127 : decode cX9_rank 127 = .ok (.istore 4, 2) := by decide +kernel
theorem dX9_rank_129 : decode cX9_rank 129 = .ok (.iload 4, 2) := by decide +kernel
theorem dX9_rank_131 : decode cX9_rank 131 = .ok (.iconst 4, 1) := by decide +kernel
theorem dX9_rank_132 : decode cX9_rank 132 = .ok (.aload_n 0, 1) := by decide +kernel
theorem dX9_rank_133 : decode cX9_rank 133 = .ok (.getfield 17, 3) := by decide +kernel
theorem dX9_rank_136 : decode cX9_rank 136 = .ok (.imul, 1) := by decide +kernel
theorem dX9_rank_137 : decode cX9_rank 137 = .ok (.if_icmp .ge 23, 3) := by decide +kernel
theorem dX9_rank_140 : decode cX9_rank 140 = .ok (.aload_n 0, 1) := by decide +kernel
theorem dX9_rank_141 : decode cX9_rank 141 = .ok (.getfield 82, 3) := by decide +kernel
theorem dX9_rank_144 : decode cX9_rank 144 = .ok (.iload 4, 2) := by decide +kernel
theorem dX9_rank_146 : decode cX9_rank 146 = .ok (.aload_n 0, 1) := by decide +kernel
theorem dX9_rank_147 : decode cX9_rank 147 = .ok (.getfield 85, 3) := by decide +kernel
theorem dX9_rank_150 : decode cX9_rank 150 = .ok (.iload 4, 2) := by decide +kernel
theorem dX9_rank_152 : decode cX9_rank 152 = .ok (.laload, 1) := by decide +kernel
theorem dX9_rank_153 : decode cX9_rank 153 = .ok (.lastore, 1) := by decide +kernel
theorem dX9_rank_154 : decode cX9_rank 154 = .ok (.iinc 4 1, 3) := by decide +kernel
theorem dX9_rank_157 : decode cX9_rank 157 = .ok (.goto (-28), 3) := by decide +kernel
theorem dX9_rank_160 : decode cX9_rank 160 = .ok (.iinc 3 1, 3) := by decide +kernel
theorem dX9_rank_163 : decode cX9_rank 163 = .ok (.goto (-125), 3) := by decide +kernel
theorem dX9_rank_166 : decode cX9_rank 166 = .ok (.aload_n 0, 1) := by decide +kernel
theorem dX9_rank_167 : decode cX9_rank 167 = .ok (.getfield 79, 3) := by decide +kernel
theorem dX9_rank_170 : decode cX9_rank 170 = .ok (.iload_n 2, 1) := by decide +kernel
theorem dX9_rank_171 : decode cX9_rank 171 = .ok (.invokestatic 278, 3) := by decide +kernel
theorem dX9_rank_174 : decode cX9_rank 174 = .ok (.ireturn, 1) := by decide +kernel
theorem dX9_rankAfter_0 : decode cX9_rankAfter 0 = .ok (.aload_n 0, 1) := by decide +kernel
theorem dX9_rankAfter_1 : decode cX9_rankAfter 1 = .ok (.iload_n 1, 1) := by decide +kernel
theorem dX9_rankAfter_2 : decode cX9_rankAfter 2 = .ok (.i2l, 1) := by decide +kernel
theorem dX9_rankAfter_3 : decode cX9_rankAfter 3 = .ok (.lconst 1, 1) := by decide +kernel
theorem dX9_rankAfter_4 : decode cX9_rankAfter 4 = .ok (.ldc2_w 203, 3) := by decide +kernel
theorem dX9_rankAfter_7 : decode cX9_rankAfter 7 = .ok (.invokestatic 107, 3) := by decide +kernel
theorem dX9_rankAfter_10 : decode cX9_rankAfter 10 = .ok (.ifCond .eq 7, 3) := by decide +kernel
theorem dX9_rankAfter_13 : decode cX9_rankAfter 13 = .ok (.iconst 0, 1) := by decide +kernel
theorem dX9_rankAfter_14 : decode cX9_rankAfter 14 = .ok (.goto 4, 3) := by decide +kernel
theorem dX9_rankAfter_17 : decode cX9_rankAfter 17 = .ok (.iconst 1, 1) := by decide +kernel
theorem dX9_rankAfter_18 : decode cX9_rankAfter 18 = .ok (.invokevirtual 114, 3) := by decide +kernel
theorem dX9_rankAfter_21 : decode cX9_rankAfter 21 = .ok (.ifCond .eq 7, 3) := by decide +kernel
theorem dX9_rankAfter_24 : decode cX9_rankAfter 24 = .ok (.iconst 0, 1) := by decide +kernel
theorem dX9_rankAfter_25 : decode cX9_rankAfter 25 = .ok (.goto 8, 3) := by decide +kernel
theorem dX9_rankAfter_28 : decode cX9_rankAfter 28 = .ok (.aload_n 0, 1) := by decide +kernel
theorem dX9_rankAfter_29 : decode cX9_rankAfter 29 = .ok (.iload_n 1, 1) := by decide +kernel
theorem dX9_rankAfter_30 : decode cX9_rankAfter 30 = .ok (.invokevirtual 282, 3) := by decide +kernel
theorem dX9_rankAfter_33 : decode cX9_rankAfter 33 = .ok (.ireturn, 1) := by decide +kernel
theorem dX9_observabilityIndex_0 : decode cX9_observabilityIndex 0 = .ok (.aload_n 0, 1) := by decide +kernel
theorem dX9_observabilityIndex_1 : decode cX9_observabilityIndex 1 = .ok (.iconst 0, 1) := by decide +kernel
theorem dX9_observabilityIndex_2 : decode cX9_observabilityIndex 2 = .ok (.putfield 98, 3) := by decide +kernel
theorem dX9_observabilityIndex_5 : decode cX9_observabilityIndex 5 = .ok (.iconst 1, 1) := by decide +kernel
theorem dX9_observabilityIndex_6 : decode cX9_observabilityIndex 6 = .ok (.istore_n 1, 1) := by decide +kernel
theorem dX9_observabilityIndex_7 : decode cX9_observabilityIndex 7 = .ok (.iload_n 1, 1) := by decide +kernel
theorem dX9_observabilityIndex_8 : decode cX9_observabilityIndex 8 = .ok (.aload_n 0, 1) := by decide +kernel
theorem dX9_observabilityIndex_9 : decode cX9_observabilityIndex 9 = .ok (.getfield 13, 3) := by decide +kernel
theorem dX9_observabilityIndex_12 : decode cX9_observabilityIndex 12 = .ok (.if_icmp .gt 23, 3) := by decide +kernel
theorem dX9_observabilityIndex_15 : decode cX9_observabilityIndex 15 = .ok (.aload_n 0, 1) := by decide +kernel
theorem dX9_observabilityIndex_16 : decode cX9_observabilityIndex 16 = .ok (.iload_n 1, 1) := by decide +kernel
theorem dX9_observabilityIndex_17 : decode cX9_observabilityIndex 17 = .ok (.invokevirtual 282, 3) := by decide +kernel
theorem dX9_observabilityIndex_20 : decode cX9_observabilityIndex 20 = .ok (.aload_n 0, 1) := by decide +kernel
theorem dX9_observabilityIndex_21 : decode cX9_observabilityIndex 21 = .ok (.getfield 13, 3) := by decide +kernel
theorem dX9_observabilityIndex_24 : decode cX9_observabilityIndex 24 = .ok (.if_icmp .ne 5, 3) := by decide +kernel
theorem dX9_observabilityIndex_27 : decode cX9_observabilityIndex 27 = .ok (.iload_n 1, 1) := by decide +kernel
theorem dX9_observabilityIndex_28 : decode cX9_observabilityIndex 28 = .ok (.ireturn, 1) := by decide +kernel
theorem dX9_observabilityIndex_29 : decode cX9_observabilityIndex 29 = .ok (.iinc 1 1, 3) := by decide +kernel
theorem dX9_observabilityIndex_32 : decode cX9_observabilityIndex 32 = .ok (.goto (-25), 3) := by decide +kernel
theorem dX9_observabilityIndex_35 : decode cX9_observabilityIndex 35 = .ok (.bipush (-9), 2) := by decide +kernel
theorem dX9_observabilityIndex_37 : decode cX9_observabilityIndex 37 = .ok (.ireturn, 1) := by decide +kernel
theorem dX9_alongPush_0 : decode cX9_alongPush 0 = .ok (.lconst 0, 1) := by decide +kernel
theorem dX9_alongPush_1 : decode cX9_alongPush 1 = .ok (.lstore_n 2, 1) := by decide +kernel
theorem dX9_alongPush_2 : decode cX9_alongPush 2 = .ok (.iconst 0, 1) := by decide +kernel
theorem dX9_alongPush_3 : decode cX9_alongPush 3 = .ok (.istore 4, 2) := by decide +kernel
theorem dX9_alongPush_5 : decode cX9_alongPush 5 = .ok (.iload 4, 2) := by decide +kernel
theorem dX9_alongPush_7 : decode cX9_alongPush 7 = .ok (.aload_n 0, 1) := by decide +kernel
theorem dX9_alongPush_8 : decode cX9_alongPush 8 = .ok (.getfield 13, 3) := by decide +kernel
theorem dX9_alongPush_11 : decode cX9_alongPush 11 = .ok (.if_icmp .ge 36, 3) := by decide +kernel
theorem dX9_alongPush_14 : decode cX9_alongPush 14 = .ok (.lload_n 2, 1) := by decide +kernel
theorem dX9_alongPush_15 : decode cX9_alongPush 15 = .ok (.aload_n 0, 1) := by decide +kernel
theorem dX9_alongPush_16 : decode cX9_alongPush 16 = .ok (.getfield 88, 3) := by decide +kernel
theorem dX9_alongPush_19 : decode cX9_alongPush 19 = .ok (.iconst 4, 1) := by decide +kernel
theorem dX9_alongPush_20 : decode cX9_alongPush 20 = .ok (.iload_n 1, 1) := by decide +kernel
theorem dX9_alongPush_21 : decode cX9_alongPush 21 = .ok (.imul, 1) := by decide +kernel
theorem dX9_alongPush_22 : decode cX9_alongPush 22 = .ok (.iload 4, 2) := by decide +kernel
theorem dX9_alongPush_24 : decode cX9_alongPush 24 = .ok (.iadd, 1) := by decide +kernel
theorem dX9_alongPush_25 : decode cX9_alongPush 25 = .ok (.laload, 1) := by decide +kernel
theorem dX9_alongPush_26 : decode cX9_alongPush 26 = .ok (.aload_n 0, 1) := by decide +kernel
theorem dX9_alongPush_27 : decode cX9_alongPush 27 = .ok (.getfield 26, 3) := by decide +kernel
theorem dX9_alongPush_30 : decode cX9_alongPush 30 = .ok (.iload 4, 2) := by decide +kernel
theorem dX9_alongPush_32 : decode cX9_alongPush 32 = .ok (.iaload, 1) := by decide +kernel
theorem dX9_alongPush_33 : decode cX9_alongPush 33 = .ok (.i2l, 1) := by decide +kernel
theorem dX9_alongPush_34 : decode cX9_alongPush 34 = .ok (.lmul, 1) := by decide +kernel
theorem dX9_alongPush_35 : decode cX9_alongPush 35 = .ok (.ldc2_w 261, 3) := by decide +kernel
theorem dX9_alongPush_38 : decode cX9_alongPush 38 = .ok (.lrem, 1) := by decide +kernel
theorem dX9_alongPush_39 : decode cX9_alongPush 39 = .ok (.ladd, 1) := by decide +kernel
theorem dX9_alongPush_40 : decode cX9_alongPush 40 = .ok (.lstore_n 2, 1) := by decide +kernel
theorem dX9_alongPush_41 : decode cX9_alongPush 41 = .ok (.iinc 4 1, 3) := by decide +kernel
theorem dX9_alongPush_44 : decode cX9_alongPush 44 = .ok (.goto (-39), 3) := by decide +kernel
theorem dX9_alongPush_47 : decode cX9_alongPush 47 = .ok (.lload_n 2, 1) := by decide +kernel
theorem dX9_alongPush_48 : decode cX9_alongPush 48 = .ok (.invokestatic 271, 3) := by decide +kernel
theorem dX9_alongPush_51 : decode cX9_alongPush 51 = .ok (.lreturn, 1) := by decide +kernel
theorem dX9_dropPush_0 : decode cX9_dropPush 0 = .ok (.bipush (-9), 2) := by decide +kernel
theorem dX9_dropPush_2 : decode cX9_dropPush 2 = .ok (.istore_n 1, 1) := by decide +kernel
theorem dX9_dropPush_3 : decode cX9_dropPush 3 = .ok (.iconst 0, 1) := by decide +kernel
theorem dX9_dropPush_4 : decode cX9_dropPush 4 = .ok (.istore_n 2, 1) := by decide +kernel
theorem dX9_dropPush_5 : decode cX9_dropPush 5 = .ok (.iload_n 2, 1) := by decide +kernel
theorem dX9_dropPush_6 : decode cX9_dropPush 6 = .ok (.aload_n 0, 1) := by decide +kernel
theorem dX9_dropPush_7 : decode cX9_dropPush 7 = .ok (.getfield 285, 3) := by decide +kernel
theorem dX9_dropPush_10 : decode cX9_dropPush 10 = .ok (.if_icmp .ge 31, 3) := by decide +kernel
theorem dX9_dropPush_13 : decode cX9_dropPush 13 = .ok (.iload_n 1, 1) := by decide +kernel
theorem dX9_dropPush_14 : decode cX9_dropPush 14 = .ok (.bipush (-9), 2) := by decide +kernel
theorem dX9_dropPush_16 : decode cX9_dropPush 16 = .ok (.if_icmp .ne 17, 3) := by decide +kernel
theorem dX9_dropPush_19 : decode cX9_dropPush 19 = .ok (.aload_n 0, 1) := by decide +kernel
theorem dX9_dropPush_20 : decode cX9_dropPush 20 = .ok (.iload_n 2, 1) := by decide +kernel
theorem dX9_dropPush_21 : decode cX9_dropPush 21 = .ok (.invokevirtual 288, 3) := by decide +kernel
theorem dX9_dropPush_24 : decode cX9_dropPush 24 = .ok (.lconst 0, 1) := by decide +kernel
theorem dX9_dropPush_25 : decode cX9_dropPush 25 = .ok (.lcmp, 1) := by decide +kernel
theorem dX9_dropPush_26 : decode cX9_dropPush 26 = .ok (.ifCond .eq 7, 3) := by decide +kernel
theorem dX9_dropPush_29 : decode cX9_dropPush 29 = .ok (.iload_n 2, 1) := by decide +kernel
theorem dX9_dropPush_30 : decode cX9_dropPush 30 = .ok (.goto 4, 3) := by decide +kernel
theorem dX9_dropPush_33 : decode cX9_dropPush 33 = .ok (.iload_n 1, 1) := by decide +kernel
theorem dX9_dropPush_34 : decode cX9_dropPush 34 = .ok (.istore_n 1, 1) := by decide +kernel
theorem dX9_dropPush_35 : decode cX9_dropPush 35 = .ok (.iinc 2 1, 3) := by decide +kernel
theorem dX9_dropPush_38 : decode cX9_dropPush 38 = .ok (.goto (-33), 3) := by decide +kernel
theorem dX9_dropPush_41 : decode cX9_dropPush 41 = .ok (.iload_n 1, 1) := by decide +kernel
theorem dX9_dropPush_42 : decode cX9_dropPush 42 = .ok (.bipush (-9), 2) := by decide +kernel
theorem dX9_dropPush_44 : decode cX9_dropPush 44 = .ok (.if_icmp .ne 4, 3) := by decide +kernel
theorem dX9_dropPush_47 : decode cX9_dropPush 47 = .ok (.return_, 1) := by decide +kernel
theorem dX9_dropPush_48 : decode cX9_dropPush 48 = .ok (.aload_n 0, 1) := by decide +kernel
theorem dX9_dropPush_49 : decode cX9_dropPush 49 = .ok (.iload_n 1, 1) := by decide +kernel
theorem dX9_dropPush_50 : decode cX9_dropPush 50 = .ok (.invokevirtual 288, 3) := by decide +kernel
theorem dX9_dropPush_53 : decode cX9_dropPush 53 = .ok (.invokestatic 267, 3) := by decide +kernel
theorem dX9_dropPush_56 : decode cX9_dropPush 56 = .ok (.lstore_n 2, 1) := by decide +kernel
theorem dX9_dropPush_57 : decode cX9_dropPush 57 = .ok (.iconst 0, 1) := by decide +kernel
theorem dX9_dropPush_58 : decode cX9_dropPush 58 = .ok (.istore 4, 2) := by decide +kernel
theorem dX9_dropPush_60 : decode cX9_dropPush 60 = .ok (.iload 4, 2) := by decide +kernel
theorem dX9_dropPush_62 : decode cX9_dropPush 62 = .ok (.aload_n 0, 1) := by decide +kernel
theorem dX9_dropPush_63 : decode cX9_dropPush 63 = .ok (.getfield 285, 3) := by decide +kernel
theorem dX9_dropPush_66 : decode cX9_dropPush 66 = .ok (.if_icmp .ge 86, 3) := by decide +kernel
theorem dX9_dropPush_69 : decode cX9_dropPush 69 = .ok (.aload_n 0, 1) := by decide +kernel
theorem dX9_dropPush_70 : decode cX9_dropPush 70 = .ok (.iload 4, 2) := by decide +kernel
theorem dX9_dropPush_72 : decode cX9_dropPush 72 = .ok (.invokevirtual 288, 3) := by decide +kernel
theorem dX9_dropPush_75 : decode cX9_dropPush 75 = .ok (.lload_n 2, 1) := by decide +kernel
theorem dX9_dropPush_76 : decode cX9_dropPush 76 = .ok (.lmul, 1) := by decide +kernel
theorem dX9_dropPush_77 : decode cX9_dropPush 77 = .ok (.ldc2_w 261, 3) := by decide +kernel
theorem dX9_dropPush_80 : decode cX9_dropPush 80 = .ok (.lrem, 1) := by decide +kernel
theorem dX9_dropPush_81 : decode cX9_dropPush 81 = .ok (.lstore 5, 2) := by decide +kernel
theorem dX9_dropPush_83 : decode cX9_dropPush 83 = .ok (.iconst 0, 1) := by decide +kernel
theorem dX9_dropPush_84 : decode cX9_dropPush 84 = .ok (.istore 7, 2) := by decide +kernel
theorem dX9_dropPush_86 : decode cX9_dropPush 86 = .ok (.iload 7, 2) := by decide +kernel
theorem dX9_dropPush_88 : decode cX9_dropPush 88 = .ok (.iconst 4, 1) := by decide +kernel
theorem dX9_dropPush_89 : decode cX9_dropPush 89 = .ok (.if_icmp .ge 57, 3) := by decide +kernel
theorem dX9_dropPush_92 : decode cX9_dropPush 92 = .ok (.iload 4, 2) := by decide +kernel
theorem dX9_dropPush_94 : decode cX9_dropPush 94 = .ok (.iload_n 1, 1) := by decide +kernel
theorem dX9_dropPush_95 : decode cX9_dropPush 95 = .ok (.if_icmp .eq 51, 3) := by decide +kernel
theorem dX9_dropPush_98 : decode cX9_dropPush 98 = .ok (.aload_n 0, 1) := by decide +kernel
theorem dX9_dropPush_99 : decode cX9_dropPush 99 = .ok (.getfield 88, 3) := by decide +kernel
theorem dX9_dropPush_102 : decode cX9_dropPush 102 = .ok (.iconst 4, 1) := by decide +kernel
theorem dX9_dropPush_103 : decode cX9_dropPush 103 = .ok (.iload 4, 2) := by decide +kernel
theorem dX9_dropPush_105 : decode cX9_dropPush 105 = .ok (.imul, 1) := by decide +kernel
theorem dX9_dropPush_106 : decode cX9_dropPush 106 = .ok (.iload 7, 2) := by decide +kernel
theorem dX9_dropPush_108 : decode cX9_dropPush 108 = .ok (.iadd, 1) := by decide +kernel
theorem dX9_dropPush_109 : decode cX9_dropPush 109 = .ok (.aload_n 0, 1) := by decide +kernel
theorem dX9_dropPush_110 : decode cX9_dropPush 110 = .ok (.getfield 88, 3) := by decide +kernel
theorem dX9_dropPush_113 : decode cX9_dropPush 113 = .ok (.iconst 4, 1) := by decide +kernel
theorem dX9_dropPush_114 : decode cX9_dropPush 114 = .ok (.iload 4, 2) := by decide +kernel
theorem dX9_dropPush_116 : decode cX9_dropPush 116 = .ok (.imul, 1) := by decide +kernel
theorem dX9_dropPush_117 : decode cX9_dropPush 117 = .ok (.iload 7, 2) := by decide +kernel
theorem dX9_dropPush_119 : decode cX9_dropPush 119 = .ok (.iadd, 1) := by decide +kernel
theorem dX9_dropPush_120 : decode cX9_dropPush 120 = .ok (.laload, 1) := by decide +kernel
theorem dX9_dropPush_121 : decode cX9_dropPush 121 = .ok (.lload 5, 2) := by decide +kernel
theorem dX9_dropPush_123 : decode cX9_dropPush 123 = .ok (.aload_n 0, 1) := by decide +kernel
theorem dX9_dropPush_124 : decode cX9_dropPush 124 = .ok (.getfield 88, 3) := by decide +kernel
theorem dX9_dropPush_127 : decode cX9_dropPush 127 = .ok (.iconst 4, 1) := by decide +kernel
theorem dX9_dropPush_128 : decode cX9_dropPush 128 = .ok (.iload_n 1, 1) := by decide +kernel
theorem dX9_dropPush_129 : decode cX9_dropPush 129 = .ok (.imul, 1) := by decide +kernel
theorem dX9_dropPush_130 : decode cX9_dropPush 130 = .ok (.iload 7, 2) := by decide +kernel
theorem dX9_dropPush_132 : decode cX9_dropPush 132 = .ok (.iadd, 1) := by decide +kernel
theorem dX9_dropPush_133 : decode cX9_dropPush 133 = .ok (.laload, 1) := by decide +kernel
theorem dX9_dropPush_134 : decode cX9_dropPush 134 = .ok (.lmul, 1) := by decide +kernel
theorem dX9_dropPush_135 : decode cX9_dropPush 135 = .ok (.lsub, 1) := by decide +kernel
theorem dX9_dropPush_136 : decode cX9_dropPush 136 = .ok (.invokestatic 271, 3) := by decide +kernel
theorem dX9_dropPush_139 : decode cX9_dropPush 139 = .ok (.lastore, 1) := by decide +kernel
theorem dX9_dropPush_140 : decode cX9_dropPush 140 = .ok (.iinc 7 1, 3) := by decide +kernel
theorem dX9_dropPush_143 : decode cX9_dropPush 143 = .ok (.goto (-57), 3) := by decide +kernel
theorem dX9_dropPush_146 : decode cX9_dropPush 146 = .ok (.iinc 4 1, 3) := by decide +kernel
theorem dX9_dropPush_149 : decode cX9_dropPush 149 = .ok (.goto (-89), 3) := by decide +kernel
theorem dX9_dropPush_152 : decode cX9_dropPush 152 = .ok (.iconst 0, 1) := by decide +kernel
theorem dX9_dropPush_153 : decode cX9_dropPush 153 = .ok (.istore 4, 2) := by decide +kernel
theorem dX9_dropPush_155 : decode cX9_dropPush 155 = .ok (.iload 4, 2) := by decide +kernel
theorem dX9_dropPush_157 : decode cX9_dropPush 157 = .ok (.iconst 4, 1) := by decide +kernel
theorem dX9_dropPush_158 : decode cX9_dropPush 158 = .ok (.if_icmp .ge 36, 3) := by decide +kernel
theorem dX9_dropPush_161 : decode cX9_dropPush 161 = .ok (.aload_n 0, 1) := by decide +kernel
theorem dX9_dropPush_162 : decode cX9_dropPush 162 = .ok (.getfield 88, 3) := by decide +kernel
theorem dX9_dropPush_165 : decode cX9_dropPush 165 = .ok (.iconst 4, 1) := by decide +kernel
theorem dX9_dropPush_166 : decode cX9_dropPush 166 = .ok (.iload_n 1, 1) := by decide +kernel
theorem dX9_dropPush_167 : decode cX9_dropPush 167 = .ok (.imul, 1) := by decide +kernel
theorem dX9_dropPush_168 : decode cX9_dropPush 168 = .ok (.iload 4, 2) := by decide +kernel
theorem dX9_dropPush_170 : decode cX9_dropPush 170 = .ok (.iadd, 1) := by decide +kernel
theorem dX9_dropPush_171 : decode cX9_dropPush 171 = .ok (.aload_n 0, 1) := by decide +kernel
theorem dX9_dropPush_172 : decode cX9_dropPush 172 = .ok (.getfield 88, 3) := by decide +kernel
theorem dX9_dropPush_175 : decode cX9_dropPush 175 = .ok (.iconst 4, 1) := by decide +kernel
theorem dX9_dropPush_176 : decode cX9_dropPush 176 = .ok (.aload_n 0, 1) := by decide +kernel
theorem dX9_dropPush_177 : decode cX9_dropPush 177 = .ok (.getfield 285, 3) := by decide +kernel
theorem dX9_dropPush_180 : decode cX9_dropPush 180 = .ok (.iconst 1, 1) := by decide +kernel
theorem dX9_dropPush_181 : decode cX9_dropPush 181 = .ok (.isub, 1) := by decide +kernel
theorem dX9_dropPush_182 : decode cX9_dropPush 182 = .ok (.imul, 1) := by decide +kernel
theorem dX9_dropPush_183 : decode cX9_dropPush 183 = .ok (.iload 4, 2) := by decide +kernel
theorem dX9_dropPush_185 : decode cX9_dropPush 185 = .ok (.iadd, 1) := by decide +kernel
theorem dX9_dropPush_186 : decode cX9_dropPush 186 = .ok (.laload, 1) := by decide +kernel
theorem dX9_dropPush_187 : decode cX9_dropPush 187 = .ok (.lastore, 1) := by decide +kernel
theorem dX9_dropPush_188 : decode cX9_dropPush 188 = .ok (.iinc 4 1, 3) := by decide +kernel
theorem dX9_dropPush_191 : decode cX9_dropPush 191 = .ok (.goto (-36), 3) := by decide +kernel
theorem dX9_dropPush_194 : decode cX9_dropPush 194 = .ok (.aload_n 0, 1) := by decide +kernel
theorem dX9_dropPush_195 : decode cX9_dropPush 195 = .ok (.dup, 1) := by decide +kernel
theorem dX9_dropPush_196 : decode cX9_dropPush 196 = .ok (.getfield 285, 3) := by decide +kernel
theorem dX9_dropPush_199 : decode cX9_dropPush 199 = .ok (.iconst 1, 1) := by decide +kernel
theorem dX9_dropPush_200 : decode cX9_dropPush 200 = .ok (.isub, 1) := by decide +kernel
theorem dX9_dropPush_201 : decode cX9_dropPush 201 = .ok (.putfield 285, 3) := by decide +kernel
theorem dX9_dropPush_204 : decode cX9_dropPush 204 = .ok (.return_, 1) := by decide +kernel
theorem dX9_hiddenDimension_0 : decode cX9_hiddenDimension 0 = .ok (.aload_n 0, 1) := by decide +kernel
theorem dX9_hiddenDimension_1 : decode cX9_hiddenDimension 1 = .ok (.iload_n 1, 1) := by decide +kernel
theorem dX9_hiddenDimension_2 : decode cX9_hiddenDimension 2 = .ok (.i2l, 1) := by decide +kernel
theorem dX9_hiddenDimension_3 : decode cX9_hiddenDimension 3 = .ok (.lconst 0, 1) := by decide +kernel
theorem dX9_hiddenDimension_4 : decode cX9_hiddenDimension 4 = .ok (.ldc2_w 203, 3) := by decide +kernel
theorem dX9_hiddenDimension_7 : decode cX9_hiddenDimension 7 = .ok (.invokestatic 107, 3) := by decide +kernel
theorem dX9_hiddenDimension_10 : decode cX9_hiddenDimension 10 = .ok (.ifCond .eq 7, 3) := by decide +kernel
theorem dX9_hiddenDimension_13 : decode cX9_hiddenDimension 13 = .ok (.iconst 0, 1) := by decide +kernel
theorem dX9_hiddenDimension_14 : decode cX9_hiddenDimension 14 = .ok (.goto 4, 3) := by decide +kernel
theorem dX9_hiddenDimension_17 : decode cX9_hiddenDimension 17 = .ok (.iconst 1, 1) := by decide +kernel
theorem dX9_hiddenDimension_18 : decode cX9_hiddenDimension 18 = .ok (.invokevirtual 114, 3) := by decide +kernel
theorem dX9_hiddenDimension_21 : decode cX9_hiddenDimension 21 = .ok (.ifCond .eq 5, 3) := by decide +kernel
theorem dX9_hiddenDimension_24 : decode cX9_hiddenDimension 24 = .ok (.iconst 0, 1) := by decide +kernel
theorem dX9_hiddenDimension_25 : decode cX9_hiddenDimension 25 = .ok (.ireturn, 1) := by decide +kernel
theorem dX9_hiddenDimension_26 : decode cX9_hiddenDimension 26 = .ok (.aload_n 0, 1) := by decide +kernel
theorem dX9_hiddenDimension_27 : decode cX9_hiddenDimension 27 = .ok (.iconst 0, 1) := by decide +kernel
theorem dX9_hiddenDimension_28 : decode cX9_hiddenDimension 28 = .ok (.putfield 285, 3) := by decide +kernel
theorem dX9_hiddenDimension_31 : decode cX9_hiddenDimension 31 = .ok (.iconst 0, 1) := by decide +kernel
theorem dX9_hiddenDimension_32 : decode cX9_hiddenDimension 32 = .ok (.istore_n 2, 1) := by decide +kernel
theorem dX9_hiddenDimension_33 : decode cX9_hiddenDimension 33 = .ok (.iload_n 2, 1) := by decide +kernel
theorem dX9_hiddenDimension_34 : decode cX9_hiddenDimension 34 = .ok (.iload_n 1, 1) := by decide +kernel
theorem dX9_hiddenDimension_35 : decode cX9_hiddenDimension 35 = .ok (.if_icmp .ge 139, 3) := by decide +kernel
theorem dX9_hiddenDimension_38 : decode cX9_hiddenDimension 38 = .ok (.aload_n 0, 1) := by decide +kernel
theorem dX9_hiddenDimension_39 : decode cX9_hiddenDimension 39 = .ok (.invokevirtual 292, 3) := by decide +kernel
theorem dX9_hiddenDimension_42 : decode cX9_hiddenDimension 42 = .ok (.iconst 0, 1) := by decide +kernel
theorem dX9_hiddenDimension_43 : decode cX9_hiddenDimension 43 = .ok (.istore_n 3, 1) := by decide +kernel
theorem dX9_hiddenDimension_44 : decode cX9_hiddenDimension 44 = .ok (.iload_n 3, 1) := by decide +kernel
theorem dX9_hiddenDimension_45 : decode cX9_hiddenDimension 45 = .ok (.aload_n 0, 1) := by decide +kernel
theorem dX9_hiddenDimension_46 : decode cX9_hiddenDimension 46 = .ok (.getfield 285, 3) := by decide +kernel
theorem dX9_hiddenDimension_49 : decode cX9_hiddenDimension 49 = .ok (.if_icmp .ge 58, 3) := by decide +kernel
theorem dX9_hiddenDimension_52 : decode cX9_hiddenDimension 52 = .ok (.aload_n 0, 1) := by decide +kernel
theorem dX9_hiddenDimension_53 : decode cX9_hiddenDimension 53 = .ok (.aload_n 0, 1) := by decide +kernel
theorem dX9_hiddenDimension_54 : decode cX9_hiddenDimension 54 = .ok (.getfield 88, 3) := by decide +kernel
theorem dX9_hiddenDimension_57 : decode cX9_hiddenDimension 57 = .ok (.iconst 4, 1) := by decide +kernel
theorem dX9_hiddenDimension_58 : decode cX9_hiddenDimension 58 = .ok (.iload_n 3, 1) := by decide +kernel
theorem dX9_hiddenDimension_59 : decode cX9_hiddenDimension 59 = .ok (.imul, 1) := by decide +kernel
theorem dX9_hiddenDimension_60 : decode cX9_hiddenDimension 60 = .ok (.aload_n 0, 1) := by decide +kernel
theorem dX9_hiddenDimension_61 : decode cX9_hiddenDimension 61 = .ok (.getfield 85, 3) := by decide +kernel
theorem dX9_hiddenDimension_64 : decode cX9_hiddenDimension 64 = .ok (.iconst 0, 1) := by decide +kernel
theorem dX9_hiddenDimension_65 : decode cX9_hiddenDimension 65 = .ok (.invokevirtual 274, 3) := by decide +kernel
theorem dX9_hiddenDimension_68 : decode cX9_hiddenDimension 68 = .ok (.iconst 0, 1) := by decide +kernel
theorem dX9_hiddenDimension_69 : decode cX9_hiddenDimension 69 = .ok (.istore 4, 2) := by decide +kernel
theorem dX9_hiddenDimension_71 : decode cX9_hiddenDimension 71 = .ok (.iload 4, 2) := by decide +kernel
theorem dX9_hiddenDimension_73 : decode cX9_hiddenDimension 73 = .ok (.iconst 4, 1) := by decide +kernel
theorem dX9_hiddenDimension_74 : decode cX9_hiddenDimension 74 = .ok (.if_icmp .ge 27, 3) := by decide +kernel
theorem dX9_hiddenDimension_77 : decode cX9_hiddenDimension 77 = .ok (.aload_n 0, 1) := by decide +kernel
theorem dX9_hiddenDimension_78 : decode cX9_hiddenDimension 78 = .ok (.getfield 88, 3) := by decide +kernel
theorem dX9_hiddenDimension_81 : decode cX9_hiddenDimension 81 = .ok (.iconst 4, 1) := by decide +kernel
theorem dX9_hiddenDimension_82 : decode cX9_hiddenDimension 82 = .ok (.iload_n 3, 1) := by decide +kernel
theorem dX9_hiddenDimension_83 : decode cX9_hiddenDimension 83 = .ok (.imul, 1) := by decide +kernel
theorem dX9_hiddenDimension_84 : decode cX9_hiddenDimension 84 = .ok (.iload 4, 2) := by decide +kernel
theorem dX9_hiddenDimension_86 : decode cX9_hiddenDimension 86 = .ok (.iadd, 1) := by decide +kernel
theorem dX9_hiddenDimension_87 : decode cX9_hiddenDimension 87 = .ok (.aload_n 0, 1) := by decide +kernel
theorem dX9_hiddenDimension_88 : decode cX9_hiddenDimension 88 = .ok (.getfield 85, 3) := by decide +kernel
theorem dX9_hiddenDimension_91 : decode cX9_hiddenDimension 91 = .ok (.iload 4, 2) := by decide +kernel
theorem dX9_hiddenDimension_93 : decode cX9_hiddenDimension 93 = .ok (.laload, 1) := by decide +kernel
theorem dX9_hiddenDimension_94 : decode cX9_hiddenDimension 94 = .ok (.lastore, 1) := by decide +kernel
theorem dX9_hiddenDimension_95 : decode cX9_hiddenDimension 95 = .ok (.iinc 4 1, 3) := by decide +kernel
theorem dX9_hiddenDimension_98 : decode cX9_hiddenDimension 98 = .ok (.goto (-27), 3) := by decide +kernel
theorem dX9_hiddenDimension_101 : decode cX9_hiddenDimension 101 = .ok (.iinc 3 1, 3) := by decide +kernel
theorem dX9_hiddenDimension_104 : decode cX9_hiddenDimension 104 = .ok (.goto (-60), 3) := by decide +kernel
theorem dX9_hiddenDimension_107 : decode cX9_hiddenDimension 107 = .ok (.iconst 0, 1) := by decide +kernel
theorem dX9_hiddenDimension_108 : decode cX9_hiddenDimension 108 = .ok (.istore_n 3, 1) := by decide +kernel
theorem dX9_hiddenDimension_109 : decode cX9_hiddenDimension 109 = .ok (.iload_n 3, 1) := by decide +kernel
theorem dX9_hiddenDimension_110 : decode cX9_hiddenDimension 110 = .ok (.iconst 4, 1) := by decide +kernel
theorem dX9_hiddenDimension_111 : decode cX9_hiddenDimension 111 = .ok (.aload_n 0, 1) := by decide +kernel
theorem dX9_hiddenDimension_112 : decode cX9_hiddenDimension 112 = .ok (.getfield 17, 3) := by decide +kernel
theorem dX9_hiddenDimension_115 : decode cX9_hiddenDimension 115 = .ok (.imul, 1) := by decide +kernel
theorem dX9_hiddenDimension_116 : decode cX9_hiddenDimension 116 = .ok (.if_icmp .ge 32, 3) := by decide +kernel
theorem dX9_hiddenDimension_119 : decode cX9_hiddenDimension 119 = .ok (.aload_n 0, 1) := by decide +kernel
theorem dX9_hiddenDimension_120 : decode cX9_hiddenDimension 120 = .ok (.getfield 88, 3) := by decide +kernel
theorem dX9_hiddenDimension_123 : decode cX9_hiddenDimension 123 = .ok (.iconst 4, 1) := by decide +kernel
theorem dX9_hiddenDimension_124 : decode cX9_hiddenDimension 124 = .ok (.aload_n 0, 1) := by decide +kernel
theorem dX9_hiddenDimension_125 : decode cX9_hiddenDimension 125 = .ok (.getfield 285, 3) := by decide +kernel
theorem dX9_hiddenDimension_128 : decode cX9_hiddenDimension 128 = .ok (.imul, 1) := by decide +kernel
theorem dX9_hiddenDimension_129 : decode cX9_hiddenDimension 129 = .ok (.iload_n 3, 1) := by decide +kernel
theorem dX9_hiddenDimension_130 : decode cX9_hiddenDimension 130 = .ok (.iadd, 1) := by decide +kernel
theorem dX9_hiddenDimension_131 : decode cX9_hiddenDimension 131 = .ok (.aload_n 0, 1) := by decide +kernel
theorem dX9_hiddenDimension_132 : decode cX9_hiddenDimension 132 = .ok (.getfield 29, 3) := by decide +kernel
theorem dX9_hiddenDimension_135 : decode cX9_hiddenDimension 135 = .ok (.iload_n 3, 1) := by decide +kernel
theorem dX9_hiddenDimension_136 : decode cX9_hiddenDimension 136 = .ok (.iaload, 1) := by decide +kernel
theorem dX9_hiddenDimension_137 : decode cX9_hiddenDimension 137 = .ok (.i2l, 1) := by decide +kernel
theorem dX9_hiddenDimension_138 : decode cX9_hiddenDimension 138 = .ok (.invokestatic 271, 3) := by decide +kernel
theorem dX9_hiddenDimension_141 : decode cX9_hiddenDimension 141 = .ok (.lastore, 1) := by decide +kernel
theorem dX9_hiddenDimension_142 : decode cX9_hiddenDimension 142 = .ok (.iinc 3 1, 3) := by decide +kernel
theorem dX9_hiddenDimension_145 : decode cX9_hiddenDimension 145 = .ok (.goto (-36), 3) := by decide +kernel
theorem dX9_hiddenDimension_148 : decode cX9_hiddenDimension 148 = .ok (.aload_n 0, 1) := by decide +kernel
theorem dX9_hiddenDimension_149 : decode cX9_hiddenDimension 149 = .ok (.aload_n 0, 1) := by decide +kernel
theorem dX9_hiddenDimension_150 : decode cX9_hiddenDimension 150 = .ok (.getfield 88, 3) := by decide +kernel
theorem dX9_hiddenDimension_153 : decode cX9_hiddenDimension 153 = .ok (.aload_n 0, 1) := by decide +kernel
theorem dX9_hiddenDimension_154 : decode cX9_hiddenDimension 154 = .ok (.getfield 285, 3) := by decide +kernel
theorem dX9_hiddenDimension_157 : decode cX9_hiddenDimension 157 = .ok (.aload_n 0, 1) := by decide +kernel
theorem dX9_hiddenDimension_158 : decode cX9_hiddenDimension 158 = .ok (.getfield 17, 3) := by decide +kernel
theorem dX9_hiddenDimension_161 : decode cX9_hiddenDimension 161 = .ok (.iadd, 1) := by decide +kernel
theorem dX9_hiddenDimension_162 : decode cX9_hiddenDimension 162 = .ok (.invokestatic 278, 3) := by decide +kernel
theorem dX9_hiddenDimension_165 : decode cX9_hiddenDimension 165 = .ok (.putfield 285, 3) := by decide +kernel
theorem dX9_hiddenDimension_168 : decode cX9_hiddenDimension 168 = .ok (.iinc 2 1, 3) := by decide +kernel
theorem dX9_hiddenDimension_171 : decode cX9_hiddenDimension 171 = .ok (.goto (-138), 3) := by decide +kernel
theorem dX9_hiddenDimension_174 : decode cX9_hiddenDimension 174 = .ok (.aload_n 0, 1) := by decide +kernel
theorem dX9_hiddenDimension_175 : decode cX9_hiddenDimension 175 = .ok (.getfield 13, 3) := by decide +kernel
theorem dX9_hiddenDimension_178 : decode cX9_hiddenDimension 178 = .ok (.aload_n 0, 1) := by decide +kernel
theorem dX9_hiddenDimension_179 : decode cX9_hiddenDimension 179 = .ok (.getfield 285, 3) := by decide +kernel
theorem dX9_hiddenDimension_182 : decode cX9_hiddenDimension 182 = .ok (.isub, 1) := by decide +kernel
theorem dX9_hiddenDimension_183 : decode cX9_hiddenDimension 183 = .ok (.ireturn, 1) := by decide +kernel
theorem dX9_touched_0 : decode cX9_touched 0 = .ok (.aload_n 0, 1) := by decide +kernel
theorem dX9_touched_1 : decode cX9_touched 1 = .ok (.iconst 0, 1) := by decide +kernel
theorem dX9_touched_2 : decode cX9_touched 2 = .ok (.putfield 98, 3) := by decide +kernel
theorem dX9_touched_5 : decode cX9_touched 5 = .ok (.iconst 0, 1) := by decide +kernel
theorem dX9_touched_6 : decode cX9_touched 6 = .ok (.istore_n 1, 1) := by decide +kernel
theorem dX9_touched_7 : decode cX9_touched 7 = .ok (.iconst 0, 1) := by decide +kernel
theorem dX9_touched_8 : decode cX9_touched 8 = .ok (.istore_n 2, 1) := by decide +kernel
theorem dX9_touched_9 : decode cX9_touched 9 = .ok (.iload_n 2, 1) := by decide +kernel
theorem dX9_touched_10 : decode cX9_touched 10 = .ok (.aload_n 0, 1) := by decide +kernel
theorem dX9_touched_11 : decode cX9_touched 11 = .ok (.getfield 17, 3) := by decide +kernel
theorem dX9_touched_14 : decode cX9_touched 14 = .ok (.if_icmp .ge 65, 3) := by decide +kernel
theorem dX9_touched_17 : decode cX9_touched 17 = .ok (.iconst 0, 1) := by decide +kernel
theorem dX9_touched_18 : decode cX9_touched 18 = .ok (.istore_n 3, 1) := by decide +kernel
theorem dX9_touched_19 : decode cX9_touched 19 = .ok (.iconst 0, 1) := by decide +kernel
theorem dX9_touched_20 : decode cX9_touched 20 = .ok (.istore 4, 2) := by decide +kernel
theorem dX9_touched_22 : decode cX9_touched 22 = .ok (.iload 4, 2) := by decide +kernel
theorem dX9_touched_24 : decode cX9_touched 24 = .ok (.aload_n 0, 1) := by decide +kernel
theorem dX9_touched_25 : decode cX9_touched 25 = .ok (.getfield 13, 3) := by decide +kernel
theorem dX9_touched_28 : decode cX9_touched 28 = .ok (.if_icmp .ge 31, 3) := by decide +kernel
theorem dX9_touched_31 : decode cX9_touched 31 = .ok (.iload_n 3, 1) := by decide +kernel
theorem dX9_touched_32 : decode cX9_touched 32 = .ok (.aload_n 0, 1) := by decide +kernel
theorem dX9_touched_33 : decode cX9_touched 33 = .ok (.getfield 29, 3) := by decide +kernel
theorem dX9_touched_36 : decode cX9_touched 36 = .ok (.iconst 4, 1) := by decide +kernel
theorem dX9_touched_37 : decode cX9_touched 37 = .ok (.iload_n 2, 1) := by decide +kernel
theorem dX9_touched_38 : decode cX9_touched 38 = .ok (.imul, 1) := by decide +kernel
theorem dX9_touched_39 : decode cX9_touched 39 = .ok (.iload 4, 2) := by decide +kernel
theorem dX9_touched_41 : decode cX9_touched 41 = .ok (.iadd, 1) := by decide +kernel
theorem dX9_touched_42 : decode cX9_touched 42 = .ok (.iaload, 1) := by decide +kernel
theorem dX9_touched_43 : decode cX9_touched 43 = .ok (.aload_n 0, 1) := by decide +kernel
theorem dX9_touched_44 : decode cX9_touched 44 = .ok (.getfield 26, 3) := by decide +kernel
theorem dX9_touched_47 : decode cX9_touched 47 = .ok (.iload 4, 2) := by decide +kernel
theorem dX9_touched_49 : decode cX9_touched 49 = .ok (.iaload, 1) := by decide +kernel
theorem dX9_touched_50 : decode cX9_touched 50 = .ok (.imul, 1) := by decide +kernel
theorem dX9_touched_51 : decode cX9_touched 51 = .ok (.iadd, 1) := by decide +kernel
theorem dX9_touched_52 : decode cX9_touched 52 = .ok (.istore_n 3, 1) := by decide +kernel
theorem dX9_touched_53 : decode cX9_touched 53 = .ok (.iinc 4 1, 3) := by decide +kernel
theorem dX9_touched_56 : decode cX9_touched 56 = .ok (.goto (-34), 3) := by decide +kernel
theorem dX9_touched_59 : decode cX9_touched 59 = .ok (.iload_n 1, 1) := by decide +kernel
theorem dX9_touched_60 : decode cX9_touched 60 = .ok (.iload_n 3, 1) := by decide +kernel
theorem dX9_touched_61 : decode cX9_touched 61 = .ok (.ifCond .eq 9, 3) := by decide +kernel
theorem dX9_touched_64 : decode cX9_touched 64 = .ok (.iconst 1, 1) := by decide +kernel
theorem dX9_touched_65 : decode cX9_touched 65 = .ok (.iload_n 2, 1) := by decide +kernel
theorem dX9_touched_66 : decode cX9_touched 66 = .ok (.ishl, 1) := by decide +kernel
theorem dX9_touched_67 : decode cX9_touched 67 = .ok (.goto 4, 3) := by decide +kernel
theorem dX9_touched_70 : decode cX9_touched 70 = .ok (.iconst 0, 1) := by decide +kernel
theorem dX9_touched_71 : decode cX9_touched 71 = .ok (.ior, 1) := by decide +kernel
theorem dX9_touched_72 : decode cX9_touched 72 = .ok (.istore_n 1, 1) := by decide +kernel
theorem dX9_touched_73 : decode cX9_touched 73 = .ok (.iinc 2 1, 3) := by decide +kernel
theorem dX9_touched_76 : decode cX9_touched 76 = .ok (.goto (-67), 3) := by decide +kernel
theorem dX9_touched_79 : decode cX9_touched 79 = .ok (.iload_n 1, 1) := by decide +kernel
theorem dX9_touched_80 : decode cX9_touched 80 = .ok (.ireturn, 1) := by decide +kernel
theorem dX9_divisor_0 : decode cX9_divisor 0 = .ok (.iload_n 0, 1) := by decide +kernel
theorem dX9_divisor_1 : decode cX9_divisor 1 = .ok (.invokestatic 210, 3) := by decide +kernel
theorem dX9_divisor_4 : decode cX9_divisor 4 = .ok (.istore_n 2, 1) := by decide +kernel
theorem dX9_divisor_5 : decode cX9_divisor 5 = .ok (.iload_n 1, 1) := by decide +kernel
theorem dX9_divisor_6 : decode cX9_divisor 6 = .ok (.invokestatic 210, 3) := by decide +kernel
theorem dX9_divisor_9 : decode cX9_divisor 9 = .ok (.istore_n 3, 1) := by decide +kernel
theorem dX9_divisor_10 : decode cX9_divisor 10 = .ok (.iload_n 3, 1) := by decide +kernel
theorem dX9_divisor_11 : decode cX9_divisor 11 = .ok (.ifCond .eq 16, 3) := by decide +kernel
theorem dX9_divisor_14 : decode cX9_divisor 14 = .ok (.iload_n 2, 1) := by decide +kernel
theorem dX9_divisor_15 : decode cX9_divisor 15 = .ok (.iload_n 3, 1) := by decide +kernel
theorem dX9_divisor_16 : decode cX9_divisor 16 = .ok (.irem, 1) := by decide +kernel
theorem dX9_divisor_17 : decode cX9_divisor 17 = .ok (.istore 4, 2) := by decide +kernel
theorem dX9_divisor_19 : decode cX9_divisor 19 = .ok (.iload_n 3, 1) := by decide +kernel
theorem dX9_divisor_20 : decode cX9_divisor 20 = .ok (.istore_n 2, 1) := by decide +kernel
theorem dX9_divisor_21 : decode cX9_divisor 21 = .ok (.iload 4, 2) := by decide +kernel
theorem dX9_divisor_23 : decode cX9_divisor 23 = .ok (.istore_n 3, 1) := by decide +kernel
theorem dX9_divisor_24 : decode cX9_divisor 24 = .ok (.goto (-14), 3) := by decide +kernel
theorem dX9_divisor_27 : decode cX9_divisor 27 = .ok (.iload_n 2, 1) := by decide +kernel
theorem dX9_divisor_28 : decode cX9_divisor 28 = .ok (.ireturn, 1) := by decide +kernel
theorem dX9_layFree_0 : decode cX9_layFree 0 = .ok (.bipush (-9), 2) := by decide +kernel
theorem dX9_layFree_2 : decode cX9_layFree 2 = .ok (.istore_n 2, 1) := by decide +kernel
theorem dX9_layFree_3 : decode cX9_layFree 3 = .ok (.aload_n 0, 1) := by decide +kernel
theorem dX9_layFree_4 : decode cX9_layFree 4 = .ok (.getfield 13, 3) := by decide +kernel
theorem dX9_layFree_7 : decode cX9_layFree 7 = .ok (.iconst 1, 1) := by decide +kernel
theorem dX9_layFree_8 : decode cX9_layFree 8 = .ok (.isub, 1) := by decide +kernel
theorem dX9_layFree_9 : decode cX9_layFree 9 = .ok (.istore_n 3, 1) := by decide +kernel
theorem dX9_layFree_10 : decode cX9_layFree 10 = .ok (.iload_n 3, 1) := by decide +kernel
theorem dX9_layFree_11 : decode cX9_layFree 11 = .ok (.ifCond .lt 24, 3) := by decide +kernel
theorem dX9_layFree_14 : decode cX9_layFree 14 = .ok (.aload_n 0, 1) := by decide +kernel
theorem dX9_layFree_15 : decode cX9_layFree 15 = .ok (.getfield 26, 3) := by decide +kernel
theorem dX9_layFree_18 : decode cX9_layFree 18 = .ok (.iload_n 3, 1) := by decide +kernel
theorem dX9_layFree_19 : decode cX9_layFree 19 = .ok (.iaload, 1) := by decide +kernel
theorem dX9_layFree_20 : decode cX9_layFree 20 = .ok (.ifCond .eq 7, 3) := by decide +kernel
theorem dX9_layFree_23 : decode cX9_layFree 23 = .ok (.iload_n 3, 1) := by decide +kernel
theorem dX9_layFree_24 : decode cX9_layFree 24 = .ok (.goto 4, 3) := by decide +kernel
theorem dX9_layFree_27 : decode cX9_layFree 27 = .ok (.iload_n 2, 1) := by decide +kernel
theorem dX9_layFree_28 : decode cX9_layFree 28 = .ok (.istore_n 2, 1) := by decide +kernel
theorem dX9_layFree_29 : decode cX9_layFree 29 = .ok (.iinc 3 (-1), 3) := by decide +kernel
theorem dX9_layFree_32 : decode cX9_layFree 32 = .ok (.goto (-22), 3) := by decide +kernel
theorem dX9_layFree_35 : decode cX9_layFree 35 = .ok (.iload_n 1, 1) := by decide +kernel
theorem dX9_layFree_36 : decode cX9_layFree 36 = .ok (.i2l, 1) := by decide +kernel
theorem dX9_layFree_37 : decode cX9_layFree 37 = .ok (.lconst 0, 1) := by decide +kernel
theorem dX9_layFree_38 : decode cX9_layFree 38 = .ok (.iload_n 2, 1) := by decide +kernel
theorem dX9_layFree_39 : decode cX9_layFree 39 = .ok (.bipush (-9), 2) := by decide +kernel
theorem dX9_layFree_41 : decode cX9_layFree 41 = .ok (.if_icmp .ne 13, 3) := by decide +kernel
theorem dX9_layFree_44 : decode cX9_layFree 44 = .ok (.aload_n 0, 1) := by decide +kernel
theorem dX9_layFree_45 : decode cX9_layFree 45 = .ok (.getfield 13, 3) := by decide +kernel
theorem dX9_layFree_48 : decode cX9_layFree 48 = .ok (.iconst 1, 1) := by decide +kernel
theorem dX9_layFree_49 : decode cX9_layFree 49 = .ok (.isub, 1) := by decide +kernel
theorem dX9_layFree_50 : decode cX9_layFree 50 = .ok (.i2l, 1) := by decide +kernel
theorem dX9_layFree_51 : decode cX9_layFree 51 = .ok (.goto 10, 3) := by decide +kernel
theorem dX9_layFree_54 : decode cX9_layFree 54 = .ok (.aload_n 0, 1) := by decide +kernel
theorem dX9_layFree_55 : decode cX9_layFree 55 = .ok (.getfield 13, 3) := by decide +kernel
theorem dX9_layFree_58 : decode cX9_layFree 58 = .ok (.iconst 2, 1) := by decide +kernel
theorem dX9_layFree_59 : decode cX9_layFree 59 = .ok (.isub, 1) := by decide +kernel
theorem dX9_layFree_60 : decode cX9_layFree 60 = .ok (.i2l, 1) := by decide +kernel
theorem dX9_layFree_61 : decode cX9_layFree 61 = .ok (.invokestatic 107, 3) := by decide +kernel
theorem dX9_layFree_64 : decode cX9_layFree 64 = .ok (.ifCond .ne 5, 3) := by decide +kernel
theorem dX9_layFree_67 : decode cX9_layFree 67 = .ok (.iconst 0, 1) := by decide +kernel
theorem dX9_layFree_68 : decode cX9_layFree 68 = .ok (.ireturn, 1) := by decide +kernel
theorem dX9_layFree_69 : decode cX9_layFree 69 = .ok (.iconst 0, 1) := by decide +kernel
theorem dX9_layFree_70 : decode cX9_layFree 70 = .ok (.istore_n 3, 1) := by decide +kernel
theorem dX9_layFree_71 : decode cX9_layFree 71 = .ok (.iload_n 3, 1) := by decide +kernel
theorem dX9_layFree_72 : decode cX9_layFree 72 = .ok (.iconst 4, 1) := by decide +kernel
theorem dX9_layFree_73 : decode cX9_layFree 73 = .ok (.if_icmp .ge 16, 3) := by decide +kernel
theorem dX9_layFree_76 : decode cX9_layFree 76 = .ok (.aload_n 0, 1) := by decide +kernel
theorem dX9_layFree_77 : decode cX9_layFree 77 = .ok (.getfield 91, 3) := by decide +kernel
theorem dX9_layFree_80 : decode cX9_layFree 80 = .ok (.iload_n 3, 1) := by decide +kernel
theorem dX9_layFree_81 : decode cX9_layFree 81 = .ok (.iconst 0, 1) := by decide +kernel
theorem dX9_layFree_82 : decode cX9_layFree 82 = .ok (.iastore, 1) := by decide +kernel
theorem dX9_layFree_83 : decode cX9_layFree 83 = .ok (.iinc 3 1, 3) := by decide +kernel
theorem dX9_layFree_86 : decode cX9_layFree 86 = .ok (.goto (-15), 3) := by decide +kernel
theorem dX9_layFree_89 : decode cX9_layFree 89 = .ok (.iload_n 2, 1) := by decide +kernel
theorem dX9_layFree_90 : decode cX9_layFree 90 = .ok (.bipush (-9), 2) := by decide +kernel
theorem dX9_layFree_92 : decode cX9_layFree 92 = .ok (.if_icmp .eq 14, 3) := by decide +kernel
theorem dX9_layFree_95 : decode cX9_layFree 95 = .ok (.iload_n 1, 1) := by decide +kernel
theorem dX9_layFree_96 : decode cX9_layFree 96 = .ok (.iload_n 2, 1) := by decide +kernel
theorem dX9_layFree_97 : decode cX9_layFree 97 = .ok (.if_icmp .lt 9, 3) := by decide +kernel
theorem dX9_layFree_100 : decode cX9_layFree 100 = .ok (.iload_n 1, 1) := by decide +kernel
theorem dX9_layFree_101 : decode cX9_layFree 101 = .ok (.iconst 1, 1) := by decide +kernel
theorem dX9_layFree_102 : decode cX9_layFree 102 = .ok (.iadd, 1) := by decide +kernel
theorem dX9_layFree_103 : decode cX9_layFree 103 = .ok (.goto 4, 3) := by decide +kernel
theorem dX9_layFree_106 : decode cX9_layFree 106 = .ok (.iload_n 1, 1) := by decide +kernel
theorem dX9_layFree_107 : decode cX9_layFree 107 = .ok (.istore_n 3, 1) := by decide +kernel
theorem dX9_layFree_108 : decode cX9_layFree 108 = .ok (.iload_n 2, 1) := by decide +kernel
theorem dX9_layFree_109 : decode cX9_layFree 109 = .ok (.bipush (-9), 2) := by decide +kernel
theorem dX9_layFree_111 : decode cX9_layFree 111 = .ok (.if_icmp .ne 13, 3) := by decide +kernel
theorem dX9_layFree_114 : decode cX9_layFree 114 = .ok (.aload_n 0, 1) := by decide +kernel
theorem dX9_layFree_115 : decode cX9_layFree 115 = .ok (.getfield 91, 3) := by decide +kernel
theorem dX9_layFree_118 : decode cX9_layFree 118 = .ok (.iload_n 3, 1) := by decide +kernel
theorem dX9_layFree_119 : decode cX9_layFree 119 = .ok (.iconst 1, 1) := by decide +kernel
theorem dX9_layFree_120 : decode cX9_layFree 120 = .ok (.iastore, 1) := by decide +kernel
theorem dX9_layFree_121 : decode cX9_layFree 121 = .ok (.goto 75, 3) := by decide +kernel
theorem dX9_layFree_124 : decode cX9_layFree 124 = .ok (.aload_n 0, 1) := by decide +kernel
theorem dX9_layFree_125 : decode cX9_layFree 125 = .ok (.getfield 26, 3) := by decide +kernel
theorem dX9_layFree_128 : decode cX9_layFree 128 = .ok (.iload_n 3, 1) := by decide +kernel
theorem dX9_layFree_129 : decode cX9_layFree 129 = .ok (.iaload, 1) := by decide +kernel
theorem dX9_layFree_130 : decode cX9_layFree 130 = .ok (.aload_n 0, 1) := by decide +kernel
theorem dX9_layFree_131 : decode cX9_layFree 131 = .ok (.getfield 26, 3) := by decide +kernel
theorem dX9_layFree_134 : decode cX9_layFree 134 = .ok (.iload_n 2, 1) := by decide +kernel
theorem dX9_layFree_135 : decode cX9_layFree 135 = .ok (.iaload, 1) := by decide +kernel
theorem dX9_layFree_136 : decode cX9_layFree 136 = .ok (.invokestatic 295, 3) := by decide +kernel
theorem dX9_layFree_139 : decode cX9_layFree 139 = .ok (.istore 4, 2) := by decide +kernel
theorem dX9_layFree_141 : decode cX9_layFree 141 = .ok (.aload_n 0, 1) := by decide +kernel
theorem dX9_layFree_142 : decode cX9_layFree 142 = .ok (.getfield 91, 3) := by decide +kernel
theorem dX9_layFree_145 : decode cX9_layFree 145 = .ok (.iload_n 3, 1) := by decide +kernel
theorem dX9_layFree_146 : decode cX9_layFree 146 = .ok (.aload_n 0, 1) := by decide +kernel
theorem dX9_layFree_147 : decode cX9_layFree 147 = .ok (.getfield 26, 3) := by decide +kernel
theorem dX9_layFree_150 : decode cX9_layFree 150 = .ok (.iload_n 2, 1) := by decide +kernel
theorem dX9_layFree_151 : decode cX9_layFree 151 = .ok (.iaload, 1) := by decide +kernel
theorem dX9_layFree_152 : decode cX9_layFree 152 = .ok (.invokestatic 210, 3) := by decide +kernel
theorem dX9_layFree_155 : decode cX9_layFree 155 = .ok (.iload 4, 2) := by decide +kernel
theorem dX9_layFree_157 : decode cX9_layFree 157 = .ok (.idiv, 1) := by decide +kernel
theorem dX9_layFree_158 : decode cX9_layFree 158 = .ok (.iastore, 1) := by decide +kernel
theorem dX9_layFree_159 : decode cX9_layFree 159 = .ok (.aload_n 0, 1) := by decide +kernel
theorem dX9_layFree_160 : decode cX9_layFree 160 = .ok (.getfield 91, 3) := by decide +kernel
theorem dX9_layFree_163 : decode cX9_layFree 163 = .ok (.iload_n 2, 1) := by decide +kernel
theorem dX9_layFree_164 : decode cX9_layFree 164 = .ok (.aload_n 0, 1) := by decide +kernel
theorem dX9_layFree_165 : decode cX9_layFree 165 = .ok (.getfield 26, 3) := by decide +kernel
theorem dX9_layFree_168 : decode cX9_layFree 168 = .ok (.iload_n 2, 1) := by decide +kernel
theorem dX9_layFree_169 : decode cX9_layFree 169 = .ok (.iaload, 1) := by decide +kernel
theorem dX9_layFree_170 : decode cX9_layFree 170 = .ok (.ifCond .le 16, 3) := by decide +kernel
theorem dX9_layFree_173 : decode cX9_layFree 173 = .ok (.aload_n 0, 1) := by decide +kernel
theorem dX9_layFree_174 : decode cX9_layFree 174 = .ok (.getfield 26, 3) := by decide +kernel
theorem dX9_layFree_177 : decode cX9_layFree 177 = .ok (.iload_n 3, 1) := by decide +kernel
theorem dX9_layFree_178 : decode cX9_layFree 178 = .ok (.iaload, 1) := by decide +kernel
theorem dX9_layFree_179 : decode cX9_layFree 179 = .ok (.ineg, 1) := by decide +kernel
theorem dX9_layFree_180 : decode cX9_layFree 180 = .ok (.iload 4, 2) := by decide +kernel
theorem dX9_layFree_182 : decode cX9_layFree 182 = .ok (.idiv, 1) := by decide +kernel
theorem dX9_layFree_183 : decode cX9_layFree 183 = .ok (.goto 12, 3) := by decide +kernel
theorem dX9_layFree_186 : decode cX9_layFree 186 = .ok (.aload_n 0, 1) := by decide +kernel
theorem dX9_layFree_187 : decode cX9_layFree 187 = .ok (.getfield 26, 3) := by decide +kernel
theorem dX9_layFree_190 : decode cX9_layFree 190 = .ok (.iload_n 3, 1) := by decide +kernel
theorem dX9_layFree_191 : decode cX9_layFree 191 = .ok (.iaload, 1) := by decide +kernel
theorem dX9_layFree_192 : decode cX9_layFree 192 = .ok (.iload 4, 2) := by decide +kernel
theorem dX9_layFree_194 : decode cX9_layFree 194 = .ok (.idiv, 1) := by decide +kernel
theorem dX9_layFree_195 : decode cX9_layFree 195 = .ok (.iastore, 1) := by decide +kernel
theorem dX9_layFree_196 : decode cX9_layFree 196 = .ok (.iconst 1, 1) := by decide +kernel
theorem dX9_layFree_197 : decode cX9_layFree 197 = .ok (.ireturn, 1) := by decide +kernel
theorem dX9_free_0 : decode cX9_free 0 = .ok (.aload_n 0, 1) := by decide +kernel
theorem dX9_free_1 : decode cX9_free 1 = .ok (.aload_n 0, 1) := by decide +kernel
theorem dX9_free_2 : decode cX9_free 2 = .ok (.iload_n 1, 1) := by decide +kernel
theorem dX9_free_3 : decode cX9_free 3 = .ok (.invokevirtual 298, 3) := by decide +kernel
theorem dX9_free_6 : decode cX9_free 6 = .ok (.ifCond .eq 15, 3) := by decide +kernel
theorem dX9_free_9 : decode cX9_free 9 = .ok (.aload_n 0, 1) := by decide +kernel
theorem dX9_free_10 : decode cX9_free 10 = .ok (.iload_n 2, 1) := by decide +kernel
theorem dX9_free_11 : decode cX9_free 11 = .ok (.invokevirtual 173, 3) := by decide +kernel
theorem dX9_free_14 : decode cX9_free 14 = .ok (.ifCond .eq 7, 3) := by decide +kernel
theorem dX9_free_17 : decode cX9_free 17 = .ok (.iconst 0, 1) := by decide +kernel
theorem dX9_free_18 : decode cX9_free 18 = .ok (.goto 4, 3) := by decide +kernel
theorem dX9_free_21 : decode cX9_free 21 = .ok (.iconst 1, 1) := by decide +kernel
theorem dX9_free_22 : decode cX9_free 22 = .ok (.invokevirtual 114, 3) := by decide +kernel
theorem dX9_free_25 : decode cX9_free 25 = .ok (.ifCond .eq 7, 3) := by decide +kernel
theorem dX9_free_28 : decode cX9_free 28 = .ok (.iconst 0, 1) := by decide +kernel
theorem dX9_free_29 : decode cX9_free 29 = .ok (.goto 9, 3) := by decide +kernel
theorem dX9_free_32 : decode cX9_free 32 = .ok (.aload_n 0, 1) := by decide +kernel
theorem dX9_free_33 : decode cX9_free 33 = .ok (.getfield 91, 3) := by decide +kernel
theorem dX9_free_36 : decode cX9_free 36 = .ok (.iload_n 2, 1) := by decide +kernel
theorem dX9_free_37 : decode cX9_free 37 = .ok (.iaload, 1) := by decide +kernel
theorem dX9_free_38 : decode cX9_free 38 = .ok (.ireturn, 1) := by decide +kernel
theorem dX9_freeRange_0 : decode cX9_freeRange 0 = .ok (.aload_n 0, 1) := by decide +kernel
theorem dX9_freeRange_1 : decode cX9_freeRange 1 = .ok (.aload_n 0, 1) := by decide +kernel
theorem dX9_freeRange_2 : decode cX9_freeRange 2 = .ok (.iload_n 1, 1) := by decide +kernel
theorem dX9_freeRange_3 : decode cX9_freeRange 3 = .ok (.invokevirtual 298, 3) := by decide +kernel
theorem dX9_freeRange_6 : decode cX9_freeRange 6 = .ok (.ifCond .eq 7, 3) := by decide +kernel
theorem dX9_freeRange_9 : decode cX9_freeRange 9 = .ok (.iconst 0, 1) := by decide +kernel
theorem dX9_freeRange_10 : decode cX9_freeRange 10 = .ok (.goto 4, 3) := by decide +kernel
theorem dX9_freeRange_13 : decode cX9_freeRange 13 = .ok (.iconst 1, 1) := by decide +kernel
theorem dX9_freeRange_14 : decode cX9_freeRange 14 = .ok (.invokevirtual 114, 3) := by decide +kernel
theorem dX9_freeRange_17 : decode cX9_freeRange 17 = .ok (.ifCond .eq 7, 3) := by decide +kernel
theorem dX9_freeRange_20 : decode cX9_freeRange 20 = .ok (.iconst 0, 1) := by decide +kernel
theorem dX9_freeRange_21 : decode cX9_freeRange 21 = .ok (.goto 20, 3) := by decide +kernel
theorem dX9_freeRange_24 : decode cX9_freeRange 24 = .ok (.aload_n 0, 1) := by decide +kernel
theorem dX9_freeRange_25 : decode cX9_freeRange 25 = .ok (.aload_n 0, 1) := by decide +kernel
theorem dX9_freeRange_26 : decode cX9_freeRange 26 = .ok (.getfield 53, 3) := by decide +kernel
theorem dX9_freeRange_29 : decode cX9_freeRange 29 = .ok (.aload_n 0, 1) := by decide +kernel
theorem dX9_freeRange_30 : decode cX9_freeRange 30 = .ok (.getfield 91, 3) := by decide +kernel
theorem dX9_freeRange_33 : decode cX9_freeRange 33 = .ok (.iconst 0, 1) := by decide +kernel
theorem dX9_freeRange_34 : decode cX9_freeRange 34 = .ok (.bipush (-9), 2) := by decide +kernel
theorem dX9_freeRange_36 : decode cX9_freeRange 36 = .ok (.iload_n 2, 1) := by decide +kernel
theorem dX9_freeRange_37 : decode cX9_freeRange 37 = .ok (.invokevirtual 178, 3) := by decide +kernel
theorem dX9_freeRange_40 : decode cX9_freeRange 40 = .ok (.l2i, 1) := by decide +kernel
theorem dX9_freeRange_41 : decode cX9_freeRange 41 = .ok (.ireturn, 1) := by decide +kernel
theorem dX9_does_0 : decode cX9_does 0 = .ok (.bipush 10, 2) := by decide +kernel
theorem dX9_does_2 : decode cX9_does 2 = .ok (.iload_n 3, 1) := by decide +kernel
theorem dX9_does_3 : decode cX9_does 3 = .ok (.imul, 1) := by decide +kernel
theorem dX9_does_4 : decode cX9_does 4 = .ok (.iload 4, 2) := by decide +kernel
theorem dX9_does_6 : decode cX9_does 6 = .ok (.iadd, 1) := by decide +kernel
theorem dX9_does_7 : decode cX9_does 7 = .ok (.istore 5, 2) := by decide +kernel
theorem dX9_does_9 : decode cX9_does 9 = .ok (.iload_n 1, 1) := by decide +kernel
theorem dX9_does_10 : decode cX9_does 10 = .ok (.tableswitch 253 1 7 #[42, 42, 99, 130, 167, 194, 226], 42) := by decide +kernel
theorem dX9_does_52 : decode cX9_does 52 = .ok (.iload 4, 2) := by decide +kernel
theorem dX9_does_54 : decode cX9_does 54 = .ok (.aload_n 0, 1) := by decide +kernel
theorem dX9_does_55 : decode cX9_does 55 = .ok (.getfield 56, 3) := by decide +kernel
theorem dX9_does_58 : decode cX9_does 58 = .ok (.bipush 29, 2) := by decide +kernel
theorem dX9_does_60 : decode cX9_does 60 = .ok (.iaload, 1) := by decide +kernel
theorem dX9_does_61 : decode cX9_does 61 = .ok (.if_icmp .le 5, 3) := by decide +kernel
theorem dX9_does_64 : decode cX9_does 64 = .ok (.iconst 0, 1) := by decide +kernel
theorem dX9_does_65 : decode cX9_does 65 = .ok (.ireturn, 1) := by decide +kernel
theorem dX9_does_66 : decode cX9_does 66 = .ok (.aload_n 0, 1) := by decide +kernel
theorem dX9_does_67 : decode cX9_does 67 = .ok (.aload_n 0, 1) := by decide +kernel
theorem dX9_does_68 : decode cX9_does 68 = .ok (.getfield 56, 3) := by decide +kernel
theorem dX9_does_71 : decode cX9_does 71 = .ok (.iload_n 1, 1) := by decide +kernel
theorem dX9_does_72 : decode cX9_does 72 = .ok (.iconst 1, 1) := by decide +kernel
theorem dX9_does_73 : decode cX9_does 73 = .ok (.if_icmp .ne 12, 3) := by decide +kernel
theorem dX9_does_76 : decode cX9_does 76 = .ok (.bipush 10, 2) := by decide +kernel
theorem dX9_does_78 : decode cX9_does 78 = .ok (.iload_n 2, 1) := by decide +kernel
theorem dX9_does_79 : decode cX9_does 79 = .ok (.imul, 1) := by decide +kernel
theorem dX9_does_80 : decode cX9_does 80 = .ok (.iload_n 3, 1) := by decide +kernel
theorem dX9_does_81 : decode cX9_does 81 = .ok (.iadd, 1) := by decide +kernel
theorem dX9_does_82 : decode cX9_does 82 = .ok (.goto 9, 3) := by decide +kernel
theorem dX9_does_85 : decode cX9_does 85 = .ok (.bipush (-10), 2) := by decide +kernel
theorem dX9_does_87 : decode cX9_does 87 = .ok (.iload_n 2, 1) := by decide +kernel
theorem dX9_does_88 : decode cX9_does 88 = .ok (.imul, 1) := by decide +kernel
theorem dX9_does_89 : decode cX9_does 89 = .ok (.iload_n 3, 1) := by decide +kernel
theorem dX9_does_90 : decode cX9_does 90 = .ok (.isub, 1) := by decide +kernel
theorem dX9_does_91 : decode cX9_does 91 = .ok (.iload_n 1, 1) := by decide +kernel
theorem dX9_does_92 : decode cX9_does 92 = .ok (.iconst 1, 1) := by decide +kernel
theorem dX9_does_93 : decode cX9_does 93 = .ok (.if_icmp .ne 8, 3) := by decide +kernel
theorem dX9_does_96 : decode cX9_does 96 = .ok (.iload 4, 2) := by decide +kernel
theorem dX9_does_98 : decode cX9_does 98 = .ok (.goto 6, 3) := by decide +kernel
theorem dX9_does_101 : decode cX9_does 101 = .ok (.iload 4, 2) := by decide +kernel
theorem dX9_does_103 : decode cX9_does 103 = .ok (.ineg, 1) := by decide +kernel
theorem dX9_does_104 : decode cX9_does 104 = .ok (.invokevirtual 226, 3) := by decide +kernel
theorem dX9_does_107 : decode cX9_does 107 = .ok (.iconst 1, 1) := by decide +kernel
theorem dX9_does_108 : decode cX9_does 108 = .ok (.ireturn, 1) := by decide +kernel
theorem dX9_does_109 : decode cX9_does 109 = .ok (.iload_n 2, 1) := by decide +kernel
theorem dX9_does_110 : decode cX9_does 110 = .ok (.ifCond .ne 16, 3) := by decide +kernel
theorem dX9_does_113 : decode cX9_does 113 = .ok (.iload_n 3, 1) := by decide +kernel
theorem dX9_does_114 : decode cX9_does 114 = .ok (.ifCond .ne 12, 3) := by decide +kernel
theorem dX9_does_117 : decode cX9_does 117 = .ok (.aload_n 0, 1) := by decide +kernel
theorem dX9_does_118 : decode cX9_does 118 = .ok (.iload 4, 2) := by decide +kernel
theorem dX9_does_120 : decode cX9_does 120 = .ok (.invokevirtual 170, 3) := by decide +kernel
theorem dX9_does_123 : decode cX9_does 123 = .ok (.ifCond .ne 5, 3) := by decide +kernel
theorem dX9_does_126 : decode cX9_does 126 = .ok (.iconst 0, 1) := by decide +kernel
theorem dX9_does_127 : decode cX9_does 127 = .ok (.ireturn, 1) := by decide +kernel
theorem dX9_does_128 : decode cX9_does 128 = .ok (.aload_n 0, 1) := by decide +kernel
theorem dX9_does_129 : decode cX9_does 129 = .ok (.aload_n 0, 1) := by decide +kernel
theorem dX9_does_130 : decode cX9_does 130 = .ok (.getfield 56, 3) := by decide +kernel
theorem dX9_does_133 : decode cX9_does 133 = .ok (.iload 4, 2) := by decide +kernel
theorem dX9_does_135 : decode cX9_does 135 = .ok (.invokevirtual 241, 3) := by decide +kernel
theorem dX9_does_138 : decode cX9_does 138 = .ok (.iconst 1, 1) := by decide +kernel
theorem dX9_does_139 : decode cX9_does 139 = .ok (.ireturn, 1) := by decide +kernel
theorem dX9_does_140 : decode cX9_does 140 = .ok (.aload_n 0, 1) := by decide +kernel
theorem dX9_does_141 : decode cX9_does 141 = .ok (.iload_n 2, 1) := by decide +kernel
theorem dX9_does_142 : decode cX9_does 142 = .ok (.invokevirtual 173, 3) := by decide +kernel
theorem dX9_does_145 : decode cX9_does 145 = .ok (.ifCond .eq 30, 3) := by decide +kernel
theorem dX9_does_148 : decode cX9_does 148 = .ok (.aload_n 0, 1) := by decide +kernel
theorem dX9_does_149 : decode cX9_does 149 = .ok (.getfield 56, 3) := by decide +kernel
theorem dX9_does_152 : decode cX9_does 152 = .ok (.bipush 8, 2) := by decide +kernel
theorem dX9_does_154 : decode cX9_does 154 = .ok (.iload_n 2, 1) := by decide +kernel
theorem dX9_does_155 : decode cX9_does 155 = .ok (.iadd, 1) := by decide +kernel
theorem dX9_does_156 : decode cX9_does 156 = .ok (.iaload, 1) := by decide +kernel
theorem dX9_does_157 : decode cX9_does 157 = .ok (.aload_n 0, 1) := by decide +kernel
theorem dX9_does_158 : decode cX9_does 158 = .ok (.getfield 56, 3) := by decide +kernel
theorem dX9_does_161 : decode cX9_does 161 = .ok (.iconst 4, 1) := by decide +kernel
theorem dX9_does_162 : decode cX9_does 162 = .ok (.iload_n 2, 1) := by decide +kernel
theorem dX9_does_163 : decode cX9_does 163 = .ok (.iadd, 1) := by decide +kernel
theorem dX9_does_164 : decode cX9_does 164 = .ok (.iaload, 1) := by decide +kernel
theorem dX9_does_165 : decode cX9_does 165 = .ok (.isub, 1) := by decide +kernel
theorem dX9_does_166 : decode cX9_does 166 = .ok (.iload 5, 2) := by decide +kernel
theorem dX9_does_168 : decode cX9_does 168 = .ok (.if_icmp .gt 7, 3) := by decide +kernel
theorem dX9_does_171 : decode cX9_does 171 = .ok (.iconst 1, 1) := by decide +kernel
theorem dX9_does_172 : decode cX9_does 172 = .ok (.goto 4, 3) := by decide +kernel
theorem dX9_does_175 : decode cX9_does 175 = .ok (.iconst 0, 1) := by decide +kernel
theorem dX9_does_176 : decode cX9_does 176 = .ok (.ireturn, 1) := by decide +kernel
theorem dX9_does_177 : decode cX9_does 177 = .ok (.aload_n 0, 1) := by decide +kernel
theorem dX9_does_178 : decode cX9_does 178 = .ok (.iload_n 2, 1) := by decide +kernel
theorem dX9_does_179 : decode cX9_does 179 = .ok (.invokevirtual 173, 3) := by decide +kernel
theorem dX9_does_182 : decode cX9_does 182 = .ok (.ifCond .eq 20, 3) := by decide +kernel
theorem dX9_does_185 : decode cX9_does 185 = .ok (.aload_n 0, 1) := by decide +kernel
theorem dX9_does_186 : decode cX9_does 186 = .ok (.getfield 56, 3) := by decide +kernel
theorem dX9_does_189 : decode cX9_does 189 = .ok (.iconst 4, 1) := by decide +kernel
theorem dX9_does_190 : decode cX9_does 190 = .ok (.iload_n 2, 1) := by decide +kernel
theorem dX9_does_191 : decode cX9_does 191 = .ok (.iadd, 1) := by decide +kernel
theorem dX9_does_192 : decode cX9_does 192 = .ok (.iaload, 1) := by decide +kernel
theorem dX9_does_193 : decode cX9_does 193 = .ok (.iload 5, 2) := by decide +kernel
theorem dX9_does_195 : decode cX9_does 195 = .ok (.if_icmp .lt 7, 3) := by decide +kernel
theorem dX9_does_198 : decode cX9_does 198 = .ok (.iconst 1, 1) := by decide +kernel
theorem dX9_does_199 : decode cX9_does 199 = .ok (.goto 4, 3) := by decide +kernel
theorem dX9_does_202 : decode cX9_does 202 = .ok (.iconst 0, 1) := by decide +kernel
theorem dX9_does_203 : decode cX9_does 203 = .ok (.ireturn, 1) := by decide +kernel
theorem dX9_does_204 : decode cX9_does 204 = .ok (.aload_n 0, 1) := by decide +kernel
theorem dX9_does_205 : decode cX9_does 205 = .ok (.iload_n 2, 1) := by decide +kernel
theorem dX9_does_206 : decode cX9_does 206 = .ok (.invokevirtual 170, 3) := by decide +kernel
theorem dX9_does_209 : decode cX9_does 209 = .ok (.ifCond .eq 25, 3) := by decide +kernel
theorem dX9_does_212 : decode cX9_does 212 = .ok (.iload_n 3, 1) := by decide +kernel
theorem dX9_does_213 : decode cX9_does 213 = .ok (.ifCond .ne 21, 3) := by decide +kernel
theorem dX9_does_216 : decode cX9_does 216 = .ok (.aload_n 0, 1) := by decide +kernel
theorem dX9_does_217 : decode cX9_does 217 = .ok (.getfield 56, 3) := by decide +kernel
theorem dX9_does_220 : decode cX9_does 220 = .ok (.bipush 34, 2) := by decide +kernel
theorem dX9_does_222 : decode cX9_does 222 = .ok (.iload_n 2, 1) := by decide +kernel
theorem dX9_does_223 : decode cX9_does 223 = .ok (.iadd, 1) := by decide +kernel
theorem dX9_does_224 : decode cX9_does 224 = .ok (.iaload, 1) := by decide +kernel
theorem dX9_does_225 : decode cX9_does 225 = .ok (.iload 4, 2) := by decide +kernel
theorem dX9_does_227 : decode cX9_does 227 = .ok (.if_icmp .ne 7, 3) := by decide +kernel
theorem dX9_does_230 : decode cX9_does 230 = .ok (.iconst 1, 1) := by decide +kernel
theorem dX9_does_231 : decode cX9_does 231 = .ok (.goto 4, 3) := by decide +kernel
theorem dX9_does_234 : decode cX9_does 234 = .ok (.iconst 0, 1) := by decide +kernel
theorem dX9_does_235 : decode cX9_does 235 = .ok (.ireturn, 1) := by decide +kernel
theorem dX9_does_236 : decode cX9_does 236 = .ok (.aload_n 0, 1) := by decide +kernel
theorem dX9_does_237 : decode cX9_does 237 = .ok (.iload_n 2, 1) := by decide +kernel
theorem dX9_does_238 : decode cX9_does 238 = .ok (.invokevirtual 173, 3) := by decide +kernel
theorem dX9_does_241 : decode cX9_does 241 = .ok (.ifCond .eq 20, 3) := by decide +kernel
theorem dX9_does_244 : decode cX9_does 244 = .ok (.aload_n 0, 1) := by decide +kernel
theorem dX9_does_245 : decode cX9_does 245 = .ok (.getfield 56, 3) := by decide +kernel
theorem dX9_does_248 : decode cX9_does 248 = .ok (.iconst 0, 1) := by decide +kernel
theorem dX9_does_249 : decode cX9_does 249 = .ok (.iload_n 2, 1) := by decide +kernel
theorem dX9_does_250 : decode cX9_does 250 = .ok (.iadd, 1) := by decide +kernel
theorem dX9_does_251 : decode cX9_does 251 = .ok (.iaload, 1) := by decide +kernel
theorem dX9_does_252 : decode cX9_does 252 = .ok (.iload 5, 2) := by decide +kernel
theorem dX9_does_254 : decode cX9_does 254 = .ok (.if_icmp .gt 7, 3) := by decide +kernel
theorem dX9_does_257 : decode cX9_does 257 = .ok (.iconst 1, 1) := by decide +kernel
theorem dX9_does_258 : decode cX9_does 258 = .ok (.goto 4, 3) := by decide +kernel
theorem dX9_does_261 : decode cX9_does 261 = .ok (.iconst 0, 1) := by decide +kernel
theorem dX9_does_262 : decode cX9_does 262 = .ok (.ireturn, 1) := by decide +kernel
theorem dX9_does_263 : decode cX9_does 263 = .ok (.iconst 0, 1) := by decide +kernel
theorem dX9_does_264 : decode cX9_does 264 = .ok (.ireturn, 1) := by decide +kernel
theorem dX9_tenTo_0 : decode cX9_tenTo 0 = .ok (.lconst 1, 1) := by decide +kernel
theorem dX9_tenTo_1 : decode cX9_tenTo 1 = .ok (.lstore_n 1, 1) := by decide +kernel
theorem dX9_tenTo_2 : decode cX9_tenTo 2 = .ok (.iconst 0, 1) := by decide +kernel
theorem dX9_tenTo_3 : decode cX9_tenTo 3 = .ok (.istore_n 3, 1) := by decide +kernel
theorem dX9_tenTo_4 : decode cX9_tenTo 4 = .ok (.iload_n 3, 1) := by decide +kernel
theorem dX9_tenTo_5 : decode cX9_tenTo 5 = .ok (.iload_n 0, 1) := by decide +kernel
theorem dX9_tenTo_6 : decode cX9_tenTo 6 = .ok (.if_icmp .ge 15, 3) := by decide +kernel
theorem dX9_tenTo_9 : decode cX9_tenTo 9 = .ok (.lload_n 1, 1) := by decide +kernel
theorem dX9_tenTo_10 : decode cX9_tenTo 10 = .ok (.ldc2_w 301, 3) := by decide +kernel
theorem dX9_tenTo_13 : decode cX9_tenTo 13 = .ok (.lmul, 1) := by decide +kernel
theorem dX9_tenTo_14 : decode cX9_tenTo 14 = .ok (.lstore_n 1, 1) := by decide +kernel
theorem dX9_tenTo_15 : decode cX9_tenTo 15 = .ok (.iinc 3 1, 3) := by decide +kernel
theorem dX9_tenTo_18 : decode cX9_tenTo 18 = .ok (.goto (-14), 3) := by decide +kernel
theorem dX9_tenTo_21 : decode cX9_tenTo 21 = .ok (.lload_n 1, 1) := by decide +kernel
theorem dX9_tenTo_22 : decode cX9_tenTo 22 = .ok (.lreturn, 1) := by decide +kernel
theorem dX9_runScript_0 : decode cX9_runScript 0 = .ok (.aload_n 0, 1) := by decide +kernel
theorem dX9_runScript_1 : decode cX9_runScript 1 = .ok (.iload_n 1, 1) := by decide +kernel
theorem dX9_runScript_2 : decode cX9_runScript 2 = .ok (.i2l, 1) := by decide +kernel
theorem dX9_runScript_3 : decode cX9_runScript 3 = .ok (.lconst 1, 1) := by decide +kernel
theorem dX9_runScript_4 : decode cX9_runScript 4 = .ok (.ldc2_w 166, 3) := by decide +kernel
theorem dX9_runScript_7 : decode cX9_runScript 7 = .ok (.invokestatic 107, 3) := by decide +kernel
theorem dX9_runScript_10 : decode cX9_runScript 10 = .ok (.ifCond .eq 23, 3) := by decide +kernel
theorem dX9_runScript_13 : decode cX9_runScript 13 = .ok (.lload_n 2, 1) := by decide +kernel
theorem dX9_runScript_14 : decode cX9_runScript 14 = .ok (.lconst 0, 1) := by decide +kernel
theorem dX9_runScript_15 : decode cX9_runScript 15 = .ok (.iconst 4, 1) := by decide +kernel
theorem dX9_runScript_16 : decode cX9_runScript 16 = .ok (.iload_n 1, 1) := by decide +kernel
theorem dX9_runScript_17 : decode cX9_runScript 17 = .ok (.imul, 1) := by decide +kernel
theorem dX9_runScript_18 : decode cX9_runScript 18 = .ok (.invokestatic 303, 3) := by decide +kernel
theorem dX9_runScript_21 : decode cX9_runScript 21 = .ok (.lconst 1, 1) := by decide +kernel
theorem dX9_runScript_22 : decode cX9_runScript 22 = .ok (.lsub, 1) := by decide +kernel
theorem dX9_runScript_23 : decode cX9_runScript 23 = .ok (.invokestatic 107, 3) := by decide +kernel
theorem dX9_runScript_26 : decode cX9_runScript 26 = .ok (.ifCond .eq 7, 3) := by decide +kernel
theorem dX9_runScript_29 : decode cX9_runScript 29 = .ok (.iconst 0, 1) := by decide +kernel
theorem dX9_runScript_30 : decode cX9_runScript 30 = .ok (.goto 4, 3) := by decide +kernel
theorem dX9_runScript_33 : decode cX9_runScript 33 = .ok (.iconst 1, 1) := by decide +kernel
theorem dX9_runScript_34 : decode cX9_runScript 34 = .ok (.invokevirtual 114, 3) := by decide +kernel
theorem dX9_runScript_37 : decode cX9_runScript 37 = .ok (.ifCond .eq 5, 3) := by decide +kernel
theorem dX9_runScript_40 : decode cX9_runScript 40 = .ok (.iconst 0, 1) := by decide +kernel
theorem dX9_runScript_41 : decode cX9_runScript 41 = .ok (.ireturn, 1) := by decide +kernel
theorem dX9_runScript_42 : decode cX9_runScript 42 = .ok (.aload_n 0, 1) := by decide +kernel
theorem dX9_runScript_43 : decode cX9_runScript 43 = .ok (.getfield 53, 3) := by decide +kernel
theorem dX9_runScript_46 : decode cX9_runScript 46 = .ok (.iconst 0, 1) := by decide +kernel
theorem dX9_runScript_47 : decode cX9_runScript 47 = .ok (.aload_n 0, 1) := by decide +kernel
theorem dX9_runScript_48 : decode cX9_runScript 48 = .ok (.getfield 56, 3) := by decide +kernel
theorem dX9_runScript_51 : decode cX9_runScript 51 = .ok (.iconst 0, 1) := by decide +kernel
theorem dX9_runScript_52 : decode cX9_runScript 52 = .ok (.bipush 48, 2) := by decide +kernel
theorem dX9_runScript_54 : decode cX9_runScript 54 = .ok (.invokestatic 159, 3) := by decide +kernel
theorem dX9_runScript_57 : decode cX9_runScript 57 = .ok (.iconst 0, 1) := by decide +kernel
theorem dX9_runScript_58 : decode cX9_runScript 58 = .ok (.istore 4, 2) := by decide +kernel
theorem dX9_runScript_60 : decode cX9_runScript 60 = .ok (.iload 4, 2) := by decide +kernel
theorem dX9_runScript_62 : decode cX9_runScript 62 = .ok (.iload_n 1, 1) := by decide +kernel
theorem dX9_runScript_63 : decode cX9_runScript 63 = .ok (.if_icmp .ge 66, 3) := by decide +kernel
theorem dX9_runScript_66 : decode cX9_runScript 66 = .ok (.lload_n 2, 1) := by decide +kernel
theorem dX9_runScript_67 : decode cX9_runScript 67 = .ok (.iconst 4, 1) := by decide +kernel
theorem dX9_runScript_68 : decode cX9_runScript 68 = .ok (.iload_n 1, 1) := by decide +kernel
theorem dX9_runScript_69 : decode cX9_runScript 69 = .ok (.iconst 1, 1) := by decide +kernel
theorem dX9_runScript_70 : decode cX9_runScript 70 = .ok (.isub, 1) := by decide +kernel
theorem dX9_runScript_71 : decode cX9_runScript 71 = .ok (.iload 4, 2) := by decide +kernel
theorem dX9_runScript_73 : decode cX9_runScript 73 = .ok (.isub, 1) := by decide +kernel
theorem dX9_runScript_74 : decode cX9_runScript 74 = .ok (.imul, 1) := by decide +kernel
theorem dX9_runScript_75 : decode cX9_runScript 75 = .ok (.invokestatic 303, 3) := by decide +kernel
theorem dX9_runScript_78 : decode cX9_runScript 78 = .ok (.ldiv, 1) := by decide +kernel
theorem dX9_runScript_79 : decode cX9_runScript 79 = .ok (.ldc2_w 306, 3) := by decide +kernel
theorem dX9_runScript_82 : decode cX9_runScript 82 = .ok (.lrem, 1) := by decide +kernel
theorem dX9_runScript_83 : decode cX9_runScript 83 = .ok (.l2i, 1) := by decide +kernel
theorem dX9_runScript_84 : decode cX9_runScript 84 = .ok (.istore 5, 2) := by decide +kernel
theorem dX9_runScript_86 : decode cX9_runScript 86 = .ok (.aload_n 0, 1) := by decide +kernel
theorem dX9_runScript_87 : decode cX9_runScript 87 = .ok (.iload 5, 2) := by decide +kernel
theorem dX9_runScript_89 : decode cX9_runScript 89 = .ok (.sipush 1000, 3) := by decide +kernel
theorem dX9_runScript_92 : decode cX9_runScript 92 = .ok (.idiv, 1) := by decide +kernel
theorem dX9_runScript_93 : decode cX9_runScript 93 = .ok (.iload 5, 2) := by decide +kernel
theorem dX9_runScript_95 : decode cX9_runScript 95 = .ok (.bipush 100, 2) := by decide +kernel
theorem dX9_runScript_97 : decode cX9_runScript 97 = .ok (.idiv, 1) := by decide +kernel
theorem dX9_runScript_98 : decode cX9_runScript 98 = .ok (.bipush 10, 2) := by decide +kernel
theorem dX9_runScript_100 : decode cX9_runScript 100 = .ok (.irem, 1) := by decide +kernel
theorem dX9_runScript_101 : decode cX9_runScript 101 = .ok (.iload 5, 2) := by decide +kernel
theorem dX9_runScript_103 : decode cX9_runScript 103 = .ok (.bipush 10, 2) := by decide +kernel
theorem dX9_runScript_105 : decode cX9_runScript 105 = .ok (.idiv, 1) := by decide +kernel
theorem dX9_runScript_106 : decode cX9_runScript 106 = .ok (.bipush 10, 2) := by decide +kernel
theorem dX9_runScript_108 : decode cX9_runScript 108 = .ok (.irem, 1) := by decide +kernel
theorem dX9_runScript_109 : decode cX9_runScript 109 = .ok (.iload 5, 2) := by decide +kernel
theorem dX9_runScript_111 : decode cX9_runScript 111 = .ok (.bipush 10, 2) := by decide +kernel
theorem dX9_runScript_113 : decode cX9_runScript 113 = .ok (.irem, 1) := by decide +kernel
theorem dX9_runScript_114 : decode cX9_runScript 114 = .ok (.invokevirtual 308, 3) := by decide +kernel
theorem dX9_runScript_117 : decode cX9_runScript 117 = .ok (.ifCond .ne 6, 3) := by decide +kernel
theorem dX9_runScript_120 : decode cX9_runScript 120 = .ok (.iload 4, 2) := by decide +kernel
theorem dX9_runScript_122 : decode cX9_runScript 122 = .ok (.ireturn, 1) := by decide +kernel
theorem dX9_runScript_123 : decode cX9_runScript 123 = .ok (.iinc 4 1, 3) := by decide +kernel
theorem dX9_runScript_126 : decode cX9_runScript 126 = .ok (.goto (-66), 3) := by decide +kernel
theorem dX9_runScript_129 : decode cX9_runScript 129 = .ok (.bipush (-9), 2) := by decide +kernel
theorem dX9_runScript_131 : decode cX9_runScript 131 = .ok (.ireturn, 1) := by decide +kernel
theorem dX9_simulate_0 : decode cX9_simulate 0 = .ok (.aload_n 0, 1) := by decide +kernel
theorem dX9_simulate_1 : decode cX9_simulate 1 = .ok (.iload_n 3, 1) := by decide +kernel
theorem dX9_simulate_2 : decode cX9_simulate 2 = .ok (.i2l, 1) := by decide +kernel
theorem dX9_simulate_3 : decode cX9_simulate 3 = .ok (.lconst 1, 1) := by decide +kernel
theorem dX9_simulate_4 : decode cX9_simulate 4 = .ok (.ldc2_w 244, 3) := by decide +kernel
theorem dX9_simulate_7 : decode cX9_simulate 7 = .ok (.invokestatic 107, 3) := by decide +kernel
theorem dX9_simulate_10 : decode cX9_simulate 10 = .ok (.ifCond .eq 7, 3) := by decide +kernel
theorem dX9_simulate_13 : decode cX9_simulate 13 = .ok (.iconst 0, 1) := by decide +kernel
theorem dX9_simulate_14 : decode cX9_simulate 14 = .ok (.goto 4, 3) := by decide +kernel
theorem dX9_simulate_17 : decode cX9_simulate 17 = .ok (.iconst 1, 1) := by decide +kernel
theorem dX9_simulate_18 : decode cX9_simulate 18 = .ok (.invokevirtual 114, 3) := by decide +kernel
theorem dX9_simulate_21 : decode cX9_simulate 21 = .ok (.ifCond .eq 5, 3) := by decide +kernel
theorem dX9_simulate_24 : decode cX9_simulate 24 = .ok (.lconst 0, 1) := by decide +kernel
theorem dX9_simulate_25 : decode cX9_simulate 25 = .ok (.lreturn, 1) := by decide +kernel
theorem dX9_simulate_26 : decode cX9_simulate 26 = .ok (.aload_n 0, 1) := by decide +kernel
theorem dX9_simulate_27 : decode cX9_simulate 27 = .ok (.getfield 53, 3) := by decide +kernel
theorem dX9_simulate_30 : decode cX9_simulate 30 = .ok (.iconst 0, 1) := by decide +kernel
theorem dX9_simulate_31 : decode cX9_simulate 31 = .ok (.aload_n 0, 1) := by decide +kernel
theorem dX9_simulate_32 : decode cX9_simulate 32 = .ok (.getfield 56, 3) := by decide +kernel
theorem dX9_simulate_35 : decode cX9_simulate 35 = .ok (.iconst 0, 1) := by decide +kernel
theorem dX9_simulate_36 : decode cX9_simulate 36 = .ok (.bipush 48, 2) := by decide +kernel
theorem dX9_simulate_38 : decode cX9_simulate 38 = .ok (.invokestatic 159, 3) := by decide +kernel
theorem dX9_simulate_41 : decode cX9_simulate 41 = .ok (.lload_n 1, 1) := by decide +kernel
theorem dX9_simulate_42 : decode cX9_simulate 42 = .ok (.lstore 4, 2) := by decide +kernel
theorem dX9_simulate_44 : decode cX9_simulate 44 = .ok (.lconst 0, 1) := by decide +kernel
theorem dX9_simulate_45 : decode cX9_simulate 45 = .ok (.lstore 6, 2) := by decide +kernel
theorem dX9_simulate_47 : decode cX9_simulate 47 = .ok (.iconst 0, 1) := by decide +kernel
theorem dX9_simulate_48 : decode cX9_simulate 48 = .ok (.istore 8, 2) := by decide +kernel
theorem dX9_simulate_50 : decode cX9_simulate 50 = .ok (.iload 8, 2) := by decide +kernel
theorem dX9_simulate_52 : decode cX9_simulate 52 = .ok (.iload_n 3, 1) := by decide +kernel
theorem dX9_simulate_53 : decode cX9_simulate 53 = .ok (.if_icmp .ge 113, 3) := by decide +kernel
theorem dX9_simulate_56 : decode cX9_simulate 56 = .ok (.lload 4, 2) := by decide +kernel
theorem dX9_simulate_58 : decode cX9_simulate 58 = .ok (.ldc2_w 312, 3) := by decide +kernel
theorem dX9_simulate_61 : decode cX9_simulate 61 = .ok (.lmul, 1) := by decide +kernel
theorem dX9_simulate_62 : decode cX9_simulate 62 = .ok (.ldc2_w 314, 3) := by decide +kernel
theorem dX9_simulate_65 : decode cX9_simulate 65 = .ok (.ladd, 1) := by decide +kernel
theorem dX9_simulate_66 : decode cX9_simulate 66 = .ok (.lstore 4, 2) := by decide +kernel
theorem dX9_simulate_68 : decode cX9_simulate 68 = .ok (.lload 4, 2) := by decide +kernel
theorem dX9_simulate_70 : decode cX9_simulate 70 = .ok (.bipush 33, 2) := by decide +kernel
theorem dX9_simulate_72 : decode cX9_simulate 72 = .ok (.lushr, 1) := by decide +kernel
theorem dX9_simulate_73 : decode cX9_simulate 73 = .ok (.l2i, 1) := by decide +kernel
theorem dX9_simulate_74 : decode cX9_simulate 74 = .ok (.istore 9, 2) := by decide +kernel
theorem dX9_simulate_76 : decode cX9_simulate 76 = .ok (.aload_n 0, 1) := by decide +kernel
theorem dX9_simulate_77 : decode cX9_simulate 77 = .ok (.getfield 56, 3) := by decide +kernel
theorem dX9_simulate_80 : decode cX9_simulate 80 = .ok (.bipush 29, 2) := by decide +kernel
theorem dX9_simulate_82 : decode cX9_simulate 82 = .ok (.iaload, 1) := by decide +kernel
theorem dX9_simulate_83 : decode cX9_simulate 83 = .ok (.istore 10, 2) := by decide +kernel
theorem dX9_simulate_85 : decode cX9_simulate 85 = .ok (.aload_n 0, 1) := by decide +kernel
theorem dX9_simulate_86 : decode cX9_simulate 86 = .ok (.aload_n 0, 1) := by decide +kernel
theorem dX9_simulate_87 : decode cX9_simulate 87 = .ok (.getfield 56, 3) := by decide +kernel
theorem dX9_simulate_90 : decode cX9_simulate 90 = .ok (.iload 9, 2) := by decide +kernel
theorem dX9_simulate_92 : decode cX9_simulate 92 = .ok (.bipush 21, 2) := by decide +kernel
theorem dX9_simulate_94 : decode cX9_simulate 94 = .ok (.irem, 1) := by decide +kernel
theorem dX9_simulate_95 : decode cX9_simulate 95 = .ok (.bipush 10, 2) := by decide +kernel
theorem dX9_simulate_97 : decode cX9_simulate 97 = .ok (.isub, 1) := by decide +kernel
theorem dX9_simulate_98 : decode cX9_simulate 98 = .ok (.iload 9, 2) := by decide +kernel
theorem dX9_simulate_100 : decode cX9_simulate 100 = .ok (.bipush 32, 2) := by decide +kernel
theorem dX9_simulate_102 : decode cX9_simulate 102 = .ok (.idiv, 1) := by decide +kernel
theorem dX9_simulate_103 : decode cX9_simulate 103 = .ok (.iconst 2, 1) := by decide +kernel
theorem dX9_simulate_104 : decode cX9_simulate 104 = .ok (.iload 10, 2) := by decide +kernel
theorem dX9_simulate_106 : decode cX9_simulate 106 = .ok (.imul, 1) := by decide +kernel
theorem dX9_simulate_107 : decode cX9_simulate 107 = .ok (.iconst 1, 1) := by decide +kernel
theorem dX9_simulate_108 : decode cX9_simulate 108 = .ok (.iadd, 1) := by decide +kernel
theorem dX9_simulate_109 : decode cX9_simulate 109 = .ok (.irem, 1) := by decide +kernel
theorem dX9_simulate_110 : decode cX9_simulate 110 = .ok (.iload 10, 2) := by decide +kernel
theorem dX9_simulate_112 : decode cX9_simulate 112 = .ok (.isub, 1) := by decide +kernel
theorem dX9_simulate_113 : decode cX9_simulate 113 = .ok (.invokevirtual 226, 3) := by decide +kernel
theorem dX9_simulate_116 : decode cX9_simulate 116 = .ok (.iload 9, 2) := by decide +kernel
theorem dX9_simulate_118 : decode cX9_simulate 118 = .ok (.sipush 8192, 3) := by decide +kernel
theorem dX9_simulate_121 : decode cX9_simulate 121 = .ok (.idiv, 1) := by decide +kernel
theorem dX9_simulate_122 : decode cX9_simulate 122 = .ok (.iconst 4, 1) := by decide +kernel
theorem dX9_simulate_123 : decode cX9_simulate 123 = .ok (.irem, 1) := by decide +kernel
theorem dX9_simulate_124 : decode cX9_simulate 124 = .ok (.ifCond .eq 22, 3) := by decide +kernel
theorem dX9_simulate_127 : decode cX9_simulate 127 = .ok (.aload_n 0, 1) := by decide +kernel
theorem dX9_simulate_128 : decode cX9_simulate 128 = .ok (.aload_n 0, 1) := by decide +kernel
theorem dX9_simulate_129 : decode cX9_simulate 129 = .ok (.getfield 56, 3) := by decide +kernel
theorem dX9_simulate_132 : decode cX9_simulate 132 = .ok (.iload 9, 2) := by decide +kernel
theorem dX9_simulate_134 : decode cX9_simulate 134 = .ok (.ldc_w 316, 3) := by decide +kernel
theorem dX9_simulate_137 : decode cX9_simulate 137 = .ok (.idiv, 1) := by decide +kernel
theorem dX9_simulate_138 : decode cX9_simulate 138 = .ok (.aload_n 0, 1) := by decide +kernel
theorem dX9_simulate_139 : decode cX9_simulate 139 = .ok (.getfield 17, 3) := by decide +kernel
theorem dX9_simulate_142 : decode cX9_simulate 142 = .ok (.irem, 1) := by decide +kernel
theorem dX9_simulate_143 : decode cX9_simulate 143 = .ok (.invokevirtual 241, 3) := by decide +kernel
theorem dX9_simulate_146 : decode cX9_simulate 146 = .ok (.lload 6, 2) := by decide +kernel
theorem dX9_simulate_148 : decode cX9_simulate 148 = .ok (.aload_n 0, 1) := by decide +kernel
theorem dX9_simulate_149 : decode cX9_simulate 149 = .ok (.aload_n 0, 1) := by decide +kernel
theorem dX9_simulate_150 : decode cX9_simulate 150 = .ok (.getfield 56, 3) := by decide +kernel
theorem dX9_simulate_153 : decode cX9_simulate 153 = .ok (.invokevirtual 182, 3) := by decide +kernel
theorem dX9_simulate_156 : decode cX9_simulate 156 = .ok (.i2l, 1) := by decide +kernel
theorem dX9_simulate_157 : decode cX9_simulate 157 = .ok (.ladd, 1) := by decide +kernel
theorem dX9_simulate_158 : decode cX9_simulate 158 = .ok (.lstore 6, 2) := by decide +kernel
theorem dX9_simulate_160 : decode cX9_simulate 160 = .ok (.iinc 8 1, 3) := by decide +kernel
theorem dX9_simulate_163 : decode cX9_simulate 163 = .ok (.goto (-113), 3) := by decide +kernel
theorem dX9_simulate_166 : decode cX9_simulate 166 = .ok (.lload 6, 2) := by decide +kernel
theorem dX9_simulate_168 : decode cX9_simulate 168 = .ok (.lreturn, 1) := by decide +kernel
theorem dX9_save_0 : decode cX9_save 0 = .ok (.aload_n 0, 1) := by decide +kernel
theorem dX9_save_1 : decode cX9_save 1 = .ok (.iload_n 1, 1) := by decide +kernel
theorem dX9_save_2 : decode cX9_save 2 = .ok (.i2l, 1) := by decide +kernel
theorem dX9_save_3 : decode cX9_save 3 = .ok (.lconst 0, 1) := by decide +kernel
theorem dX9_save_4 : decode cX9_save 4 = .ok (.lconst 1, 1) := by decide +kernel
theorem dX9_save_5 : decode cX9_save 5 = .ok (.invokestatic 107, 3) := by decide +kernel
theorem dX9_save_8 : decode cX9_save 8 = .ok (.ifCond .eq 7, 3) := by decide +kernel
theorem dX9_save_11 : decode cX9_save 11 = .ok (.iconst 0, 1) := by decide +kernel
theorem dX9_save_12 : decode cX9_save 12 = .ok (.goto 4, 3) := by decide +kernel
theorem dX9_save_15 : decode cX9_save 15 = .ok (.iconst 1, 1) := by decide +kernel
theorem dX9_save_16 : decode cX9_save 16 = .ok (.invokevirtual 114, 3) := by decide +kernel
theorem dX9_save_19 : decode cX9_save 19 = .ok (.ifCond .eq 5, 3) := by decide +kernel
theorem dX9_save_22 : decode cX9_save 22 = .ok (.iconst 0, 1) := by decide +kernel
theorem dX9_save_23 : decode cX9_save 23 = .ok (.ireturn, 1) := by decide +kernel
theorem dX9_save_24 : decode cX9_save 24 = .ok (.aload_n 0, 1) := by decide +kernel
theorem dX9_save_25 : decode cX9_save 25 = .ok (.getfield 68, 3) := by decide +kernel
theorem dX9_save_28 : decode cX9_save 28 = .ok (.iload_n 1, 1) := by decide +kernel
theorem dX9_save_29 : decode cX9_save 29 = .ok (.iconst 1, 1) := by decide +kernel
theorem dX9_save_30 : decode cX9_save 30 = .ok (.bastore, 1) := by decide +kernel
theorem dX9_save_31 : decode cX9_save 31 = .ok (.aload_n 0, 1) := by decide +kernel
theorem dX9_save_32 : decode cX9_save 32 = .ok (.getfield 53, 3) := by decide +kernel
theorem dX9_save_35 : decode cX9_save 35 = .ok (.iconst 0, 1) := by decide +kernel
theorem dX9_save_36 : decode cX9_save 36 = .ok (.aload_n 0, 1) := by decide +kernel
theorem dX9_save_37 : decode cX9_save 37 = .ok (.getfield 65, 3) := by decide +kernel
theorem dX9_save_40 : decode cX9_save 40 = .ok (.bipush 48, 2) := by decide +kernel
theorem dX9_save_42 : decode cX9_save 42 = .ok (.iload_n 1, 1) := by decide +kernel
theorem dX9_save_43 : decode cX9_save 43 = .ok (.imul, 1) := by decide +kernel
theorem dX9_save_44 : decode cX9_save 44 = .ok (.bipush 48, 2) := by decide +kernel
theorem dX9_save_46 : decode cX9_save 46 = .ok (.invokestatic 159, 3) := by decide +kernel
theorem dX9_save_49 : decode cX9_save 49 = .ok (.aload_n 0, 1) := by decide +kernel
theorem dX9_save_50 : decode cX9_save 50 = .ok (.getfield 53, 3) := by decide +kernel
theorem dX9_save_53 : decode cX9_save 53 = .ok (.bipush 30, 2) := by decide +kernel
theorem dX9_save_55 : decode cX9_save 55 = .ok (.iaload, 1) := by decide +kernel
theorem dX9_save_56 : decode cX9_save 56 = .ok (.ireturn, 1) := by decide +kernel
theorem dX9_restore_0 : decode cX9_restore 0 = .ok (.aload_n 0, 1) := by decide +kernel
theorem dX9_restore_1 : decode cX9_restore 1 = .ok (.iload_n 1, 1) := by decide +kernel
theorem dX9_restore_2 : decode cX9_restore 2 = .ok (.i2l, 1) := by decide +kernel
theorem dX9_restore_3 : decode cX9_restore 3 = .ok (.lconst 0, 1) := by decide +kernel
theorem dX9_restore_4 : decode cX9_restore 4 = .ok (.lconst 1, 1) := by decide +kernel
theorem dX9_restore_5 : decode cX9_restore 5 = .ok (.invokestatic 107, 3) := by decide +kernel
theorem dX9_restore_8 : decode cX9_restore 8 = .ok (.ifCond .ne 7, 3) := by decide +kernel
theorem dX9_restore_11 : decode cX9_restore 11 = .ok (.iconst 1, 1) := by decide +kernel
theorem dX9_restore_12 : decode cX9_restore 12 = .ok (.goto 17, 3) := by decide +kernel
theorem dX9_restore_15 : decode cX9_restore 15 = .ok (.aload_n 0, 1) := by decide +kernel
theorem dX9_restore_16 : decode cX9_restore 16 = .ok (.getfield 68, 3) := by decide +kernel
theorem dX9_restore_19 : decode cX9_restore 19 = .ok (.iload_n 1, 1) := by decide +kernel
theorem dX9_restore_20 : decode cX9_restore 20 = .ok (.baload, 1) := by decide +kernel
theorem dX9_restore_21 : decode cX9_restore 21 = .ok (.ifCond .ne 7, 3) := by decide +kernel
theorem dX9_restore_24 : decode cX9_restore 24 = .ok (.iconst 2, 1) := by decide +kernel
theorem dX9_restore_25 : decode cX9_restore 25 = .ok (.goto 4, 3) := by decide +kernel
theorem dX9_restore_28 : decode cX9_restore 28 = .ok (.iconst 0, 1) := by decide +kernel
theorem dX9_restore_29 : decode cX9_restore 29 = .ok (.invokevirtual 114, 3) := by decide +kernel
theorem dX9_restore_32 : decode cX9_restore 32 = .ok (.ifCond .eq 5, 3) := by decide +kernel
theorem dX9_restore_35 : decode cX9_restore 35 = .ok (.iconst 0, 1) := by decide +kernel
theorem dX9_restore_36 : decode cX9_restore 36 = .ok (.ireturn, 1) := by decide +kernel
theorem dX9_restore_37 : decode cX9_restore 37 = .ok (.aload_n 0, 1) := by decide +kernel
theorem dX9_restore_38 : decode cX9_restore 38 = .ok (.getfield 65, 3) := by decide +kernel
theorem dX9_restore_41 : decode cX9_restore 41 = .ok (.bipush 48, 2) := by decide +kernel
theorem dX9_restore_43 : decode cX9_restore 43 = .ok (.iload_n 1, 1) := by decide +kernel
theorem dX9_restore_44 : decode cX9_restore 44 = .ok (.imul, 1) := by decide +kernel
theorem dX9_restore_45 : decode cX9_restore 45 = .ok (.aload_n 0, 1) := by decide +kernel
theorem dX9_restore_46 : decode cX9_restore 46 = .ok (.getfield 53, 3) := by decide +kernel
theorem dX9_restore_49 : decode cX9_restore 49 = .ok (.iconst 0, 1) := by decide +kernel
theorem dX9_restore_50 : decode cX9_restore 50 = .ok (.bipush 48, 2) := by decide +kernel
theorem dX9_restore_52 : decode cX9_restore 52 = .ok (.invokestatic 159, 3) := by decide +kernel
theorem dX9_restore_55 : decode cX9_restore 55 = .ok (.aload_n 0, 1) := by decide +kernel
theorem dX9_restore_56 : decode cX9_restore 56 = .ok (.iconst 0, 1) := by decide +kernel
theorem dX9_restore_57 : decode cX9_restore 57 = .ok (.putfield 163, 3) := by decide +kernel
theorem dX9_restore_60 : decode cX9_restore 60 = .ok (.aload_n 0, 1) := by decide +kernel
theorem dX9_restore_61 : decode cX9_restore 61 = .ok (.getfield 53, 3) := by decide +kernel
theorem dX9_restore_64 : decode cX9_restore 64 = .ok (.bipush 30, 2) := by decide +kernel
theorem dX9_restore_66 : decode cX9_restore 66 = .ok (.iaload, 1) := by decide +kernel
theorem dX9_restore_67 : decode cX9_restore 67 = .ok (.ireturn, 1) := by decide +kernel
