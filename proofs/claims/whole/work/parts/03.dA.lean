theorem dX0_init_0 : decode cX0_init 0 = .ok (.aload_n 0, 1) := by decide +kernel
theorem dX0_init_1 : decode cX0_init 1 = .ok (.invokespecial 3, 3) := by decide +kernel
theorem dX0_init_4 : decode cX0_init 4 = .ok (.aload_n 0, 1) := by decide +kernel
theorem dX0_init_5 : decode cX0_init 5 = .ok (.iconst 4, 1) := by decide +kernel
theorem dX0_init_6 : decode cX0_init 6 = .ok (.newarray .long, 2) := by decide +kernel
theorem dX0_init_8 : decode cX0_init 8 = .ok (.putfield 9, 3) := by decide +kernel
theorem dX0_init_11 : decode cX0_init 11 = .ok (.return_, 1) := by decide +kernel
theorem dX0_valueOf_0 : decode cX0_valueOf 0 = .ok (.iload_n 1, 1) := by decide +kernel
theorem dX0_valueOf_1 : decode cX0_valueOf 1 = .ok (.aload_n 0, 1) := by decide +kernel
theorem dX0_valueOf_2 : decode cX0_valueOf 2 = .ok (.getfield 9, 3) := by decide +kernel
theorem dX0_valueOf_5 : decode cX0_valueOf 5 = .ok (.arraylength, 1) := by decide +kernel
theorem dX0_valueOf_6 : decode cX0_valueOf 6 = .ok (.invokestatic 15, 3) := by decide +kernel
theorem dX0_valueOf_9 : decode cX0_valueOf 9 = .ok (.ifCond .eq 12, 3) := by decide +kernel
theorem dX0_valueOf_12 : decode cX0_valueOf 12 = .ok (.aload_n 0, 1) := by decide +kernel
theorem dX0_valueOf_13 : decode cX0_valueOf 13 = .ok (.getfield 9, 3) := by decide +kernel
theorem dX0_valueOf_16 : decode cX0_valueOf 16 = .ok (.iload_n 1, 1) := by decide +kernel
theorem dX0_valueOf_17 : decode cX0_valueOf 17 = .ok (.laload, 1) := by decide +kernel
theorem dX0_valueOf_18 : decode cX0_valueOf 18 = .ok (.goto 4, 3) := by decide +kernel
theorem dX0_valueOf_21 : decode cX0_valueOf 21 = .ok (.lconst 0, 1) := by decide +kernel
theorem dX0_valueOf_22 : decode cX0_valueOf 22 = .ok (.lreturn, 1) := by decide +kernel
theorem dX0_store_0 : decode cX0_store 0 = .ok (.iload_n 1, 1) := by decide +kernel
theorem dX0_store_1 : decode cX0_store 1 = .ok (.aload_n 0, 1) := by decide +kernel
theorem dX0_store_2 : decode cX0_store 2 = .ok (.getfield 9, 3) := by decide +kernel
theorem dX0_store_5 : decode cX0_store 5 = .ok (.arraylength, 1) := by decide +kernel
theorem dX0_store_6 : decode cX0_store 6 = .ok (.invokestatic 15, 3) := by decide +kernel
theorem dX0_store_9 : decode cX0_store 9 = .ok (.ifCond .eq 10, 3) := by decide +kernel
theorem dX0_store_12 : decode cX0_store 12 = .ok (.aload_n 0, 1) := by decide +kernel
theorem dX0_store_13 : decode cX0_store 13 = .ok (.getfield 9, 3) := by decide +kernel
theorem dX0_store_16 : decode cX0_store 16 = .ok (.iload_n 1, 1) := by decide +kernel
theorem dX0_store_17 : decode cX0_store 17 = .ok (.lload_n 2, 1) := by decide +kernel
theorem dX0_store_18 : decode cX0_store 18 = .ok (.lastore, 1) := by decide +kernel
theorem dX0_store_19 : decode cX0_store 19 = .ok (.return_, 1) := by decide +kernel
theorem dX0_clear_0 : decode cX0_clear 0 = .ok (.iconst 0, 1) := by decide +kernel
theorem dX0_clear_1 : decode cX0_clear 1 = .ok (.istore_n 1, 1) := by decide +kernel
theorem dX0_clear_2 : decode cX0_clear 2 = .ok (.iload_n 1, 1) := by decide +kernel
theorem dX0_clear_3 : decode cX0_clear 3 = .ok (.iconst 4, 1) := by decide +kernel
theorem dX0_clear_4 : decode cX0_clear 4 = .ok (.if_icmp .ge 16, 3) := by decide +kernel
theorem dX0_clear_7 : decode cX0_clear 7 = .ok (.aload_n 0, 1) := by decide +kernel
theorem dX0_clear_8 : decode cX0_clear 8 = .ok (.getfield 9, 3) := by decide +kernel
theorem dX0_clear_11 : decode cX0_clear 11 = .ok (.iload_n 1, 1) := by decide +kernel
theorem dX0_clear_12 : decode cX0_clear 12 = .ok (.lconst 0, 1) := by decide +kernel
theorem dX0_clear_13 : decode cX0_clear 13 = .ok (.lastore, 1) := by decide +kernel
theorem dX0_clear_14 : decode cX0_clear 14 = .ok (.iinc 1 1, 3) := by decide +kernel
theorem dX0_clear_17 : decode cX0_clear 17 = .ok (.goto (-15), 3) := by decide +kernel
theorem dX0_clear_20 : decode cX0_clear 20 = .ok (.return_, 1) := by decide +kernel
theorem dX0_becomeLike_0 : decode cX0_becomeLike 0 = .ok (.iconst 0, 1) := by decide +kernel
theorem dX0_becomeLike_1 : decode cX0_becomeLike 1 = .ok (.istore_n 2, 1) := by decide +kernel
theorem dX0_becomeLike_2 : decode cX0_becomeLike 2 = .ok (.iload_n 2, 1) := by decide +kernel
theorem dX0_becomeLike_3 : decode cX0_becomeLike 3 = .ok (.iconst 4, 1) := by decide +kernel
theorem dX0_becomeLike_4 : decode cX0_becomeLike 4 = .ok (.if_icmp .ge 21, 3) := by decide +kernel
theorem dX0_becomeLike_7 : decode cX0_becomeLike 7 = .ok (.aload_n 0, 1) := by decide +kernel
theorem dX0_becomeLike_8 : decode cX0_becomeLike 8 = .ok (.getfield 9, 3) := by decide +kernel
theorem dX0_becomeLike_11 : decode cX0_becomeLike 11 = .ok (.iload_n 2, 1) := by decide +kernel
theorem dX0_becomeLike_12 : decode cX0_becomeLike 12 = .ok (.aload_n 1, 1) := by decide +kernel
theorem dX0_becomeLike_13 : decode cX0_becomeLike 13 = .ok (.getfield 9, 3) := by decide +kernel
theorem dX0_becomeLike_16 : decode cX0_becomeLike 16 = .ok (.iload_n 2, 1) := by decide +kernel
theorem dX0_becomeLike_17 : decode cX0_becomeLike 17 = .ok (.laload, 1) := by decide +kernel
theorem dX0_becomeLike_18 : decode cX0_becomeLike 18 = .ok (.lastore, 1) := by decide +kernel
theorem dX0_becomeLike_19 : decode cX0_becomeLike 19 = .ok (.iinc 2 1, 3) := by decide +kernel
theorem dX0_becomeLike_22 : decode cX0_becomeLike 22 = .ok (.goto (-20), 3) := by decide +kernel
theorem dX0_becomeLike_25 : decode cX0_becomeLike 25 = .ok (.return_, 1) := by decide +kernel
theorem dX0_digestBehind_0 : decode cX0_digestBehind 0 = .ok (.bipush 31, 2) := by decide +kernel
theorem dX0_digestBehind_2 : decode cX0_digestBehind 2 = .ok (.iload_n 1, 1) := by decide +kernel
theorem dX0_digestBehind_3 : decode cX0_digestBehind 3 = .ok (.imul, 1) := by decide +kernel
theorem dX0_digestBehind_4 : decode cX0_digestBehind 4 = .ok (.iload_n 2, 1) := by decide +kernel
theorem dX0_digestBehind_5 : decode cX0_digestBehind 5 = .ok (.iadd, 1) := by decide +kernel
theorem dX0_digestBehind_6 : decode cX0_digestBehind 6 = .ok (.istore_n 3, 1) := by decide +kernel
theorem dX0_digestBehind_7 : decode cX0_digestBehind 7 = .ok (.aload_n 0, 1) := by decide +kernel
theorem dX0_digestBehind_8 : decode cX0_digestBehind 8 = .ok (.getfield 9, 3) := by decide +kernel
theorem dX0_digestBehind_11 : decode cX0_digestBehind 11 = .ok (.astore 4, 2) := by decide +kernel
theorem dX0_digestBehind_13 : decode cX0_digestBehind 13 = .ok (.aload 4, 2) := by decide +kernel
theorem dX0_digestBehind_15 : decode cX0_digestBehind 15 = .ok (.arraylength, 1) := by decide +kernel
theorem dX0_digestBehind_16 : decode cX0_digestBehind 16 = .ok (.istore 5, 2) := by decide +kernel
theorem dX0_digestBehind_18 : decode cX0_digestBehind 18 = .ok (.iconst 0, 1) := by decide +kernel
theorem dX0_digestBehind_19 : decode cX0_digestBehind 19 = .ok (.istore 6, 2) := by decide +kernel
theorem dX0_digestBehind_21 : decode cX0_digestBehind 21 = .ok (.iload 6, 2) := by decide +kernel
theorem dX0_digestBehind_23 : decode cX0_digestBehind 23 = .ok (.iload 5, 2) := by decide +kernel
theorem dX0_digestBehind_25 : decode cX0_digestBehind 25 = .ok (.if_icmp .ge 37, 3) := by decide +kernel
theorem dX0_digestBehind_28 : decode cX0_digestBehind 28 = .ok (.aload 4, 2) := by decide +kernel
theorem dX0_digestBehind_30 : decode cX0_digestBehind 30 = .ok (.iload 6, 2) := by decide +kernel
theorem dX0_digestBehind_32 : decode cX0_digestBehind 32 = .ok (.laload, 1) := by decide +kernel
theorem dX0_digestBehind_33 : decode cX0_digestBehind 33 = .ok (.lstore 7, 2) := by decide +kernel
theorem dX0_digestBehind_35 : decode cX0_digestBehind 35 = .ok (.bipush 31, 2) := by decide +kernel
theorem dX0_digestBehind_37 : decode cX0_digestBehind 37 = .ok (.iload_n 3, 1) := by decide +kernel
theorem dX0_digestBehind_38 : decode cX0_digestBehind 38 = .ok (.imul, 1) := by decide +kernel
theorem dX0_digestBehind_39 : decode cX0_digestBehind 39 = .ok (.lload 7, 2) := by decide +kernel
theorem dX0_digestBehind_41 : decode cX0_digestBehind 41 = .ok (.bipush 32, 2) := by decide +kernel
theorem dX0_digestBehind_43 : decode cX0_digestBehind 43 = .ok (.lushr, 1) := by decide +kernel
theorem dX0_digestBehind_44 : decode cX0_digestBehind 44 = .ok (.l2i, 1) := by decide +kernel
theorem dX0_digestBehind_45 : decode cX0_digestBehind 45 = .ok (.iadd, 1) := by decide +kernel
theorem dX0_digestBehind_46 : decode cX0_digestBehind 46 = .ok (.istore_n 3, 1) := by decide +kernel
theorem dX0_digestBehind_47 : decode cX0_digestBehind 47 = .ok (.bipush 31, 2) := by decide +kernel
theorem dX0_digestBehind_49 : decode cX0_digestBehind 49 = .ok (.iload_n 3, 1) := by decide +kernel
theorem dX0_digestBehind_50 : decode cX0_digestBehind 50 = .ok (.imul, 1) := by decide +kernel
theorem dX0_digestBehind_51 : decode cX0_digestBehind 51 = .ok (.lload 7, 2) := by decide +kernel
theorem dX0_digestBehind_53 : decode cX0_digestBehind 53 = .ok (.l2i, 1) := by decide +kernel
theorem dX0_digestBehind_54 : decode cX0_digestBehind 54 = .ok (.iadd, 1) := by decide +kernel
theorem dX0_digestBehind_55 : decode cX0_digestBehind 55 = .ok (.istore_n 3, 1) := by decide +kernel
theorem dX0_digestBehind_56 : decode cX0_digestBehind 56 = .ok (.iinc 6 1, 3) := by decide +kernel
theorem dX0_digestBehind_59 : decode cX0_digestBehind 59 = .ok (.goto (-38), 3) := by decide +kernel
theorem dX0_digestBehind_62 : decode cX0_digestBehind 62 = .ok (.iload_n 3, 1) := by decide +kernel
theorem dX0_digestBehind_63 : decode cX0_digestBehind 63 = .ok (.ireturn, 1) := by decide +kernel
theorem dX1_init_0 : decode cX1_init 0 = .ok (.aload_n 0, 1) := by decide +kernel
theorem dX1_init_1 : decode cX1_init 1 = .ok (.invokespecial 3, 3) := by decide +kernel
theorem dX1_init_4 : decode cX1_init 4 = .ok (.aload_n 0, 1) := by decide +kernel
theorem dX1_init_5 : decode cX1_init 5 = .ok (.bipush 24, 2) := by decide +kernel
theorem dX1_init_7 : decode cX1_init 7 = .ok (.newarray .int, 2) := by decide +kernel
theorem dX1_init_9 : decode cX1_init 9 = .ok (.putfield 9, 3) := by decide +kernel
theorem dX1_init_12 : decode cX1_init 12 = .ok (.aload_n 0, 1) := by decide +kernel
theorem dX1_init_13 : decode cX1_init 13 = .ok (.bipush 24, 2) := by decide +kernel
theorem dX1_init_15 : decode cX1_init 15 = .ok (.newarray .int, 2) := by decide +kernel
theorem dX1_init_17 : decode cX1_init 17 = .ok (.putfield 15, 3) := by decide +kernel
theorem dX1_init_20 : decode cX1_init 20 = .ok (.aload_n 0, 1) := by decide +kernel
theorem dX1_init_21 : decode cX1_init 21 = .ok (.new 18, 3) := by decide +kernel
theorem dX1_init_24 : decode cX1_init 24 = .ok (.dup, 1) := by decide +kernel
theorem dX1_init_25 : decode cX1_init 25 = .ok (.invokespecial 20, 3) := by decide +kernel
theorem dX1_init_28 : decode cX1_init 28 = .ok (.putfield 21, 3) := by decide +kernel
theorem dX1_init_31 : decode cX1_init 31 = .ok (.aload_n 0, 1) := by decide +kernel
theorem dX1_init_32 : decode cX1_init 32 = .ok (.new 18, 3) := by decide +kernel
theorem dX1_init_35 : decode cX1_init 35 = .ok (.dup, 1) := by decide +kernel
theorem dX1_init_36 : decode cX1_init 36 = .ok (.invokespecial 20, 3) := by decide +kernel
theorem dX1_init_39 : decode cX1_init 39 = .ok (.putfield 25, 3) := by decide +kernel
theorem dX1_init_42 : decode cX1_init 42 = .ok (.aload_n 0, 1) := by decide +kernel
theorem dX1_init_43 : decode cX1_init 43 = .ok (.iconst 0, 1) := by decide +kernel
theorem dX1_init_44 : decode cX1_init 44 = .ok (.putfield 28, 3) := by decide +kernel
theorem dX1_init_47 : decode cX1_init 47 = .ok (.aload_n 0, 1) := by decide +kernel
theorem dX1_init_48 : decode cX1_init 48 = .ok (.aconst_null, 1) := by decide +kernel
theorem dX1_init_49 : decode cX1_init 49 = .ok (.putfield 32, 3) := by decide +kernel
theorem dX1_init_52 : decode cX1_init 52 = .ok (.return_, 1) := by decide +kernel
theorem dX1_add_0 : decode cX1_add 0 = .ok (.aload_n 0, 1) := by decide +kernel
theorem dX1_add_1 : decode cX1_add 1 = .ok (.getfield 28, 3) := by decide +kernel
theorem dX1_add_4 : decode cX1_add 4 = .ok (.bipush 24, 2) := by decide +kernel
theorem dX1_add_6 : decode cX1_add 6 = .ok (.invokestatic 36, 3) := by decide +kernel
theorem dX1_add_9 : decode cX1_add 9 = .ok (.ifCond .eq 33, 3) := by decide +kernel
theorem dX1_add_12 : decode cX1_add 12 = .ok (.aload_n 0, 1) := by decide +kernel
theorem dX1_add_13 : decode cX1_add 13 = .ok (.getfield 9, 3) := by decide +kernel
theorem dX1_add_16 : decode cX1_add 16 = .ok (.aload_n 0, 1) := by decide +kernel
theorem dX1_add_17 : decode cX1_add 17 = .ok (.getfield 28, 3) := by decide +kernel
theorem dX1_add_20 : decode cX1_add 20 = .ok (.iload_n 1, 1) := by decide +kernel
theorem dX1_add_21 : decode cX1_add 21 = .ok (.iastore, 1) := by decide +kernel
theorem dX1_add_22 : decode cX1_add 22 = .ok (.aload_n 0, 1) := by decide +kernel
theorem dX1_add_23 : decode cX1_add 23 = .ok (.getfield 15, 3) := by decide +kernel
theorem dX1_add_26 : decode cX1_add 26 = .ok (.aload_n 0, 1) := by decide +kernel
theorem dX1_add_27 : decode cX1_add 27 = .ok (.getfield 28, 3) := by decide +kernel
theorem dX1_add_30 : decode cX1_add 30 = .ok (.iload_n 2, 1) := by decide +kernel
theorem dX1_add_31 : decode cX1_add 31 = .ok (.iastore, 1) := by decide +kernel
theorem dX1_add_32 : decode cX1_add 32 = .ok (.aload_n 0, 1) := by decide +kernel
theorem dX1_add_33 : decode cX1_add 33 = .ok (.dup, 1) := by decide +kernel
theorem dX1_add_34 : decode cX1_add 34 = .ok (.getfield 28, 3) := by decide +kernel
theorem dX1_add_37 : decode cX1_add 37 = .ok (.iconst 1, 1) := by decide +kernel
theorem dX1_add_38 : decode cX1_add 38 = .ok (.iadd, 1) := by decide +kernel
theorem dX1_add_39 : decode cX1_add 39 = .ok (.putfield 28, 3) := by decide +kernel
theorem dX1_add_42 : decode cX1_add 42 = .ok (.return_, 1) := by decide +kernel
theorem dX1_ruleBrokenUnder_0 : decode cX1_ruleBrokenUnder 0 = .ok (.iconst 0, 1) := by decide +kernel
theorem dX1_ruleBrokenUnder_1 : decode cX1_ruleBrokenUnder 1 = .ok (.istore_n 2, 1) := by decide +kernel
theorem dX1_ruleBrokenUnder_2 : decode cX1_ruleBrokenUnder 2 = .ok (.iconst 0, 1) := by decide +kernel
theorem dX1_ruleBrokenUnder_3 : decode cX1_ruleBrokenUnder 3 = .ok (.istore_n 3, 1) := by decide +kernel
theorem dX1_ruleBrokenUnder_4 : decode cX1_ruleBrokenUnder 4 = .ok (.iload_n 3, 1) := by decide +kernel
theorem dX1_ruleBrokenUnder_5 : decode cX1_ruleBrokenUnder 5 = .ok (.aload_n 0, 1) := by decide +kernel
theorem dX1_ruleBrokenUnder_6 : decode cX1_ruleBrokenUnder 6 = .ok (.getfield 28, 3) := by decide +kernel
theorem dX1_ruleBrokenUnder_9 : decode cX1_ruleBrokenUnder 9 = .ok (.if_icmp .ge 70, 3) := by decide +kernel
theorem dX1_ruleBrokenUnder_12 : decode cX1_ruleBrokenUnder 12 = .ok (.iload_n 3, 1) := by decide +kernel
theorem dX1_ruleBrokenUnder_13 : decode cX1_ruleBrokenUnder 13 = .ok (.bipush 24, 2) := by decide +kernel
theorem dX1_ruleBrokenUnder_15 : decode cX1_ruleBrokenUnder 15 = .ok (.if_icmp .ge 64, 3) := by decide +kernel
theorem dX1_ruleBrokenUnder_18 : decode cX1_ruleBrokenUnder 18 = .ok (.aload_n 0, 1) := by decide +kernel
theorem dX1_ruleBrokenUnder_19 : decode cX1_ruleBrokenUnder 19 = .ok (.getfield 9, 3) := by decide +kernel
theorem dX1_ruleBrokenUnder_22 : decode cX1_ruleBrokenUnder 22 = .ok (.iload_n 3, 1) := by decide +kernel
theorem dX1_ruleBrokenUnder_23 : decode cX1_ruleBrokenUnder 23 = .ok (.iaload, 1) := by decide +kernel
theorem dX1_ruleBrokenUnder_24 : decode cX1_ruleBrokenUnder 24 = .ok (.istore 4, 2) := by decide +kernel
theorem dX1_ruleBrokenUnder_26 : decode cX1_ruleBrokenUnder 26 = .ok (.iload 4, 2) := by decide +kernel
theorem dX1_ruleBrokenUnder_28 : decode cX1_ruleBrokenUnder 28 = .ok (.bipush 6, 2) := by decide +kernel
theorem dX1_ruleBrokenUnder_30 : decode cX1_ruleBrokenUnder 30 = .ok (.if_icmp .ne 18, 3) := by decide +kernel
theorem dX1_ruleBrokenUnder_33 : decode cX1_ruleBrokenUnder 33 = .ok (.aload_n 1, 1) := by decide +kernel
theorem dX1_ruleBrokenUnder_34 : decode cX1_ruleBrokenUnder 34 = .ok (.aload_n 0, 1) := by decide +kernel
theorem dX1_ruleBrokenUnder_35 : decode cX1_ruleBrokenUnder 35 = .ok (.getfield 15, 3) := by decide +kernel
theorem dX1_ruleBrokenUnder_38 : decode cX1_ruleBrokenUnder 38 = .ok (.iload_n 3, 1) := by decide +kernel
theorem dX1_ruleBrokenUnder_39 : decode cX1_ruleBrokenUnder 39 = .ok (.iaload, 1) := by decide +kernel
theorem dX1_ruleBrokenUnder_40 : decode cX1_ruleBrokenUnder 40 = .ok (.invokevirtual 40, 3) := by decide +kernel
theorem dX1_ruleBrokenUnder_43 : decode cX1_ruleBrokenUnder 43 = .ok (.ifCond .ge 5, 3) := by decide +kernel
theorem dX1_ruleBrokenUnder_46 : decode cX1_ruleBrokenUnder 46 = .ok (.iconst 1, 1) := by decide +kernel
theorem dX1_ruleBrokenUnder_47 : decode cX1_ruleBrokenUnder 47 = .ok (.ireturn, 1) := by decide +kernel
theorem dX1_ruleBrokenUnder_48 : decode cX1_ruleBrokenUnder 48 = .ok (.iload_n 2, 1) := by decide +kernel
theorem dX1_ruleBrokenUnder_49 : decode cX1_ruleBrokenUnder 49 = .ok (.iload 4, 2) := by decide +kernel
theorem dX1_ruleBrokenUnder_51 : decode cX1_ruleBrokenUnder 51 = .ok (.invokestatic 46, 3) := by decide +kernel
theorem dX1_ruleBrokenUnder_54 : decode cX1_ruleBrokenUnder 54 = .ok (.if_icmp .ge 5, 3) := by decide +kernel
theorem dX1_ruleBrokenUnder_57 : decode cX1_ruleBrokenUnder 57 = .ok (.iconst 2, 1) := by decide +kernel
theorem dX1_ruleBrokenUnder_58 : decode cX1_ruleBrokenUnder 58 = .ok (.ireturn, 1) := by decide +kernel
theorem dX1_ruleBrokenUnder_59 : decode cX1_ruleBrokenUnder 59 = .ok (.iload_n 2, 1) := by decide +kernel
theorem dX1_ruleBrokenUnder_60 : decode cX1_ruleBrokenUnder 60 = .ok (.iload 4, 2) := by decide +kernel
theorem dX1_ruleBrokenUnder_62 : decode cX1_ruleBrokenUnder 62 = .ok (.invokestatic 49, 3) := by decide +kernel
theorem dX1_ruleBrokenUnder_65 : decode cX1_ruleBrokenUnder 65 = .ok (.iload 4, 2) := by decide +kernel
theorem dX1_ruleBrokenUnder_67 : decode cX1_ruleBrokenUnder 67 = .ok (.invokestatic 46, 3) := by decide +kernel
theorem dX1_ruleBrokenUnder_70 : decode cX1_ruleBrokenUnder 70 = .ok (.isub, 1) := by decide +kernel
theorem dX1_ruleBrokenUnder_71 : decode cX1_ruleBrokenUnder 71 = .ok (.iadd, 1) := by decide +kernel
theorem dX1_ruleBrokenUnder_72 : decode cX1_ruleBrokenUnder 72 = .ok (.istore_n 2, 1) := by decide +kernel
theorem dX1_ruleBrokenUnder_73 : decode cX1_ruleBrokenUnder 73 = .ok (.iinc 3 1, 3) := by decide +kernel
theorem dX1_ruleBrokenUnder_76 : decode cX1_ruleBrokenUnder 76 = .ok (.goto (-72), 3) := by decide +kernel
theorem dX1_ruleBrokenUnder_79 : decode cX1_ruleBrokenUnder 79 = .ok (.iconst 0, 1) := by decide +kernel
theorem dX1_ruleBrokenUnder_80 : decode cX1_ruleBrokenUnder 80 = .ok (.ireturn, 1) := by decide +kernel
theorem dX1_takenBy_0 : decode cX1_takenBy 0 = .ok (.iload_n 0, 1) := by decide +kernel
theorem dX1_takenBy_1 : decode cX1_takenBy 1 = .ok (.tableswitch 43 2 7 #[39, 39, 39, 39, 41, 41], 39) := by decide +kernel
theorem dX1_takenBy_40 : decode cX1_takenBy 40 = .ok (.iconst 2, 1) := by decide +kernel
theorem dX1_takenBy_41 : decode cX1_takenBy 41 = .ok (.ireturn, 1) := by decide +kernel
theorem dX1_takenBy_42 : decode cX1_takenBy 42 = .ok (.iconst 1, 1) := by decide +kernel
theorem dX1_takenBy_43 : decode cX1_takenBy 43 = .ok (.ireturn, 1) := by decide +kernel
theorem dX1_takenBy_44 : decode cX1_takenBy 44 = .ok (.iconst 0, 1) := by decide +kernel
theorem dX1_takenBy_45 : decode cX1_takenBy 45 = .ok (.ireturn, 1) := by decide +kernel
theorem dX1_laidBy_0 : decode cX1_laidBy 0 = .ok (.iload_n 0, 1) := by decide +kernel
theorem dX1_laidBy_1 : decode cX1_laidBy 1 = .ok (.bipush 7, 2) := by decide +kernel
theorem dX1_laidBy_3 : decode cX1_laidBy 3 = .ok (.if_icmp .ne 7, 3) := by decide +kernel
theorem dX1_laidBy_6 : decode cX1_laidBy 6 = .ok (.iconst 0, 1) := by decide +kernel
theorem dX1_laidBy_7 : decode cX1_laidBy 7 = .ok (.goto 4, 3) := by decide +kernel
theorem dX1_laidBy_10 : decode cX1_laidBy 10 = .ok (.iconst 1, 1) := by decide +kernel
theorem dX1_laidBy_11 : decode cX1_laidBy 11 = .ok (.ireturn, 1) := by decide +kernel
theorem dX2_init_0 : decode cX2_init 0 = .ok (.aload_n 0, 1) := by decide +kernel
theorem dX2_init_1 : decode cX2_init 1 = .ok (.invokespecial 3, 3) := by decide +kernel
theorem dX2_init_4 : decode cX2_init 4 = .ok (.aload_n 0, 1) := by decide +kernel
theorem dX2_init_5 : decode cX2_init 5 = .ok (.bipush 9, 2) := by decide +kernel
theorem dX2_init_7 : decode cX2_init 7 = .ok (.newarray .int, 2) := by decide +kernel
theorem dX2_init_9 : decode cX2_init 9 = .ok (.putfield 9, 3) := by decide +kernel
theorem dX2_init_12 : decode cX2_init 12 = .ok (.aload_n 0, 1) := by decide +kernel
theorem dX2_init_13 : decode cX2_init 13 = .ok (.bipush 8, 2) := by decide +kernel
theorem dX2_init_15 : decode cX2_init 15 = .ok (.newarray .int, 2) := by decide +kernel
theorem dX2_init_17 : decode cX2_init 17 = .ok (.putfield 15, 3) := by decide +kernel
theorem dX2_init_20 : decode cX2_init 20 = .ok (.aload_n 0, 1) := by decide +kernel
theorem dX2_init_21 : decode cX2_init 21 = .ok (.iconst (-1), 1) := by decide +kernel
theorem dX2_init_22 : decode cX2_init 22 = .ok (.putfield 18, 3) := by decide +kernel
theorem dX2_init_25 : decode cX2_init 25 = .ok (.aload_n 0, 1) := by decide +kernel
theorem dX2_init_26 : decode cX2_init 26 = .ok (.iconst 0, 1) := by decide +kernel
theorem dX2_init_27 : decode cX2_init 27 = .ok (.putfield 22, 3) := by decide +kernel
theorem dX2_init_30 : decode cX2_init 30 = .ok (.aload_n 0, 1) := by decide +kernel
theorem dX2_init_31 : decode cX2_init 31 = .ok (.iload_n 1, 1) := by decide +kernel
theorem dX2_init_32 : decode cX2_init 32 = .ok (.putfield 25, 3) := by decide +kernel
theorem dX2_init_35 : decode cX2_init 35 = .ok (.return_, 1) := by decide +kernel
theorem dX2_becomeLike_0 : decode cX2_becomeLike 0 = .ok (.iconst 0, 1) := by decide +kernel
theorem dX2_becomeLike_1 : decode cX2_becomeLike 1 = .ok (.istore_n 2, 1) := by decide +kernel
theorem dX2_becomeLike_2 : decode cX2_becomeLike 2 = .ok (.iload_n 2, 1) := by decide +kernel
theorem dX2_becomeLike_3 : decode cX2_becomeLike 3 = .ok (.bipush 9, 2) := by decide +kernel
theorem dX2_becomeLike_5 : decode cX2_becomeLike 5 = .ok (.if_icmp .ge 21, 3) := by decide +kernel
theorem dX2_becomeLike_8 : decode cX2_becomeLike 8 = .ok (.aload_n 0, 1) := by decide +kernel
theorem dX2_becomeLike_9 : decode cX2_becomeLike 9 = .ok (.getfield 9, 3) := by decide +kernel
theorem dX2_becomeLike_12 : decode cX2_becomeLike 12 = .ok (.iload_n 2, 1) := by decide +kernel
theorem dX2_becomeLike_13 : decode cX2_becomeLike 13 = .ok (.aload_n 1, 1) := by decide +kernel
theorem dX2_becomeLike_14 : decode cX2_becomeLike 14 = .ok (.getfield 9, 3) := by decide +kernel
theorem dX2_becomeLike_17 : decode cX2_becomeLike 17 = .ok (.iload_n 2, 1) := by decide +kernel
theorem dX2_becomeLike_18 : decode cX2_becomeLike 18 = .ok (.iaload, 1) := by decide +kernel
theorem dX2_becomeLike_19 : decode cX2_becomeLike 19 = .ok (.iastore, 1) := by decide +kernel
theorem dX2_becomeLike_20 : decode cX2_becomeLike 20 = .ok (.iinc 2 1, 3) := by decide +kernel
theorem dX2_becomeLike_23 : decode cX2_becomeLike 23 = .ok (.goto (-21), 3) := by decide +kernel
theorem dX2_becomeLike_26 : decode cX2_becomeLike 26 = .ok (.iconst 0, 1) := by decide +kernel
theorem dX2_becomeLike_27 : decode cX2_becomeLike 27 = .ok (.istore_n 2, 1) := by decide +kernel
theorem dX2_becomeLike_28 : decode cX2_becomeLike 28 = .ok (.iload_n 2, 1) := by decide +kernel
theorem dX2_becomeLike_29 : decode cX2_becomeLike 29 = .ok (.bipush 8, 2) := by decide +kernel
theorem dX2_becomeLike_31 : decode cX2_becomeLike 31 = .ok (.if_icmp .ge 21, 3) := by decide +kernel
theorem dX2_becomeLike_34 : decode cX2_becomeLike 34 = .ok (.aload_n 0, 1) := by decide +kernel
theorem dX2_becomeLike_35 : decode cX2_becomeLike 35 = .ok (.getfield 15, 3) := by decide +kernel
theorem dX2_becomeLike_38 : decode cX2_becomeLike 38 = .ok (.iload_n 2, 1) := by decide +kernel
theorem dX2_becomeLike_39 : decode cX2_becomeLike 39 = .ok (.aload_n 1, 1) := by decide +kernel
theorem dX2_becomeLike_40 : decode cX2_becomeLike 40 = .ok (.getfield 15, 3) := by decide +kernel
theorem dX2_becomeLike_43 : decode cX2_becomeLike 43 = .ok (.iload_n 2, 1) := by decide +kernel
theorem dX2_becomeLike_44 : decode cX2_becomeLike 44 = .ok (.iaload, 1) := by decide +kernel
theorem dX2_becomeLike_45 : decode cX2_becomeLike 45 = .ok (.iastore, 1) := by decide +kernel
theorem dX2_becomeLike_46 : decode cX2_becomeLike 46 = .ok (.iinc 2 1, 3) := by decide +kernel
theorem dX2_becomeLike_49 : decode cX2_becomeLike 49 = .ok (.goto (-21), 3) := by decide +kernel
theorem dX2_becomeLike_52 : decode cX2_becomeLike 52 = .ok (.return_, 1) := by decide +kernel
theorem dX2_priceOf_0 : decode cX2_priceOf 0 = .ok (.iload_n 1, 1) := by decide +kernel
theorem dX2_priceOf_1 : decode cX2_priceOf 1 = .ok (.aload_n 0, 1) := by decide +kernel
theorem dX2_priceOf_2 : decode cX2_priceOf 2 = .ok (.getfield 9, 3) := by decide +kernel
theorem dX2_priceOf_5 : decode cX2_priceOf 5 = .ok (.arraylength, 1) := by decide +kernel
theorem dX2_priceOf_6 : decode cX2_priceOf 6 = .ok (.invokestatic 28, 3) := by decide +kernel
theorem dX2_priceOf_9 : decode cX2_priceOf 9 = .ok (.ifCond .eq 12, 3) := by decide +kernel
theorem dX2_priceOf_12 : decode cX2_priceOf 12 = .ok (.aload_n 0, 1) := by decide +kernel
theorem dX2_priceOf_13 : decode cX2_priceOf 13 = .ok (.getfield 9, 3) := by decide +kernel
theorem dX2_priceOf_16 : decode cX2_priceOf 16 = .ok (.iload_n 1, 1) := by decide +kernel
theorem dX2_priceOf_17 : decode cX2_priceOf 17 = .ok (.iaload, 1) := by decide +kernel
theorem dX2_priceOf_18 : decode cX2_priceOf 18 = .ok (.goto 5, 3) := by decide +kernel
theorem dX2_priceOf_21 : decode cX2_priceOf 21 = .ok (.bipush (-2), 2) := by decide +kernel
theorem dX2_priceOf_23 : decode cX2_priceOf 23 = .ok (.ireturn, 1) := by decide +kernel
theorem dX2_meaningOf_0 : decode cX2_meaningOf 0 = .ok (.iload_n 1, 1) := by decide +kernel
theorem dX2_meaningOf_1 : decode cX2_meaningOf 1 = .ok (.aload_n 0, 1) := by decide +kernel
theorem dX2_meaningOf_2 : decode cX2_meaningOf 2 = .ok (.getfield 15, 3) := by decide +kernel
theorem dX2_meaningOf_5 : decode cX2_meaningOf 5 = .ok (.arraylength, 1) := by decide +kernel
theorem dX2_meaningOf_6 : decode cX2_meaningOf 6 = .ok (.invokestatic 28, 3) := by decide +kernel
theorem dX2_meaningOf_9 : decode cX2_meaningOf 9 = .ok (.ifCond .eq 12, 3) := by decide +kernel
theorem dX2_meaningOf_12 : decode cX2_meaningOf 12 = .ok (.aload_n 0, 1) := by decide +kernel
theorem dX2_meaningOf_13 : decode cX2_meaningOf 13 = .ok (.getfield 15, 3) := by decide +kernel
theorem dX2_meaningOf_16 : decode cX2_meaningOf 16 = .ok (.iload_n 1, 1) := by decide +kernel
theorem dX2_meaningOf_17 : decode cX2_meaningOf 17 = .ok (.iaload, 1) := by decide +kernel
theorem dX2_meaningOf_18 : decode cX2_meaningOf 18 = .ok (.goto 5, 3) := by decide +kernel
theorem dX2_meaningOf_21 : decode cX2_meaningOf 21 = .ok (.bipush (-2), 2) := by decide +kernel
theorem dX2_meaningOf_23 : decode cX2_meaningOf 23 = .ok (.ireturn, 1) := by decide +kernel
theorem dX2_traitOf_0 : decode cX2_traitOf 0 = .ok (.iload_n 1, 1) := by decide +kernel
theorem dX2_traitOf_1 : decode cX2_traitOf 1 = .ok (.bipush 9, 2) := by decide +kernel
theorem dX2_traitOf_3 : decode cX2_traitOf 3 = .ok (.if_icmp .ge 11, 3) := by decide +kernel
theorem dX2_traitOf_6 : decode cX2_traitOf 6 = .ok (.aload_n 0, 1) := by decide +kernel
theorem dX2_traitOf_7 : decode cX2_traitOf 7 = .ok (.iload_n 1, 1) := by decide +kernel
theorem dX2_traitOf_8 : decode cX2_traitOf 8 = .ok (.invokevirtual 32, 3) := by decide +kernel
theorem dX2_traitOf_11 : decode cX2_traitOf 11 = .ok (.goto 11, 3) := by decide +kernel
theorem dX2_traitOf_14 : decode cX2_traitOf 14 = .ok (.aload_n 0, 1) := by decide +kernel
theorem dX2_traitOf_15 : decode cX2_traitOf 15 = .ok (.iload_n 1, 1) := by decide +kernel
theorem dX2_traitOf_16 : decode cX2_traitOf 16 = .ok (.bipush 9, 2) := by decide +kernel
theorem dX2_traitOf_18 : decode cX2_traitOf 18 = .ok (.isub, 1) := by decide +kernel
theorem dX2_traitOf_19 : decode cX2_traitOf 19 = .ok (.invokevirtual 36, 3) := by decide +kernel
theorem dX2_traitOf_22 : decode cX2_traitOf 22 = .ok (.ireturn, 1) := by decide +kernel
theorem dX3_init_0 : decode cX3_init 0 = .ok (.aload_n 0, 1) := by decide +kernel
theorem dX3_init_1 : decode cX3_init 1 = .ok (.invokespecial 1, 3) := by decide +kernel
theorem dX3_init_4 : decode cX3_init 4 = .ok (.aload_n 0, 1) := by decide +kernel
theorem dX3_init_5 : decode cX3_init 5 = .ok (.iconst 0, 1) := by decide +kernel
theorem dX3_init_6 : decode cX3_init 6 = .ok (.putfield 7, 3) := by decide +kernel
theorem dX3_init_9 : decode cX3_init 9 = .ok (.aload_n 0, 1) := by decide +kernel
theorem dX3_init_10 : decode cX3_init 10 = .ok (.iload_n 1, 1) := by decide +kernel
theorem dX3_init_11 : decode cX3_init 11 = .ok (.putfield 13, 3) := by decide +kernel
theorem dX3_init_14 : decode cX3_init 14 = .ok (.aload_n 0, 1) := by decide +kernel
theorem dX3_init_15 : decode cX3_init 15 = .ok (.lload_n 2, 1) := by decide +kernel
theorem dX3_init_16 : decode cX3_init 16 = .ok (.putfield 16, 3) := by decide +kernel
theorem dX3_init_19 : decode cX3_init 19 = .ok (.aload_n 0, 1) := by decide +kernel
theorem dX3_init_20 : decode cX3_init 20 = .ok (.iload 4, 2) := by decide +kernel
theorem dX3_init_22 : decode cX3_init 22 = .ok (.putfield 20, 3) := by decide +kernel
theorem dX3_init_25 : decode cX3_init 25 = .ok (.aload_n 0, 1) := by decide +kernel
theorem dX3_init_26 : decode cX3_init 26 = .ok (.iload 5, 2) := by decide +kernel
theorem dX3_init_28 : decode cX3_init 28 = .ok (.putfield 23, 3) := by decide +kernel
theorem dX3_init_31 : decode cX3_init 31 = .ok (.return_, 1) := by decide +kernel
theorem dX4_init_0 : decode cX4_init 0 = .ok (.aload_n 0, 1) := by decide +kernel
theorem dX4_init_1 : decode cX4_init 1 = .ok (.invokespecial 3, 3) := by decide +kernel
theorem dX4_init_4 : decode cX4_init 4 = .ok (.aload_n 0, 1) := by decide +kernel
theorem dX4_init_5 : decode cX4_init 5 = .ok (.bipush 24, 2) := by decide +kernel
theorem dX4_init_7 : decode cX4_init 7 = .ok (.newarray .long, 2) := by decide +kernel
theorem dX4_init_9 : decode cX4_init 9 = .ok (.putfield 9, 3) := by decide +kernel
theorem dX4_init_12 : decode cX4_init 12 = .ok (.aload_n 0, 1) := by decide +kernel
theorem dX4_init_13 : decode cX4_init 13 = .ok (.new 15, 3) := by decide +kernel
theorem dX4_init_16 : decode cX4_init 16 = .ok (.dup, 1) := by decide +kernel
theorem dX4_init_17 : decode cX4_init 17 = .ok (.invokespecial 17, 3) := by decide +kernel
theorem dX4_init_20 : decode cX4_init 20 = .ok (.putfield 18, 3) := by decide +kernel
theorem dX4_init_23 : decode cX4_init 23 = .ok (.aload_n 0, 1) := by decide +kernel
theorem dX4_init_24 : decode cX4_init 24 = .ok (.iconst 0, 1) := by decide +kernel
theorem dX4_init_25 : decode cX4_init 25 = .ok (.putfield 22, 3) := by decide +kernel
theorem dX4_init_28 : decode cX4_init 28 = .ok (.return_, 1) := by decide +kernel
theorem dX4_execute_0 : decode cX4_execute 0 = .ok (.aload_n 0, 1) := by decide +kernel
theorem dX4_execute_1 : decode cX4_execute 1 = .ok (.getfield 18, 3) := by decide +kernel
theorem dX4_execute_4 : decode cX4_execute 4 = .ok (.aload_n 2, 1) := by decide +kernel
theorem dX4_execute_5 : decode cX4_execute 5 = .ok (.invokevirtual 26, 3) := by decide +kernel
theorem dX4_execute_8 : decode cX4_execute 8 = .ok (.aload_n 0, 1) := by decide +kernel
theorem dX4_execute_9 : decode cX4_execute 9 = .ok (.iconst 0, 1) := by decide +kernel
theorem dX4_execute_10 : decode cX4_execute 10 = .ok (.putfield 22, 3) := by decide +kernel
theorem dX4_execute_13 : decode cX4_execute 13 = .ok (.iconst 0, 1) := by decide +kernel
theorem dX4_execute_14 : decode cX4_execute 14 = .ok (.istore 7, 2) := by decide +kernel
theorem dX4_execute_16 : decode cX4_execute 16 = .ok (.iconst 0, 1) := by decide +kernel
theorem dX4_execute_17 : decode cX4_execute 17 = .ok (.istore 8, 2) := by decide +kernel
theorem dX4_execute_19 : decode cX4_execute 19 = .ok (.iload 8, 2) := by decide +kernel
theorem dX4_execute_21 : decode cX4_execute 21 = .ok (.aload_n 1, 1) := by decide +kernel
theorem dX4_execute_22 : decode cX4_execute 22 = .ok (.getfield 30, 3) := by decide +kernel
theorem dX4_execute_25 : decode cX4_execute 25 = .ok (.if_icmp .ge 87, 3) := by decide +kernel
theorem dX4_execute_28 : decode cX4_execute 28 = .ok (.iload 8, 2) := by decide +kernel
theorem dX4_execute_30 : decode cX4_execute 30 = .ok (.bipush 24, 2) := by decide +kernel
theorem dX4_execute_32 : decode cX4_execute 32 = .ok (.if_icmp .ge 80, 3) := by decide +kernel
theorem dX4_execute_35 : decode cX4_execute 35 = .ok (.aload_n 1, 1) := by decide +kernel
theorem dX4_execute_36 : decode cX4_execute 36 = .ok (.getfield 35, 3) := by decide +kernel
theorem dX4_execute_39 : decode cX4_execute 39 = .ok (.iload 8, 2) := by decide +kernel
theorem dX4_execute_41 : decode cX4_execute 41 = .ok (.iaload, 1) := by decide +kernel
theorem dX4_execute_42 : decode cX4_execute 42 = .ok (.istore 9, 2) := by decide +kernel
theorem dX4_execute_44 : decode cX4_execute 44 = .ok (.iload 7, 2) := by decide +kernel
theorem dX4_execute_46 : decode cX4_execute 46 = .ok (.aload_n 3, 1) := by decide +kernel
theorem dX4_execute_47 : decode cX4_execute 47 = .ok (.iload 9, 2) := by decide +kernel
theorem dX4_execute_49 : decode cX4_execute 49 = .ok (.invokevirtual 39, 3) := by decide +kernel
theorem dX4_execute_52 : decode cX4_execute 52 = .ok (.iadd, 1) := by decide +kernel
theorem dX4_execute_53 : decode cX4_execute 53 = .ok (.istore 7, 2) := by decide +kernel
theorem dX4_execute_55 : decode cX4_execute 55 = .ok (.iload 7, 2) := by decide +kernel
theorem dX4_execute_57 : decode cX4_execute 57 = .ok (.iload 6, 2) := by decide +kernel
theorem dX4_execute_59 : decode cX4_execute 59 = .ok (.if_icmp .le 8, 3) := by decide +kernel
theorem dX4_execute_62 : decode cX4_execute 62 = .ok (.iconst 3, 1) := by decide +kernel
theorem dX4_execute_63 : decode cX4_execute 63 = .ok (.invokestatic 45, 3) := by decide +kernel
theorem dX4_execute_66 : decode cX4_execute 66 = .ok (.ireturn, 1) := by decide +kernel
theorem dX4_execute_67 : decode cX4_execute 67 = .ok (.iload 9, 2) := by decide +kernel
theorem dX4_execute_69 : decode cX4_execute 69 = .ok (.iconst 5, 1) := by decide +kernel
theorem dX4_execute_70 : decode cX4_execute 70 = .ok (.if_icmp .ne 17, 3) := by decide +kernel
theorem dX4_execute_73 : decode cX4_execute 73 = .ok (.aload_n 0, 1) := by decide +kernel
theorem dX4_execute_74 : decode cX4_execute 74 = .ok (.invokevirtual 48, 3) := by decide +kernel
theorem dX4_execute_77 : decode cX4_execute 77 = .ok (.lconst 0, 1) := by decide +kernel
theorem dX4_execute_78 : decode cX4_execute 78 = .ok (.lcmp, 1) := by decide +kernel
theorem dX4_execute_79 : decode cX4_execute 79 = .ok (.ifCond .ne 8, 3) := by decide +kernel
theorem dX4_execute_82 : decode cX4_execute 82 = .ok (.iconst 4, 1) := by decide +kernel
theorem dX4_execute_83 : decode cX4_execute 83 = .ok (.invokestatic 45, 3) := by decide +kernel
theorem dX4_execute_86 : decode cX4_execute 86 = .ok (.ireturn, 1) := by decide +kernel
theorem dX4_execute_87 : decode cX4_execute 87 = .ok (.aload_n 0, 1) := by decide +kernel
theorem dX4_execute_88 : decode cX4_execute 88 = .ok (.iload 9, 2) := by decide +kernel
theorem dX4_execute_90 : decode cX4_execute 90 = .ok (.aload_n 1, 1) := by decide +kernel
theorem dX4_execute_91 : decode cX4_execute 91 = .ok (.getfield 52, 3) := by decide +kernel
theorem dX4_execute_94 : decode cX4_execute 94 = .ok (.iload 8, 2) := by decide +kernel
theorem dX4_execute_96 : decode cX4_execute 96 = .ok (.iaload, 1) := by decide +kernel
theorem dX4_execute_97 : decode cX4_execute 97 = .ok (.aload_n 1, 1) := by decide +kernel
theorem dX4_execute_98 : decode cX4_execute 98 = .ok (.getfield 55, 3) := by decide +kernel
theorem dX4_execute_101 : decode cX4_execute 101 = .ok (.lload 4, 2) := by decide +kernel
theorem dX4_execute_103 : decode cX4_execute 103 = .ok (.invokevirtual 59, 3) := by decide +kernel
theorem dX4_execute_106 : decode cX4_execute 106 = .ok (.iinc 8 1, 3) := by decide +kernel
theorem dX4_execute_109 : decode cX4_execute 109 = .ok (.goto (-90), 3) := by decide +kernel
theorem dX4_execute_112 : decode cX4_execute 112 = .ok (.aload_n 2, 1) := by decide +kernel
theorem dX4_execute_113 : decode cX4_execute 113 = .ok (.aload_n 0, 1) := by decide +kernel
theorem dX4_execute_114 : decode cX4_execute 114 = .ok (.getfield 18, 3) := by decide +kernel
theorem dX4_execute_117 : decode cX4_execute 117 = .ok (.invokevirtual 26, 3) := by decide +kernel
theorem dX4_execute_120 : decode cX4_execute 120 = .ok (.iload 7, 2) := by decide +kernel
theorem dX4_execute_122 : decode cX4_execute 122 = .ok (.ireturn, 1) := by decide +kernel
theorem dX4_perform_0 : decode cX4_perform 0 = .ok (.iload_n 1, 1) := by decide +kernel
theorem dX4_perform_1 : decode cX4_perform 1 = .ok (.tableswitch 126 0 8 #[51, 60, 126, 126, 126, 126, 69, 96, 111], 51) := by decide +kernel
theorem dX4_perform_52 : decode cX4_perform 52 = .ok (.aload_n 0, 1) := by decide +kernel
theorem dX4_perform_53 : decode cX4_perform 53 = .ok (.iload_n 2, 1) := by decide +kernel
theorem dX4_perform_54 : decode cX4_perform 54 = .ok (.i2l, 1) := by decide +kernel
theorem dX4_perform_55 : decode cX4_perform 55 = .ok (.invokevirtual 63, 3) := by decide +kernel
theorem dX4_perform_58 : decode cX4_perform 58 = .ok (.goto 93, 3) := by decide +kernel
theorem dX4_perform_61 : decode cX4_perform 61 = .ok (.aload_n 0, 1) := by decide +kernel
theorem dX4_perform_62 : decode cX4_perform 62 = .ok (.lload 4, 2) := by decide +kernel
theorem dX4_perform_64 : decode cX4_perform 64 = .ok (.invokevirtual 63, 3) := by decide +kernel
theorem dX4_perform_67 : decode cX4_perform 67 = .ok (.goto 84, 3) := by decide +kernel
theorem dX4_perform_70 : decode cX4_perform 70 = .ok (.aload_n 0, 1) := by decide +kernel
theorem dX4_perform_71 : decode cX4_perform 71 = .ok (.aload_n 3, 1) := by decide +kernel
theorem dX4_perform_72 : decode cX4_perform 72 = .ok (.ifnonnull 7, 3) := by decide +kernel
theorem dX4_perform_75 : decode cX4_perform 75 = .ok (.iconst (-1), 1) := by decide +kernel
theorem dX4_perform_76 : decode cX4_perform 76 = .ok (.goto 8, 3) := by decide +kernel
theorem dX4_perform_79 : decode cX4_perform 79 = .ok (.aload_n 3, 1) := by decide +kernel
theorem dX4_perform_80 : decode cX4_perform 80 = .ok (.iload_n 2, 1) := by decide +kernel
theorem dX4_perform_81 : decode cX4_perform 81 = .ok (.invokevirtual 67, 3) := by decide +kernel
theorem dX4_perform_84 : decode cX4_perform 84 = .ok (.aload_n 0, 1) := by decide +kernel
theorem dX4_perform_85 : decode cX4_perform 85 = .ok (.invokevirtual 70, 3) := by decide +kernel
theorem dX4_perform_88 : decode cX4_perform 88 = .ok (.invokestatic 73, 3) := by decide +kernel
theorem dX4_perform_91 : decode cX4_perform 91 = .ok (.invokevirtual 63, 3) := by decide +kernel
theorem dX4_perform_94 : decode cX4_perform 94 = .ok (.goto 57, 3) := by decide +kernel
theorem dX4_perform_97 : decode cX4_perform 97 = .ok (.aload_n 0, 1) := by decide +kernel
theorem dX4_perform_98 : decode cX4_perform 98 = .ok (.getfield 18, 3) := by decide +kernel
theorem dX4_perform_101 : decode cX4_perform 101 = .ok (.iload_n 2, 1) := by decide +kernel
theorem dX4_perform_102 : decode cX4_perform 102 = .ok (.aload_n 0, 1) := by decide +kernel
theorem dX4_perform_103 : decode cX4_perform 103 = .ok (.invokevirtual 70, 3) := by decide +kernel
theorem dX4_perform_106 : decode cX4_perform 106 = .ok (.invokevirtual 77, 3) := by decide +kernel
theorem dX4_perform_109 : decode cX4_perform 109 = .ok (.goto 42, 3) := by decide +kernel
theorem dX4_perform_112 : decode cX4_perform 112 = .ok (.aload_n 0, 1) := by decide +kernel
theorem dX4_perform_113 : decode cX4_perform 113 = .ok (.aload_n 0, 1) := by decide +kernel
theorem dX4_perform_114 : decode cX4_perform 114 = .ok (.getfield 18, 3) := by decide +kernel
theorem dX4_perform_117 : decode cX4_perform 117 = .ok (.iload_n 2, 1) := by decide +kernel
theorem dX4_perform_118 : decode cX4_perform 118 = .ok (.invokevirtual 81, 3) := by decide +kernel
theorem dX4_perform_121 : decode cX4_perform 121 = .ok (.invokevirtual 63, 3) := by decide +kernel
theorem dX4_perform_124 : decode cX4_perform 124 = .ok (.goto 27, 3) := by decide +kernel
theorem dX4_perform_127 : decode cX4_perform 127 = .ok (.aload_n 0, 1) := by decide +kernel
theorem dX4_perform_128 : decode cX4_perform 128 = .ok (.invokevirtual 70, 3) := by decide +kernel
theorem dX4_perform_131 : decode cX4_perform 131 = .ok (.lstore 6, 2) := by decide +kernel
theorem dX4_perform_133 : decode cX4_perform 133 = .ok (.aload_n 0, 1) := by decide +kernel
theorem dX4_perform_134 : decode cX4_perform 134 = .ok (.invokevirtual 70, 3) := by decide +kernel
theorem dX4_perform_137 : decode cX4_perform 137 = .ok (.lstore 8, 2) := by decide +kernel
theorem dX4_perform_139 : decode cX4_perform 139 = .ok (.aload_n 0, 1) := by decide +kernel
theorem dX4_perform_140 : decode cX4_perform 140 = .ok (.iload_n 1, 1) := by decide +kernel
theorem dX4_perform_141 : decode cX4_perform 141 = .ok (.lload 8, 2) := by decide +kernel
theorem dX4_perform_143 : decode cX4_perform 143 = .ok (.lload 6, 2) := by decide +kernel
theorem dX4_perform_145 : decode cX4_perform 145 = .ok (.invokestatic 85, 3) := by decide +kernel
theorem dX4_perform_148 : decode cX4_perform 148 = .ok (.invokevirtual 63, 3) := by decide +kernel
theorem dX4_perform_151 : decode cX4_perform 151 = .ok (.return_, 1) := by decide +kernel
theorem dX4_joined_0 : decode cX4_joined 0 = .ok (.iload_n 0, 1) := by decide +kernel
theorem dX4_joined_1 : decode cX4_joined 1 = .ok (.tableswitch 57 2 5 #[31, 35, 39, 43], 31) := by decide +kernel
theorem dX4_joined_32 : decode cX4_joined 32 = .ok (.lload_n 1, 1) := by decide +kernel
theorem dX4_joined_33 : decode cX4_joined 33 = .ok (.lload_n 3, 1) := by decide +kernel
theorem dX4_joined_34 : decode cX4_joined 34 = .ok (.ladd, 1) := by decide +kernel
theorem dX4_joined_35 : decode cX4_joined 35 = .ok (.lreturn, 1) := by decide +kernel
theorem dX4_joined_36 : decode cX4_joined 36 = .ok (.lload_n 1, 1) := by decide +kernel
theorem dX4_joined_37 : decode cX4_joined 37 = .ok (.lload_n 3, 1) := by decide +kernel
theorem dX4_joined_38 : decode cX4_joined 38 = .ok (.lsub, 1) := by decide +kernel
theorem dX4_joined_39 : decode cX4_joined 39 = .ok (.lreturn, 1) := by decide +kernel
theorem dX4_joined_40 : decode cX4_joined 40 = .ok (.lload_n 1, 1) := by decide +kernel
theorem dX4_joined_41 : decode cX4_joined 41 = .ok (.lload_n 3, 1) := by decide +kernel
theorem dX4_joined_42 : decode cX4_joined 42 = .ok (.lmul, 1) := by decide +kernel
theorem dX4_joined_43 : decode cX4_joined 43 = .ok (.lreturn, 1) := by decide +kernel
theorem dX4_joined_44 : decode cX4_joined 44 = .ok (.lload_n 3, 1) := by decide +kernel
theorem dX4_joined_45 : decode cX4_joined 45 = .ok (.lconst 0, 1) := by decide +kernel
theorem dX4_joined_46 : decode cX4_joined 46 = .ok (.lcmp, 1) := by decide +kernel
theorem dX4_joined_47 : decode cX4_joined 47 = .ok (.ifCond .ne 7, 3) := by decide +kernel
theorem dX4_joined_50 : decode cX4_joined 50 = .ok (.lconst 0, 1) := by decide +kernel
theorem dX4_joined_51 : decode cX4_joined 51 = .ok (.goto 6, 3) := by decide +kernel
theorem dX4_joined_54 : decode cX4_joined 54 = .ok (.lload_n 1, 1) := by decide +kernel
theorem dX4_joined_55 : decode cX4_joined 55 = .ok (.lload_n 3, 1) := by decide +kernel
theorem dX4_joined_56 : decode cX4_joined 56 = .ok (.ldiv, 1) := by decide +kernel
theorem dX4_joined_57 : decode cX4_joined 57 = .ok (.lreturn, 1) := by decide +kernel
theorem dX4_joined_58 : decode cX4_joined 58 = .ok (.lconst 0, 1) := by decide +kernel
theorem dX4_joined_59 : decode cX4_joined 59 = .ok (.lreturn, 1) := by decide +kernel
theorem dX4_meant_0 : decode cX4_meant 0 = .ok (.iload_n 0, 1) := by decide +kernel
theorem dX4_meant_1 : decode cX4_meant 1 = .ok (.tableswitch 71 0 5 #[39, 44, 47, 51, 57, 65], 39) := by decide +kernel
theorem dX4_meant_40 : decode cX4_meant 40 = .ok (.lload_n 1, 1) := by decide +kernel
theorem dX4_meant_41 : decode cX4_meant 41 = .ok (.invokestatic 89, 3) := by decide +kernel
theorem dX4_meant_44 : decode cX4_meant 44 = .ok (.lreturn, 1) := by decide +kernel
theorem dX4_meant_45 : decode cX4_meant 45 = .ok (.lload_n 1, 1) := by decide +kernel
theorem dX4_meant_46 : decode cX4_meant 46 = .ok (.lneg, 1) := by decide +kernel
theorem dX4_meant_47 : decode cX4_meant 47 = .ok (.lreturn, 1) := by decide +kernel
theorem dX4_meant_48 : decode cX4_meant 48 = .ok (.lload_n 1, 1) := by decide +kernel
theorem dX4_meant_49 : decode cX4_meant 49 = .ok (.lload_n 1, 1) := by decide +kernel
theorem dX4_meant_50 : decode cX4_meant 50 = .ok (.lmul, 1) := by decide +kernel
theorem dX4_meant_51 : decode cX4_meant 51 = .ok (.lreturn, 1) := by decide +kernel
theorem dX4_meant_52 : decode cX4_meant 52 = .ok (.lload_n 1, 1) := by decide +kernel
theorem dX4_meant_53 : decode cX4_meant 53 = .ok (.ldc2_w 95, 3) := by decide +kernel
theorem dX4_meant_56 : decode cX4_meant 56 = .ok (.ldiv, 1) := by decide +kernel
theorem dX4_meant_57 : decode cX4_meant 57 = .ok (.lreturn, 1) := by decide +kernel
theorem dX4_meant_58 : decode cX4_meant 58 = .ok (.lload_n 1, 1) := by decide +kernel
theorem dX4_meant_59 : decode cX4_meant 59 = .ok (.ldc2_w 95, 3) := by decide +kernel
theorem dX4_meant_62 : decode cX4_meant 62 = .ok (.invokestatic 97, 3) := by decide +kernel
theorem dX4_meant_65 : decode cX4_meant 65 = .ok (.lreturn, 1) := by decide +kernel
theorem dX4_meant_66 : decode cX4_meant 66 = .ok (.lload_n 1, 1) := by decide +kernel
theorem dX4_meant_67 : decode cX4_meant 67 = .ok (.invokestatic 101, 3) := by decide +kernel
theorem dX4_meant_70 : decode cX4_meant 70 = .ok (.i2l, 1) := by decide +kernel
theorem dX4_meant_71 : decode cX4_meant 71 = .ok (.lreturn, 1) := by decide +kernel
theorem dX4_meant_72 : decode cX4_meant 72 = .ok (.lload_n 1, 1) := by decide +kernel
theorem dX4_meant_73 : decode cX4_meant 73 = .ok (.lreturn, 1) := by decide +kernel
theorem dX4_lay_0 : decode cX4_lay 0 = .ok (.aload_n 0, 1) := by decide +kernel
theorem dX4_lay_1 : decode cX4_lay 1 = .ok (.getfield 22, 3) := by decide +kernel
theorem dX4_lay_4 : decode cX4_lay 4 = .ok (.aload_n 0, 1) := by decide +kernel
theorem dX4_lay_5 : decode cX4_lay 5 = .ok (.getfield 9, 3) := by decide +kernel
theorem dX4_lay_8 : decode cX4_lay 8 = .ok (.arraylength, 1) := by decide +kernel
theorem dX4_lay_9 : decode cX4_lay 9 = .ok (.invokestatic 107, 3) := by decide +kernel
theorem dX4_lay_12 : decode cX4_lay 12 = .ok (.ifCond .eq 23, 3) := by decide +kernel
theorem dX4_lay_15 : decode cX4_lay 15 = .ok (.aload_n 0, 1) := by decide +kernel
theorem dX4_lay_16 : decode cX4_lay 16 = .ok (.getfield 9, 3) := by decide +kernel
theorem dX4_lay_19 : decode cX4_lay 19 = .ok (.aload_n 0, 1) := by decide +kernel
theorem dX4_lay_20 : decode cX4_lay 20 = .ok (.getfield 22, 3) := by decide +kernel
theorem dX4_lay_23 : decode cX4_lay 23 = .ok (.lload_n 1, 1) := by decide +kernel
theorem dX4_lay_24 : decode cX4_lay 24 = .ok (.lastore, 1) := by decide +kernel
theorem dX4_lay_25 : decode cX4_lay 25 = .ok (.aload_n 0, 1) := by decide +kernel
theorem dX4_lay_26 : decode cX4_lay 26 = .ok (.dup, 1) := by decide +kernel
theorem dX4_lay_27 : decode cX4_lay 27 = .ok (.getfield 22, 3) := by decide +kernel
theorem dX4_lay_30 : decode cX4_lay 30 = .ok (.iconst 1, 1) := by decide +kernel
theorem dX4_lay_31 : decode cX4_lay 31 = .ok (.iadd, 1) := by decide +kernel
theorem dX4_lay_32 : decode cX4_lay 32 = .ok (.putfield 22, 3) := by decide +kernel
theorem dX4_lay_35 : decode cX4_lay 35 = .ok (.return_, 1) := by decide +kernel
theorem dX4_top_0 : decode cX4_top 0 = .ok (.aload_n 0, 1) := by decide +kernel
theorem dX4_top_1 : decode cX4_top 1 = .ok (.getfield 22, 3) := by decide +kernel
theorem dX4_top_4 : decode cX4_top 4 = .ok (.iconst 1, 1) := by decide +kernel
theorem dX4_top_5 : decode cX4_top 5 = .ok (.isub, 1) := by decide +kernel
theorem dX4_top_6 : decode cX4_top 6 = .ok (.aload_n 0, 1) := by decide +kernel
theorem dX4_top_7 : decode cX4_top 7 = .ok (.getfield 9, 3) := by decide +kernel
theorem dX4_top_10 : decode cX4_top 10 = .ok (.arraylength, 1) := by decide +kernel
theorem dX4_top_11 : decode cX4_top 11 = .ok (.invokestatic 107, 3) := by decide +kernel
theorem dX4_top_14 : decode cX4_top 14 = .ok (.ifCond .eq 17, 3) := by decide +kernel
theorem dX4_top_17 : decode cX4_top 17 = .ok (.aload_n 0, 1) := by decide +kernel
theorem dX4_top_18 : decode cX4_top 18 = .ok (.getfield 9, 3) := by decide +kernel
theorem dX4_top_21 : decode cX4_top 21 = .ok (.aload_n 0, 1) := by decide +kernel
theorem dX4_top_22 : decode cX4_top 22 = .ok (.getfield 22, 3) := by decide +kernel
theorem dX4_top_25 : decode cX4_top 25 = .ok (.iconst 1, 1) := by decide +kernel
theorem dX4_top_26 : decode cX4_top 26 = .ok (.isub, 1) := by decide +kernel
theorem dX4_top_27 : decode cX4_top 27 = .ok (.laload, 1) := by decide +kernel
theorem dX4_top_28 : decode cX4_top 28 = .ok (.goto 4, 3) := by decide +kernel
theorem dX4_top_31 : decode cX4_top 31 = .ok (.lconst 0, 1) := by decide +kernel
theorem dX4_top_32 : decode cX4_top 32 = .ok (.lreturn, 1) := by decide +kernel
theorem dX4_take_0 : decode cX4_take 0 = .ok (.aload_n 0, 1) := by decide +kernel
theorem dX4_take_1 : decode cX4_take 1 = .ok (.invokevirtual 48, 3) := by decide +kernel
theorem dX4_take_4 : decode cX4_take 4 = .ok (.lstore_n 1, 1) := by decide +kernel
theorem dX4_take_5 : decode cX4_take 5 = .ok (.aload_n 0, 1) := by decide +kernel
theorem dX4_take_6 : decode cX4_take 6 = .ok (.getfield 22, 3) := by decide +kernel
theorem dX4_take_9 : decode cX4_take 9 = .ok (.ifCond .le 13, 3) := by decide +kernel
theorem dX4_take_12 : decode cX4_take 12 = .ok (.aload_n 0, 1) := by decide +kernel
theorem dX4_take_13 : decode cX4_take 13 = .ok (.dup, 1) := by decide +kernel
theorem dX4_take_14 : decode cX4_take 14 = .ok (.getfield 22, 3) := by decide +kernel
theorem dX4_take_17 : decode cX4_take 17 = .ok (.iconst 1, 1) := by decide +kernel
theorem dX4_take_18 : decode cX4_take 18 = .ok (.isub, 1) := by decide +kernel
theorem dX4_take_19 : decode cX4_take 19 = .ok (.putfield 22, 3) := by decide +kernel
theorem dX4_take_22 : decode cX4_take 22 = .ok (.lload_n 1, 1) := by decide +kernel
theorem dX4_take_23 : decode cX4_take 23 = .ok (.lreturn, 1) := by decide +kernel
theorem dX5_init_0 : decode cX5_init 0 = .ok (.aload_n 0, 1) := by decide +kernel
theorem dX5_init_1 : decode cX5_init 1 = .ok (.invokespecial 3, 3) := by decide +kernel
theorem dX5_init_4 : decode cX5_init 4 = .ok (.aload_n 0, 1) := by decide +kernel
theorem dX5_init_5 : decode cX5_init 5 = .ok (.iconst 0, 1) := by decide +kernel
theorem dX5_init_6 : decode cX5_init 6 = .ok (.putfield 9, 3) := by decide +kernel
theorem dX5_init_9 : decode cX5_init 9 = .ok (.aload_n 0, 1) := by decide +kernel
theorem dX5_init_10 : decode cX5_init 10 = .ok (.iconst (-1), 1) := by decide +kernel
theorem dX5_init_11 : decode cX5_init 11 = .ok (.putfield 15, 3) := by decide +kernel
theorem dX5_init_14 : decode cX5_init 14 = .ok (.aload_n 0, 1) := by decide +kernel
theorem dX5_init_15 : decode cX5_init 15 = .ok (.iload_n 1, 1) := by decide +kernel
theorem dX5_init_16 : decode cX5_init 16 = .ok (.putfield 18, 3) := by decide +kernel
theorem dX5_init_19 : decode cX5_init 19 = .ok (.aload_n 0, 1) := by decide +kernel
theorem dX5_init_20 : decode cX5_init 20 = .ok (.iload_n 2, 1) := by decide +kernel
theorem dX5_init_21 : decode cX5_init 21 = .ok (.putfield 21, 3) := by decide +kernel
theorem dX5_init_24 : decode cX5_init 24 = .ok (.return_, 1) := by decide +kernel
theorem dX5_isHalted_0 : decode cX5_isHalted 0 = .ok (.aload_n 0, 1) := by decide +kernel
theorem dX5_isHalted_1 : decode cX5_isHalted 1 = .ok (.getfield 15, 3) := by decide +kernel
theorem dX5_isHalted_4 : decode cX5_isHalted 4 = .ok (.iconst (-1), 1) := by decide +kernel
theorem dX5_isHalted_5 : decode cX5_isHalted 5 = .ok (.if_icmp .eq 7, 3) := by decide +kernel
theorem dX5_isHalted_8 : decode cX5_isHalted 8 = .ok (.iconst 1, 1) := by decide +kernel
theorem dX5_isHalted_9 : decode cX5_isHalted 9 = .ok (.goto 4, 3) := by decide +kernel
theorem dX5_isHalted_12 : decode cX5_isHalted 12 = .ok (.iconst 0, 1) := by decide +kernel
theorem dX5_isHalted_13 : decode cX5_isHalted 13 = .ok (.ireturn, 1) := by decide +kernel
theorem dX5_hasEdition_0 : decode cX5_hasEdition 0 = .ok (.aload_n 0, 1) := by decide +kernel
theorem dX5_hasEdition_1 : decode cX5_hasEdition 1 = .ok (.getfield 21, 3) := by decide +kernel
theorem dX5_hasEdition_4 : decode cX5_hasEdition 4 = .ok (.iconst 1, 1) := by decide +kernel
theorem dX5_hasEdition_5 : decode cX5_hasEdition 5 = .ok (.iload_n 1, 1) := by decide +kernel
theorem dX5_hasEdition_6 : decode cX5_hasEdition 6 = .ok (.ishl, 1) := by decide +kernel
theorem dX5_hasEdition_7 : decode cX5_hasEdition 7 = .ok (.iand, 1) := by decide +kernel
theorem dX5_hasEdition_8 : decode cX5_hasEdition 8 = .ok (.ifCond .eq 7, 3) := by decide +kernel
theorem dX5_hasEdition_11 : decode cX5_hasEdition 11 = .ok (.iconst 1, 1) := by decide +kernel
theorem dX5_hasEdition_12 : decode cX5_hasEdition 12 = .ok (.goto 4, 3) := by decide +kernel
theorem dX5_hasEdition_15 : decode cX5_hasEdition 15 = .ok (.iconst 0, 1) := by decide +kernel
theorem dX5_hasEdition_16 : decode cX5_hasEdition 16 = .ok (.ireturn, 1) := by decide +kernel
theorem dX5_votedFor_0 : decode cX5_votedFor 0 = .ok (.aload_n 0, 1) := by decide +kernel
theorem dX5_votedFor_1 : decode cX5_votedFor 1 = .ok (.getfield 9, 3) := by decide +kernel
theorem dX5_votedFor_4 : decode cX5_votedFor 4 = .ok (.iconst 1, 1) := by decide +kernel
theorem dX5_votedFor_5 : decode cX5_votedFor 5 = .ok (.iload_n 1, 1) := by decide +kernel
theorem dX5_votedFor_6 : decode cX5_votedFor 6 = .ok (.ishl, 1) := by decide +kernel
theorem dX5_votedFor_7 : decode cX5_votedFor 7 = .ok (.iand, 1) := by decide +kernel
theorem dX5_votedFor_8 : decode cX5_votedFor 8 = .ok (.ifCond .eq 7, 3) := by decide +kernel
theorem dX5_votedFor_11 : decode cX5_votedFor 11 = .ok (.iconst 1, 1) := by decide +kernel
theorem dX5_votedFor_12 : decode cX5_votedFor 12 = .ok (.goto 4, 3) := by decide +kernel
theorem dX5_votedFor_15 : decode cX5_votedFor 15 = .ok (.iconst 0, 1) := by decide +kernel
theorem dX5_votedFor_16 : decode cX5_votedFor 16 = .ok (.ireturn, 1) := by decide +kernel
theorem dX5_setVote_0 : decode cX5_setVote 0 = .ok (.iconst 1, 1) := by decide +kernel
theorem dX5_setVote_1 : decode cX5_setVote 1 = .ok (.iload_n 1, 1) := by decide +kernel
theorem dX5_setVote_2 : decode cX5_setVote 2 = .ok (.ishl, 1) := by decide +kernel
theorem dX5_setVote_3 : decode cX5_setVote 3 = .ok (.istore_n 3, 1) := by decide +kernel
theorem dX5_setVote_4 : decode cX5_setVote 4 = .ok (.aload_n 0, 1) := by decide +kernel
theorem dX5_setVote_5 : decode cX5_setVote 5 = .ok (.iload_n 2, 1) := by decide +kernel
theorem dX5_setVote_6 : decode cX5_setVote 6 = .ok (.ifCond .eq 12, 3) := by decide +kernel
theorem dX5_setVote_9 : decode cX5_setVote 9 = .ok (.aload_n 0, 1) := by decide +kernel
theorem dX5_setVote_10 : decode cX5_setVote 10 = .ok (.getfield 9, 3) := by decide +kernel
theorem dX5_setVote_13 : decode cX5_setVote 13 = .ok (.iload_n 3, 1) := by decide +kernel
theorem dX5_setVote_14 : decode cX5_setVote 14 = .ok (.ior, 1) := by decide +kernel
theorem dX5_setVote_15 : decode cX5_setVote 15 = .ok (.goto 11, 3) := by decide +kernel
theorem dX5_setVote_18 : decode cX5_setVote 18 = .ok (.aload_n 0, 1) := by decide +kernel
theorem dX5_setVote_19 : decode cX5_setVote 19 = .ok (.getfield 9, 3) := by decide +kernel
theorem dX5_setVote_22 : decode cX5_setVote 22 = .ok (.iload_n 3, 1) := by decide +kernel
theorem dX5_setVote_23 : decode cX5_setVote 23 = .ok (.iconst (-1), 1) := by decide +kernel
theorem dX5_setVote_24 : decode cX5_setVote 24 = .ok (.ixor, 1) := by decide +kernel
theorem dX5_setVote_25 : decode cX5_setVote 25 = .ok (.iand, 1) := by decide +kernel
theorem dX5_setVote_26 : decode cX5_setVote 26 = .ok (.putfield 9, 3) := by decide +kernel
theorem dX5_setVote_29 : decode cX5_setVote 29 = .ok (.return_, 1) := by decide +kernel
theorem dJ13_bitCount_95d88_0 : decode cJ13_bitCount_95d88 0 = .ok (.lload_n 0, 1) := by decide +kernel
theorem dJ13_bitCount_95d88_1 : decode cJ13_bitCount_95d88 1 = .ok (.lload_n 0, 1) := by decide +kernel
theorem dJ13_bitCount_95d88_2 : decode cJ13_bitCount_95d88 2 = .ok (.iconst 1, 1) := by decide +kernel
theorem dJ13_bitCount_95d88_3 : decode cJ13_bitCount_95d88 3 = .ok (.lushr, 1) := by decide +kernel
theorem dJ13_bitCount_95d88_4 : decode cJ13_bitCount_95d88 4 = .ok (.ldc2_w 314, 3) := by decide +kernel
theorem dJ13_bitCount_95d88_7 : decode cJ13_bitCount_95d88 7 = .ok (.land, 1) := by decide +kernel
theorem dJ13_bitCount_95d88_8 : decode cJ13_bitCount_95d88 8 = .ok (.lsub, 1) := by decide +kernel
theorem dJ13_bitCount_95d88_9 : decode cJ13_bitCount_95d88 9 = .ok (.lstore_n 0, 1) := by decide +kernel
theorem dJ13_bitCount_95d88_10 : decode cJ13_bitCount_95d88 10 = .ok (.lload_n 0, 1) := by decide +kernel
theorem dJ13_bitCount_95d88_11 : decode cJ13_bitCount_95d88 11 = .ok (.ldc2_w 316, 3) := by decide +kernel
theorem dJ13_bitCount_95d88_14 : decode cJ13_bitCount_95d88 14 = .ok (.land, 1) := by decide +kernel
theorem dJ13_bitCount_95d88_15 : decode cJ13_bitCount_95d88 15 = .ok (.lload_n 0, 1) := by decide +kernel
theorem dJ13_bitCount_95d88_16 : decode cJ13_bitCount_95d88 16 = .ok (.iconst 2, 1) := by decide +kernel
theorem dJ13_bitCount_95d88_17 : decode cJ13_bitCount_95d88 17 = .ok (.lushr, 1) := by decide +kernel
theorem dJ13_bitCount_95d88_18 : decode cJ13_bitCount_95d88 18 = .ok (.ldc2_w 316, 3) := by decide +kernel
theorem dJ13_bitCount_95d88_21 : decode cJ13_bitCount_95d88 21 = .ok (.land, 1) := by decide +kernel
theorem dJ13_bitCount_95d88_22 : decode cJ13_bitCount_95d88 22 = .ok (.ladd, 1) := by decide +kernel
theorem dJ13_bitCount_95d88_23 : decode cJ13_bitCount_95d88 23 = .ok (.lstore_n 0, 1) := by decide +kernel
theorem dJ13_bitCount_95d88_24 : decode cJ13_bitCount_95d88 24 = .ok (.lload_n 0, 1) := by decide +kernel
theorem dJ13_bitCount_95d88_25 : decode cJ13_bitCount_95d88 25 = .ok (.lload_n 0, 1) := by decide +kernel
theorem dJ13_bitCount_95d88_26 : decode cJ13_bitCount_95d88 26 = .ok (.iconst 4, 1) := by decide +kernel
theorem dJ13_bitCount_95d88_27 : decode cJ13_bitCount_95d88 27 = .ok (.lushr, 1) := by decide +kernel
theorem dJ13_bitCount_95d88_28 : decode cJ13_bitCount_95d88 28 = .ok (.ladd, 1) := by decide +kernel
theorem dJ13_bitCount_95d88_29 : decode cJ13_bitCount_95d88 29 = .ok (.ldc2_w 318, 3) := by decide +kernel
theorem dJ13_bitCount_95d88_32 : decode cJ13_bitCount_95d88 32 = .ok (.land, 1) := by decide +kernel
theorem dJ13_bitCount_95d88_33 : decode cJ13_bitCount_95d88 33 = .ok (.lstore_n 0, 1) := by decide +kernel
theorem dJ13_bitCount_95d88_34 : decode cJ13_bitCount_95d88 34 = .ok (.lload_n 0, 1) := by decide +kernel
theorem dJ13_bitCount_95d88_35 : decode cJ13_bitCount_95d88 35 = .ok (.lload_n 0, 1) := by decide +kernel
theorem dJ13_bitCount_95d88_36 : decode cJ13_bitCount_95d88 36 = .ok (.bipush 8, 2) := by decide +kernel
theorem dJ13_bitCount_95d88_38 : decode cJ13_bitCount_95d88 38 = .ok (.lushr, 1) := by decide +kernel
theorem dJ13_bitCount_95d88_39 : decode cJ13_bitCount_95d88 39 = .ok (.ladd, 1) := by decide +kernel
theorem dJ13_bitCount_95d88_40 : decode cJ13_bitCount_95d88 40 = .ok (.lstore_n 0, 1) := by decide +kernel
theorem dJ13_bitCount_95d88_41 : decode cJ13_bitCount_95d88 41 = .ok (.lload_n 0, 1) := by decide +kernel
theorem dJ13_bitCount_95d88_42 : decode cJ13_bitCount_95d88 42 = .ok (.lload_n 0, 1) := by decide +kernel
theorem dJ13_bitCount_95d88_43 : decode cJ13_bitCount_95d88 43 = .ok (.bipush 16, 2) := by decide +kernel
theorem dJ13_bitCount_95d88_45 : decode cJ13_bitCount_95d88 45 = .ok (.lushr, 1) := by decide +kernel
theorem dJ13_bitCount_95d88_46 : decode cJ13_bitCount_95d88 46 = .ok (.ladd, 1) := by decide +kernel
theorem dJ13_bitCount_95d88_47 : decode cJ13_bitCount_95d88 47 = .ok (.lstore_n 0, 1) := by decide +kernel
theorem dJ13_bitCount_95d88_48 : decode cJ13_bitCount_95d88 48 = .ok (.lload_n 0, 1) := by decide +kernel
theorem dJ13_bitCount_95d88_49 : decode cJ13_bitCount_95d88 49 = .ok (.lload_n 0, 1) := by decide +kernel
theorem dJ13_bitCount_95d88_50 : decode cJ13_bitCount_95d88 50 = .ok (.bipush 32, 2) := by decide +kernel
theorem dJ13_bitCount_95d88_52 : decode cJ13_bitCount_95d88 52 = .ok (.lushr, 1) := by decide +kernel
theorem dJ13_bitCount_95d88_53 : decode cJ13_bitCount_95d88 53 = .ok (.ladd, 1) := by decide +kernel
theorem dJ13_bitCount_95d88_54 : decode cJ13_bitCount_95d88 54 = .ok (.lstore_n 0, 1) := by decide +kernel
theorem dJ13_bitCount_95d88_55 : decode cJ13_bitCount_95d88 55 = .ok (.lload_n 0, 1) := by decide +kernel
theorem dJ13_bitCount_95d88_56 : decode cJ13_bitCount_95d88 56 = .ok (.l2i, 1) := by decide +kernel
theorem dJ13_bitCount_95d88_57 : decode cJ13_bitCount_95d88 57 = .ok (.bipush 127, 2) := by decide +kernel
theorem dJ13_bitCount_95d88_59 : decode cJ13_bitCount_95d88 59 = .ok (.iand, 1) := by decide +kernel
theorem dJ13_bitCount_95d88_60 : decode cJ13_bitCount_95d88 60 = .ok (.ireturn, 1) := by decide +kernel
theorem dJ9_floorDiv_f86c9_0 : decode cJ9_floorDiv_f86c9 0 = .ok (.lload_n 0, 1) := by decide +kernel
theorem dJ9_floorDiv_f86c9_1 : decode cJ9_floorDiv_f86c9 1 = .ok (.lload_n 2, 1) := by decide +kernel
theorem dJ9_floorDiv_f86c9_2 : decode cJ9_floorDiv_f86c9 2 = .ok (.ldiv, 1) := by decide +kernel
theorem dJ9_floorDiv_f86c9_3 : decode cJ9_floorDiv_f86c9 3 = .ok (.lstore 4, 2) := by decide +kernel
theorem dJ9_floorDiv_f86c9_5 : decode cJ9_floorDiv_f86c9 5 = .ok (.lload_n 0, 1) := by decide +kernel
theorem dJ9_floorDiv_f86c9_6 : decode cJ9_floorDiv_f86c9 6 = .ok (.lload_n 2, 1) := by decide +kernel
theorem dJ9_floorDiv_f86c9_7 : decode cJ9_floorDiv_f86c9 7 = .ok (.lxor, 1) := by decide +kernel
theorem dJ9_floorDiv_f86c9_8 : decode cJ9_floorDiv_f86c9 8 = .ok (.lconst 0, 1) := by decide +kernel
theorem dJ9_floorDiv_f86c9_9 : decode cJ9_floorDiv_f86c9 9 = .ok (.lcmp, 1) := by decide +kernel
theorem dJ9_floorDiv_f86c9_10 : decode cJ9_floorDiv_f86c9 10 = .ok (.ifCond .ge 17, 3) := by decide +kernel
theorem dJ9_floorDiv_f86c9_13 : decode cJ9_floorDiv_f86c9 13 = .ok (.lload 4, 2) := by decide +kernel
theorem dJ9_floorDiv_f86c9_15 : decode cJ9_floorDiv_f86c9 15 = .ok (.lload_n 2, 1) := by decide +kernel
theorem dJ9_floorDiv_f86c9_16 : decode cJ9_floorDiv_f86c9 16 = .ok (.lmul, 1) := by decide +kernel
theorem dJ9_floorDiv_f86c9_17 : decode cJ9_floorDiv_f86c9 17 = .ok (.lload_n 0, 1) := by decide +kernel
theorem dJ9_floorDiv_f86c9_18 : decode cJ9_floorDiv_f86c9 18 = .ok (.lcmp, 1) := by decide +kernel
theorem dJ9_floorDiv_f86c9_19 : decode cJ9_floorDiv_f86c9 19 = .ok (.ifCond .eq 8, 3) := by decide +kernel
theorem dJ9_floorDiv_f86c9_22 : decode cJ9_floorDiv_f86c9 22 = .ok (.lload 4, 2) := by decide +kernel
theorem dJ9_floorDiv_f86c9_24 : decode cJ9_floorDiv_f86c9 24 = .ok (.lconst 1, 1) := by decide +kernel
theorem dJ9_floorDiv_f86c9_25 : decode cJ9_floorDiv_f86c9 25 = .ok (.lsub, 1) := by decide +kernel
theorem dJ9_floorDiv_f86c9_26 : decode cJ9_floorDiv_f86c9 26 = .ok (.lreturn, 1) := by decide +kernel
theorem dJ9_floorDiv_f86c9_27 : decode cJ9_floorDiv_f86c9 27 = .ok (.lload 4, 2) := by decide +kernel
theorem dJ9_floorDiv_f86c9_29 : decode cJ9_floorDiv_f86c9 29 = .ok (.lreturn, 1) := by decide +kernel
theorem dJ9_abs_067f4_0 : decode cJ9_abs_067f4 0 = .ok (.lload_n 0, 1) := by decide +kernel
theorem dJ9_abs_067f4_1 : decode cJ9_abs_067f4 1 = .ok (.lconst 0, 1) := by decide +kernel
theorem dJ9_abs_067f4_2 : decode cJ9_abs_067f4 2 = .ok (.lcmp, 1) := by decide +kernel
theorem dJ9_abs_067f4_3 : decode cJ9_abs_067f4 3 = .ok (.ifCond .ge 8, 3) := by decide +kernel
theorem dJ9_abs_067f4_6 : decode cJ9_abs_067f4 6 = .ok (.lload_n 0, 1) := by decide +kernel
theorem dJ9_abs_067f4_7 : decode cJ9_abs_067f4 7 = .ok (.lneg, 1) := by decide +kernel
theorem dJ9_abs_067f4_8 : decode cJ9_abs_067f4 8 = .ok (.goto 4, 3) := by decide +kernel
theorem dJ9_abs_067f4_11 : decode cJ9_abs_067f4 11 = .ok (.lload_n 0, 1) := by decide +kernel
theorem dJ9_abs_067f4_12 : decode cJ9_abs_067f4 12 = .ok (.lreturn, 1) := by decide +kernel
theorem dJ9_max_7cf53_0 : decode cJ9_max_7cf53 0 = .ok (.iload_n 0, 1) := by decide +kernel
theorem dJ9_max_7cf53_1 : decode cJ9_max_7cf53 1 = .ok (.iload_n 1, 1) := by decide +kernel
theorem dJ9_max_7cf53_2 : decode cJ9_max_7cf53 2 = .ok (.if_icmp .lt 7, 3) := by decide +kernel
theorem dJ9_max_7cf53_5 : decode cJ9_max_7cf53 5 = .ok (.iload_n 0, 1) := by decide +kernel
theorem dJ9_max_7cf53_6 : decode cJ9_max_7cf53 6 = .ok (.goto 4, 3) := by decide +kernel
theorem dJ9_max_7cf53_9 : decode cJ9_max_7cf53 9 = .ok (.iload_n 1, 1) := by decide +kernel
theorem dJ9_max_7cf53_10 : decode cJ9_max_7cf53 10 = .ok (.ireturn, 1) := by decide +kernel
