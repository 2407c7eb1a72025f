theorem dX6_init_0 : decode cX6_init 0 = .ok (.aload_n 0, 1) := by decide +kernel
theorem dX6_init_1 : decode cX6_init 1 = .ok (.invokespecial 3, 3) := by decide +kernel
theorem dX6_init_4 : decode cX6_init 4 = .ok (.aload_n 0, 1) := by decide +kernel
theorem dX6_init_5 : decode cX6_init 5 = .ok (.bipush 10, 2) := by decide +kernel
theorem dX6_init_7 : decode cX6_init 7 = .ok (.anewarray 9, 3) := by decide +kernel
theorem dX6_init_10 : decode cX6_init 10 = .ok (.putfield 11, 3) := by decide +kernel
theorem dX6_init_13 : decode cX6_init 13 = .ok (.aload_n 0, 1) := by decide +kernel
theorem dX6_init_14 : decode cX6_init 14 = .ok (.bipush 12, 2) := by decide +kernel
theorem dX6_init_16 : decode cX6_init 16 = .ok (.anewarray 15, 3) := by decide +kernel
theorem dX6_init_19 : decode cX6_init 19 = .ok (.putfield 17, 3) := by decide +kernel
theorem dX6_init_22 : decode cX6_init 22 = .ok (.aload_n 0, 1) := by decide +kernel
theorem dX6_init_23 : decode cX6_init 23 = .ok (.bipush 12, 2) := by decide +kernel
theorem dX6_init_25 : decode cX6_init 25 = .ok (.anewarray 21, 3) := by decide +kernel
theorem dX6_init_28 : decode cX6_init 28 = .ok (.putfield 23, 3) := by decide +kernel
theorem dX6_init_31 : decode cX6_init 31 = .ok (.aload_n 0, 1) := by decide +kernel
theorem dX6_init_32 : decode cX6_init 32 = .ok (.bipush 64, 2) := by decide +kernel
theorem dX6_init_34 : decode cX6_init 34 = .ok (.anewarray 27, 3) := by decide +kernel
theorem dX6_init_37 : decode cX6_init 37 = .ok (.putfield 29, 3) := by decide +kernel
theorem dX6_init_40 : decode cX6_init 40 = .ok (.aload_n 0, 1) := by decide +kernel
theorem dX6_init_41 : decode cX6_init 41 = .ok (.new 9, 3) := by decide +kernel
theorem dX6_init_44 : decode cX6_init 44 = .ok (.dup, 1) := by decide +kernel
theorem dX6_init_45 : decode cX6_init 45 = .ok (.iconst 0, 1) := by decide +kernel
theorem dX6_init_46 : decode cX6_init 46 = .ok (.invokespecial 33, 3) := by decide +kernel
theorem dX6_init_49 : decode cX6_init 49 = .ok (.putfield 36, 3) := by decide +kernel
theorem dX6_init_52 : decode cX6_init 52 = .ok (.aload_n 0, 1) := by decide +kernel
theorem dX6_init_53 : decode cX6_init 53 = .ok (.new 40, 3) := by decide +kernel
theorem dX6_init_56 : decode cX6_init 56 = .ok (.dup, 1) := by decide +kernel
theorem dX6_init_57 : decode cX6_init 57 = .ok (.invokespecial 42, 3) := by decide +kernel
theorem dX6_init_60 : decode cX6_init 60 = .ok (.putfield 43, 3) := by decide +kernel
theorem dX6_init_63 : decode cX6_init 63 = .ok (.aload_n 0, 1) := by decide +kernel
theorem dX6_init_64 : decode cX6_init 64 = .ok (.iconst 1, 1) := by decide +kernel
theorem dX6_init_65 : decode cX6_init 65 = .ok (.putfield 47, 3) := by decide +kernel
theorem dX6_init_68 : decode cX6_init 68 = .ok (.aload_n 0, 1) := by decide +kernel
theorem dX6_init_69 : decode cX6_init 69 = .ok (.iconst 0, 1) := by decide +kernel
theorem dX6_init_70 : decode cX6_init 70 = .ok (.putfield 51, 3) := by decide +kernel
theorem dX6_init_73 : decode cX6_init 73 = .ok (.aload_n 0, 1) := by decide +kernel
theorem dX6_init_74 : decode cX6_init 74 = .ok (.iconst 0, 1) := by decide +kernel
theorem dX6_init_75 : decode cX6_init 75 = .ok (.putfield 54, 3) := by decide +kernel
theorem dX6_init_78 : decode cX6_init 78 = .ok (.aload_n 0, 1) := by decide +kernel
theorem dX6_init_79 : decode cX6_init 79 = .ok (.iconst 0, 1) := by decide +kernel
theorem dX6_init_80 : decode cX6_init 80 = .ok (.putfield 57, 3) := by decide +kernel
theorem dX6_init_83 : decode cX6_init 83 = .ok (.aload_n 0, 1) := by decide +kernel
theorem dX6_init_84 : decode cX6_init 84 = .ok (.iconst 0, 1) := by decide +kernel
theorem dX6_init_85 : decode cX6_init 85 = .ok (.putfield 60, 3) := by decide +kernel
theorem dX6_init_88 : decode cX6_init 88 = .ok (.aload_n 0, 1) := by decide +kernel
theorem dX6_init_89 : decode cX6_init 89 = .ok (.iconst 0, 1) := by decide +kernel
theorem dX6_init_90 : decode cX6_init 90 = .ok (.putfield 63, 3) := by decide +kernel
theorem dX6_init_93 : decode cX6_init 93 = .ok (.iconst 0, 1) := by decide +kernel
theorem dX6_init_94 : decode cX6_init 94 = .ok (.istore_n 1, 1) := by decide +kernel
theorem dX6_init_95 : decode cX6_init 95 = .ok (.iload_n 1, 1) := by decide +kernel
theorem dX6_init_96 : decode cX6_init 96 = .ok (.bipush 9, 2) := by decide +kernel
theorem dX6_init_98 : decode cX6_init 98 = .ok (.if_icmp .ge 19, 3) := by decide +kernel
theorem dX6_init_101 : decode cX6_init 101 = .ok (.aload_n 0, 1) := by decide +kernel
theorem dX6_init_102 : decode cX6_init 102 = .ok (.getfield 36, 3) := by decide +kernel
theorem dX6_init_105 : decode cX6_init 105 = .ok (.getfield 66, 3) := by decide +kernel
theorem dX6_init_108 : decode cX6_init 108 = .ok (.iload_n 1, 1) := by decide +kernel
theorem dX6_init_109 : decode cX6_init 109 = .ok (.iconst 1, 1) := by decide +kernel
theorem dX6_init_110 : decode cX6_init 110 = .ok (.iastore, 1) := by decide +kernel
theorem dX6_init_111 : decode cX6_init 111 = .ok (.iinc 1 1, 3) := by decide +kernel
theorem dX6_init_114 : decode cX6_init 114 = .ok (.goto (-19), 3) := by decide +kernel
theorem dX6_init_117 : decode cX6_init 117 = .ok (.iconst 0, 1) := by decide +kernel
theorem dX6_init_118 : decode cX6_init 118 = .ok (.istore_n 1, 1) := by decide +kernel
theorem dX6_init_119 : decode cX6_init 119 = .ok (.iload_n 1, 1) := by decide +kernel
theorem dX6_init_120 : decode cX6_init 120 = .ok (.bipush 8, 2) := by decide +kernel
theorem dX6_init_122 : decode cX6_init 122 = .ok (.if_icmp .ge 19, 3) := by decide +kernel
theorem dX6_init_125 : decode cX6_init 125 = .ok (.aload_n 0, 1) := by decide +kernel
theorem dX6_init_126 : decode cX6_init 126 = .ok (.getfield 36, 3) := by decide +kernel
theorem dX6_init_129 : decode cX6_init 129 = .ok (.getfield 70, 3) := by decide +kernel
theorem dX6_init_132 : decode cX6_init 132 = .ok (.iload_n 1, 1) := by decide +kernel
theorem dX6_init_133 : decode cX6_init 133 = .ok (.iconst (-1), 1) := by decide +kernel
theorem dX6_init_134 : decode cX6_init 134 = .ok (.iastore, 1) := by decide +kernel
theorem dX6_init_135 : decode cX6_init 135 = .ok (.iinc 1 1, 3) := by decide +kernel
theorem dX6_init_138 : decode cX6_init 138 = .ok (.goto (-19), 3) := by decide +kernel
theorem dX6_init_141 : decode cX6_init 141 = .ok (.aload_n 0, 1) := by decide +kernel
theorem dX6_init_142 : decode cX6_init 142 = .ok (.getfield 36, 3) := by decide +kernel
theorem dX6_init_145 : decode cX6_init 145 = .ok (.iconst 0, 1) := by decide +kernel
theorem dX6_init_146 : decode cX6_init 146 = .ok (.putfield 73, 3) := by decide +kernel
theorem dX6_init_149 : decode cX6_init 149 = .ok (.aload_n 0, 1) := by decide +kernel
theorem dX6_init_150 : decode cX6_init 150 = .ok (.getfield 36, 3) := by decide +kernel
theorem dX6_init_153 : decode cX6_init 153 = .ok (.iconst 2, 1) := by decide +kernel
theorem dX6_init_154 : decode cX6_init 154 = .ok (.putfield 74, 3) := by decide +kernel
theorem dX6_init_157 : decode cX6_init 157 = .ok (.aload_n 0, 1) := by decide +kernel
theorem dX6_init_158 : decode cX6_init 158 = .ok (.getfield 11, 3) := by decide +kernel
theorem dX6_init_161 : decode cX6_init 161 = .ok (.iconst 0, 1) := by decide +kernel
theorem dX6_init_162 : decode cX6_init 162 = .ok (.aload_n 0, 1) := by decide +kernel
theorem dX6_init_163 : decode cX6_init 163 = .ok (.getfield 36, 3) := by decide +kernel
theorem dX6_init_166 : decode cX6_init 166 = .ok (.aastore, 1) := by decide +kernel
theorem dX6_init_167 : decode cX6_init 167 = .ok (.return_, 1) := by decide +kernel
theorem dX6_edition_0 : decode cX6_edition 0 = .ok (.aload_n 0, 1) := by decide +kernel
theorem dX6_edition_1 : decode cX6_edition 1 = .ok (.iload_n 1, 1) := by decide +kernel
theorem dX6_edition_2 : decode cX6_edition 2 = .ok (.invokevirtual 77, 3) := by decide +kernel
theorem dX6_edition_5 : decode cX6_edition 5 = .ok (.astore_n 2, 1) := by decide +kernel
theorem dX6_edition_6 : decode cX6_edition 6 = .ok (.aload_n 2, 1) := by decide +kernel
theorem dX6_edition_7 : decode cX6_edition 7 = .ok (.ifnonnull 6, 3) := by decide +kernel
theorem dX6_edition_10 : decode cX6_edition 10 = .ok (.bipush (-2), 2) := by decide +kernel
theorem dX6_edition_12 : decode cX6_edition 12 = .ok (.ireturn, 1) := by decide +kernel
theorem dX6_edition_13 : decode cX6_edition 13 = .ok (.aload_n 0, 1) := by decide +kernel
theorem dX6_edition_14 : decode cX6_edition 14 = .ok (.getfield 47, 3) := by decide +kernel
theorem dX6_edition_17 : decode cX6_edition 17 = .ok (.bipush 10, 2) := by decide +kernel
theorem dX6_edition_19 : decode cX6_edition 19 = .ok (.if_icmp .lt 6, 3) := by decide +kernel
theorem dX6_edition_22 : decode cX6_edition 22 = .ok (.bipush (-4), 2) := by decide +kernel
theorem dX6_edition_24 : decode cX6_edition 24 = .ok (.ireturn, 1) := by decide +kernel
theorem dX6_edition_25 : decode cX6_edition 25 = .ok (.new 9, 3) := by decide +kernel
theorem dX6_edition_28 : decode cX6_edition 28 = .ok (.dup, 1) := by decide +kernel
theorem dX6_edition_29 : decode cX6_edition 29 = .ok (.aload_n 0, 1) := by decide +kernel
theorem dX6_edition_30 : decode cX6_edition 30 = .ok (.getfield 47, 3) := by decide +kernel
theorem dX6_edition_33 : decode cX6_edition 33 = .ok (.invokespecial 33, 3) := by decide +kernel
theorem dX6_edition_36 : decode cX6_edition 36 = .ok (.astore_n 3, 1) := by decide +kernel
theorem dX6_edition_37 : decode cX6_edition 37 = .ok (.aload_n 3, 1) := by decide +kernel
theorem dX6_edition_38 : decode cX6_edition 38 = .ok (.aload_n 2, 1) := by decide +kernel
theorem dX6_edition_39 : decode cX6_edition 39 = .ok (.invokevirtual 81, 3) := by decide +kernel
theorem dX6_edition_42 : decode cX6_edition 42 = .ok (.aload_n 0, 1) := by decide +kernel
theorem dX6_edition_43 : decode cX6_edition 43 = .ok (.getfield 11, 3) := by decide +kernel
theorem dX6_edition_46 : decode cX6_edition 46 = .ok (.aload_n 0, 1) := by decide +kernel
theorem dX6_edition_47 : decode cX6_edition 47 = .ok (.getfield 47, 3) := by decide +kernel
theorem dX6_edition_50 : decode cX6_edition 50 = .ok (.aload_n 3, 1) := by decide +kernel
theorem dX6_edition_51 : decode cX6_edition 51 = .ok (.aastore, 1) := by decide +kernel
theorem dX6_edition_52 : decode cX6_edition 52 = .ok (.aload_n 0, 1) := by decide +kernel
theorem dX6_edition_53 : decode cX6_edition 53 = .ok (.dup, 1) := by decide +kernel
theorem dX6_edition_54 : decode cX6_edition 54 = .ok (.getfield 47, 3) := by decide +kernel
theorem dX6_edition_57 : decode cX6_edition 57 = .ok (.iconst 1, 1) := by decide +kernel
theorem dX6_edition_58 : decode cX6_edition 58 = .ok (.iadd, 1) := by decide +kernel
theorem dX6_edition_59 : decode cX6_edition 59 = .ok (.putfield 47, 3) := by decide +kernel
theorem dX6_edition_62 : decode cX6_edition 62 = .ok (.aload_n 3, 1) := by decide +kernel
theorem dX6_edition_63 : decode cX6_edition 63 = .ok (.getfield 85, 3) := by decide +kernel
theorem dX6_edition_66 : decode cX6_edition 66 = .ok (.ireturn, 1) := by decide +kernel
theorem dX6_price_0 : decode cX6_price 0 = .ok (.aload_n 0, 1) := by decide +kernel
theorem dX6_price_1 : decode cX6_price 1 = .ok (.iload_n 1, 1) := by decide +kernel
theorem dX6_price_2 : decode cX6_price 2 = .ok (.invokevirtual 77, 3) := by decide +kernel
theorem dX6_price_5 : decode cX6_price 5 = .ok (.astore 4, 2) := by decide +kernel
theorem dX6_price_7 : decode cX6_price 7 = .ok (.aload 4, 2) := by decide +kernel
theorem dX6_price_9 : decode cX6_price 9 = .ok (.ifnull 22, 3) := by decide +kernel
theorem dX6_price_12 : decode cX6_price 12 = .ok (.iload_n 2, 1) := by decide +kernel
theorem dX6_price_13 : decode cX6_price 13 = .ok (.bipush 9, 2) := by decide +kernel
theorem dX6_price_15 : decode cX6_price 15 = .ok (.invokestatic 88, 3) := by decide +kernel
theorem dX6_price_18 : decode cX6_price 18 = .ok (.ifCond .eq 13, 3) := by decide +kernel
theorem dX6_price_21 : decode cX6_price 21 = .ok (.iload_n 3, 1) := by decide +kernel
theorem dX6_price_22 : decode cX6_price 22 = .ok (.ifCond .lt 9, 3) := by decide +kernel
theorem dX6_price_25 : decode cX6_price 25 = .ok (.iload_n 3, 1) := by decide +kernel
theorem dX6_price_26 : decode cX6_price 26 = .ok (.bipush 100, 2) := by decide +kernel
theorem dX6_price_28 : decode cX6_price 28 = .ok (.if_icmp .le 6, 3) := by decide +kernel
theorem dX6_price_31 : decode cX6_price 31 = .ok (.bipush (-2), 2) := by decide +kernel
theorem dX6_price_33 : decode cX6_price 33 = .ok (.ireturn, 1) := by decide +kernel
theorem dX6_price_34 : decode cX6_price 34 = .ok (.aload 4, 2) := by decide +kernel
theorem dX6_price_36 : decode cX6_price 36 = .ok (.getfield 74, 3) := by decide +kernel
theorem dX6_price_39 : decode cX6_price 39 = .ok (.ifCond .eq 6, 3) := by decide +kernel
theorem dX6_price_42 : decode cX6_price 42 = .ok (.bipush (-3), 2) := by decide +kernel
theorem dX6_price_44 : decode cX6_price 44 = .ok (.ireturn, 1) := by decide +kernel
theorem dX6_price_45 : decode cX6_price 45 = .ok (.aload 4, 2) := by decide +kernel
theorem dX6_price_47 : decode cX6_price 47 = .ok (.getfield 66, 3) := by decide +kernel
theorem dX6_price_50 : decode cX6_price 50 = .ok (.iload_n 2, 1) := by decide +kernel
theorem dX6_price_51 : decode cX6_price 51 = .ok (.iaload, 1) := by decide +kernel
theorem dX6_price_52 : decode cX6_price 52 = .ok (.istore 5, 2) := by decide +kernel
theorem dX6_price_54 : decode cX6_price 54 = .ok (.aload 4, 2) := by decide +kernel
theorem dX6_price_56 : decode cX6_price 56 = .ok (.getfield 66, 3) := by decide +kernel
theorem dX6_price_59 : decode cX6_price 59 = .ok (.iload_n 2, 1) := by decide +kernel
theorem dX6_price_60 : decode cX6_price 60 = .ok (.iload_n 3, 1) := by decide +kernel
theorem dX6_price_61 : decode cX6_price 61 = .ok (.iastore, 1) := by decide +kernel
theorem dX6_price_62 : decode cX6_price 62 = .ok (.iload 5, 2) := by decide +kernel
theorem dX6_price_64 : decode cX6_price 64 = .ok (.ireturn, 1) := by decide +kernel
theorem dX6_member_0 : decode cX6_member 0 = .ok (.aload_n 0, 1) := by decide +kernel
theorem dX6_member_1 : decode cX6_member 1 = .ok (.iload_n 1, 1) := by decide +kernel
theorem dX6_member_2 : decode cX6_member 2 = .ok (.invokevirtual 77, 3) := by decide +kernel
theorem dX6_member_5 : decode cX6_member 5 = .ok (.astore 4, 2) := by decide +kernel
theorem dX6_member_7 : decode cX6_member 7 = .ok (.aload 4, 2) := by decide +kernel
theorem dX6_member_9 : decode cX6_member 9 = .ok (.ifnull 12, 3) := by decide +kernel
theorem dX6_member_12 : decode cX6_member 12 = .ok (.iload_n 2, 1) := by decide +kernel
theorem dX6_member_13 : decode cX6_member 13 = .ok (.bipush 8, 2) := by decide +kernel
theorem dX6_member_15 : decode cX6_member 15 = .ok (.invokestatic 88, 3) := by decide +kernel
theorem dX6_member_18 : decode cX6_member 18 = .ok (.ifCond .ne 6, 3) := by decide +kernel
theorem dX6_member_21 : decode cX6_member 21 = .ok (.bipush (-2), 2) := by decide +kernel
theorem dX6_member_23 : decode cX6_member 23 = .ok (.ireturn, 1) := by decide +kernel
theorem dX6_member_24 : decode cX6_member 24 = .ok (.iload_n 3, 1) := by decide +kernel
theorem dX6_member_25 : decode cX6_member 25 = .ok (.iconst (-1), 1) := by decide +kernel
theorem dX6_member_26 : decode cX6_member 26 = .ok (.if_icmp .eq 15, 3) := by decide +kernel
theorem dX6_member_29 : decode cX6_member 29 = .ok (.iload_n 3, 1) := by decide +kernel
theorem dX6_member_30 : decode cX6_member 30 = .ok (.bipush 6, 2) := by decide +kernel
theorem dX6_member_32 : decode cX6_member 32 = .ok (.invokestatic 88, 3) := by decide +kernel
theorem dX6_member_35 : decode cX6_member 35 = .ok (.ifCond .ne 6, 3) := by decide +kernel
theorem dX6_member_38 : decode cX6_member 38 = .ok (.bipush (-2), 2) := by decide +kernel
theorem dX6_member_40 : decode cX6_member 40 = .ok (.ireturn, 1) := by decide +kernel
theorem dX6_member_41 : decode cX6_member 41 = .ok (.aload 4, 2) := by decide +kernel
theorem dX6_member_43 : decode cX6_member 43 = .ok (.getfield 74, 3) := by decide +kernel
theorem dX6_member_46 : decode cX6_member 46 = .ok (.ifCond .eq 6, 3) := by decide +kernel
theorem dX6_member_49 : decode cX6_member 49 = .ok (.bipush (-3), 2) := by decide +kernel
theorem dX6_member_51 : decode cX6_member 51 = .ok (.ireturn, 1) := by decide +kernel
theorem dX6_member_52 : decode cX6_member 52 = .ok (.aload 4, 2) := by decide +kernel
theorem dX6_member_54 : decode cX6_member 54 = .ok (.getfield 70, 3) := by decide +kernel
theorem dX6_member_57 : decode cX6_member 57 = .ok (.iload_n 2, 1) := by decide +kernel
theorem dX6_member_58 : decode cX6_member 58 = .ok (.iaload, 1) := by decide +kernel
theorem dX6_member_59 : decode cX6_member 59 = .ok (.istore 5, 2) := by decide +kernel
theorem dX6_member_61 : decode cX6_member 61 = .ok (.aload 4, 2) := by decide +kernel
theorem dX6_member_63 : decode cX6_member 63 = .ok (.getfield 70, 3) := by decide +kernel
theorem dX6_member_66 : decode cX6_member 66 = .ok (.iload_n 2, 1) := by decide +kernel
theorem dX6_member_67 : decode cX6_member 67 = .ok (.iload_n 3, 1) := by decide +kernel
theorem dX6_member_68 : decode cX6_member 68 = .ok (.iastore, 1) := by decide +kernel
theorem dX6_member_69 : decode cX6_member 69 = .ok (.iload 5, 2) := by decide +kernel
theorem dX6_member_71 : decode cX6_member 71 = .ok (.ireturn, 1) := by decide +kernel
theorem dX6_about_0 : decode cX6_about 0 = .ok (.aload_n 0, 1) := by decide +kernel
theorem dX6_about_1 : decode cX6_about 1 = .ok (.iload_n 1, 1) := by decide +kernel
theorem dX6_about_2 : decode cX6_about 2 = .ok (.invokevirtual 77, 3) := by decide +kernel
theorem dX6_about_5 : decode cX6_about 5 = .ok (.astore 4, 2) := by decide +kernel
theorem dX6_about_7 : decode cX6_about 7 = .ok (.aload 4, 2) := by decide +kernel
theorem dX6_about_9 : decode cX6_about 9 = .ok (.ifnonnull 6, 3) := by decide +kernel
theorem dX6_about_12 : decode cX6_about 12 = .ok (.bipush (-2), 2) := by decide +kernel
theorem dX6_about_14 : decode cX6_about 14 = .ok (.ireturn, 1) := by decide +kernel
theorem dX6_about_15 : decode cX6_about 15 = .ok (.iload_n 2, 1) := by decide +kernel
theorem dX6_about_16 : decode cX6_about 16 = .ok (.tableswitch 58 0 3 #[32, 39, 46, 52], 32) := by decide +kernel
theorem dX6_about_48 : decode cX6_about 48 = .ok (.aload 4, 2) := by decide +kernel
theorem dX6_about_50 : decode cX6_about 50 = .ok (.iload_n 3, 1) := by decide +kernel
theorem dX6_about_51 : decode cX6_about 51 = .ok (.invokevirtual 92, 3) := by decide +kernel
theorem dX6_about_54 : decode cX6_about 54 = .ok (.ireturn, 1) := by decide +kernel
theorem dX6_about_55 : decode cX6_about 55 = .ok (.aload 4, 2) := by decide +kernel
theorem dX6_about_57 : decode cX6_about 57 = .ok (.iload_n 3, 1) := by decide +kernel
theorem dX6_about_58 : decode cX6_about 58 = .ok (.invokevirtual 96, 3) := by decide +kernel
theorem dX6_about_61 : decode cX6_about 61 = .ok (.ireturn, 1) := by decide +kernel
theorem dX6_about_62 : decode cX6_about 62 = .ok (.aload 4, 2) := by decide +kernel
theorem dX6_about_64 : decode cX6_about 64 = .ok (.getfield 73, 3) := by decide +kernel
theorem dX6_about_67 : decode cX6_about 67 = .ok (.ireturn, 1) := by decide +kernel
theorem dX6_about_68 : decode cX6_about 68 = .ok (.aload 4, 2) := by decide +kernel
theorem dX6_about_70 : decode cX6_about 70 = .ok (.getfield 74, 3) := by decide +kernel
theorem dX6_about_73 : decode cX6_about 73 = .ok (.ireturn, 1) := by decide +kernel
theorem dX6_about_74 : decode cX6_about 74 = .ok (.bipush (-2), 2) := by decide +kernel
theorem dX6_about_76 : decode cX6_about 76 = .ok (.ireturn, 1) := by decide +kernel
theorem dX6_differs_0 : decode cX6_differs 0 = .ok (.aload_n 0, 1) := by decide +kernel
theorem dX6_differs_1 : decode cX6_differs 1 = .ok (.iload_n 1, 1) := by decide +kernel
theorem dX6_differs_2 : decode cX6_differs 2 = .ok (.invokevirtual 77, 3) := by decide +kernel
theorem dX6_differs_5 : decode cX6_differs 5 = .ok (.astore 4, 2) := by decide +kernel
theorem dX6_differs_7 : decode cX6_differs 7 = .ok (.aload_n 0, 1) := by decide +kernel
theorem dX6_differs_8 : decode cX6_differs 8 = .ok (.iload_n 2, 1) := by decide +kernel
theorem dX6_differs_9 : decode cX6_differs 9 = .ok (.invokevirtual 77, 3) := by decide +kernel
theorem dX6_differs_12 : decode cX6_differs 12 = .ok (.astore 5, 2) := by decide +kernel
theorem dX6_differs_14 : decode cX6_differs 14 = .ok (.aload 4, 2) := by decide +kernel
theorem dX6_differs_16 : decode cX6_differs 16 = .ok (.ifnull 8, 3) := by decide +kernel
theorem dX6_differs_19 : decode cX6_differs 19 = .ok (.aload 5, 2) := by decide +kernel
theorem dX6_differs_21 : decode cX6_differs 21 = .ok (.ifnonnull 6, 3) := by decide +kernel
theorem dX6_differs_24 : decode cX6_differs 24 = .ok (.bipush (-2), 2) := by decide +kernel
theorem dX6_differs_26 : decode cX6_differs 26 = .ok (.ireturn, 1) := by decide +kernel
theorem dX6_differs_27 : decode cX6_differs 27 = .ok (.iconst 0, 1) := by decide +kernel
theorem dX6_differs_28 : decode cX6_differs 28 = .ok (.istore 6, 2) := by decide +kernel
theorem dX6_differs_30 : decode cX6_differs 30 = .ok (.iconst 0, 1) := by decide +kernel
theorem dX6_differs_31 : decode cX6_differs 31 = .ok (.istore 7, 2) := by decide +kernel
theorem dX6_differs_33 : decode cX6_differs 33 = .ok (.iload 7, 2) := by decide +kernel
theorem dX6_differs_35 : decode cX6_differs 35 = .ok (.bipush 17, 2) := by decide +kernel
theorem dX6_differs_37 : decode cX6_differs 37 = .ok (.if_icmp .ge 38, 3) := by decide +kernel
theorem dX6_differs_40 : decode cX6_differs 40 = .ok (.aload 4, 2) := by decide +kernel
theorem dX6_differs_42 : decode cX6_differs 42 = .ok (.iload 7, 2) := by decide +kernel
theorem dX6_differs_44 : decode cX6_differs 44 = .ok (.invokevirtual 99, 3) := by decide +kernel
theorem dX6_differs_47 : decode cX6_differs 47 = .ok (.aload 5, 2) := by decide +kernel
theorem dX6_differs_49 : decode cX6_differs 49 = .ok (.iload 7, 2) := by decide +kernel
theorem dX6_differs_51 : decode cX6_differs 51 = .ok (.invokevirtual 99, 3) := by decide +kernel
theorem dX6_differs_54 : decode cX6_differs 54 = .ok (.if_icmp .eq 15, 3) := by decide +kernel
theorem dX6_differs_57 : decode cX6_differs 57 = .ok (.iload 6, 2) := by decide +kernel
theorem dX6_differs_59 : decode cX6_differs 59 = .ok (.iload_n 3, 1) := by decide +kernel
theorem dX6_differs_60 : decode cX6_differs 60 = .ok (.if_icmp .ne 6, 3) := by decide +kernel
theorem dX6_differs_63 : decode cX6_differs 63 = .ok (.iload 7, 2) := by decide +kernel
theorem dX6_differs_65 : decode cX6_differs 65 = .ok (.ireturn, 1) := by decide +kernel
theorem dX6_differs_66 : decode cX6_differs 66 = .ok (.iinc 6 1, 3) := by decide +kernel
theorem dX6_differs_69 : decode cX6_differs 69 = .ok (.iinc 7 1, 3) := by decide +kernel
theorem dX6_differs_72 : decode cX6_differs 72 = .ok (.goto (-39), 3) := by decide +kernel
theorem dX6_differs_75 : decode cX6_differs 75 = .ok (.iconst (-1), 1) := by decide +kernel
theorem dX6_differs_76 : decode cX6_differs 76 = .ok (.ireturn, 1) := by decide +kernel
theorem dX6_node_0 : decode cX6_node 0 = .ok (.iload_n 1, 1) := by decide +kernel
theorem dX6_node_1 : decode cX6_node 1 = .ok (.iconst 1, 1) := by decide +kernel
theorem dX6_node_2 : decode cX6_node 2 = .ok (.if_icmp .lt 17, 3) := by decide +kernel
theorem dX6_node_5 : decode cX6_node 5 = .ok (.iload_n 1, 1) := by decide +kernel
theorem dX6_node_6 : decode cX6_node 6 = .ok (.sipush 1000, 3) := by decide +kernel
theorem dX6_node_9 : decode cX6_node 9 = .ok (.if_icmp .gt 10, 3) := by decide +kernel
theorem dX6_node_12 : decode cX6_node 12 = .ok (.iload_n 2, 1) := by decide +kernel
theorem dX6_node_13 : decode cX6_node 13 = .ok (.invokestatic 102, 3) := by decide +kernel
theorem dX6_node_16 : decode cX6_node 16 = .ok (.ifCond .ne 6, 3) := by decide +kernel
theorem dX6_node_19 : decode cX6_node 19 = .ok (.bipush (-2), 2) := by decide +kernel
theorem dX6_node_21 : decode cX6_node 21 = .ok (.ireturn, 1) := by decide +kernel
theorem dX6_node_22 : decode cX6_node 22 = .ok (.aload_n 0, 1) := by decide +kernel
theorem dX6_node_23 : decode cX6_node 23 = .ok (.getfield 51, 3) := by decide +kernel
theorem dX6_node_26 : decode cX6_node 26 = .ok (.bipush 12, 2) := by decide +kernel
theorem dX6_node_28 : decode cX6_node 28 = .ok (.if_icmp .lt 6, 3) := by decide +kernel
theorem dX6_node_31 : decode cX6_node 31 = .ok (.bipush (-4), 2) := by decide +kernel
theorem dX6_node_33 : decode cX6_node 33 = .ok (.ireturn, 1) := by decide +kernel
theorem dX6_node_34 : decode cX6_node 34 = .ok (.aload_n 0, 1) := by decide +kernel
theorem dX6_node_35 : decode cX6_node 35 = .ok (.getfield 17, 3) := by decide +kernel
theorem dX6_node_38 : decode cX6_node 38 = .ok (.aload_n 0, 1) := by decide +kernel
theorem dX6_node_39 : decode cX6_node 39 = .ok (.getfield 51, 3) := by decide +kernel
theorem dX6_node_42 : decode cX6_node 42 = .ok (.new 15, 3) := by decide +kernel
theorem dX6_node_45 : decode cX6_node 45 = .ok (.dup, 1) := by decide +kernel
theorem dX6_node_46 : decode cX6_node 46 = .ok (.iload_n 1, 1) := by decide +kernel
theorem dX6_node_47 : decode cX6_node 47 = .ok (.iload_n 2, 1) := by decide +kernel
theorem dX6_node_48 : decode cX6_node 48 = .ok (.invokespecial 106, 3) := by decide +kernel
theorem dX6_node_51 : decode cX6_node 51 = .ok (.aastore, 1) := by decide +kernel
theorem dX6_node_52 : decode cX6_node 52 = .ok (.aload_n 0, 1) := by decide +kernel
theorem dX6_node_53 : decode cX6_node 53 = .ok (.dup, 1) := by decide +kernel
theorem dX6_node_54 : decode cX6_node 54 = .ok (.getfield 51, 3) := by decide +kernel
theorem dX6_node_57 : decode cX6_node 57 = .ok (.iconst 1, 1) := by decide +kernel
theorem dX6_node_58 : decode cX6_node 58 = .ok (.iadd, 1) := by decide +kernel
theorem dX6_node_59 : decode cX6_node 59 = .ok (.putfield 51, 3) := by decide +kernel
theorem dX6_node_62 : decode cX6_node 62 = .ok (.aload_n 0, 1) := by decide +kernel
theorem dX6_node_63 : decode cX6_node 63 = .ok (.getfield 51, 3) := by decide +kernel
theorem dX6_node_66 : decode cX6_node 66 = .ok (.iconst 1, 1) := by decide +kernel
theorem dX6_node_67 : decode cX6_node 67 = .ok (.isub, 1) := by decide +kernel
theorem dX6_node_68 : decode cX6_node 68 = .ok (.ireturn, 1) := by decide +kernel
theorem dX6_build_0 : decode cX6_build 0 = .ok (.aload_n 0, 1) := by decide +kernel
theorem dX6_build_1 : decode cX6_build 1 = .ok (.iload_n 1, 1) := by decide +kernel
theorem dX6_build_2 : decode cX6_build 2 = .ok (.invokevirtual 109, 3) := by decide +kernel
theorem dX6_build_5 : decode cX6_build 5 = .ok (.astore_n 3, 1) := by decide +kernel
theorem dX6_build_6 : decode cX6_build 6 = .ok (.aload_n 3, 1) := by decide +kernel
theorem dX6_build_7 : decode cX6_build 7 = .ok (.ifnull 10, 3) := by decide +kernel
theorem dX6_build_10 : decode cX6_build 10 = .ok (.iload_n 2, 1) := by decide +kernel
theorem dX6_build_11 : decode cX6_build 11 = .ok (.invokestatic 102, 3) := by decide +kernel
theorem dX6_build_14 : decode cX6_build 14 = .ok (.ifCond .ne 6, 3) := by decide +kernel
theorem dX6_build_17 : decode cX6_build 17 = .ok (.bipush (-2), 2) := by decide +kernel
theorem dX6_build_19 : decode cX6_build 19 = .ok (.ireturn, 1) := by decide +kernel
theorem dX6_build_20 : decode cX6_build 20 = .ok (.aload_n 3, 1) := by decide +kernel
theorem dX6_build_21 : decode cX6_build 21 = .ok (.invokevirtual 113, 3) := by decide +kernel
theorem dX6_build_24 : decode cX6_build 24 = .ok (.ifCond .eq 6, 3) := by decide +kernel
theorem dX6_build_27 : decode cX6_build 27 = .ok (.bipush (-3), 2) := by decide +kernel
theorem dX6_build_29 : decode cX6_build 29 = .ok (.ireturn, 1) := by decide +kernel
theorem dX6_build_30 : decode cX6_build 30 = .ok (.aload_n 3, 1) := by decide +kernel
theorem dX6_build_31 : decode cX6_build 31 = .ok (.iload_n 2, 1) := by decide +kernel
theorem dX6_build_32 : decode cX6_build 32 = .ok (.putfield 117, 3) := by decide +kernel
theorem dX6_build_35 : decode cX6_build 35 = .ok (.iconst 1, 1) := by decide +kernel
theorem dX6_build_36 : decode cX6_build 36 = .ok (.ireturn, 1) := by decide +kernel
theorem dX6_propose_0 : decode cX6_propose 0 = .ok (.aload_n 0, 1) := by decide +kernel
theorem dX6_propose_1 : decode cX6_propose 1 = .ok (.iload_n 1, 1) := by decide +kernel
theorem dX6_propose_2 : decode cX6_propose 2 = .ok (.invokevirtual 77, 3) := by decide +kernel
theorem dX6_propose_5 : decode cX6_propose 5 = .ok (.astore_n 3, 1) := by decide +kernel
theorem dX6_propose_6 : decode cX6_propose 6 = .ok (.aload_n 3, 1) := by decide +kernel
theorem dX6_propose_7 : decode cX6_propose 7 = .ok (.ifnull 10, 3) := by decide +kernel
theorem dX6_propose_10 : decode cX6_propose 10 = .ok (.iload_n 2, 1) := by decide +kernel
theorem dX6_propose_11 : decode cX6_propose 11 = .ok (.sipush 1000, 3) := by decide +kernel
theorem dX6_propose_14 : decode cX6_propose 14 = .ok (.if_icmp .le 6, 3) := by decide +kernel
theorem dX6_propose_17 : decode cX6_propose 17 = .ok (.bipush (-2), 2) := by decide +kernel
theorem dX6_propose_19 : decode cX6_propose 19 = .ok (.ireturn, 1) := by decide +kernel
theorem dX6_propose_20 : decode cX6_propose 20 = .ok (.aload_n 3, 1) := by decide +kernel
theorem dX6_propose_21 : decode cX6_propose 21 = .ok (.getfield 74, 3) := by decide +kernel
theorem dX6_propose_24 : decode cX6_propose 24 = .ok (.ifCond .ne 19, 3) := by decide +kernel
theorem dX6_propose_27 : decode cX6_propose 27 = .ok (.iload_n 2, 1) := by decide +kernel
theorem dX6_propose_28 : decode cX6_propose 28 = .ok (.aload_n 0, 1) := by decide +kernel
theorem dX6_propose_29 : decode cX6_propose 29 = .ok (.getfield 60, 3) := by decide +kernel
theorem dX6_propose_32 : decode cX6_propose 32 = .ok (.if_icmp .le 11, 3) := by decide +kernel
theorem dX6_propose_35 : decode cX6_propose 35 = .ok (.iload_n 2, 1) := by decide +kernel
theorem dX6_propose_36 : decode cX6_propose 36 = .ok (.aload_n 0, 1) := by decide +kernel
theorem dX6_propose_37 : decode cX6_propose 37 = .ok (.invokevirtual 120, 3) := by decide +kernel
theorem dX6_propose_40 : decode cX6_propose 40 = .ok (.if_icmp .gt 6, 3) := by decide +kernel
theorem dX6_propose_43 : decode cX6_propose 43 = .ok (.bipush (-3), 2) := by decide +kernel
theorem dX6_propose_45 : decode cX6_propose 45 = .ok (.ireturn, 1) := by decide +kernel
theorem dX6_propose_46 : decode cX6_propose 46 = .ok (.aload_n 3, 1) := by decide +kernel
theorem dX6_propose_47 : decode cX6_propose 47 = .ok (.iconst 1, 1) := by decide +kernel
theorem dX6_propose_48 : decode cX6_propose 48 = .ok (.putfield 74, 3) := by decide +kernel
theorem dX6_propose_51 : decode cX6_propose 51 = .ok (.aload_n 3, 1) := by decide +kernel
theorem dX6_propose_52 : decode cX6_propose 52 = .ok (.iload_n 2, 1) := by decide +kernel
theorem dX6_propose_53 : decode cX6_propose 53 = .ok (.putfield 73, 3) := by decide +kernel
theorem dX6_propose_56 : decode cX6_propose 56 = .ok (.iconst 1, 1) := by decide +kernel
theorem dX6_propose_57 : decode cX6_propose 57 = .ok (.ireturn, 1) := by decide +kernel
theorem dX6_vote_0 : decode cX6_vote 0 = .ok (.aload_n 0, 1) := by decide +kernel
theorem dX6_vote_1 : decode cX6_vote 1 = .ok (.iload_n 1, 1) := by decide +kernel
theorem dX6_vote_2 : decode cX6_vote 2 = .ok (.invokevirtual 109, 3) := by decide +kernel
theorem dX6_vote_5 : decode cX6_vote 5 = .ok (.astore 4, 2) := by decide +kernel
theorem dX6_vote_7 : decode cX6_vote 7 = .ok (.aload_n 0, 1) := by decide +kernel
theorem dX6_vote_8 : decode cX6_vote 8 = .ok (.iload_n 2, 1) := by decide +kernel
theorem dX6_vote_9 : decode cX6_vote 9 = .ok (.invokevirtual 77, 3) := by decide +kernel
theorem dX6_vote_12 : decode cX6_vote 12 = .ok (.astore 5, 2) := by decide +kernel
theorem dX6_vote_14 : decode cX6_vote 14 = .ok (.aload 4, 2) := by decide +kernel
theorem dX6_vote_16 : decode cX6_vote 16 = .ok (.ifnull 8, 3) := by decide +kernel
theorem dX6_vote_19 : decode cX6_vote 19 = .ok (.aload 5, 2) := by decide +kernel
theorem dX6_vote_21 : decode cX6_vote 21 = .ok (.ifnonnull 6, 3) := by decide +kernel
theorem dX6_vote_24 : decode cX6_vote 24 = .ok (.bipush (-2), 2) := by decide +kernel
theorem dX6_vote_26 : decode cX6_vote 26 = .ok (.ireturn, 1) := by decide +kernel
theorem dX6_vote_27 : decode cX6_vote 27 = .ok (.aload 5, 2) := by decide +kernel
theorem dX6_vote_29 : decode cX6_vote 29 = .ok (.getfield 74, 3) := by decide +kernel
theorem dX6_vote_32 : decode cX6_vote 32 = .ok (.iconst 1, 1) := by decide +kernel
theorem dX6_vote_33 : decode cX6_vote 33 = .ok (.if_icmp .ne 11, 3) := by decide +kernel
theorem dX6_vote_36 : decode cX6_vote 36 = .ok (.aload 4, 2) := by decide +kernel
theorem dX6_vote_38 : decode cX6_vote 38 = .ok (.invokevirtual 113, 3) := by decide +kernel
theorem dX6_vote_41 : decode cX6_vote 41 = .ok (.ifCond .eq 6, 3) := by decide +kernel
theorem dX6_vote_44 : decode cX6_vote 44 = .ok (.bipush (-3), 2) := by decide +kernel
theorem dX6_vote_46 : decode cX6_vote 46 = .ok (.ireturn, 1) := by decide +kernel
theorem dX6_vote_47 : decode cX6_vote 47 = .ok (.aload 4, 2) := by decide +kernel
theorem dX6_vote_49 : decode cX6_vote 49 = .ok (.aload 5, 2) := by decide +kernel
theorem dX6_vote_51 : decode cX6_vote 51 = .ok (.getfield 85, 3) := by decide +kernel
theorem dX6_vote_54 : decode cX6_vote 54 = .ok (.iload_n 3, 1) := by decide +kernel
theorem dX6_vote_55 : decode cX6_vote 55 = .ok (.invokevirtual 124, 3) := by decide +kernel
theorem dX6_vote_58 : decode cX6_vote 58 = .ok (.iconst 1, 1) := by decide +kernel
theorem dX6_vote_59 : decode cX6_vote 59 = .ok (.ireturn, 1) := by decide +kernel
theorem dX6_rise_0 : decode cX6_rise 0 = .ok (.iload_n 1, 1) := by decide +kernel
theorem dX6_rise_1 : decode cX6_rise 1 = .ok (.iconst 1, 1) := by decide +kernel
theorem dX6_rise_2 : decode cX6_rise 2 = .ok (.if_icmp .lt 9, 3) := by decide +kernel
theorem dX6_rise_5 : decode cX6_rise 5 = .ok (.iload_n 1, 1) := by decide +kernel
theorem dX6_rise_6 : decode cX6_rise 6 = .ok (.bipush 100, 2) := by decide +kernel
theorem dX6_rise_8 : decode cX6_rise 8 = .ok (.if_icmp .le 6, 3) := by decide +kernel
theorem dX6_rise_11 : decode cX6_rise 11 = .ok (.bipush (-2), 2) := by decide +kernel
theorem dX6_rise_13 : decode cX6_rise 13 = .ok (.ireturn, 1) := by decide +kernel
theorem dX6_rise_14 : decode cX6_rise 14 = .ok (.aload_n 0, 1) := by decide +kernel
theorem dX6_rise_15 : decode cX6_rise 15 = .ok (.getfield 60, 3) := by decide +kernel
theorem dX6_rise_18 : decode cX6_rise 18 = .ok (.iload_n 1, 1) := by decide +kernel
theorem dX6_rise_19 : decode cX6_rise 19 = .ok (.iadd, 1) := by decide +kernel
theorem dX6_rise_20 : decode cX6_rise 20 = .ok (.sipush 1000, 3) := by decide +kernel
theorem dX6_rise_23 : decode cX6_rise 23 = .ok (.if_icmp .le 6, 3) := by decide +kernel
theorem dX6_rise_26 : decode cX6_rise 26 = .ok (.bipush (-4), 2) := by decide +kernel
theorem dX6_rise_28 : decode cX6_rise 28 = .ok (.ireturn, 1) := by decide +kernel
theorem dX6_rise_29 : decode cX6_rise 29 = .ok (.iconst 0, 1) := by decide +kernel
theorem dX6_rise_30 : decode cX6_rise 30 = .ok (.istore_n 2, 1) := by decide +kernel
theorem dX6_rise_31 : decode cX6_rise 31 = .ok (.iload_n 2, 1) := by decide +kernel
theorem dX6_rise_32 : decode cX6_rise 32 = .ok (.iload_n 1, 1) := by decide +kernel
theorem dX6_rise_33 : decode cX6_rise 33 = .ok (.if_icmp .ge 27, 3) := by decide +kernel
theorem dX6_rise_36 : decode cX6_rise 36 = .ok (.aload_n 0, 1) := by decide +kernel
theorem dX6_rise_37 : decode cX6_rise 37 = .ok (.dup, 1) := by decide +kernel
theorem dX6_rise_38 : decode cX6_rise 38 = .ok (.getfield 60, 3) := by decide +kernel
theorem dX6_rise_41 : decode cX6_rise 41 = .ok (.iconst 1, 1) := by decide +kernel
theorem dX6_rise_42 : decode cX6_rise 42 = .ok (.iadd, 1) := by decide +kernel
theorem dX6_rise_43 : decode cX6_rise 43 = .ok (.putfield 60, 3) := by decide +kernel
theorem dX6_rise_46 : decode cX6_rise 46 = .ok (.aload_n 0, 1) := by decide +kernel
theorem dX6_rise_47 : decode cX6_rise 47 = .ok (.invokevirtual 128, 3) := by decide +kernel
theorem dX6_rise_50 : decode cX6_rise 50 = .ok (.aload_n 0, 1) := by decide +kernel
theorem dX6_rise_51 : decode cX6_rise 51 = .ok (.invokevirtual 131, 3) := by decide +kernel
theorem dX6_rise_54 : decode cX6_rise 54 = .ok (.iinc 2 1, 3) := by decide +kernel
theorem dX6_rise_57 : decode cX6_rise 57 = .ok (.goto (-26), 3) := by decide +kernel
theorem dX6_rise_60 : decode cX6_rise 60 = .ok (.aload_n 0, 1) := by decide +kernel
theorem dX6_rise_61 : decode cX6_rise 61 = .ok (.getfield 60, 3) := by decide +kernel
theorem dX6_rise_64 : decode cX6_rise 64 = .ok (.ireturn, 1) := by decide +kernel
theorem dX6_force_0 : decode cX6_force 0 = .ok (.iload_n 1, 1) := by decide +kernel
theorem dX6_force_1 : decode cX6_force 1 = .ok (.ifCond .lt 11, 3) := by decide +kernel
theorem dX6_force_4 : decode cX6_force 4 = .ok (.iload_n 1, 1) := by decide +kernel
theorem dX6_force_5 : decode cX6_force 5 = .ok (.aload_n 0, 1) := by decide +kernel
theorem dX6_force_6 : decode cX6_force 6 = .ok (.getfield 60, 3) := by decide +kernel
theorem dX6_force_9 : decode cX6_force 9 = .ok (.if_icmp .le 6, 3) := by decide +kernel
theorem dX6_force_12 : decode cX6_force 12 = .ok (.bipush (-2), 2) := by decide +kernel
theorem dX6_force_14 : decode cX6_force 14 = .ok (.ireturn, 1) := by decide +kernel
theorem dX6_force_15 : decode cX6_force 15 = .ok (.aload_n 0, 1) := by decide +kernel
theorem dX6_force_16 : decode cX6_force 16 = .ok (.iload_n 1, 1) := by decide +kernel
theorem dX6_force_17 : decode cX6_force 17 = .ok (.invokevirtual 134, 3) := by decide +kernel
theorem dX6_force_20 : decode cX6_force 20 = .ok (.getfield 85, 3) := by decide +kernel
theorem dX6_force_23 : decode cX6_force 23 = .ok (.ireturn, 1) := by decide +kernel
theorem dX6_halted_0 : decode cX6_halted 0 = .ok (.aload_n 0, 1) := by decide +kernel
theorem dX6_halted_1 : decode cX6_halted 1 = .ok (.iload_n 1, 1) := by decide +kernel
theorem dX6_halted_2 : decode cX6_halted 2 = .ok (.invokevirtual 109, 3) := by decide +kernel
theorem dX6_halted_5 : decode cX6_halted 5 = .ok (.astore_n 2, 1) := by decide +kernel
theorem dX6_halted_6 : decode cX6_halted 6 = .ok (.aload_n 2, 1) := by decide +kernel
theorem dX6_halted_7 : decode cX6_halted 7 = .ok (.ifnonnull 8, 3) := by decide +kernel
theorem dX6_halted_10 : decode cX6_halted 10 = .ok (.bipush (-2), 2) := by decide +kernel
theorem dX6_halted_12 : decode cX6_halted 12 = .ok (.goto 7, 3) := by decide +kernel
theorem dX6_halted_15 : decode cX6_halted 15 = .ok (.aload_n 2, 1) := by decide +kernel
theorem dX6_halted_16 : decode cX6_halted 16 = .ok (.getfield 137, 3) := by decide +kernel
theorem dX6_halted_19 : decode cX6_halted 19 = .ok (.ireturn, 1) := by decide +kernel
theorem dX6_contract_0 : decode cX6_contract 0 = .ok (.aload_n 0, 1) := by decide +kernel
theorem dX6_contract_1 : decode cX6_contract 1 = .ok (.getfield 54, 3) := by decide +kernel
theorem dX6_contract_4 : decode cX6_contract 4 = .ok (.bipush 12, 2) := by decide +kernel
theorem dX6_contract_6 : decode cX6_contract 6 = .ok (.if_icmp .lt 6, 3) := by decide +kernel
theorem dX6_contract_9 : decode cX6_contract 9 = .ok (.bipush (-4), 2) := by decide +kernel
theorem dX6_contract_11 : decode cX6_contract 11 = .ok (.ireturn, 1) := by decide +kernel
theorem dX6_contract_12 : decode cX6_contract 12 = .ok (.aload_n 0, 1) := by decide +kernel
theorem dX6_contract_13 : decode cX6_contract 13 = .ok (.getfield 23, 3) := by decide +kernel
theorem dX6_contract_16 : decode cX6_contract 16 = .ok (.aload_n 0, 1) := by decide +kernel
theorem dX6_contract_17 : decode cX6_contract 17 = .ok (.getfield 54, 3) := by decide +kernel
theorem dX6_contract_20 : decode cX6_contract 20 = .ok (.new 21, 3) := by decide +kernel
theorem dX6_contract_23 : decode cX6_contract 23 = .ok (.dup, 1) := by decide +kernel
theorem dX6_contract_24 : decode cX6_contract 24 = .ok (.invokespecial 140, 3) := by decide +kernel
theorem dX6_contract_27 : decode cX6_contract 27 = .ok (.aastore, 1) := by decide +kernel
theorem dX6_contract_28 : decode cX6_contract 28 = .ok (.aload_n 0, 1) := by decide +kernel
theorem dX6_contract_29 : decode cX6_contract 29 = .ok (.dup, 1) := by decide +kernel
theorem dX6_contract_30 : decode cX6_contract 30 = .ok (.getfield 54, 3) := by decide +kernel
theorem dX6_contract_33 : decode cX6_contract 33 = .ok (.iconst 1, 1) := by decide +kernel
theorem dX6_contract_34 : decode cX6_contract 34 = .ok (.iadd, 1) := by decide +kernel
theorem dX6_contract_35 : decode cX6_contract 35 = .ok (.putfield 54, 3) := by decide +kernel
theorem dX6_contract_38 : decode cX6_contract 38 = .ok (.aload_n 0, 1) := by decide +kernel
theorem dX6_contract_39 : decode cX6_contract 39 = .ok (.getfield 54, 3) := by decide +kernel
theorem dX6_contract_42 : decode cX6_contract 42 = .ok (.iconst 1, 1) := by decide +kernel
theorem dX6_contract_43 : decode cX6_contract 43 = .ok (.isub, 1) := by decide +kernel
theorem dX6_contract_44 : decode cX6_contract 44 = .ok (.ireturn, 1) := by decide +kernel
theorem dX6_act_0 : decode cX6_act 0 = .ok (.aload_n 0, 1) := by decide +kernel
theorem dX6_act_1 : decode cX6_act 1 = .ok (.iload_n 1, 1) := by decide +kernel
theorem dX6_act_2 : decode cX6_act 2 = .ok (.invokevirtual 141, 3) := by decide +kernel
theorem dX6_act_5 : decode cX6_act 5 = .ok (.astore 4, 2) := by decide +kernel
theorem dX6_act_7 : decode cX6_act 7 = .ok (.aload 4, 2) := by decide +kernel
theorem dX6_act_9 : decode cX6_act 9 = .ok (.ifnull 11, 3) := by decide +kernel
theorem dX6_act_12 : decode cX6_act 12 = .ok (.iload_n 2, 1) := by decide +kernel
theorem dX6_act_13 : decode cX6_act 13 = .ok (.iload_n 3, 1) := by decide +kernel
theorem dX6_act_14 : decode cX6_act 14 = .ok (.invokestatic 145, 3) := by decide +kernel
theorem dX6_act_17 : decode cX6_act 17 = .ok (.ifCond .ne 6, 3) := by decide +kernel
theorem dX6_act_20 : decode cX6_act 20 = .ok (.bipush (-2), 2) := by decide +kernel
theorem dX6_act_22 : decode cX6_act 22 = .ok (.ireturn, 1) := by decide +kernel
theorem dX6_act_23 : decode cX6_act 23 = .ok (.aload 4, 2) := by decide +kernel
theorem dX6_act_25 : decode cX6_act 25 = .ok (.getfield 148, 3) := by decide +kernel
theorem dX6_act_28 : decode cX6_act 28 = .ok (.ifnull 6, 3) := by decide +kernel
theorem dX6_act_31 : decode cX6_act 31 = .ok (.bipush (-3), 2) := by decide +kernel
theorem dX6_act_33 : decode cX6_act 33 = .ok (.ireturn, 1) := by decide +kernel
theorem dX6_act_34 : decode cX6_act 34 = .ok (.aload 4, 2) := by decide +kernel
theorem dX6_act_36 : decode cX6_act 36 = .ok (.getfield 151, 3) := by decide +kernel
theorem dX6_act_39 : decode cX6_act 39 = .ok (.bipush 24, 2) := by decide +kernel
theorem dX6_act_41 : decode cX6_act 41 = .ok (.if_icmp .lt 6, 3) := by decide +kernel
theorem dX6_act_44 : decode cX6_act 44 = .ok (.bipush (-4), 2) := by decide +kernel
theorem dX6_act_46 : decode cX6_act 46 = .ok (.ireturn, 1) := by decide +kernel
theorem dX6_act_47 : decode cX6_act 47 = .ok (.aload 4, 2) := by decide +kernel
theorem dX6_act_49 : decode cX6_act 49 = .ok (.iload_n 2, 1) := by decide +kernel
theorem dX6_act_50 : decode cX6_act 50 = .ok (.iload_n 3, 1) := by decide +kernel
theorem dX6_act_51 : decode cX6_act 51 = .ok (.invokevirtual 154, 3) := by decide +kernel
theorem dX6_act_54 : decode cX6_act 54 = .ok (.aload 4, 2) := by decide +kernel
theorem dX6_act_56 : decode cX6_act 56 = .ok (.getfield 151, 3) := by decide +kernel
theorem dX6_act_59 : decode cX6_act 59 = .ok (.ireturn, 1) := by decide +kernel
theorem dX6_deploy_0 : decode cX6_deploy 0 = .ok (.aload_n 0, 1) := by decide +kernel
theorem dX6_deploy_1 : decode cX6_deploy 1 = .ok (.iload_n 1, 1) := by decide +kernel
theorem dX6_deploy_2 : decode cX6_deploy 2 = .ok (.invokevirtual 141, 3) := by decide +kernel
theorem dX6_deploy_5 : decode cX6_deploy 5 = .ok (.astore_n 2, 1) := by decide +kernel
theorem dX6_deploy_6 : decode cX6_deploy 6 = .ok (.aload_n 2, 1) := by decide +kernel
theorem dX6_deploy_7 : decode cX6_deploy 7 = .ok (.ifnonnull 6, 3) := by decide +kernel
theorem dX6_deploy_10 : decode cX6_deploy 10 = .ok (.bipush (-2), 2) := by decide +kernel
theorem dX6_deploy_12 : decode cX6_deploy 12 = .ok (.ireturn, 1) := by decide +kernel
theorem dX6_deploy_13 : decode cX6_deploy 13 = .ok (.aload_n 2, 1) := by decide +kernel
theorem dX6_deploy_14 : decode cX6_deploy 14 = .ok (.getfield 148, 3) := by decide +kernel
theorem dX6_deploy_17 : decode cX6_deploy 17 = .ok (.ifnonnull 10, 3) := by decide +kernel
theorem dX6_deploy_20 : decode cX6_deploy 20 = .ok (.aload_n 2, 1) := by decide +kernel
theorem dX6_deploy_21 : decode cX6_deploy 21 = .ok (.getfield 151, 3) := by decide +kernel
theorem dX6_deploy_24 : decode cX6_deploy 24 = .ok (.ifCond .ne 6, 3) := by decide +kernel
theorem dX6_deploy_27 : decode cX6_deploy 27 = .ok (.bipush (-3), 2) := by decide +kernel
theorem dX6_deploy_29 : decode cX6_deploy 29 = .ok (.ireturn, 1) := by decide +kernel
theorem dX6_deploy_30 : decode cX6_deploy 30 = .ok (.aload_n 0, 1) := by decide +kernel
theorem dX6_deploy_31 : decode cX6_deploy 31 = .ok (.aload_n 0, 1) := by decide +kernel
theorem dX6_deploy_32 : decode cX6_deploy 32 = .ok (.getfield 60, 3) := by decide +kernel
theorem dX6_deploy_35 : decode cX6_deploy 35 = .ok (.invokevirtual 134, 3) := by decide +kernel
theorem dX6_deploy_38 : decode cX6_deploy 38 = .ok (.astore_n 3, 1) := by decide +kernel
theorem dX6_deploy_39 : decode cX6_deploy 39 = .ok (.aload_n 2, 1) := by decide +kernel
theorem dX6_deploy_40 : decode cX6_deploy 40 = .ok (.aload_n 3, 1) := by decide +kernel
theorem dX6_deploy_41 : decode cX6_deploy 41 = .ok (.invokevirtual 157, 3) := by decide +kernel
theorem dX6_deploy_44 : decode cX6_deploy 44 = .ok (.istore 4, 2) := by decide +kernel
theorem dX6_deploy_46 : decode cX6_deploy 46 = .ok (.iload 4, 2) := by decide +kernel
theorem dX6_deploy_48 : decode cX6_deploy 48 = .ok (.ifCond .eq 9, 3) := by decide +kernel
theorem dX6_deploy_51 : decode cX6_deploy 51 = .ok (.iload 4, 2) := by decide +kernel
theorem dX6_deploy_53 : decode cX6_deploy 53 = .ok (.invokestatic 161, 3) := by decide +kernel
theorem dX6_deploy_56 : decode cX6_deploy 56 = .ok (.ireturn, 1) := by decide +kernel
theorem dX6_deploy_57 : decode cX6_deploy 57 = .ok (.aload_n 2, 1) := by decide +kernel
theorem dX6_deploy_58 : decode cX6_deploy 58 = .ok (.aload_n 3, 1) := by decide +kernel
theorem dX6_deploy_59 : decode cX6_deploy 59 = .ok (.putfield 148, 3) := by decide +kernel
theorem dX6_deploy_62 : decode cX6_deploy 62 = .ok (.aload_n 3, 1) := by decide +kernel
theorem dX6_deploy_63 : decode cX6_deploy 63 = .ok (.getfield 85, 3) := by decide +kernel
theorem dX6_deploy_66 : decode cX6_deploy 66 = .ok (.ireturn, 1) := by decide +kernel
theorem dX6_run_0 : decode cX6_run 0 = .ok (.aload_n 0, 1) := by decide +kernel
theorem dX6_run_1 : decode cX6_run 1 = .ok (.iload_n 1, 1) := by decide +kernel
theorem dX6_run_2 : decode cX6_run 2 = .ok (.invokevirtual 141, 3) := by decide +kernel
theorem dX6_run_5 : decode cX6_run 5 = .ok (.astore 5, 2) := by decide +kernel
theorem dX6_run_7 : decode cX6_run 7 = .ok (.aload 5, 2) := by decide +kernel
theorem dX6_run_9 : decode cX6_run 9 = .ok (.ifnull 8, 3) := by decide +kernel
theorem dX6_run_12 : decode cX6_run 12 = .ok (.iload 4, 2) := by decide +kernel
theorem dX6_run_14 : decode cX6_run 14 = .ok (.ifCond .ge 6, 3) := by decide +kernel
theorem dX6_run_17 : decode cX6_run 17 = .ok (.bipush (-2), 2) := by decide +kernel
theorem dX6_run_19 : decode cX6_run 19 = .ok (.ireturn, 1) := by decide +kernel
theorem dX6_run_20 : decode cX6_run 20 = .ok (.aload 5, 2) := by decide +kernel
theorem dX6_run_22 : decode cX6_run 22 = .ok (.getfield 148, 3) := by decide +kernel
theorem dX6_run_25 : decode cX6_run 25 = .ok (.ifnonnull 6, 3) := by decide +kernel
theorem dX6_run_28 : decode cX6_run 28 = .ok (.bipush (-3), 2) := by decide +kernel
theorem dX6_run_30 : decode cX6_run 30 = .ok (.ireturn, 1) := by decide +kernel
theorem dX6_run_31 : decode cX6_run 31 = .ok (.aload_n 0, 1) := by decide +kernel
theorem dX6_run_32 : decode cX6_run 32 = .ok (.getfield 57, 3) := by decide +kernel
theorem dX6_run_35 : decode cX6_run 35 = .ok (.bipush 64, 2) := by decide +kernel
theorem dX6_run_37 : decode cX6_run 37 = .ok (.if_icmp .lt 6, 3) := by decide +kernel
theorem dX6_run_40 : decode cX6_run 40 = .ok (.bipush (-4), 2) := by decide +kernel
theorem dX6_run_42 : decode cX6_run 42 = .ok (.ireturn, 1) := by decide +kernel
theorem dX6_run_43 : decode cX6_run 43 = .ok (.new 27, 3) := by decide +kernel
theorem dX6_run_46 : decode cX6_run 46 = .ok (.dup, 1) := by decide +kernel
theorem dX6_run_47 : decode cX6_run 47 = .ok (.iload_n 1, 1) := by decide +kernel
theorem dX6_run_48 : decode cX6_run 48 = .ok (.lload_n 2, 1) := by decide +kernel
theorem dX6_run_49 : decode cX6_run 49 = .ok (.iload 4, 2) := by decide +kernel
theorem dX6_run_51 : decode cX6_run 51 = .ok (.aload_n 0, 1) := by decide +kernel
theorem dX6_run_52 : decode cX6_run 52 = .ok (.getfield 60, 3) := by decide +kernel
theorem dX6_run_55 : decode cX6_run 55 = .ok (.invokespecial 164, 3) := by decide +kernel
theorem dX6_run_58 : decode cX6_run 58 = .ok (.astore 6, 2) := by decide +kernel
theorem dX6_run_60 : decode cX6_run 60 = .ok (.aload 6, 2) := by decide +kernel
theorem dX6_run_62 : decode cX6_run 62 = .ok (.aload_n 0, 1) := by decide +kernel
theorem dX6_run_63 : decode cX6_run 63 = .ok (.getfield 43, 3) := by decide +kernel
theorem dX6_run_66 : decode cX6_run 66 = .ok (.aload 5, 2) := by decide +kernel
theorem dX6_run_68 : decode cX6_run 68 = .ok (.aload 5, 2) := by decide +kernel
theorem dX6_run_70 : decode cX6_run 70 = .ok (.getfield 167, 3) := by decide +kernel
theorem dX6_run_73 : decode cX6_run 73 = .ok (.aload_n 0, 1) := by decide +kernel
theorem dX6_run_74 : decode cX6_run 74 = .ok (.aload_n 0, 1) := by decide +kernel
theorem dX6_run_75 : decode cX6_run 75 = .ok (.getfield 60, 3) := by decide +kernel
theorem dX6_run_78 : decode cX6_run 78 = .ok (.invokevirtual 134, 3) := by decide +kernel
theorem dX6_run_81 : decode cX6_run 81 = .ok (.lload_n 2, 1) := by decide +kernel
theorem dX6_run_82 : decode cX6_run 82 = .ok (.iload 4, 2) := by decide +kernel
theorem dX6_run_84 : decode cX6_run 84 = .ok (.invokevirtual 171, 3) := by decide +kernel
theorem dX6_run_87 : decode cX6_run 87 = .ok (.putfield 175, 3) := by decide +kernel
theorem dX6_run_90 : decode cX6_run 90 = .ok (.aload_n 0, 1) := by decide +kernel
theorem dX6_run_91 : decode cX6_run 91 = .ok (.aload 5, 2) := by decide +kernel
theorem dX6_run_93 : decode cX6_run 93 = .ok (.getfield 167, 3) := by decide +kernel
theorem dX6_run_96 : decode cX6_run 96 = .ok (.aload_n 0, 1) := by decide +kernel
theorem dX6_run_97 : decode cX6_run 97 = .ok (.getfield 63, 3) := by decide +kernel
theorem dX6_run_100 : decode cX6_run 100 = .ok (.aload 6, 2) := by decide +kernel
theorem dX6_run_102 : decode cX6_run 102 = .ok (.getfield 175, 3) := by decide +kernel
theorem dX6_run_105 : decode cX6_run 105 = .ok (.invokevirtual 178, 3) := by decide +kernel
theorem dX6_run_108 : decode cX6_run 108 = .ok (.putfield 63, 3) := by decide +kernel
theorem dX6_run_111 : decode cX6_run 111 = .ok (.aload_n 0, 1) := by decide +kernel
theorem dX6_run_112 : decode cX6_run 112 = .ok (.getfield 29, 3) := by decide +kernel
theorem dX6_run_115 : decode cX6_run 115 = .ok (.aload_n 0, 1) := by decide +kernel
theorem dX6_run_116 : decode cX6_run 116 = .ok (.getfield 57, 3) := by decide +kernel
theorem dX6_run_119 : decode cX6_run 119 = .ok (.aload 6, 2) := by decide +kernel
theorem dX6_run_121 : decode cX6_run 121 = .ok (.aastore, 1) := by decide +kernel
theorem dX6_run_122 : decode cX6_run 122 = .ok (.aload_n 0, 1) := by decide +kernel
theorem dX6_run_123 : decode cX6_run 123 = .ok (.dup, 1) := by decide +kernel
theorem dX6_run_124 : decode cX6_run 124 = .ok (.getfield 57, 3) := by decide +kernel
theorem dX6_run_127 : decode cX6_run 127 = .ok (.iconst 1, 1) := by decide +kernel
theorem dX6_run_128 : decode cX6_run 128 = .ok (.iadd, 1) := by decide +kernel
theorem dX6_run_129 : decode cX6_run 129 = .ok (.putfield 57, 3) := by decide +kernel
theorem dX6_run_132 : decode cX6_run 132 = .ok (.aload 6, 2) := by decide +kernel
theorem dX6_run_134 : decode cX6_run 134 = .ok (.getfield 175, 3) := by decide +kernel
theorem dX6_run_137 : decode cX6_run 137 = .ok (.ireturn, 1) := by decide +kernel
theorem dX6_cell_0 : decode cX6_cell 0 = .ok (.aload_n 0, 1) := by decide +kernel
theorem dX6_cell_1 : decode cX6_cell 1 = .ok (.iload_n 1, 1) := by decide +kernel
theorem dX6_cell_2 : decode cX6_cell 2 = .ok (.invokevirtual 141, 3) := by decide +kernel
theorem dX6_cell_5 : decode cX6_cell 5 = .ok (.astore_n 3, 1) := by decide +kernel
theorem dX6_cell_6 : decode cX6_cell 6 = .ok (.aload_n 3, 1) := by decide +kernel
theorem dX6_cell_7 : decode cX6_cell 7 = .ok (.ifnonnull 7, 3) := by decide +kernel
theorem dX6_cell_10 : decode cX6_cell 10 = .ok (.lconst 0, 1) := by decide +kernel
theorem dX6_cell_11 : decode cX6_cell 11 = .ok (.goto 11, 3) := by decide +kernel
theorem dX6_cell_14 : decode cX6_cell 14 = .ok (.aload_n 3, 1) := by decide +kernel
theorem dX6_cell_15 : decode cX6_cell 15 = .ok (.getfield 167, 3) := by decide +kernel
theorem dX6_cell_18 : decode cX6_cell 18 = .ok (.iload_n 2, 1) := by decide +kernel
theorem dX6_cell_19 : decode cX6_cell 19 = .ok (.invokevirtual 184, 3) := by decide +kernel
theorem dX6_cell_22 : decode cX6_cell 22 = .ok (.lreturn, 1) := by decide +kernel
theorem dX6_logged_0 : decode cX6_logged 0 = .ok (.aload_n 0, 1) := by decide +kernel
theorem dX6_logged_1 : decode cX6_logged 1 = .ok (.iload_n 1, 1) := by decide +kernel
theorem dX6_logged_2 : decode cX6_logged 2 = .ok (.invokevirtual 188, 3) := by decide +kernel
theorem dX6_logged_5 : decode cX6_logged 5 = .ok (.astore_n 3, 1) := by decide +kernel
theorem dX6_logged_6 : decode cX6_logged 6 = .ok (.aload_n 3, 1) := by decide +kernel
theorem dX6_logged_7 : decode cX6_logged 7 = .ok (.ifnonnull 6, 3) := by decide +kernel
theorem dX6_logged_10 : decode cX6_logged 10 = .ok (.bipush (-2), 2) := by decide +kernel
theorem dX6_logged_12 : decode cX6_logged 12 = .ok (.ireturn, 1) := by decide +kernel
theorem dX6_logged_13 : decode cX6_logged 13 = .ok (.iload_n 2, 1) := by decide +kernel
theorem dX6_logged_14 : decode cX6_logged 14 = .ok (.tableswitch 41 0 2 #[26, 31, 36], 26) := by decide +kernel
theorem dX6_logged_40 : decode cX6_logged 40 = .ok (.aload_n 3, 1) := by decide +kernel
theorem dX6_logged_41 : decode cX6_logged 41 = .ok (.getfield 192, 3) := by decide +kernel
theorem dX6_logged_44 : decode cX6_logged 44 = .ok (.ireturn, 1) := by decide +kernel
theorem dX6_logged_45 : decode cX6_logged 45 = .ok (.aload_n 3, 1) := by decide +kernel
theorem dX6_logged_46 : decode cX6_logged 46 = .ok (.getfield 195, 3) := by decide +kernel
theorem dX6_logged_49 : decode cX6_logged 49 = .ok (.ireturn, 1) := by decide +kernel
theorem dX6_logged_50 : decode cX6_logged 50 = .ok (.aload_n 3, 1) := by decide +kernel
theorem dX6_logged_51 : decode cX6_logged 51 = .ok (.getfield 175, 3) := by decide +kernel
theorem dX6_logged_54 : decode cX6_logged 54 = .ok (.ireturn, 1) := by decide +kernel
theorem dX6_logged_55 : decode cX6_logged 55 = .ok (.bipush (-2), 2) := by decide +kernel
theorem dX6_logged_57 : decode cX6_logged 57 = .ok (.ireturn, 1) := by decide +kernel
theorem dX6_digest_0 : decode cX6_digest 0 = .ok (.aload_n 0, 1) := by decide +kernel
theorem dX6_digest_1 : decode cX6_digest 1 = .ok (.getfield 63, 3) := by decide +kernel
theorem dX6_digest_4 : decode cX6_digest 4 = .ok (.ireturn, 1) := by decide +kernel
theorem dX6_replay_0 : decode cX6_replay 0 = .ok (.iload_n 1, 1) := by decide +kernel
theorem dX6_replay_1 : decode cX6_replay 1 = .ok (.ifCond .lt 11, 3) := by decide +kernel
theorem dX6_replay_4 : decode cX6_replay 4 = .ok (.iload_n 1, 1) := by decide +kernel
theorem dX6_replay_5 : decode cX6_replay 5 = .ok (.aload_n 0, 1) := by decide +kernel
theorem dX6_replay_6 : decode cX6_replay 6 = .ok (.getfield 57, 3) := by decide +kernel
theorem dX6_replay_9 : decode cX6_replay 9 = .ok (.if_icmp .le 5, 3) := by decide +kernel
theorem dX6_replay_12 : decode cX6_replay 12 = .ok (.iconst 0, 1) := by decide +kernel
theorem dX6_replay_13 : decode cX6_replay 13 = .ok (.ireturn, 1) := by decide +kernel
theorem dX6_replay_14 : decode cX6_replay 14 = .ok (.aload_n 0, 1) := by decide +kernel
theorem dX6_replay_15 : decode cX6_replay 15 = .ok (.invokevirtual 196, 3) := by decide +kernel
theorem dX6_replay_18 : decode cX6_replay 18 = .ok (.iconst 0, 1) := by decide +kernel
theorem dX6_replay_19 : decode cX6_replay 19 = .ok (.istore_n 2, 1) := by decide +kernel
theorem dX6_replay_20 : decode cX6_replay 20 = .ok (.iconst 0, 1) := by decide +kernel
theorem dX6_replay_21 : decode cX6_replay 21 = .ok (.istore_n 3, 1) := by decide +kernel
theorem dX6_replay_22 : decode cX6_replay 22 = .ok (.iload_n 3, 1) := by decide +kernel
theorem dX6_replay_23 : decode cX6_replay 23 = .ok (.iload_n 1, 1) := by decide +kernel
theorem dX6_replay_24 : decode cX6_replay 24 = .ok (.if_icmp .ge 20, 3) := by decide +kernel
theorem dX6_replay_27 : decode cX6_replay 27 = .ok (.aload_n 0, 1) := by decide +kernel
theorem dX6_replay_28 : decode cX6_replay 28 = .ok (.aload_n 0, 1) := by decide +kernel
theorem dX6_replay_29 : decode cX6_replay 29 = .ok (.iload_n 3, 1) := by decide +kernel
theorem dX6_replay_30 : decode cX6_replay 30 = .ok (.invokevirtual 188, 3) := by decide +kernel
theorem dX6_replay_33 : decode cX6_replay 33 = .ok (.iload_n 2, 1) := by decide +kernel
theorem dX6_replay_34 : decode cX6_replay 34 = .ok (.invokevirtual 199, 3) := by decide +kernel
theorem dX6_replay_37 : decode cX6_replay 37 = .ok (.istore_n 2, 1) := by decide +kernel
theorem dX6_replay_38 : decode cX6_replay 38 = .ok (.iinc 3 1, 3) := by decide +kernel
theorem dX6_replay_41 : decode cX6_replay 41 = .ok (.goto (-19), 3) := by decide +kernel
theorem dX6_replay_44 : decode cX6_replay 44 = .ok (.iload_n 2, 1) := by decide +kernel
theorem dX6_replay_45 : decode cX6_replay 45 = .ok (.ireturn, 1) := by decide +kernel
theorem dX6_count_0 : decode cX6_count 0 = .ok (.iload_n 1, 1) := by decide +kernel
theorem dX6_count_1 : decode cX6_count 1 = .ok (.tableswitch 60 0 4 #[35, 40, 45, 50, 55], 35) := by decide +kernel
theorem dX6_count_36 : decode cX6_count 36 = .ok (.aload_n 0, 1) := by decide +kernel
theorem dX6_count_37 : decode cX6_count 37 = .ok (.getfield 47, 3) := by decide +kernel
theorem dX6_count_40 : decode cX6_count 40 = .ok (.ireturn, 1) := by decide +kernel
theorem dX6_count_41 : decode cX6_count 41 = .ok (.aload_n 0, 1) := by decide +kernel
theorem dX6_count_42 : decode cX6_count 42 = .ok (.getfield 51, 3) := by decide +kernel
theorem dX6_count_45 : decode cX6_count 45 = .ok (.ireturn, 1) := by decide +kernel
theorem dX6_count_46 : decode cX6_count 46 = .ok (.aload_n 0, 1) := by decide +kernel
theorem dX6_count_47 : decode cX6_count 47 = .ok (.getfield 54, 3) := by decide +kernel
theorem dX6_count_50 : decode cX6_count 50 = .ok (.ireturn, 1) := by decide +kernel
theorem dX6_count_51 : decode cX6_count 51 = .ok (.aload_n 0, 1) := by decide +kernel
theorem dX6_count_52 : decode cX6_count 52 = .ok (.getfield 57, 3) := by decide +kernel
theorem dX6_count_55 : decode cX6_count 55 = .ok (.ireturn, 1) := by decide +kernel
theorem dX6_count_56 : decode cX6_count 56 = .ok (.aload_n 0, 1) := by decide +kernel
theorem dX6_count_57 : decode cX6_count 57 = .ok (.getfield 60, 3) := by decide +kernel
theorem dX6_count_60 : decode cX6_count 60 = .ok (.ireturn, 1) := by decide +kernel
theorem dX6_count_61 : decode cX6_count 61 = .ok (.bipush (-2), 2) := by decide +kernel
theorem dX6_count_63 : decode cX6_count 63 = .ok (.ireturn, 1) := by decide +kernel
theorem dX6_isBelow_0 : decode cX6_isBelow 0 = .ok (.iload_n 0, 1) := by decide +kernel
theorem dX6_isBelow_1 : decode cX6_isBelow 1 = .ok (.ifCond .lt 12, 3) := by decide +kernel
theorem dX6_isBelow_4 : decode cX6_isBelow 4 = .ok (.iload_n 0, 1) := by decide +kernel
theorem dX6_isBelow_5 : decode cX6_isBelow 5 = .ok (.iload_n 1, 1) := by decide +kernel
theorem dX6_isBelow_6 : decode cX6_isBelow 6 = .ok (.if_icmp .ge 7, 3) := by decide +kernel
theorem dX6_isBelow_9 : decode cX6_isBelow 9 = .ok (.iconst 1, 1) := by decide +kernel
theorem dX6_isBelow_10 : decode cX6_isBelow 10 = .ok (.goto 4, 3) := by decide +kernel
theorem dX6_isBelow_13 : decode cX6_isBelow 13 = .ok (.iconst 0, 1) := by decide +kernel
theorem dX6_isBelow_14 : decode cX6_isBelow 14 = .ok (.ireturn, 1) := by decide +kernel
theorem dX6_isBuild_0 : decode cX6_isBuild 0 = .ok (.iload_n 0, 1) := by decide +kernel
theorem dX6_isBuild_1 : decode cX6_isBuild 1 = .ok (.ifCond .lt 14, 3) := by decide +kernel
theorem dX6_isBuild_4 : decode cX6_isBuild 4 = .ok (.iload_n 0, 1) := by decide +kernel
theorem dX6_isBuild_5 : decode cX6_isBuild 5 = .ok (.sipush 1023, 3) := by decide +kernel
theorem dX6_isBuild_8 : decode cX6_isBuild 8 = .ok (.if_icmp .gt 7, 3) := by decide +kernel
theorem dX6_isBuild_11 : decode cX6_isBuild 11 = .ok (.iconst 1, 1) := by decide +kernel
theorem dX6_isBuild_12 : decode cX6_isBuild 12 = .ok (.goto 4, 3) := by decide +kernel
theorem dX6_isBuild_15 : decode cX6_isBuild 15 = .ok (.iconst 0, 1) := by decide +kernel
theorem dX6_isBuild_16 : decode cX6_isBuild 16 = .ok (.ireturn, 1) := by decide +kernel
theorem dX6_isActWith_0 : decode cX6_isActWith 0 = .ok (.iload_n 0, 1) := by decide +kernel
theorem dX6_isActWith_1 : decode cX6_isActWith 1 = .ok (.tableswitch 40 6 8 #[27, 34, 34], 27) := by decide +kernel
theorem dX6_isActWith_28 : decode cX6_isActWith 28 = .ok (.iload_n 1, 1) := by decide +kernel
theorem dX6_isActWith_29 : decode cX6_isActWith 29 = .ok (.bipush 8, 2) := by decide +kernel
theorem dX6_isActWith_31 : decode cX6_isActWith 31 = .ok (.invokestatic 88, 3) := by decide +kernel
theorem dX6_isActWith_34 : decode cX6_isActWith 34 = .ok (.ireturn, 1) := by decide +kernel
theorem dX6_isActWith_35 : decode cX6_isActWith 35 = .ok (.iload_n 1, 1) := by decide +kernel
theorem dX6_isActWith_36 : decode cX6_isActWith 36 = .ok (.iconst 4, 1) := by decide +kernel
theorem dX6_isActWith_37 : decode cX6_isActWith 37 = .ok (.invokestatic 88, 3) := by decide +kernel
theorem dX6_isActWith_40 : decode cX6_isActWith 40 = .ok (.ireturn, 1) := by decide +kernel
theorem dX6_isActWith_41 : decode cX6_isActWith 41 = .ok (.iload_n 0, 1) := by decide +kernel
theorem dX6_isActWith_42 : decode cX6_isActWith 42 = .ok (.bipush 9, 2) := by decide +kernel
theorem dX6_isActWith_44 : decode cX6_isActWith 44 = .ok (.invokestatic 88, 3) := by decide +kernel
theorem dX6_isActWith_47 : decode cX6_isActWith 47 = .ok (.ireturn, 1) := by decide +kernel
theorem dX6_answerOfRule_0 : decode cX6_answerOfRule 0 = .ok (.bipush (-10), 2) := by decide +kernel
theorem dX6_answerOfRule_2 : decode cX6_answerOfRule 2 = .ok (.iload_n 0, 1) := by decide +kernel
theorem dX6_answerOfRule_3 : decode cX6_answerOfRule 3 = .ok (.isub, 1) := by decide +kernel
theorem dX6_answerOfRule_4 : decode cX6_answerOfRule 4 = .ok (.ireturn, 1) := by decide +kernel
theorem dX6_editionAt_0 : decode cX6_editionAt 0 = .ok (.iload_n 1, 1) := by decide +kernel
theorem dX6_editionAt_1 : decode cX6_editionAt 1 = .ok (.aload_n 0, 1) := by decide +kernel
theorem dX6_editionAt_2 : decode cX6_editionAt 2 = .ok (.getfield 11, 3) := by decide +kernel
theorem dX6_editionAt_5 : decode cX6_editionAt 5 = .ok (.arraylength, 1) := by decide +kernel
theorem dX6_editionAt_6 : decode cX6_editionAt 6 = .ok (.invokestatic 88, 3) := by decide +kernel
theorem dX6_editionAt_9 : decode cX6_editionAt 9 = .ok (.ifCond .eq 12, 3) := by decide +kernel
theorem dX6_editionAt_12 : decode cX6_editionAt 12 = .ok (.aload_n 0, 1) := by decide +kernel
theorem dX6_editionAt_13 : decode cX6_editionAt 13 = .ok (.getfield 11, 3) := by decide +kernel
theorem dX6_editionAt_16 : decode cX6_editionAt 16 = .ok (.iload_n 1, 1) := by decide +kernel
theorem dX6_editionAt_17 : decode cX6_editionAt 17 = .ok (.aaload, 1) := by decide +kernel
theorem dX6_editionAt_18 : decode cX6_editionAt 18 = .ok (.goto 4, 3) := by decide +kernel
theorem dX6_editionAt_21 : decode cX6_editionAt 21 = .ok (.aconst_null, 1) := by decide +kernel
theorem dX6_editionAt_22 : decode cX6_editionAt 22 = .ok (.areturn, 1) := by decide +kernel
theorem dX6_nodeAt_0 : decode cX6_nodeAt 0 = .ok (.iload_n 1, 1) := by decide +kernel
theorem dX6_nodeAt_1 : decode cX6_nodeAt 1 = .ok (.aload_n 0, 1) := by decide +kernel
theorem dX6_nodeAt_2 : decode cX6_nodeAt 2 = .ok (.getfield 17, 3) := by decide +kernel
theorem dX6_nodeAt_5 : decode cX6_nodeAt 5 = .ok (.arraylength, 1) := by decide +kernel
theorem dX6_nodeAt_6 : decode cX6_nodeAt 6 = .ok (.invokestatic 88, 3) := by decide +kernel
theorem dX6_nodeAt_9 : decode cX6_nodeAt 9 = .ok (.ifCond .eq 12, 3) := by decide +kernel
theorem dX6_nodeAt_12 : decode cX6_nodeAt 12 = .ok (.aload_n 0, 1) := by decide +kernel
theorem dX6_nodeAt_13 : decode cX6_nodeAt 13 = .ok (.getfield 17, 3) := by decide +kernel
theorem dX6_nodeAt_16 : decode cX6_nodeAt 16 = .ok (.iload_n 1, 1) := by decide +kernel
theorem dX6_nodeAt_17 : decode cX6_nodeAt 17 = .ok (.aaload, 1) := by decide +kernel
theorem dX6_nodeAt_18 : decode cX6_nodeAt 18 = .ok (.goto 4, 3) := by decide +kernel
theorem dX6_nodeAt_21 : decode cX6_nodeAt 21 = .ok (.aconst_null, 1) := by decide +kernel
theorem dX6_nodeAt_22 : decode cX6_nodeAt 22 = .ok (.areturn, 1) := by decide +kernel
theorem dX6_contractAt_0 : decode cX6_contractAt 0 = .ok (.iload_n 1, 1) := by decide +kernel
theorem dX6_contractAt_1 : decode cX6_contractAt 1 = .ok (.aload_n 0, 1) := by decide +kernel
theorem dX6_contractAt_2 : decode cX6_contractAt 2 = .ok (.getfield 23, 3) := by decide +kernel
theorem dX6_contractAt_5 : decode cX6_contractAt 5 = .ok (.arraylength, 1) := by decide +kernel
theorem dX6_contractAt_6 : decode cX6_contractAt 6 = .ok (.invokestatic 88, 3) := by decide +kernel
theorem dX6_contractAt_9 : decode cX6_contractAt 9 = .ok (.ifCond .eq 12, 3) := by decide +kernel
theorem dX6_contractAt_12 : decode cX6_contractAt 12 = .ok (.aload_n 0, 1) := by decide +kernel
theorem dX6_contractAt_13 : decode cX6_contractAt 13 = .ok (.getfield 23, 3) := by decide +kernel
theorem dX6_contractAt_16 : decode cX6_contractAt 16 = .ok (.iload_n 1, 1) := by decide +kernel
theorem dX6_contractAt_17 : decode cX6_contractAt 17 = .ok (.aaload, 1) := by decide +kernel
theorem dX6_contractAt_18 : decode cX6_contractAt 18 = .ok (.goto 4, 3) := by decide +kernel
theorem dX6_contractAt_21 : decode cX6_contractAt 21 = .ok (.aconst_null, 1) := by decide +kernel
theorem dX6_contractAt_22 : decode cX6_contractAt 22 = .ok (.areturn, 1) := by decide +kernel
theorem dX6_entryAt_0 : decode cX6_entryAt 0 = .ok (.iload_n 1, 1) := by decide +kernel
theorem dX6_entryAt_1 : decode cX6_entryAt 1 = .ok (.aload_n 0, 1) := by decide +kernel
theorem dX6_entryAt_2 : decode cX6_entryAt 2 = .ok (.getfield 29, 3) := by decide +kernel
theorem dX6_entryAt_5 : decode cX6_entryAt 5 = .ok (.arraylength, 1) := by decide +kernel
theorem dX6_entryAt_6 : decode cX6_entryAt 6 = .ok (.invokestatic 88, 3) := by decide +kernel
theorem dX6_entryAt_9 : decode cX6_entryAt 9 = .ok (.ifCond .eq 12, 3) := by decide +kernel
theorem dX6_entryAt_12 : decode cX6_entryAt 12 = .ok (.aload_n 0, 1) := by decide +kernel
theorem dX6_entryAt_13 : decode cX6_entryAt 13 = .ok (.getfield 29, 3) := by decide +kernel
theorem dX6_entryAt_16 : decode cX6_entryAt 16 = .ok (.iload_n 1, 1) := by decide +kernel
theorem dX6_entryAt_17 : decode cX6_entryAt 17 = .ok (.aaload, 1) := by decide +kernel
theorem dX6_entryAt_18 : decode cX6_entryAt 18 = .ok (.goto 4, 3) := by decide +kernel
theorem dX6_entryAt_21 : decode cX6_entryAt 21 = .ok (.aconst_null, 1) := by decide +kernel
theorem dX6_entryAt_22 : decode cX6_entryAt 22 = .ok (.areturn, 1) := by decide +kernel
theorem dX6_highestProposed_0 : decode cX6_highestProposed 0 = .ok (.iconst 0, 1) := by decide +kernel
theorem dX6_highestProposed_1 : decode cX6_highestProposed 1 = .ok (.istore_n 1, 1) := by decide +kernel
theorem dX6_highestProposed_2 : decode cX6_highestProposed 2 = .ok (.aload_n 0, 1) := by decide +kernel
theorem dX6_highestProposed_3 : decode cX6_highestProposed 3 = .ok (.getfield 11, 3) := by decide +kernel
theorem dX6_highestProposed_6 : decode cX6_highestProposed 6 = .ok (.astore_n 2, 1) := by decide +kernel
theorem dX6_highestProposed_7 : decode cX6_highestProposed 7 = .ok (.aload_n 2, 1) := by decide +kernel
theorem dX6_highestProposed_8 : decode cX6_highestProposed 8 = .ok (.arraylength, 1) := by decide +kernel
theorem dX6_highestProposed_9 : decode cX6_highestProposed 9 = .ok (.istore_n 3, 1) := by decide +kernel
theorem dX6_highestProposed_10 : decode cX6_highestProposed 10 = .ok (.iconst 0, 1) := by decide +kernel
theorem dX6_highestProposed_11 : decode cX6_highestProposed 11 = .ok (.istore 4, 2) := by decide +kernel
theorem dX6_highestProposed_13 : decode cX6_highestProposed 13 = .ok (.iload 4, 2) := by decide +kernel
theorem dX6_highestProposed_15 : decode cX6_highestProposed 15 = .ok (.iload_n 3, 1) := by decide +kernel
theorem dX6_highestProposed_16 : decode cX6_highestProposed 16 = .ok (.if_icmp .ge 30, 3) := by decide +kernel
theorem dX6_highestProposed_19 : decode cX6_highestProposed 19 = .ok (.aload_n 2, 1) := by decide +kernel
theorem dX6_highestProposed_20 : decode cX6_highestProposed 20 = .ok (.iload 4, 2) := by decide +kernel
theorem dX6_highestProposed_22 : decode cX6_highestProposed 22 = .ok (.aaload, 1) := by decide +kernel
theorem dX6_highestProposed_23 : decode cX6_highestProposed 23 = .ok (.astore 5, 2) := by decide +kernel
theorem dX6_highestProposed_25 : decode cX6_highestProposed 25 = .ok (.aload 5, 2) := by decide +kernel
theorem dX6_highestProposed_27 : decode cX6_highestProposed 27 = .ok (.ifnull 13, 3) := by decide +kernel
theorem dX6_highestProposed_30 : decode cX6_highestProposed 30 = .ok (.iload_n 1, 1) := by decide +kernel
theorem dX6_highestProposed_31 : decode cX6_highestProposed 31 = .ok (.aload 5, 2) := by decide +kernel
theorem dX6_highestProposed_33 : decode cX6_highestProposed 33 = .ok (.getfield 73, 3) := by decide +kernel
theorem dX6_highestProposed_36 : decode cX6_highestProposed 36 = .ok (.invokestatic 203, 3) := by decide +kernel
theorem dX6_highestProposed_39 : decode cX6_highestProposed 39 = .ok (.istore_n 1, 1) := by decide +kernel
theorem dX6_highestProposed_40 : decode cX6_highestProposed 40 = .ok (.iinc 4 1, 3) := by decide +kernel
theorem dX6_highestProposed_43 : decode cX6_highestProposed 43 = .ok (.goto (-30), 3) := by decide +kernel
theorem dX6_highestProposed_46 : decode cX6_highestProposed 46 = .ok (.iload_n 1, 1) := by decide +kernel
theorem dX6_highestProposed_47 : decode cX6_highestProposed 47 = .ok (.ireturn, 1) := by decide +kernel
theorem dX6_inForceAt_0 : decode cX6_inForceAt 0 = .ok (.aload_n 0, 1) := by decide +kernel
theorem dX6_inForceAt_1 : decode cX6_inForceAt 1 = .ok (.getfield 36, 3) := by decide +kernel
theorem dX6_inForceAt_4 : decode cX6_inForceAt 4 = .ok (.astore_n 2, 1) := by decide +kernel
theorem dX6_inForceAt_5 : decode cX6_inForceAt 5 = .ok (.aload_n 0, 1) := by decide +kernel
theorem dX6_inForceAt_6 : decode cX6_inForceAt 6 = .ok (.getfield 11, 3) := by decide +kernel
theorem dX6_inForceAt_9 : decode cX6_inForceAt 9 = .ok (.astore_n 3, 1) := by decide +kernel
theorem dX6_inForceAt_10 : decode cX6_inForceAt 10 = .ok (.aload_n 3, 1) := by decide +kernel
theorem dX6_inForceAt_11 : decode cX6_inForceAt 11 = .ok (.arraylength, 1) := by decide +kernel
theorem dX6_inForceAt_12 : decode cX6_inForceAt 12 = .ok (.istore 4, 2) := by decide +kernel
theorem dX6_inForceAt_14 : decode cX6_inForceAt 14 = .ok (.iconst 0, 1) := by decide +kernel
theorem dX6_inForceAt_15 : decode cX6_inForceAt 15 = .ok (.istore 5, 2) := by decide +kernel
theorem dX6_inForceAt_17 : decode cX6_inForceAt 17 = .ok (.iload 5, 2) := by decide +kernel
theorem dX6_inForceAt_19 : decode cX6_inForceAt 19 = .ok (.iload 4, 2) := by decide +kernel
theorem dX6_inForceAt_21 : decode cX6_inForceAt 21 = .ok (.if_icmp .ge 53, 3) := by decide +kernel
theorem dX6_inForceAt_24 : decode cX6_inForceAt 24 = .ok (.aload_n 3, 1) := by decide +kernel
theorem dX6_inForceAt_25 : decode cX6_inForceAt 25 = .ok (.iload 5, 2) := by decide +kernel
theorem dX6_inForceAt_27 : decode cX6_inForceAt 27 = .ok (.aaload, 1) := by decide +kernel
theorem dX6_inForceAt_28 : decode cX6_inForceAt 28 = .ok (.astore 6, 2) := by decide +kernel
theorem dX6_inForceAt_30 : decode cX6_inForceAt 30 = .ok (.aload 6, 2) := by decide +kernel
theorem dX6_inForceAt_32 : decode cX6_inForceAt 32 = .ok (.ifnull 36, 3) := by decide +kernel
theorem dX6_inForceAt_35 : decode cX6_inForceAt 35 = .ok (.aload 6, 2) := by decide +kernel
theorem dX6_inForceAt_37 : decode cX6_inForceAt 37 = .ok (.getfield 74, 3) := by decide +kernel
theorem dX6_inForceAt_40 : decode cX6_inForceAt 40 = .ok (.iconst 2, 1) := by decide +kernel
theorem dX6_inForceAt_41 : decode cX6_inForceAt 41 = .ok (.if_icmp .ne 27, 3) := by decide +kernel
theorem dX6_inForceAt_44 : decode cX6_inForceAt 44 = .ok (.aload 6, 2) := by decide +kernel
theorem dX6_inForceAt_46 : decode cX6_inForceAt 46 = .ok (.getfield 73, 3) := by decide +kernel
theorem dX6_inForceAt_49 : decode cX6_inForceAt 49 = .ok (.iload_n 1, 1) := by decide +kernel
theorem dX6_inForceAt_50 : decode cX6_inForceAt 50 = .ok (.if_icmp .gt 18, 3) := by decide +kernel
theorem dX6_inForceAt_53 : decode cX6_inForceAt 53 = .ok (.aload 6, 2) := by decide +kernel
theorem dX6_inForceAt_55 : decode cX6_inForceAt 55 = .ok (.getfield 73, 3) := by decide +kernel
theorem dX6_inForceAt_58 : decode cX6_inForceAt 58 = .ok (.aload_n 2, 1) := by decide +kernel
theorem dX6_inForceAt_59 : decode cX6_inForceAt 59 = .ok (.getfield 73, 3) := by decide +kernel
theorem dX6_inForceAt_62 : decode cX6_inForceAt 62 = .ok (.if_icmp .le 6, 3) := by decide +kernel
theorem dX6_inForceAt_65 : decode cX6_inForceAt 65 = .ok (.aload 6, 2) := by decide +kernel
theorem dX6_inForceAt_67 : decode cX6_inForceAt 67 = .ok (.astore_n 2, 1) := by decide +kernel
theorem dX6_inForceAt_68 : decode cX6_inForceAt 68 = .ok (.iinc 5 1, 3) := by decide +kernel
theorem dX6_inForceAt_71 : decode cX6_inForceAt 71 = .ok (.goto (-54), 3) := by decide +kernel
theorem dX6_inForceAt_74 : decode cX6_inForceAt 74 = .ok (.aload_n 2, 1) := by decide +kernel
theorem dX6_inForceAt_75 : decode cX6_inForceAt 75 = .ok (.areturn, 1) := by decide +kernel
theorem dX6_decideProposals_0 : decode cX6_decideProposals 0 = .ok (.aload_n 0, 1) := by decide +kernel
theorem dX6_decideProposals_1 : decode cX6_decideProposals 1 = .ok (.getfield 11, 3) := by decide +kernel
theorem dX6_decideProposals_4 : decode cX6_decideProposals 4 = .ok (.astore_n 1, 1) := by decide +kernel
theorem dX6_decideProposals_5 : decode cX6_decideProposals 5 = .ok (.aload_n 1, 1) := by decide +kernel
theorem dX6_decideProposals_6 : decode cX6_decideProposals 6 = .ok (.arraylength, 1) := by decide +kernel
theorem dX6_decideProposals_7 : decode cX6_decideProposals 7 = .ok (.istore_n 2, 1) := by decide +kernel
theorem dX6_decideProposals_8 : decode cX6_decideProposals 8 = .ok (.iconst 0, 1) := by decide +kernel
theorem dX6_decideProposals_9 : decode cX6_decideProposals 9 = .ok (.istore_n 3, 1) := by decide +kernel
theorem dX6_decideProposals_10 : decode cX6_decideProposals 10 = .ok (.iload_n 3, 1) := by decide +kernel
theorem dX6_decideProposals_11 : decode cX6_decideProposals 11 = .ok (.iload_n 2, 1) := by decide +kernel
theorem dX6_decideProposals_12 : decode cX6_decideProposals 12 = .ok (.if_icmp .ge 62, 3) := by decide +kernel
theorem dX6_decideProposals_15 : decode cX6_decideProposals 15 = .ok (.aload_n 1, 1) := by decide +kernel
theorem dX6_decideProposals_16 : decode cX6_decideProposals 16 = .ok (.iload_n 3, 1) := by decide +kernel
theorem dX6_decideProposals_17 : decode cX6_decideProposals 17 = .ok (.aaload, 1) := by decide +kernel
theorem dX6_decideProposals_18 : decode cX6_decideProposals 18 = .ok (.astore 4, 2) := by decide +kernel
theorem dX6_decideProposals_20 : decode cX6_decideProposals 20 = .ok (.aload 4, 2) := by decide +kernel
theorem dX6_decideProposals_22 : decode cX6_decideProposals 22 = .ok (.ifnull 46, 3) := by decide +kernel
theorem dX6_decideProposals_25 : decode cX6_decideProposals 25 = .ok (.aload 4, 2) := by decide +kernel
theorem dX6_decideProposals_27 : decode cX6_decideProposals 27 = .ok (.getfield 74, 3) := by decide +kernel
theorem dX6_decideProposals_30 : decode cX6_decideProposals 30 = .ok (.iconst 1, 1) := by decide +kernel
theorem dX6_decideProposals_31 : decode cX6_decideProposals 31 = .ok (.if_icmp .ne 37, 3) := by decide +kernel
theorem dX6_decideProposals_34 : decode cX6_decideProposals 34 = .ok (.aload 4, 2) := by decide +kernel
theorem dX6_decideProposals_36 : decode cX6_decideProposals 36 = .ok (.getfield 73, 3) := by decide +kernel
theorem dX6_decideProposals_39 : decode cX6_decideProposals 39 = .ok (.aload_n 0, 1) := by decide +kernel
theorem dX6_decideProposals_40 : decode cX6_decideProposals 40 = .ok (.getfield 60, 3) := by decide +kernel
theorem dX6_decideProposals_43 : decode cX6_decideProposals 43 = .ok (.if_icmp .ne 25, 3) := by decide +kernel
theorem dX6_decideProposals_46 : decode cX6_decideProposals 46 = .ok (.aload 4, 2) := by decide +kernel
theorem dX6_decideProposals_48 : decode cX6_decideProposals 48 = .ok (.aload_n 0, 1) := by decide +kernel
theorem dX6_decideProposals_49 : decode cX6_decideProposals 49 = .ok (.aload 4, 2) := by decide +kernel
theorem dX6_decideProposals_51 : decode cX6_decideProposals 51 = .ok (.getfield 85, 3) := by decide +kernel
theorem dX6_decideProposals_54 : decode cX6_decideProposals 54 = .ok (.invokevirtual 208, 3) := by decide +kernel
theorem dX6_decideProposals_57 : decode cX6_decideProposals 57 = .ok (.ifCond .eq 7, 3) := by decide +kernel
theorem dX6_decideProposals_60 : decode cX6_decideProposals 60 = .ok (.iconst 2, 1) := by decide +kernel
theorem dX6_decideProposals_61 : decode cX6_decideProposals 61 = .ok (.goto 4, 3) := by decide +kernel
theorem dX6_decideProposals_64 : decode cX6_decideProposals 64 = .ok (.iconst 3, 1) := by decide +kernel
theorem dX6_decideProposals_65 : decode cX6_decideProposals 65 = .ok (.putfield 74, 3) := by decide +kernel
theorem dX6_decideProposals_68 : decode cX6_decideProposals 68 = .ok (.iinc 3 1, 3) := by decide +kernel
theorem dX6_decideProposals_71 : decode cX6_decideProposals 71 = .ok (.goto (-61), 3) := by decide +kernel
theorem dX6_decideProposals_74 : decode cX6_decideProposals 74 = .ok (.return_, 1) := by decide +kernel
theorem dX6_isAgreed_0 : decode cX6_isAgreed 0 = .ok (.iconst 0, 1) := by decide +kernel
theorem dX6_isAgreed_1 : decode cX6_isAgreed 1 = .ok (.istore_n 2, 1) := by decide +kernel
theorem dX6_isAgreed_2 : decode cX6_isAgreed 2 = .ok (.iconst 0, 1) := by decide +kernel
theorem dX6_isAgreed_3 : decode cX6_isAgreed 3 = .ok (.istore_n 3, 1) := by decide +kernel
theorem dX6_isAgreed_4 : decode cX6_isAgreed 4 = .ok (.aload_n 0, 1) := by decide +kernel
theorem dX6_isAgreed_5 : decode cX6_isAgreed 5 = .ok (.getfield 17, 3) := by decide +kernel
theorem dX6_isAgreed_8 : decode cX6_isAgreed 8 = .ok (.astore 4, 2) := by decide +kernel
theorem dX6_isAgreed_10 : decode cX6_isAgreed 10 = .ok (.aload 4, 2) := by decide +kernel
theorem dX6_isAgreed_12 : decode cX6_isAgreed 12 = .ok (.arraylength, 1) := by decide +kernel
theorem dX6_isAgreed_13 : decode cX6_isAgreed 13 = .ok (.istore 5, 2) := by decide +kernel
theorem dX6_isAgreed_15 : decode cX6_isAgreed 15 = .ok (.iconst 0, 1) := by decide +kernel
theorem dX6_isAgreed_16 : decode cX6_isAgreed 16 = .ok (.istore 6, 2) := by decide +kernel
theorem dX6_isAgreed_18 : decode cX6_isAgreed 18 = .ok (.iload 6, 2) := by decide +kernel
theorem dX6_isAgreed_20 : decode cX6_isAgreed 20 = .ok (.iload 5, 2) := by decide +kernel
theorem dX6_isAgreed_22 : decode cX6_isAgreed 22 = .ok (.if_icmp .ge 54, 3) := by decide +kernel
theorem dX6_isAgreed_25 : decode cX6_isAgreed 25 = .ok (.aload 4, 2) := by decide +kernel
theorem dX6_isAgreed_27 : decode cX6_isAgreed 27 = .ok (.iload 6, 2) := by decide +kernel
theorem dX6_isAgreed_29 : decode cX6_isAgreed 29 = .ok (.aaload, 1) := by decide +kernel
theorem dX6_isAgreed_30 : decode cX6_isAgreed 30 = .ok (.astore 7, 2) := by decide +kernel
theorem dX6_isAgreed_32 : decode cX6_isAgreed 32 = .ok (.aload 7, 2) := by decide +kernel
theorem dX6_isAgreed_34 : decode cX6_isAgreed 34 = .ok (.ifnull 36, 3) := by decide +kernel
theorem dX6_isAgreed_37 : decode cX6_isAgreed 37 = .ok (.iload_n 2, 1) := by decide +kernel
theorem dX6_isAgreed_38 : decode cX6_isAgreed 38 = .ok (.aload 7, 2) := by decide +kernel
theorem dX6_isAgreed_40 : decode cX6_isAgreed 40 = .ok (.getfield 211, 3) := by decide +kernel
theorem dX6_isAgreed_43 : decode cX6_isAgreed 43 = .ok (.iadd, 1) := by decide +kernel
theorem dX6_isAgreed_44 : decode cX6_isAgreed 44 = .ok (.istore_n 2, 1) := by decide +kernel
theorem dX6_isAgreed_45 : decode cX6_isAgreed 45 = .ok (.aload 7, 2) := by decide +kernel
theorem dX6_isAgreed_47 : decode cX6_isAgreed 47 = .ok (.iload_n 1, 1) := by decide +kernel
theorem dX6_isAgreed_48 : decode cX6_isAgreed 48 = .ok (.invokevirtual 214, 3) := by decide +kernel
theorem dX6_isAgreed_51 : decode cX6_isAgreed 51 = .ok (.ifCond .eq 19, 3) := by decide +kernel
theorem dX6_isAgreed_54 : decode cX6_isAgreed 54 = .ok (.aload 7, 2) := by decide +kernel
theorem dX6_isAgreed_56 : decode cX6_isAgreed 56 = .ok (.invokevirtual 113, 3) := by decide +kernel
theorem dX6_isAgreed_59 : decode cX6_isAgreed 59 = .ok (.ifCond .ne 11, 3) := by decide +kernel
theorem dX6_isAgreed_62 : decode cX6_isAgreed 62 = .ok (.iload_n 3, 1) := by decide +kernel
theorem dX6_isAgreed_63 : decode cX6_isAgreed 63 = .ok (.aload 7, 2) := by decide +kernel
theorem dX6_isAgreed_65 : decode cX6_isAgreed 65 = .ok (.getfield 211, 3) := by decide +kernel
theorem dX6_isAgreed_68 : decode cX6_isAgreed 68 = .ok (.iadd, 1) := by decide +kernel
theorem dX6_isAgreed_69 : decode cX6_isAgreed 69 = .ok (.istore_n 3, 1) := by decide +kernel
theorem dX6_isAgreed_70 : decode cX6_isAgreed 70 = .ok (.iinc 6 1, 3) := by decide +kernel
theorem dX6_isAgreed_73 : decode cX6_isAgreed 73 = .ok (.goto (-55), 3) := by decide +kernel
theorem dX6_isAgreed_76 : decode cX6_isAgreed 76 = .ok (.iconst 3, 1) := by decide +kernel
theorem dX6_isAgreed_77 : decode cX6_isAgreed 77 = .ok (.iload_n 3, 1) := by decide +kernel
theorem dX6_isAgreed_78 : decode cX6_isAgreed 78 = .ok (.imul, 1) := by decide +kernel
theorem dX6_isAgreed_79 : decode cX6_isAgreed 79 = .ok (.iconst 2, 1) := by decide +kernel
theorem dX6_isAgreed_80 : decode cX6_isAgreed 80 = .ok (.iload_n 2, 1) := by decide +kernel
theorem dX6_isAgreed_81 : decode cX6_isAgreed 81 = .ok (.imul, 1) := by decide +kernel
theorem dX6_isAgreed_82 : decode cX6_isAgreed 82 = .ok (.if_icmp .lt 7, 3) := by decide +kernel
theorem dX6_isAgreed_85 : decode cX6_isAgreed 85 = .ok (.iconst 1, 1) := by decide +kernel
theorem dX6_isAgreed_86 : decode cX6_isAgreed 86 = .ok (.goto 4, 3) := by decide +kernel
theorem dX6_isAgreed_89 : decode cX6_isAgreed 89 = .ok (.iconst 0, 1) := by decide +kernel
theorem dX6_isAgreed_90 : decode cX6_isAgreed 90 = .ok (.ireturn, 1) := by decide +kernel
theorem dX6_haltLackingNodes_0 : decode cX6_haltLackingNodes 0 = .ok (.aload_n 0, 1) := by decide +kernel
theorem dX6_haltLackingNodes_1 : decode cX6_haltLackingNodes 1 = .ok (.aload_n 0, 1) := by decide +kernel
theorem dX6_haltLackingNodes_2 : decode cX6_haltLackingNodes 2 = .ok (.getfield 60, 3) := by decide +kernel
theorem dX6_haltLackingNodes_5 : decode cX6_haltLackingNodes 5 = .ok (.invokevirtual 134, 3) := by decide +kernel
theorem dX6_haltLackingNodes_8 : decode cX6_haltLackingNodes 8 = .ok (.getfield 85, 3) := by decide +kernel
theorem dX6_haltLackingNodes_11 : decode cX6_haltLackingNodes 11 = .ok (.istore_n 1, 1) := by decide +kernel
theorem dX6_haltLackingNodes_12 : decode cX6_haltLackingNodes 12 = .ok (.aload_n 0, 1) := by decide +kernel
theorem dX6_haltLackingNodes_13 : decode cX6_haltLackingNodes 13 = .ok (.getfield 17, 3) := by decide +kernel
theorem dX6_haltLackingNodes_16 : decode cX6_haltLackingNodes 16 = .ok (.astore_n 2, 1) := by decide +kernel
theorem dX6_haltLackingNodes_17 : decode cX6_haltLackingNodes 17 = .ok (.aload_n 2, 1) := by decide +kernel
theorem dX6_haltLackingNodes_18 : decode cX6_haltLackingNodes 18 = .ok (.arraylength, 1) := by decide +kernel
theorem dX6_haltLackingNodes_19 : decode cX6_haltLackingNodes 19 = .ok (.istore_n 3, 1) := by decide +kernel
theorem dX6_haltLackingNodes_20 : decode cX6_haltLackingNodes 20 = .ok (.iconst 0, 1) := by decide +kernel
theorem dX6_haltLackingNodes_21 : decode cX6_haltLackingNodes 21 = .ok (.istore 4, 2) := by decide +kernel
theorem dX6_haltLackingNodes_23 : decode cX6_haltLackingNodes 23 = .ok (.iload 4, 2) := by decide +kernel
theorem dX6_haltLackingNodes_25 : decode cX6_haltLackingNodes 25 = .ok (.iload_n 3, 1) := by decide +kernel
theorem dX6_haltLackingNodes_26 : decode cX6_haltLackingNodes 26 = .ok (.if_icmp .ge 46, 3) := by decide +kernel
theorem dX6_haltLackingNodes_29 : decode cX6_haltLackingNodes 29 = .ok (.aload_n 2, 1) := by decide +kernel
theorem dX6_haltLackingNodes_30 : decode cX6_haltLackingNodes 30 = .ok (.iload 4, 2) := by decide +kernel
theorem dX6_haltLackingNodes_32 : decode cX6_haltLackingNodes 32 = .ok (.aaload, 1) := by decide +kernel
theorem dX6_haltLackingNodes_33 : decode cX6_haltLackingNodes 33 = .ok (.astore 5, 2) := by decide +kernel
theorem dX6_haltLackingNodes_35 : decode cX6_haltLackingNodes 35 = .ok (.aload 5, 2) := by decide +kernel
theorem dX6_haltLackingNodes_37 : decode cX6_haltLackingNodes 37 = .ok (.ifnull 29, 3) := by decide +kernel
theorem dX6_haltLackingNodes_40 : decode cX6_haltLackingNodes 40 = .ok (.aload 5, 2) := by decide +kernel
theorem dX6_haltLackingNodes_42 : decode cX6_haltLackingNodes 42 = .ok (.invokevirtual 113, 3) := by decide +kernel
theorem dX6_haltLackingNodes_45 : decode cX6_haltLackingNodes 45 = .ok (.ifCond .ne 21, 3) := by decide +kernel
theorem dX6_haltLackingNodes_48 : decode cX6_haltLackingNodes 48 = .ok (.aload 5, 2) := by decide +kernel
theorem dX6_haltLackingNodes_50 : decode cX6_haltLackingNodes 50 = .ok (.iload_n 1, 1) := by decide +kernel
theorem dX6_haltLackingNodes_51 : decode cX6_haltLackingNodes 51 = .ok (.invokevirtual 217, 3) := by decide +kernel
theorem dX6_haltLackingNodes_54 : decode cX6_haltLackingNodes 54 = .ok (.ifCond .ne 12, 3) := by decide +kernel
theorem dX6_haltLackingNodes_57 : decode cX6_haltLackingNodes 57 = .ok (.aload 5, 2) := by decide +kernel
theorem dX6_haltLackingNodes_59 : decode cX6_haltLackingNodes 59 = .ok (.aload_n 0, 1) := by decide +kernel
theorem dX6_haltLackingNodes_60 : decode cX6_haltLackingNodes 60 = .ok (.getfield 60, 3) := by decide +kernel
theorem dX6_haltLackingNodes_63 : decode cX6_haltLackingNodes 63 = .ok (.putfield 137, 3) := by decide +kernel
theorem dX6_haltLackingNodes_66 : decode cX6_haltLackingNodes 66 = .ok (.iinc 4 1, 3) := by decide +kernel
theorem dX6_haltLackingNodes_69 : decode cX6_haltLackingNodes 69 = .ok (.goto (-46), 3) := by decide +kernel
theorem dX6_haltLackingNodes_72 : decode cX6_haltLackingNodes 72 = .ok (.return_, 1) := by decide +kernel
theorem dX6_clearReplayCells_0 : decode cX6_clearReplayCells 0 = .ok (.aload_n 0, 1) := by decide +kernel
theorem dX6_clearReplayCells_1 : decode cX6_clearReplayCells 1 = .ok (.getfield 23, 3) := by decide +kernel
theorem dX6_clearReplayCells_4 : decode cX6_clearReplayCells 4 = .ok (.astore_n 1, 1) := by decide +kernel
theorem dX6_clearReplayCells_5 : decode cX6_clearReplayCells 5 = .ok (.aload_n 1, 1) := by decide +kernel
theorem dX6_clearReplayCells_6 : decode cX6_clearReplayCells 6 = .ok (.arraylength, 1) := by decide +kernel
theorem dX6_clearReplayCells_7 : decode cX6_clearReplayCells 7 = .ok (.istore_n 2, 1) := by decide +kernel
theorem dX6_clearReplayCells_8 : decode cX6_clearReplayCells 8 = .ok (.iconst 0, 1) := by decide +kernel
theorem dX6_clearReplayCells_9 : decode cX6_clearReplayCells 9 = .ok (.istore_n 3, 1) := by decide +kernel
theorem dX6_clearReplayCells_10 : decode cX6_clearReplayCells 10 = .ok (.iload_n 3, 1) := by decide +kernel
theorem dX6_clearReplayCells_11 : decode cX6_clearReplayCells 11 = .ok (.iload_n 2, 1) := by decide +kernel
theorem dX6_clearReplayCells_12 : decode cX6_clearReplayCells 12 = .ok (.if_icmp .ge 27, 3) := by decide +kernel
theorem dX6_clearReplayCells_15 : decode cX6_clearReplayCells 15 = .ok (.aload_n 1, 1) := by decide +kernel
theorem dX6_clearReplayCells_16 : decode cX6_clearReplayCells 16 = .ok (.iload_n 3, 1) := by decide +kernel
theorem dX6_clearReplayCells_17 : decode cX6_clearReplayCells 17 = .ok (.aaload, 1) := by decide +kernel
theorem dX6_clearReplayCells_18 : decode cX6_clearReplayCells 18 = .ok (.astore 4, 2) := by decide +kernel
theorem dX6_clearReplayCells_20 : decode cX6_clearReplayCells 20 = .ok (.aload 4, 2) := by decide +kernel
theorem dX6_clearReplayCells_22 : decode cX6_clearReplayCells 22 = .ok (.ifnull 11, 3) := by decide +kernel
theorem dX6_clearReplayCells_25 : decode cX6_clearReplayCells 25 = .ok (.aload 4, 2) := by decide +kernel
theorem dX6_clearReplayCells_27 : decode cX6_clearReplayCells 27 = .ok (.getfield 220, 3) := by decide +kernel
theorem dX6_clearReplayCells_30 : decode cX6_clearReplayCells 30 = .ok (.invokevirtual 223, 3) := by decide +kernel
theorem dX6_clearReplayCells_33 : decode cX6_clearReplayCells 33 = .ok (.iinc 3 1, 3) := by decide +kernel
theorem dX6_clearReplayCells_36 : decode cX6_clearReplayCells 36 = .ok (.goto (-26), 3) := by decide +kernel
theorem dX6_clearReplayCells_39 : decode cX6_clearReplayCells 39 = .ok (.return_, 1) := by decide +kernel
theorem dX6_digestBehindReplayOf_0 : decode cX6_digestBehindReplayOf 0 = .ok (.aload_n 1, 1) := by decide +kernel
theorem dX6_digestBehindReplayOf_1 : decode cX6_digestBehindReplayOf 1 = .ok (.ifnonnull 7, 3) := by decide +kernel
theorem dX6_digestBehindReplayOf_4 : decode cX6_digestBehindReplayOf 4 = .ok (.aconst_null, 1) := by decide +kernel
theorem dX6_digestBehindReplayOf_5 : decode cX6_digestBehindReplayOf 5 = .ok (.goto 11, 3) := by decide +kernel
theorem dX6_digestBehindReplayOf_8 : decode cX6_digestBehindReplayOf 8 = .ok (.aload_n 0, 1) := by decide +kernel
theorem dX6_digestBehindReplayOf_9 : decode cX6_digestBehindReplayOf 9 = .ok (.aload_n 1, 1) := by decide +kernel
theorem dX6_digestBehindReplayOf_10 : decode cX6_digestBehindReplayOf 10 = .ok (.getfield 192, 3) := by decide +kernel
theorem dX6_digestBehindReplayOf_13 : decode cX6_digestBehindReplayOf 13 = .ok (.invokevirtual 141, 3) := by decide +kernel
theorem dX6_digestBehindReplayOf_16 : decode cX6_digestBehindReplayOf 16 = .ok (.astore_n 3, 1) := by decide +kernel
theorem dX6_digestBehindReplayOf_17 : decode cX6_digestBehindReplayOf 17 = .ok (.aload_n 3, 1) := by decide +kernel
theorem dX6_digestBehindReplayOf_18 : decode cX6_digestBehindReplayOf 18 = .ok (.ifnonnull 5, 3) := by decide +kernel
theorem dX6_digestBehindReplayOf_21 : decode cX6_digestBehindReplayOf 21 = .ok (.iload_n 2, 1) := by decide +kernel
theorem dX6_digestBehindReplayOf_22 : decode cX6_digestBehindReplayOf 22 = .ok (.ireturn, 1) := by decide +kernel
theorem dX6_digestBehindReplayOf_23 : decode cX6_digestBehindReplayOf 23 = .ok (.aload_n 0, 1) := by decide +kernel
theorem dX6_digestBehindReplayOf_24 : decode cX6_digestBehindReplayOf 24 = .ok (.getfield 43, 3) := by decide +kernel
theorem dX6_digestBehindReplayOf_27 : decode cX6_digestBehindReplayOf 27 = .ok (.aload_n 3, 1) := by decide +kernel
theorem dX6_digestBehindReplayOf_28 : decode cX6_digestBehindReplayOf 28 = .ok (.aload_n 3, 1) := by decide +kernel
theorem dX6_digestBehindReplayOf_29 : decode cX6_digestBehindReplayOf 29 = .ok (.getfield 220, 3) := by decide +kernel
theorem dX6_digestBehindReplayOf_32 : decode cX6_digestBehindReplayOf 32 = .ok (.aload_n 0, 1) := by decide +kernel
theorem dX6_digestBehindReplayOf_33 : decode cX6_digestBehindReplayOf 33 = .ok (.aload_n 1, 1) := by decide +kernel
theorem dX6_digestBehindReplayOf_34 : decode cX6_digestBehindReplayOf 34 = .ok (.getfield 195, 3) := by decide +kernel
theorem dX6_digestBehindReplayOf_37 : decode cX6_digestBehindReplayOf 37 = .ok (.invokevirtual 134, 3) := by decide +kernel
theorem dX6_digestBehindReplayOf_40 : decode cX6_digestBehindReplayOf 40 = .ok (.aload_n 1, 1) := by decide +kernel
theorem dX6_digestBehindReplayOf_41 : decode cX6_digestBehindReplayOf 41 = .ok (.getfield 226, 3) := by decide +kernel
theorem dX6_digestBehindReplayOf_44 : decode cX6_digestBehindReplayOf 44 = .ok (.aload_n 1, 1) := by decide +kernel
theorem dX6_digestBehindReplayOf_45 : decode cX6_digestBehindReplayOf 45 = .ok (.getfield 230, 3) := by decide +kernel
theorem dX6_digestBehindReplayOf_48 : decode cX6_digestBehindReplayOf 48 = .ok (.invokevirtual 171, 3) := by decide +kernel
theorem dX6_digestBehindReplayOf_51 : decode cX6_digestBehindReplayOf 51 = .ok (.istore 4, 2) := by decide +kernel
theorem dX6_digestBehindReplayOf_53 : decode cX6_digestBehindReplayOf 53 = .ok (.aload_n 3, 1) := by decide +kernel
theorem dX6_digestBehindReplayOf_54 : decode cX6_digestBehindReplayOf 54 = .ok (.getfield 220, 3) := by decide +kernel
theorem dX6_digestBehindReplayOf_57 : decode cX6_digestBehindReplayOf 57 = .ok (.iload_n 2, 1) := by decide +kernel
theorem dX6_digestBehindReplayOf_58 : decode cX6_digestBehindReplayOf 58 = .ok (.iload 4, 2) := by decide +kernel
theorem dX6_digestBehindReplayOf_60 : decode cX6_digestBehindReplayOf 60 = .ok (.invokevirtual 178, 3) := by decide +kernel
theorem dX6_digestBehindReplayOf_63 : decode cX6_digestBehindReplayOf 63 = .ok (.ireturn, 1) := by decide +kernel
