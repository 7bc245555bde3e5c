theorem dX7_init_0 : decode cX7_init 0 = .ok (.aload_n 0, 1) := by decide +kernel
theorem dX7_init_1 : decode cX7_init 1 = .ok (.invokespecial 3, 3) := by decide +kernel
theorem dX7_init_4 : decode cX7_init 4 = .ok (.aload_n 0, 1) := by decide +kernel
theorem dX7_init_5 : decode cX7_init 5 = .ok (.iconst 3, 1) := by decide +kernel
theorem dX7_init_6 : decode cX7_init 6 = .ok (.newarray .int, 2) := by decide +kernel
theorem dX7_init_8 : decode cX7_init 8 = .ok (.putfield 9, 3) := by decide +kernel
theorem dX7_init_11 : decode cX7_init 11 = .ok (.aload_n 0, 1) := by decide +kernel
theorem dX7_init_12 : decode cX7_init 12 = .ok (.bipush 36, 2) := by decide +kernel
theorem dX7_init_14 : decode cX7_init 14 = .ok (.newarray .int, 2) := by decide +kernel
theorem dX7_init_16 : decode cX7_init 16 = .ok (.putfield 13, 3) := by decide +kernel
theorem dX7_init_19 : decode cX7_init 19 = .ok (.aload_n 0, 1) := by decide +kernel
theorem dX7_init_20 : decode cX7_init 20 = .ok (.bipush 108, 2) := by decide +kernel
theorem dX7_init_22 : decode cX7_init 22 = .ok (.newarray .int, 2) := by decide +kernel
theorem dX7_init_24 : decode cX7_init 24 = .ok (.putfield 16, 3) := by decide +kernel
theorem dX7_init_27 : decode cX7_init 27 = .ok (.aload_n 0, 1) := by decide +kernel
theorem dX7_init_28 : decode cX7_init 28 = .ok (.bipush 108, 2) := by decide +kernel
theorem dX7_init_30 : decode cX7_init 30 = .ok (.newarray .int, 2) := by decide +kernel
theorem dX7_init_32 : decode cX7_init 32 = .ok (.putfield 19, 3) := by decide +kernel
theorem dX7_init_35 : decode cX7_init 35 = .ok (.aload_n 0, 1) := by decide +kernel
theorem dX7_init_36 : decode cX7_init 36 = .ok (.new 22, 3) := by decide +kernel
theorem dX7_init_39 : decode cX7_init 39 = .ok (.dup, 1) := by decide +kernel
theorem dX7_init_40 : decode cX7_init 40 = .ok (.aload_n 0, 1) := by decide +kernel
theorem dX7_init_41 : decode cX7_init 41 = .ok (.invokespecial 24, 3) := by decide +kernel
theorem dX7_init_44 : decode cX7_init 44 = .ok (.putfield 27, 3) := by decide +kernel
theorem dX7_init_47 : decode cX7_init 47 = .ok (.aload_n 0, 1) := by decide +kernel
theorem dX7_init_48 : decode cX7_init 48 = .ok (.new 22, 3) := by decide +kernel
theorem dX7_init_51 : decode cX7_init 51 = .ok (.dup, 1) := by decide +kernel
theorem dX7_init_52 : decode cX7_init 52 = .ok (.aload_n 0, 1) := by decide +kernel
theorem dX7_init_53 : decode cX7_init 53 = .ok (.invokespecial 24, 3) := by decide +kernel
theorem dX7_init_56 : decode cX7_init 56 = .ok (.putfield 31, 3) := by decide +kernel
theorem dX7_init_59 : decode cX7_init 59 = .ok (.return_, 1) := by decide +kernel
theorem dX7_thrown_0 : decode cX7_thrown 0 = .ok (.aload_n 0, 1) := by decide +kernel
theorem dX7_thrown_1 : decode cX7_thrown 1 = .ok (.getfield 34, 3) := by decide +kernel
theorem dX7_thrown_4 : decode cX7_thrown 4 = .ok (.ireturn, 1) := by decide +kernel
theorem dX7_no_0 : decode cX7_no 0 = .ok (.aload_n 0, 1) := by decide +kernel
theorem dX7_no_1 : decode cX7_no 1 = .ok (.iload_n 1, 1) := by decide +kernel
theorem dX7_no_2 : decode cX7_no 2 = .ok (.putfield 34, 3) := by decide +kernel
theorem dX7_no_5 : decode cX7_no 5 = .ok (.iconst 0, 1) := by decide +kernel
theorem dX7_no_6 : decode cX7_no 6 = .ok (.ireturn, 1) := by decide +kernel
theorem dX7_isIn_0 : decode cX7_isIn 0 = .ok (.iload_n 0, 1) := by decide +kernel
theorem dX7_isIn_1 : decode cX7_isIn 1 = .ok (.iload_n 1, 1) := by decide +kernel
theorem dX7_isIn_2 : decode cX7_isIn 2 = .ok (.if_icmp .lt 12, 3) := by decide +kernel
theorem dX7_isIn_5 : decode cX7_isIn 5 = .ok (.iload_n 0, 1) := by decide +kernel
theorem dX7_isIn_6 : decode cX7_isIn 6 = .ok (.iload_n 2, 1) := by decide +kernel
theorem dX7_isIn_7 : decode cX7_isIn 7 = .ok (.if_icmp .gt 7, 3) := by decide +kernel
theorem dX7_isIn_10 : decode cX7_isIn 10 = .ok (.iconst 1, 1) := by decide +kernel
theorem dX7_isIn_11 : decode cX7_isIn 11 = .ok (.goto 4, 3) := by decide +kernel
theorem dX7_isIn_14 : decode cX7_isIn 14 = .ok (.iconst 0, 1) := by decide +kernel
theorem dX7_isIn_15 : decode cX7_isIn 15 = .ok (.ireturn, 1) := by decide +kernel
theorem dX7_isCell_0 : decode cX7_isCell 0 = .ok (.iload_n 0, 1) := by decide +kernel
theorem dX7_isCell_1 : decode cX7_isCell 1 = .ok (.iconst 0, 1) := by decide +kernel
theorem dX7_isCell_2 : decode cX7_isCell 2 = .ok (.bipush 11, 2) := by decide +kernel
theorem dX7_isCell_4 : decode cX7_isCell 4 = .ok (.invokestatic 38, 3) := by decide +kernel
theorem dX7_isCell_7 : decode cX7_isCell 7 = .ok (.ifCond .eq 17, 3) := by decide +kernel
theorem dX7_isCell_10 : decode cX7_isCell 10 = .ok (.iload_n 1, 1) := by decide +kernel
theorem dX7_isCell_11 : decode cX7_isCell 11 = .ok (.iconst 0, 1) := by decide +kernel
theorem dX7_isCell_12 : decode cX7_isCell 12 = .ok (.bipush 8, 2) := by decide +kernel
theorem dX7_isCell_14 : decode cX7_isCell 14 = .ok (.invokestatic 38, 3) := by decide +kernel
theorem dX7_isCell_17 : decode cX7_isCell 17 = .ok (.ifCond .eq 7, 3) := by decide +kernel
theorem dX7_isCell_20 : decode cX7_isCell 20 = .ok (.iconst 1, 1) := by decide +kernel
theorem dX7_isCell_21 : decode cX7_isCell 21 = .ok (.goto 4, 3) := by decide +kernel
theorem dX7_isCell_24 : decode cX7_isCell 24 = .ok (.iconst 0, 1) := by decide +kernel
theorem dX7_isCell_25 : decode cX7_isCell 25 = .ok (.ireturn, 1) := by decide +kernel
theorem dX7_isCrowd_0 : decode cX7_isCrowd 0 = .ok (.iload_n 1, 1) := by decide +kernel
theorem dX7_isCrowd_1 : decode cX7_isCrowd 1 = .ok (.iconst 0, 1) := by decide +kernel
theorem dX7_isCrowd_2 : decode cX7_isCrowd 2 = .ok (.aload_n 0, 1) := by decide +kernel
theorem dX7_isCrowd_3 : decode cX7_isCrowd 3 = .ok (.getfield 42, 3) := by decide +kernel
theorem dX7_isCrowd_6 : decode cX7_isCrowd 6 = .ok (.iconst 1, 1) := by decide +kernel
theorem dX7_isCrowd_7 : decode cX7_isCrowd 7 = .ok (.isub, 1) := by decide +kernel
theorem dX7_isCrowd_8 : decode cX7_isCrowd 8 = .ok (.invokestatic 38, 3) := by decide +kernel
theorem dX7_isCrowd_11 : decode cX7_isCrowd 11 = .ok (.ireturn, 1) := by decide +kernel
theorem dX7_isPatrol_0 : decode cX7_isPatrol 0 = .ok (.iload_n 1, 1) := by decide +kernel
theorem dX7_isPatrol_1 : decode cX7_isPatrol 1 = .ok (.iconst 0, 1) := by decide +kernel
theorem dX7_isPatrol_2 : decode cX7_isPatrol 2 = .ok (.aload_n 0, 1) := by decide +kernel
theorem dX7_isPatrol_3 : decode cX7_isPatrol 3 = .ok (.getfield 45, 3) := by decide +kernel
theorem dX7_isPatrol_6 : decode cX7_isPatrol 6 = .ok (.iconst 1, 1) := by decide +kernel
theorem dX7_isPatrol_7 : decode cX7_isPatrol 7 = .ok (.isub, 1) := by decide +kernel
theorem dX7_isPatrol_8 : decode cX7_isPatrol 8 = .ok (.invokestatic 38, 3) := by decide +kernel
theorem dX7_isPatrol_11 : decode cX7_isPatrol 11 = .ok (.ireturn, 1) := by decide +kernel
theorem dX7_beside_0 : decode cX7_beside 0 = .ok (.iload_n 0, 1) := by decide +kernel
theorem dX7_beside_1 : decode cX7_beside 1 = .ok (.bipush 12, 2) := by decide +kernel
theorem dX7_beside_3 : decode cX7_beside 3 = .ok (.irem, 1) := by decide +kernel
theorem dX7_beside_4 : decode cX7_beside 4 = .ok (.getstatic 48, 3) := by decide +kernel
theorem dX7_beside_7 : decode cX7_beside 7 = .ok (.iload_n 1, 1) := by decide +kernel
theorem dX7_beside_8 : decode cX7_beside 8 = .ok (.iaload, 1) := by decide +kernel
theorem dX7_beside_9 : decode cX7_beside 9 = .ok (.iadd, 1) := by decide +kernel
theorem dX7_beside_10 : decode cX7_beside 10 = .ok (.istore_n 2, 1) := by decide +kernel
theorem dX7_beside_11 : decode cX7_beside 11 = .ok (.iload_n 0, 1) := by decide +kernel
theorem dX7_beside_12 : decode cX7_beside 12 = .ok (.bipush 12, 2) := by decide +kernel
theorem dX7_beside_14 : decode cX7_beside 14 = .ok (.idiv, 1) := by decide +kernel
theorem dX7_beside_15 : decode cX7_beside 15 = .ok (.getstatic 51, 3) := by decide +kernel
theorem dX7_beside_18 : decode cX7_beside 18 = .ok (.iload_n 1, 1) := by decide +kernel
theorem dX7_beside_19 : decode cX7_beside 19 = .ok (.iaload, 1) := by decide +kernel
theorem dX7_beside_20 : decode cX7_beside 20 = .ok (.iadd, 1) := by decide +kernel
theorem dX7_beside_21 : decode cX7_beside 21 = .ok (.istore_n 3, 1) := by decide +kernel
theorem dX7_beside_22 : decode cX7_beside 22 = .ok (.iload_n 2, 1) := by decide +kernel
theorem dX7_beside_23 : decode cX7_beside 23 = .ok (.iload_n 3, 1) := by decide +kernel
theorem dX7_beside_24 : decode cX7_beside 24 = .ok (.invokestatic 54, 3) := by decide +kernel
theorem dX7_beside_27 : decode cX7_beside 27 = .ok (.ifCond .eq 12, 3) := by decide +kernel
theorem dX7_beside_30 : decode cX7_beside 30 = .ok (.bipush 12, 2) := by decide +kernel
theorem dX7_beside_32 : decode cX7_beside 32 = .ok (.iload_n 3, 1) := by decide +kernel
theorem dX7_beside_33 : decode cX7_beside 33 = .ok (.imul, 1) := by decide +kernel
theorem dX7_beside_34 : decode cX7_beside 34 = .ok (.iload_n 2, 1) := by decide +kernel
theorem dX7_beside_35 : decode cX7_beside 35 = .ok (.iadd, 1) := by decide +kernel
theorem dX7_beside_36 : decode cX7_beside 36 = .ok (.goto 4, 3) := by decide +kernel
theorem dX7_beside_39 : decode cX7_beside 39 = .ok (.iconst (-1), 1) := by decide +kernel
theorem dX7_beside_40 : decode cX7_beside 40 = .ok (.ireturn, 1) := by decide +kernel
theorem dX7_house_0 : decode cX7_house 0 = .ok (.aload_n 0, 1) := by decide +kernel
theorem dX7_house_1 : decode cX7_house 1 = .ok (.iconst 0, 1) := by decide +kernel
theorem dX7_house_2 : decode cX7_house 2 = .ok (.putfield 34, 3) := by decide +kernel
theorem dX7_house_5 : decode cX7_house 5 = .ok (.iload_n 1, 1) := by decide +kernel
theorem dX7_house_6 : decode cX7_house 6 = .ok (.iload_n 2, 1) := by decide +kernel
theorem dX7_house_7 : decode cX7_house 7 = .ok (.invokestatic 54, 3) := by decide +kernel
theorem dX7_house_10 : decode cX7_house 10 = .ok (.ifCond .ne 17, 3) := by decide +kernel
theorem dX7_house_13 : decode cX7_house 13 = .ok (.aload_n 0, 1) := by decide +kernel
theorem dX7_house_14 : decode cX7_house 14 = .ok (.iconst 1, 1) := by decide +kernel
theorem dX7_house_15 : decode cX7_house 15 = .ok (.invokevirtual 58, 3) := by decide +kernel
theorem dX7_house_18 : decode cX7_house 18 = .ok (.ifCond .eq 7, 3) := by decide +kernel
theorem dX7_house_21 : decode cX7_house 21 = .ok (.iconst 1, 1) := by decide +kernel
theorem dX7_house_22 : decode cX7_house 22 = .ok (.goto 4, 3) := by decide +kernel
theorem dX7_house_25 : decode cX7_house 25 = .ok (.iconst 0, 1) := by decide +kernel
theorem dX7_house_26 : decode cX7_house 26 = .ok (.ireturn, 1) := by decide +kernel
theorem dX7_house_27 : decode cX7_house 27 = .ok (.bipush 12, 2) := by decide +kernel
theorem dX7_house_29 : decode cX7_house 29 = .ok (.iload_n 2, 1) := by decide +kernel
theorem dX7_house_30 : decode cX7_house 30 = .ok (.imul, 1) := by decide +kernel
theorem dX7_house_31 : decode cX7_house 31 = .ok (.iload_n 1, 1) := by decide +kernel
theorem dX7_house_32 : decode cX7_house 32 = .ok (.iadd, 1) := by decide +kernel
theorem dX7_house_33 : decode cX7_house 33 = .ok (.istore_n 3, 1) := by decide +kernel
theorem dX7_house_34 : decode cX7_house 34 = .ok (.aload_n 0, 1) := by decide +kernel
theorem dX7_house_35 : decode cX7_house 35 = .ok (.getfield 27, 3) := by decide +kernel
theorem dX7_house_38 : decode cX7_house 38 = .ok (.getfield 62, 3) := by decide +kernel
theorem dX7_house_41 : decode cX7_house 41 = .ok (.iload_n 3, 1) := by decide +kernel
theorem dX7_house_42 : decode cX7_house 42 = .ok (.iaload, 1) := by decide +kernel
theorem dX7_house_43 : decode cX7_house 43 = .ok (.ifCond .gt 14, 3) := by decide +kernel
theorem dX7_house_46 : decode cX7_house 46 = .ok (.aload_n 0, 1) := by decide +kernel
theorem dX7_house_47 : decode cX7_house 47 = .ok (.getfield 27, 3) := by decide +kernel
theorem dX7_house_50 : decode cX7_house 50 = .ok (.iload_n 3, 1) := by decide +kernel
theorem dX7_house_51 : decode cX7_house 51 = .ok (.invokevirtual 65, 3) := by decide +kernel
theorem dX7_house_54 : decode cX7_house 54 = .ok (.ifCond .eq 17, 3) := by decide +kernel
theorem dX7_house_57 : decode cX7_house 57 = .ok (.aload_n 0, 1) := by decide +kernel
theorem dX7_house_58 : decode cX7_house 58 = .ok (.iconst 2, 1) := by decide +kernel
theorem dX7_house_59 : decode cX7_house 59 = .ok (.invokevirtual 58, 3) := by decide +kernel
theorem dX7_house_62 : decode cX7_house 62 = .ok (.ifCond .eq 7, 3) := by decide +kernel
theorem dX7_house_65 : decode cX7_house 65 = .ok (.iconst 1, 1) := by decide +kernel
theorem dX7_house_66 : decode cX7_house 66 = .ok (.goto 4, 3) := by decide +kernel
theorem dX7_house_69 : decode cX7_house 69 = .ok (.iconst 0, 1) := by decide +kernel
theorem dX7_house_70 : decode cX7_house 70 = .ok (.ireturn, 1) := by decide +kernel
theorem dX7_house_71 : decode cX7_house 71 = .ok (.aload_n 0, 1) := by decide +kernel
theorem dX7_house_72 : decode cX7_house 72 = .ok (.getfield 27, 3) := by decide +kernel
theorem dX7_house_75 : decode cX7_house 75 = .ok (.getfield 62, 3) := by decide +kernel
theorem dX7_house_78 : decode cX7_house 78 = .ok (.iload_n 3, 1) := by decide +kernel
theorem dX7_house_79 : decode cX7_house 79 = .ok (.aload_n 0, 1) := by decide +kernel
theorem dX7_house_80 : decode cX7_house 80 = .ok (.getfield 27, 3) := by decide +kernel
theorem dX7_house_83 : decode cX7_house 83 = .ok (.getfield 62, 3) := by decide +kernel
theorem dX7_house_86 : decode cX7_house 86 = .ok (.iload_n 3, 1) := by decide +kernel
theorem dX7_house_87 : decode cX7_house 87 = .ok (.iaload, 1) := by decide +kernel
theorem dX7_house_88 : decode cX7_house 88 = .ok (.iconst (-1), 1) := by decide +kernel
theorem dX7_house_89 : decode cX7_house 89 = .ok (.if_icmp .ne 7, 3) := by decide +kernel
theorem dX7_house_92 : decode cX7_house 92 = .ok (.iconst 0, 1) := by decide +kernel
theorem dX7_house_93 : decode cX7_house 93 = .ok (.goto 4, 3) := by decide +kernel
theorem dX7_house_96 : decode cX7_house 96 = .ok (.iconst (-1), 1) := by decide +kernel
theorem dX7_house_97 : decode cX7_house 97 = .ok (.iastore, 1) := by decide +kernel
theorem dX7_house_98 : decode cX7_house 98 = .ok (.aload_n 0, 1) := by decide +kernel
theorem dX7_house_99 : decode cX7_house 99 = .ok (.getfield 27, 3) := by decide +kernel
theorem dX7_house_102 : decode cX7_house 102 = .ok (.getfield 62, 3) := by decide +kernel
theorem dX7_house_105 : decode cX7_house 105 = .ok (.iload_n 3, 1) := by decide +kernel
theorem dX7_house_106 : decode cX7_house 106 = .ok (.iaload, 1) := by decide +kernel
theorem dX7_house_107 : decode cX7_house 107 = .ok (.iconst (-1), 1) := by decide +kernel
theorem dX7_house_108 : decode cX7_house 108 = .ok (.if_icmp .ne 7, 3) := by decide +kernel
theorem dX7_house_111 : decode cX7_house 111 = .ok (.iconst 1, 1) := by decide +kernel
theorem dX7_house_112 : decode cX7_house 112 = .ok (.goto 4, 3) := by decide +kernel
theorem dX7_house_115 : decode cX7_house 115 = .ok (.iconst 0, 1) := by decide +kernel
theorem dX7_house_116 : decode cX7_house 116 = .ok (.ireturn, 1) := by decide +kernel
theorem dX7_block_0 : decode cX7_block 0 = .ok (.aload_n 0, 1) := by decide +kernel
theorem dX7_block_1 : decode cX7_block 1 = .ok (.iconst 0, 1) := by decide +kernel
theorem dX7_block_2 : decode cX7_block 2 = .ok (.putfield 34, 3) := by decide +kernel
theorem dX7_block_5 : decode cX7_block 5 = .ok (.iload_n 1, 1) := by decide +kernel
theorem dX7_block_6 : decode cX7_block 6 = .ok (.iload_n 2, 1) := by decide +kernel
theorem dX7_block_7 : decode cX7_block 7 = .ok (.invokestatic 54, 3) := by decide +kernel
theorem dX7_block_10 : decode cX7_block 10 = .ok (.ifCond .ne 9, 3) := by decide +kernel
theorem dX7_block_13 : decode cX7_block 13 = .ok (.aload_n 0, 1) := by decide +kernel
theorem dX7_block_14 : decode cX7_block 14 = .ok (.iconst 1, 1) := by decide +kernel
theorem dX7_block_15 : decode cX7_block 15 = .ok (.invokevirtual 58, 3) := by decide +kernel
theorem dX7_block_18 : decode cX7_block 18 = .ok (.ireturn, 1) := by decide +kernel
theorem dX7_block_19 : decode cX7_block 19 = .ok (.iload_n 3, 1) := by decide +kernel
theorem dX7_block_20 : decode cX7_block 20 = .ok (.iconst 0, 1) := by decide +kernel
theorem dX7_block_21 : decode cX7_block 21 = .ok (.iconst 3, 1) := by decide +kernel
theorem dX7_block_22 : decode cX7_block 22 = .ok (.invokestatic 38, 3) := by decide +kernel
theorem dX7_block_25 : decode cX7_block 25 = .ok (.ifCond .ne 9, 3) := by decide +kernel
theorem dX7_block_28 : decode cX7_block 28 = .ok (.aload_n 0, 1) := by decide +kernel
theorem dX7_block_29 : decode cX7_block 29 = .ok (.iconst 2, 1) := by decide +kernel
theorem dX7_block_30 : decode cX7_block 30 = .ok (.invokevirtual 58, 3) := by decide +kernel
theorem dX7_block_33 : decode cX7_block 33 = .ok (.ireturn, 1) := by decide +kernel
theorem dX7_block_34 : decode cX7_block 34 = .ok (.bipush 12, 2) := by decide +kernel
theorem dX7_block_36 : decode cX7_block 36 = .ok (.iload_n 2, 1) := by decide +kernel
theorem dX7_block_37 : decode cX7_block 37 = .ok (.imul, 1) := by decide +kernel
theorem dX7_block_38 : decode cX7_block 38 = .ok (.iload_n 1, 1) := by decide +kernel
theorem dX7_block_39 : decode cX7_block 39 = .ok (.iadd, 1) := by decide +kernel
theorem dX7_block_40 : decode cX7_block 40 = .ok (.istore 4, 2) := by decide +kernel
theorem dX7_block_42 : decode cX7_block 42 = .ok (.aload_n 0, 1) := by decide +kernel
theorem dX7_block_43 : decode cX7_block 43 = .ok (.getfield 27, 3) := by decide +kernel
theorem dX7_block_46 : decode cX7_block 46 = .ok (.getfield 62, 3) := by decide +kernel
theorem dX7_block_49 : decode cX7_block 49 = .ok (.iload 4, 2) := by decide +kernel
theorem dX7_block_51 : decode cX7_block 51 = .ok (.iaload, 1) := by decide +kernel
theorem dX7_block_52 : decode cX7_block 52 = .ok (.iconst (-1), 1) := by decide +kernel
theorem dX7_block_53 : decode cX7_block 53 = .ok (.if_icmp .eq 15, 3) := by decide +kernel
theorem dX7_block_56 : decode cX7_block 56 = .ok (.aload_n 0, 1) := by decide +kernel
theorem dX7_block_57 : decode cX7_block 57 = .ok (.getfield 27, 3) := by decide +kernel
theorem dX7_block_60 : decode cX7_block 60 = .ok (.iload 4, 2) := by decide +kernel
theorem dX7_block_62 : decode cX7_block 62 = .ok (.invokevirtual 65, 3) := by decide +kernel
theorem dX7_block_65 : decode cX7_block 65 = .ok (.ifCond .eq 9, 3) := by decide +kernel
theorem dX7_block_68 : decode cX7_block 68 = .ok (.aload_n 0, 1) := by decide +kernel
theorem dX7_block_69 : decode cX7_block 69 = .ok (.iconst 3, 1) := by decide +kernel
theorem dX7_block_70 : decode cX7_block 70 = .ok (.invokevirtual 58, 3) := by decide +kernel
theorem dX7_block_73 : decode cX7_block 73 = .ok (.ireturn, 1) := by decide +kernel
theorem dX7_block_74 : decode cX7_block 74 = .ok (.aload_n 0, 1) := by decide +kernel
theorem dX7_block_75 : decode cX7_block 75 = .ok (.getfield 27, 3) := by decide +kernel
theorem dX7_block_78 : decode cX7_block 78 = .ok (.getfield 62, 3) := by decide +kernel
theorem dX7_block_81 : decode cX7_block 81 = .ok (.iload 4, 2) := by decide +kernel
theorem dX7_block_83 : decode cX7_block 83 = .ok (.iaload, 1) := by decide +kernel
theorem dX7_block_84 : decode cX7_block 84 = .ok (.istore 5, 2) := by decide +kernel
theorem dX7_block_86 : decode cX7_block 86 = .ok (.aload_n 0, 1) := by decide +kernel
theorem dX7_block_87 : decode cX7_block 87 = .ok (.getfield 27, 3) := by decide +kernel
theorem dX7_block_90 : decode cX7_block 90 = .ok (.getfield 62, 3) := by decide +kernel
theorem dX7_block_93 : decode cX7_block 93 = .ok (.iload 4, 2) := by decide +kernel
theorem dX7_block_95 : decode cX7_block 95 = .ok (.iload_n 3, 1) := by decide +kernel
theorem dX7_block_96 : decode cX7_block 96 = .ok (.iastore, 1) := by decide +kernel
theorem dX7_block_97 : decode cX7_block 97 = .ok (.iload 5, 2) := by decide +kernel
theorem dX7_block_99 : decode cX7_block 99 = .ok (.ireturn, 1) := by decide +kernel
theorem dX7_cell_0 : decode cX7_cell 0 = .ok (.aload_n 0, 1) := by decide +kernel
theorem dX7_cell_1 : decode cX7_cell 1 = .ok (.iconst 0, 1) := by decide +kernel
theorem dX7_cell_2 : decode cX7_cell 2 = .ok (.putfield 34, 3) := by decide +kernel
theorem dX7_cell_5 : decode cX7_cell 5 = .ok (.iload_n 1, 1) := by decide +kernel
theorem dX7_cell_6 : decode cX7_cell 6 = .ok (.iload_n 2, 1) := by decide +kernel
theorem dX7_cell_7 : decode cX7_cell 7 = .ok (.invokestatic 54, 3) := by decide +kernel
theorem dX7_cell_10 : decode cX7_cell 10 = .ok (.ifCond .eq 20, 3) := by decide +kernel
theorem dX7_cell_13 : decode cX7_cell 13 = .ok (.aload_n 0, 1) := by decide +kernel
theorem dX7_cell_14 : decode cX7_cell 14 = .ok (.getfield 27, 3) := by decide +kernel
theorem dX7_cell_17 : decode cX7_cell 17 = .ok (.getfield 62, 3) := by decide +kernel
theorem dX7_cell_20 : decode cX7_cell 20 = .ok (.bipush 12, 2) := by decide +kernel
theorem dX7_cell_22 : decode cX7_cell 22 = .ok (.iload_n 2, 1) := by decide +kernel
theorem dX7_cell_23 : decode cX7_cell 23 = .ok (.imul, 1) := by decide +kernel
theorem dX7_cell_24 : decode cX7_cell 24 = .ok (.iload_n 1, 1) := by decide +kernel
theorem dX7_cell_25 : decode cX7_cell 25 = .ok (.iadd, 1) := by decide +kernel
theorem dX7_cell_26 : decode cX7_cell 26 = .ok (.iaload, 1) := by decide +kernel
theorem dX7_cell_27 : decode cX7_cell 27 = .ok (.goto 8, 3) := by decide +kernel
theorem dX7_cell_30 : decode cX7_cell 30 = .ok (.aload_n 0, 1) := by decide +kernel
theorem dX7_cell_31 : decode cX7_cell 31 = .ok (.iconst 1, 1) := by decide +kernel
theorem dX7_cell_32 : decode cX7_cell 32 = .ok (.invokevirtual 58, 3) := by decide +kernel
theorem dX7_cell_35 : decode cX7_cell 35 = .ok (.ireturn, 1) := by decide +kernel
theorem dX7_gather_0 : decode cX7_gather 0 = .ok (.aload_n 0, 1) := by decide +kernel
theorem dX7_gather_1 : decode cX7_gather 1 = .ok (.iconst 0, 1) := by decide +kernel
theorem dX7_gather_2 : decode cX7_gather 2 = .ok (.putfield 34, 3) := by decide +kernel
theorem dX7_gather_5 : decode cX7_gather 5 = .ok (.iload_n 1, 1) := by decide +kernel
theorem dX7_gather_6 : decode cX7_gather 6 = .ok (.iload_n 2, 1) := by decide +kernel
theorem dX7_gather_7 : decode cX7_gather 7 = .ok (.invokestatic 54, 3) := by decide +kernel
theorem dX7_gather_10 : decode cX7_gather 10 = .ok (.ifCond .ne 9, 3) := by decide +kernel
theorem dX7_gather_13 : decode cX7_gather 13 = .ok (.aload_n 0, 1) := by decide +kernel
theorem dX7_gather_14 : decode cX7_gather 14 = .ok (.iconst 1, 1) := by decide +kernel
theorem dX7_gather_15 : decode cX7_gather 15 = .ok (.invokevirtual 58, 3) := by decide +kernel
theorem dX7_gather_18 : decode cX7_gather 18 = .ok (.ireturn, 1) := by decide +kernel
theorem dX7_gather_19 : decode cX7_gather 19 = .ok (.iload_n 3, 1) := by decide +kernel
theorem dX7_gather_20 : decode cX7_gather 20 = .ok (.iconst 1, 1) := by decide +kernel
theorem dX7_gather_21 : decode cX7_gather 21 = .ok (.bipush 9, 2) := by decide +kernel
theorem dX7_gather_23 : decode cX7_gather 23 = .ok (.invokestatic 38, 3) := by decide +kernel
theorem dX7_gather_26 : decode cX7_gather 26 = .ok (.ifCond .ne 9, 3) := by decide +kernel
theorem dX7_gather_29 : decode cX7_gather 29 = .ok (.aload_n 0, 1) := by decide +kernel
theorem dX7_gather_30 : decode cX7_gather 30 = .ok (.iconst 2, 1) := by decide +kernel
theorem dX7_gather_31 : decode cX7_gather 31 = .ok (.invokevirtual 58, 3) := by decide +kernel
theorem dX7_gather_34 : decode cX7_gather 34 = .ok (.ireturn, 1) := by decide +kernel
theorem dX7_gather_35 : decode cX7_gather 35 = .ok (.aload_n 0, 1) := by decide +kernel
theorem dX7_gather_36 : decode cX7_gather 36 = .ok (.getfield 42, 3) := by decide +kernel
theorem dX7_gather_39 : decode cX7_gather 39 = .ok (.bipush 6, 2) := by decide +kernel
theorem dX7_gather_41 : decode cX7_gather 41 = .ok (.if_icmp .eq 20, 3) := by decide +kernel
theorem dX7_gather_44 : decode cX7_gather 44 = .ok (.aload_n 0, 1) := by decide +kernel
theorem dX7_gather_45 : decode cX7_gather 45 = .ok (.getfield 27, 3) := by decide +kernel
theorem dX7_gather_48 : decode cX7_gather 48 = .ok (.getfield 62, 3) := by decide +kernel
theorem dX7_gather_51 : decode cX7_gather 51 = .ok (.bipush 12, 2) := by decide +kernel
theorem dX7_gather_53 : decode cX7_gather 53 = .ok (.iload_n 2, 1) := by decide +kernel
theorem dX7_gather_54 : decode cX7_gather 54 = .ok (.imul, 1) := by decide +kernel
theorem dX7_gather_55 : decode cX7_gather 55 = .ok (.iload_n 1, 1) := by decide +kernel
theorem dX7_gather_56 : decode cX7_gather 56 = .ok (.iadd, 1) := by decide +kernel
theorem dX7_gather_57 : decode cX7_gather 57 = .ok (.iaload, 1) := by decide +kernel
theorem dX7_gather_58 : decode cX7_gather 58 = .ok (.ifCond .eq 9, 3) := by decide +kernel
theorem dX7_gather_61 : decode cX7_gather 61 = .ok (.aload_n 0, 1) := by decide +kernel
theorem dX7_gather_62 : decode cX7_gather 62 = .ok (.iconst 3, 1) := by decide +kernel
theorem dX7_gather_63 : decode cX7_gather 63 = .ok (.invokevirtual 58, 3) := by decide +kernel
theorem dX7_gather_66 : decode cX7_gather 66 = .ok (.ireturn, 1) := by decide +kernel
theorem dX7_gather_67 : decode cX7_gather 67 = .ok (.aload_n 0, 1) := by decide +kernel
theorem dX7_gather_68 : decode cX7_gather 68 = .ok (.getfield 27, 3) := by decide +kernel
theorem dX7_gather_71 : decode cX7_gather 71 = .ok (.getfield 69, 3) := by decide +kernel
theorem dX7_gather_74 : decode cX7_gather 74 = .ok (.aload_n 0, 1) := by decide +kernel
theorem dX7_gather_75 : decode cX7_gather 75 = .ok (.getfield 42, 3) := by decide +kernel
theorem dX7_gather_78 : decode cX7_gather 78 = .ok (.bipush 12, 2) := by decide +kernel
theorem dX7_gather_80 : decode cX7_gather 80 = .ok (.iload_n 2, 1) := by decide +kernel
theorem dX7_gather_81 : decode cX7_gather 81 = .ok (.imul, 1) := by decide +kernel
theorem dX7_gather_82 : decode cX7_gather 82 = .ok (.iload_n 1, 1) := by decide +kernel
theorem dX7_gather_83 : decode cX7_gather 83 = .ok (.iadd, 1) := by decide +kernel
theorem dX7_gather_84 : decode cX7_gather 84 = .ok (.iastore, 1) := by decide +kernel
theorem dX7_gather_85 : decode cX7_gather 85 = .ok (.aload_n 0, 1) := by decide +kernel
theorem dX7_gather_86 : decode cX7_gather 86 = .ok (.getfield 27, 3) := by decide +kernel
theorem dX7_gather_89 : decode cX7_gather 89 = .ok (.getfield 72, 3) := by decide +kernel
theorem dX7_gather_92 : decode cX7_gather 92 = .ok (.aload_n 0, 1) := by decide +kernel
theorem dX7_gather_93 : decode cX7_gather 93 = .ok (.getfield 42, 3) := by decide +kernel
theorem dX7_gather_96 : decode cX7_gather 96 = .ok (.iload_n 3, 1) := by decide +kernel
theorem dX7_gather_97 : decode cX7_gather 97 = .ok (.iastore, 1) := by decide +kernel
theorem dX7_gather_98 : decode cX7_gather 98 = .ok (.aload_n 0, 1) := by decide +kernel
theorem dX7_gather_99 : decode cX7_gather 99 = .ok (.getfield 27, 3) := by decide +kernel
theorem dX7_gather_102 : decode cX7_gather 102 = .ok (.getfield 75, 3) := by decide +kernel
theorem dX7_gather_105 : decode cX7_gather 105 = .ok (.aload_n 0, 1) := by decide +kernel
theorem dX7_gather_106 : decode cX7_gather 106 = .ok (.getfield 42, 3) := by decide +kernel
theorem dX7_gather_109 : decode cX7_gather 109 = .ok (.iconst 1, 1) := by decide +kernel
theorem dX7_gather_110 : decode cX7_gather 110 = .ok (.iastore, 1) := by decide +kernel
theorem dX7_gather_111 : decode cX7_gather 111 = .ok (.aload_n 0, 1) := by decide +kernel
theorem dX7_gather_112 : decode cX7_gather 112 = .ok (.dup, 1) := by decide +kernel
theorem dX7_gather_113 : decode cX7_gather 113 = .ok (.getfield 42, 3) := by decide +kernel
theorem dX7_gather_116 : decode cX7_gather 116 = .ok (.iconst 1, 1) := by decide +kernel
theorem dX7_gather_117 : decode cX7_gather 117 = .ok (.iadd, 1) := by decide +kernel
theorem dX7_gather_118 : decode cX7_gather 118 = .ok (.putfield 42, 3) := by decide +kernel
theorem dX7_gather_121 : decode cX7_gather 121 = .ok (.aload_n 0, 1) := by decide +kernel
theorem dX7_gather_122 : decode cX7_gather 122 = .ok (.getfield 42, 3) := by decide +kernel
theorem dX7_gather_125 : decode cX7_gather 125 = .ok (.iconst 1, 1) := by decide +kernel
theorem dX7_gather_126 : decode cX7_gather 126 = .ok (.isub, 1) := by decide +kernel
theorem dX7_gather_127 : decode cX7_gather 127 = .ok (.ireturn, 1) := by decide +kernel
theorem dX7_order_0 : decode cX7_order 0 = .ok (.aload_n 0, 1) := by decide +kernel
theorem dX7_order_1 : decode cX7_order 1 = .ok (.iconst 0, 1) := by decide +kernel
theorem dX7_order_2 : decode cX7_order 2 = .ok (.putfield 34, 3) := by decide +kernel
theorem dX7_order_5 : decode cX7_order 5 = .ok (.aload_n 0, 1) := by decide +kernel
theorem dX7_order_6 : decode cX7_order 6 = .ok (.iload_n 1, 1) := by decide +kernel
theorem dX7_order_7 : decode cX7_order 7 = .ok (.invokevirtual 78, 3) := by decide +kernel
theorem dX7_order_10 : decode cX7_order 10 = .ok (.ifCond .ne 9, 3) := by decide +kernel
theorem dX7_order_13 : decode cX7_order 13 = .ok (.aload_n 0, 1) := by decide +kernel
theorem dX7_order_14 : decode cX7_order 14 = .ok (.iconst 1, 1) := by decide +kernel
theorem dX7_order_15 : decode cX7_order 15 = .ok (.invokevirtual 58, 3) := by decide +kernel
theorem dX7_order_18 : decode cX7_order 18 = .ok (.ireturn, 1) := by decide +kernel
theorem dX7_order_19 : decode cX7_order 19 = .ok (.iload_n 2, 1) := by decide +kernel
theorem dX7_order_20 : decode cX7_order 20 = .ok (.iconst 0, 1) := by decide +kernel
theorem dX7_order_21 : decode cX7_order 21 = .ok (.bipush 11, 2) := by decide +kernel
theorem dX7_order_23 : decode cX7_order 23 = .ok (.invokestatic 38, 3) := by decide +kernel
theorem dX7_order_26 : decode cX7_order 26 = .ok (.ifCond .ne 9, 3) := by decide +kernel
theorem dX7_order_29 : decode cX7_order 29 = .ok (.aload_n 0, 1) := by decide +kernel
theorem dX7_order_30 : decode cX7_order 30 = .ok (.iconst 2, 1) := by decide +kernel
theorem dX7_order_31 : decode cX7_order 31 = .ok (.invokevirtual 58, 3) := by decide +kernel
theorem dX7_order_34 : decode cX7_order 34 = .ok (.ireturn, 1) := by decide +kernel
theorem dX7_order_35 : decode cX7_order 35 = .ok (.aload_n 0, 1) := by decide +kernel
theorem dX7_order_36 : decode cX7_order 36 = .ok (.getfield 27, 3) := by decide +kernel
theorem dX7_order_39 : decode cX7_order 39 = .ok (.getfield 72, 3) := by decide +kernel
theorem dX7_order_42 : decode cX7_order 42 = .ok (.iload_n 1, 1) := by decide +kernel
theorem dX7_order_43 : decode cX7_order 43 = .ok (.iaload, 1) := by decide +kernel
theorem dX7_order_44 : decode cX7_order 44 = .ok (.ifCond .eq 17, 3) := by decide +kernel
theorem dX7_order_47 : decode cX7_order 47 = .ok (.aload_n 0, 1) := by decide +kernel
theorem dX7_order_48 : decode cX7_order 48 = .ok (.getfield 27, 3) := by decide +kernel
theorem dX7_order_51 : decode cX7_order 51 = .ok (.getfield 81, 3) := by decide +kernel
theorem dX7_order_54 : decode cX7_order 54 = .ok (.iload_n 1, 1) := by decide +kernel
theorem dX7_order_55 : decode cX7_order 55 = .ok (.iaload, 1) := by decide +kernel
theorem dX7_order_56 : decode cX7_order 56 = .ok (.bipush 24, 2) := by decide +kernel
theorem dX7_order_58 : decode cX7_order 58 = .ok (.if_icmp .ne 9, 3) := by decide +kernel
theorem dX7_order_61 : decode cX7_order 61 = .ok (.aload_n 0, 1) := by decide +kernel
theorem dX7_order_62 : decode cX7_order 62 = .ok (.iconst 3, 1) := by decide +kernel
theorem dX7_order_63 : decode cX7_order 63 = .ok (.invokevirtual 58, 3) := by decide +kernel
theorem dX7_order_66 : decode cX7_order 66 = .ok (.ireturn, 1) := by decide +kernel
theorem dX7_order_67 : decode cX7_order 67 = .ok (.aload_n 0, 1) := by decide +kernel
theorem dX7_order_68 : decode cX7_order 68 = .ok (.getfield 27, 3) := by decide +kernel
theorem dX7_order_71 : decode cX7_order 71 = .ok (.getfield 84, 3) := by decide +kernel
theorem dX7_order_74 : decode cX7_order 74 = .ok (.bipush 24, 2) := by decide +kernel
theorem dX7_order_76 : decode cX7_order 76 = .ok (.iload_n 1, 1) := by decide +kernel
theorem dX7_order_77 : decode cX7_order 77 = .ok (.imul, 1) := by decide +kernel
theorem dX7_order_78 : decode cX7_order 78 = .ok (.aload_n 0, 1) := by decide +kernel
theorem dX7_order_79 : decode cX7_order 79 = .ok (.getfield 27, 3) := by decide +kernel
theorem dX7_order_82 : decode cX7_order 82 = .ok (.getfield 81, 3) := by decide +kernel
theorem dX7_order_85 : decode cX7_order 85 = .ok (.iload_n 1, 1) := by decide +kernel
theorem dX7_order_86 : decode cX7_order 86 = .ok (.iaload, 1) := by decide +kernel
theorem dX7_order_87 : decode cX7_order 87 = .ok (.iadd, 1) := by decide +kernel
theorem dX7_order_88 : decode cX7_order 88 = .ok (.iload_n 2, 1) := by decide +kernel
theorem dX7_order_89 : decode cX7_order 89 = .ok (.iastore, 1) := by decide +kernel
theorem dX7_order_90 : decode cX7_order 90 = .ok (.aload_n 0, 1) := by decide +kernel
theorem dX7_order_91 : decode cX7_order 91 = .ok (.getfield 27, 3) := by decide +kernel
theorem dX7_order_94 : decode cX7_order 94 = .ok (.getfield 81, 3) := by decide +kernel
theorem dX7_order_97 : decode cX7_order 97 = .ok (.iload_n 1, 1) := by decide +kernel
theorem dX7_order_98 : decode cX7_order 98 = .ok (.dup2, 1) := by decide +kernel
theorem dX7_order_99 : decode cX7_order 99 = .ok (.iaload, 1) := by decide +kernel
theorem dX7_order_100 : decode cX7_order 100 = .ok (.iconst 1, 1) := by decide +kernel
theorem dX7_order_101 : decode cX7_order 101 = .ok (.iadd, 1) := by decide +kernel
theorem dX7_order_102 : decode cX7_order 102 = .ok (.iastore, 1) := by decide +kernel
theorem dX7_order_103 : decode cX7_order 103 = .ok (.aload_n 0, 1) := by decide +kernel
theorem dX7_order_104 : decode cX7_order 104 = .ok (.getfield 27, 3) := by decide +kernel
theorem dX7_order_107 : decode cX7_order 107 = .ok (.getfield 81, 3) := by decide +kernel
theorem dX7_order_110 : decode cX7_order 110 = .ok (.iload_n 1, 1) := by decide +kernel
theorem dX7_order_111 : decode cX7_order 111 = .ok (.iaload, 1) := by decide +kernel
theorem dX7_order_112 : decode cX7_order 112 = .ok (.ireturn, 1) := by decide +kernel
theorem dX7_torch_0 : decode cX7_torch 0 = .ok (.aload_n 0, 1) := by decide +kernel
theorem dX7_torch_1 : decode cX7_torch 1 = .ok (.iconst 0, 1) := by decide +kernel
theorem dX7_torch_2 : decode cX7_torch 2 = .ok (.putfield 34, 3) := by decide +kernel
theorem dX7_torch_5 : decode cX7_torch 5 = .ok (.aload_n 0, 1) := by decide +kernel
theorem dX7_torch_6 : decode cX7_torch 6 = .ok (.iload_n 1, 1) := by decide +kernel
theorem dX7_torch_7 : decode cX7_torch 7 = .ok (.invokevirtual 78, 3) := by decide +kernel
theorem dX7_torch_10 : decode cX7_torch 10 = .ok (.ifCond .ne 17, 3) := by decide +kernel
theorem dX7_torch_13 : decode cX7_torch 13 = .ok (.aload_n 0, 1) := by decide +kernel
theorem dX7_torch_14 : decode cX7_torch 14 = .ok (.iconst 1, 1) := by decide +kernel
theorem dX7_torch_15 : decode cX7_torch 15 = .ok (.invokevirtual 58, 3) := by decide +kernel
theorem dX7_torch_18 : decode cX7_torch 18 = .ok (.ifCond .eq 7, 3) := by decide +kernel
theorem dX7_torch_21 : decode cX7_torch 21 = .ok (.iconst 1, 1) := by decide +kernel
theorem dX7_torch_22 : decode cX7_torch 22 = .ok (.goto 4, 3) := by decide +kernel
theorem dX7_torch_25 : decode cX7_torch 25 = .ok (.iconst 0, 1) := by decide +kernel
theorem dX7_torch_26 : decode cX7_torch 26 = .ok (.ireturn, 1) := by decide +kernel
theorem dX7_torch_27 : decode cX7_torch 27 = .ok (.aload_n 0, 1) := by decide +kernel
theorem dX7_torch_28 : decode cX7_torch 28 = .ok (.getfield 27, 3) := by decide +kernel
theorem dX7_torch_31 : decode cX7_torch 31 = .ok (.getfield 72, 3) := by decide +kernel
theorem dX7_torch_34 : decode cX7_torch 34 = .ok (.iload_n 1, 1) := by decide +kernel
theorem dX7_torch_35 : decode cX7_torch 35 = .ok (.iaload, 1) := by decide +kernel
theorem dX7_torch_36 : decode cX7_torch 36 = .ok (.ifCond .ne 17, 3) := by decide +kernel
theorem dX7_torch_39 : decode cX7_torch 39 = .ok (.aload_n 0, 1) := by decide +kernel
theorem dX7_torch_40 : decode cX7_torch 40 = .ok (.iconst 2, 1) := by decide +kernel
theorem dX7_torch_41 : decode cX7_torch 41 = .ok (.invokevirtual 58, 3) := by decide +kernel
theorem dX7_torch_44 : decode cX7_torch 44 = .ok (.ifCond .eq 7, 3) := by decide +kernel
theorem dX7_torch_47 : decode cX7_torch 47 = .ok (.iconst 1, 1) := by decide +kernel
theorem dX7_torch_48 : decode cX7_torch 48 = .ok (.goto 4, 3) := by decide +kernel
theorem dX7_torch_51 : decode cX7_torch 51 = .ok (.iconst 0, 1) := by decide +kernel
theorem dX7_torch_52 : decode cX7_torch 52 = .ok (.ireturn, 1) := by decide +kernel
theorem dX7_torch_53 : decode cX7_torch 53 = .ok (.aload_n 0, 1) := by decide +kernel
theorem dX7_torch_54 : decode cX7_torch 54 = .ok (.getfield 27, 3) := by decide +kernel
theorem dX7_torch_57 : decode cX7_torch 57 = .ok (.getfield 75, 3) := by decide +kernel
theorem dX7_torch_60 : decode cX7_torch 60 = .ok (.iload_n 1, 1) := by decide +kernel
theorem dX7_torch_61 : decode cX7_torch 61 = .ok (.iconst 1, 1) := by decide +kernel
theorem dX7_torch_62 : decode cX7_torch 62 = .ok (.aload_n 0, 1) := by decide +kernel
theorem dX7_torch_63 : decode cX7_torch 63 = .ok (.getfield 27, 3) := by decide +kernel
theorem dX7_torch_66 : decode cX7_torch 66 = .ok (.getfield 75, 3) := by decide +kernel
theorem dX7_torch_69 : decode cX7_torch 69 = .ok (.iload_n 1, 1) := by decide +kernel
theorem dX7_torch_70 : decode cX7_torch 70 = .ok (.iaload, 1) := by decide +kernel
theorem dX7_torch_71 : decode cX7_torch 71 = .ok (.isub, 1) := by decide +kernel
theorem dX7_torch_72 : decode cX7_torch 72 = .ok (.iastore, 1) := by decide +kernel
theorem dX7_torch_73 : decode cX7_torch 73 = .ok (.aload_n 0, 1) := by decide +kernel
theorem dX7_torch_74 : decode cX7_torch 74 = .ok (.getfield 27, 3) := by decide +kernel
theorem dX7_torch_77 : decode cX7_torch 77 = .ok (.getfield 75, 3) := by decide +kernel
theorem dX7_torch_80 : decode cX7_torch 80 = .ok (.iload_n 1, 1) := by decide +kernel
theorem dX7_torch_81 : decode cX7_torch 81 = .ok (.iaload, 1) := by decide +kernel
theorem dX7_torch_82 : decode cX7_torch 82 = .ok (.iconst 1, 1) := by decide +kernel
theorem dX7_torch_83 : decode cX7_torch 83 = .ok (.if_icmp .ne 7, 3) := by decide +kernel
theorem dX7_torch_86 : decode cX7_torch 86 = .ok (.iconst 1, 1) := by decide +kernel
theorem dX7_torch_87 : decode cX7_torch 87 = .ok (.goto 4, 3) := by decide +kernel
theorem dX7_torch_90 : decode cX7_torch 90 = .ok (.iconst 0, 1) := by decide +kernel
theorem dX7_torch_91 : decode cX7_torch 91 = .ok (.ireturn, 1) := by decide +kernel
theorem dX7_patrol_0 : decode cX7_patrol 0 = .ok (.aload_n 0, 1) := by decide +kernel
theorem dX7_patrol_1 : decode cX7_patrol 1 = .ok (.iconst 0, 1) := by decide +kernel
theorem dX7_patrol_2 : decode cX7_patrol 2 = .ok (.putfield 34, 3) := by decide +kernel
theorem dX7_patrol_5 : decode cX7_patrol 5 = .ok (.iload_n 1, 1) := by decide +kernel
theorem dX7_patrol_6 : decode cX7_patrol 6 = .ok (.iload_n 2, 1) := by decide +kernel
theorem dX7_patrol_7 : decode cX7_patrol 7 = .ok (.invokestatic 54, 3) := by decide +kernel
theorem dX7_patrol_10 : decode cX7_patrol 10 = .ok (.ifCond .ne 9, 3) := by decide +kernel
theorem dX7_patrol_13 : decode cX7_patrol 13 = .ok (.aload_n 0, 1) := by decide +kernel
theorem dX7_patrol_14 : decode cX7_patrol 14 = .ok (.iconst 1, 1) := by decide +kernel
theorem dX7_patrol_15 : decode cX7_patrol 15 = .ok (.invokevirtual 58, 3) := by decide +kernel
theorem dX7_patrol_18 : decode cX7_patrol 18 = .ok (.ireturn, 1) := by decide +kernel
theorem dX7_patrol_19 : decode cX7_patrol 19 = .ok (.iload_n 3, 1) := by decide +kernel
theorem dX7_patrol_20 : decode cX7_patrol 20 = .ok (.iconst 1, 1) := by decide +kernel
theorem dX7_patrol_21 : decode cX7_patrol 21 = .ok (.bipush 12, 2) := by decide +kernel
theorem dX7_patrol_23 : decode cX7_patrol 23 = .ok (.invokestatic 38, 3) := by decide +kernel
theorem dX7_patrol_26 : decode cX7_patrol 26 = .ok (.ifCond .eq 19, 3) := by decide +kernel
theorem dX7_patrol_29 : decode cX7_patrol 29 = .ok (.iload 4, 2) := by decide +kernel
theorem dX7_patrol_31 : decode cX7_patrol 31 = .ok (.iconst 0, 1) := by decide +kernel
theorem dX7_patrol_32 : decode cX7_patrol 32 = .ok (.iconst 1, 1) := by decide +kernel
theorem dX7_patrol_33 : decode cX7_patrol 33 = .ok (.iconst 2, 1) := by decide +kernel
theorem dX7_patrol_34 : decode cX7_patrol 34 = .ok (.iload_n 3, 1) := by decide +kernel
theorem dX7_patrol_35 : decode cX7_patrol 35 = .ok (.imul, 1) := by decide +kernel
theorem dX7_patrol_36 : decode cX7_patrol 36 = .ok (.ishl, 1) := by decide +kernel
theorem dX7_patrol_37 : decode cX7_patrol 37 = .ok (.iconst 1, 1) := by decide +kernel
theorem dX7_patrol_38 : decode cX7_patrol 38 = .ok (.isub, 1) := by decide +kernel
theorem dX7_patrol_39 : decode cX7_patrol 39 = .ok (.invokestatic 38, 3) := by decide +kernel
theorem dX7_patrol_42 : decode cX7_patrol 42 = .ok (.ifCond .ne 9, 3) := by decide +kernel
theorem dX7_patrol_45 : decode cX7_patrol 45 = .ok (.aload_n 0, 1) := by decide +kernel
theorem dX7_patrol_46 : decode cX7_patrol 46 = .ok (.iconst 2, 1) := by decide +kernel
theorem dX7_patrol_47 : decode cX7_patrol 47 = .ok (.invokevirtual 58, 3) := by decide +kernel
theorem dX7_patrol_50 : decode cX7_patrol 50 = .ok (.ireturn, 1) := by decide +kernel
theorem dX7_patrol_51 : decode cX7_patrol 51 = .ok (.aload_n 0, 1) := by decide +kernel
theorem dX7_patrol_52 : decode cX7_patrol 52 = .ok (.getfield 45, 3) := by decide +kernel
theorem dX7_patrol_55 : decode cX7_patrol 55 = .ok (.iconst 3, 1) := by decide +kernel
theorem dX7_patrol_56 : decode cX7_patrol 56 = .ok (.if_icmp .eq 20, 3) := by decide +kernel
theorem dX7_patrol_59 : decode cX7_patrol 59 = .ok (.aload_n 0, 1) := by decide +kernel
theorem dX7_patrol_60 : decode cX7_patrol 60 = .ok (.getfield 27, 3) := by decide +kernel
theorem dX7_patrol_63 : decode cX7_patrol 63 = .ok (.getfield 62, 3) := by decide +kernel
theorem dX7_patrol_66 : decode cX7_patrol 66 = .ok (.bipush 12, 2) := by decide +kernel
theorem dX7_patrol_68 : decode cX7_patrol 68 = .ok (.iload_n 2, 1) := by decide +kernel
theorem dX7_patrol_69 : decode cX7_patrol 69 = .ok (.imul, 1) := by decide +kernel
theorem dX7_patrol_70 : decode cX7_patrol 70 = .ok (.iload_n 1, 1) := by decide +kernel
theorem dX7_patrol_71 : decode cX7_patrol 71 = .ok (.iadd, 1) := by decide +kernel
theorem dX7_patrol_72 : decode cX7_patrol 72 = .ok (.iaload, 1) := by decide +kernel
theorem dX7_patrol_73 : decode cX7_patrol 73 = .ok (.ifCond .eq 9, 3) := by decide +kernel
theorem dX7_patrol_76 : decode cX7_patrol 76 = .ok (.aload_n 0, 1) := by decide +kernel
theorem dX7_patrol_77 : decode cX7_patrol 77 = .ok (.iconst 3, 1) := by decide +kernel
theorem dX7_patrol_78 : decode cX7_patrol 78 = .ok (.invokevirtual 58, 3) := by decide +kernel
theorem dX7_patrol_81 : decode cX7_patrol 81 = .ok (.ireturn, 1) := by decide +kernel
theorem dX7_patrol_82 : decode cX7_patrol 82 = .ok (.aload_n 0, 1) := by decide +kernel
theorem dX7_patrol_83 : decode cX7_patrol 83 = .ok (.getfield 27, 3) := by decide +kernel
theorem dX7_patrol_86 : decode cX7_patrol 86 = .ok (.getfield 87, 3) := by decide +kernel
theorem dX7_patrol_89 : decode cX7_patrol 89 = .ok (.aload_n 0, 1) := by decide +kernel
theorem dX7_patrol_90 : decode cX7_patrol 90 = .ok (.getfield 45, 3) := by decide +kernel
theorem dX7_patrol_93 : decode cX7_patrol 93 = .ok (.bipush 12, 2) := by decide +kernel
theorem dX7_patrol_95 : decode cX7_patrol 95 = .ok (.iload_n 2, 1) := by decide +kernel
theorem dX7_patrol_96 : decode cX7_patrol 96 = .ok (.imul, 1) := by decide +kernel
theorem dX7_patrol_97 : decode cX7_patrol 97 = .ok (.iload_n 1, 1) := by decide +kernel
theorem dX7_patrol_98 : decode cX7_patrol 98 = .ok (.iadd, 1) := by decide +kernel
theorem dX7_patrol_99 : decode cX7_patrol 99 = .ok (.iastore, 1) := by decide +kernel
theorem dX7_patrol_100 : decode cX7_patrol 100 = .ok (.aload_n 0, 1) := by decide +kernel
theorem dX7_patrol_101 : decode cX7_patrol 101 = .ok (.getfield 9, 3) := by decide +kernel
theorem dX7_patrol_104 : decode cX7_patrol 104 = .ok (.aload_n 0, 1) := by decide +kernel
theorem dX7_patrol_105 : decode cX7_patrol 105 = .ok (.getfield 45, 3) := by decide +kernel
theorem dX7_patrol_108 : decode cX7_patrol 108 = .ok (.iload_n 3, 1) := by decide +kernel
theorem dX7_patrol_109 : decode cX7_patrol 109 = .ok (.iastore, 1) := by decide +kernel
theorem dX7_patrol_110 : decode cX7_patrol 110 = .ok (.iconst 0, 1) := by decide +kernel
theorem dX7_patrol_111 : decode cX7_patrol 111 = .ok (.istore 5, 2) := by decide +kernel
theorem dX7_patrol_113 : decode cX7_patrol 113 = .ok (.iload 5, 2) := by decide +kernel
theorem dX7_patrol_115 : decode cX7_patrol 115 = .ok (.iload_n 3, 1) := by decide +kernel
theorem dX7_patrol_116 : decode cX7_patrol 116 = .ok (.if_icmp .ge 33, 3) := by decide +kernel
theorem dX7_patrol_119 : decode cX7_patrol 119 = .ok (.aload_n 0, 1) := by decide +kernel
theorem dX7_patrol_120 : decode cX7_patrol 120 = .ok (.getfield 13, 3) := by decide +kernel
theorem dX7_patrol_123 : decode cX7_patrol 123 = .ok (.bipush 12, 2) := by decide +kernel
theorem dX7_patrol_125 : decode cX7_patrol 125 = .ok (.aload_n 0, 1) := by decide +kernel
theorem dX7_patrol_126 : decode cX7_patrol 126 = .ok (.getfield 45, 3) := by decide +kernel
theorem dX7_patrol_129 : decode cX7_patrol 129 = .ok (.imul, 1) := by decide +kernel
theorem dX7_patrol_130 : decode cX7_patrol 130 = .ok (.iload 5, 2) := by decide +kernel
theorem dX7_patrol_132 : decode cX7_patrol 132 = .ok (.iadd, 1) := by decide +kernel
theorem dX7_patrol_133 : decode cX7_patrol 133 = .ok (.iload 4, 2) := by decide +kernel
theorem dX7_patrol_135 : decode cX7_patrol 135 = .ok (.iconst 2, 1) := by decide +kernel
theorem dX7_patrol_136 : decode cX7_patrol 136 = .ok (.iload 5, 2) := by decide +kernel
theorem dX7_patrol_138 : decode cX7_patrol 138 = .ok (.imul, 1) := by decide +kernel
theorem dX7_patrol_139 : decode cX7_patrol 139 = .ok (.ishr, 1) := by decide +kernel
theorem dX7_patrol_140 : decode cX7_patrol 140 = .ok (.iconst 3, 1) := by decide +kernel
theorem dX7_patrol_141 : decode cX7_patrol 141 = .ok (.iand, 1) := by decide +kernel
theorem dX7_patrol_142 : decode cX7_patrol 142 = .ok (.iastore, 1) := by decide +kernel
theorem dX7_patrol_143 : decode cX7_patrol 143 = .ok (.iinc 5 1, 3) := by decide +kernel
theorem dX7_patrol_146 : decode cX7_patrol 146 = .ok (.goto (-33), 3) := by decide +kernel
theorem dX7_patrol_149 : decode cX7_patrol 149 = .ok (.aload_n 0, 1) := by decide +kernel
theorem dX7_patrol_150 : decode cX7_patrol 150 = .ok (.dup, 1) := by decide +kernel
theorem dX7_patrol_151 : decode cX7_patrol 151 = .ok (.getfield 45, 3) := by decide +kernel
theorem dX7_patrol_154 : decode cX7_patrol 154 = .ok (.iconst 1, 1) := by decide +kernel
theorem dX7_patrol_155 : decode cX7_patrol 155 = .ok (.iadd, 1) := by decide +kernel
theorem dX7_patrol_156 : decode cX7_patrol 156 = .ok (.putfield 45, 3) := by decide +kernel
theorem dX7_patrol_159 : decode cX7_patrol 159 = .ok (.aload_n 0, 1) := by decide +kernel
theorem dX7_patrol_160 : decode cX7_patrol 160 = .ok (.getfield 45, 3) := by decide +kernel
theorem dX7_patrol_163 : decode cX7_patrol 163 = .ok (.iconst 1, 1) := by decide +kernel
theorem dX7_patrol_164 : decode cX7_patrol 164 = .ok (.isub, 1) := by decide +kernel
theorem dX7_patrol_165 : decode cX7_patrol 165 = .ok (.ireturn, 1) := by decide +kernel
theorem dX7_crowdTold_0 : decode cX7_crowdTold 0 = .ok (.iload_n 2, 1) := by decide +kernel
theorem dX7_crowdTold_1 : decode cX7_crowdTold 1 = .ok (.tableswitch 138 0 6 #[43, 56, 69, 79, 89, 99, 128], 43) := by decide +kernel
theorem dX7_crowdTold_44 : decode cX7_crowdTold 44 = .ok (.aload_n 0, 1) := by decide +kernel
theorem dX7_crowdTold_45 : decode cX7_crowdTold 45 = .ok (.getfield 27, 3) := by decide +kernel
theorem dX7_crowdTold_48 : decode cX7_crowdTold 48 = .ok (.getfield 69, 3) := by decide +kernel
theorem dX7_crowdTold_51 : decode cX7_crowdTold 51 = .ok (.iload_n 1, 1) := by decide +kernel
theorem dX7_crowdTold_52 : decode cX7_crowdTold 52 = .ok (.iaload, 1) := by decide +kernel
theorem dX7_crowdTold_53 : decode cX7_crowdTold 53 = .ok (.bipush 12, 2) := by decide +kernel
theorem dX7_crowdTold_55 : decode cX7_crowdTold 55 = .ok (.irem, 1) := by decide +kernel
theorem dX7_crowdTold_56 : decode cX7_crowdTold 56 = .ok (.ireturn, 1) := by decide +kernel
theorem dX7_crowdTold_57 : decode cX7_crowdTold 57 = .ok (.aload_n 0, 1) := by decide +kernel
theorem dX7_crowdTold_58 : decode cX7_crowdTold 58 = .ok (.getfield 27, 3) := by decide +kernel
theorem dX7_crowdTold_61 : decode cX7_crowdTold 61 = .ok (.getfield 69, 3) := by decide +kernel
theorem dX7_crowdTold_64 : decode cX7_crowdTold 64 = .ok (.iload_n 1, 1) := by decide +kernel
theorem dX7_crowdTold_65 : decode cX7_crowdTold 65 = .ok (.iaload, 1) := by decide +kernel
theorem dX7_crowdTold_66 : decode cX7_crowdTold 66 = .ok (.bipush 12, 2) := by decide +kernel
theorem dX7_crowdTold_68 : decode cX7_crowdTold 68 = .ok (.idiv, 1) := by decide +kernel
theorem dX7_crowdTold_69 : decode cX7_crowdTold 69 = .ok (.ireturn, 1) := by decide +kernel
theorem dX7_crowdTold_70 : decode cX7_crowdTold 70 = .ok (.aload_n 0, 1) := by decide +kernel
theorem dX7_crowdTold_71 : decode cX7_crowdTold 71 = .ok (.getfield 27, 3) := by decide +kernel
theorem dX7_crowdTold_74 : decode cX7_crowdTold 74 = .ok (.getfield 72, 3) := by decide +kernel
theorem dX7_crowdTold_77 : decode cX7_crowdTold 77 = .ok (.iload_n 1, 1) := by decide +kernel
theorem dX7_crowdTold_78 : decode cX7_crowdTold 78 = .ok (.iaload, 1) := by decide +kernel
theorem dX7_crowdTold_79 : decode cX7_crowdTold 79 = .ok (.ireturn, 1) := by decide +kernel
theorem dX7_crowdTold_80 : decode cX7_crowdTold 80 = .ok (.aload_n 0, 1) := by decide +kernel
theorem dX7_crowdTold_81 : decode cX7_crowdTold 81 = .ok (.getfield 27, 3) := by decide +kernel
theorem dX7_crowdTold_84 : decode cX7_crowdTold 84 = .ok (.getfield 75, 3) := by decide +kernel
theorem dX7_crowdTold_87 : decode cX7_crowdTold 87 = .ok (.iload_n 1, 1) := by decide +kernel
theorem dX7_crowdTold_88 : decode cX7_crowdTold 88 = .ok (.iaload, 1) := by decide +kernel
theorem dX7_crowdTold_89 : decode cX7_crowdTold 89 = .ok (.ireturn, 1) := by decide +kernel
theorem dX7_crowdTold_90 : decode cX7_crowdTold 90 = .ok (.aload_n 0, 1) := by decide +kernel
theorem dX7_crowdTold_91 : decode cX7_crowdTold 91 = .ok (.getfield 27, 3) := by decide +kernel
theorem dX7_crowdTold_94 : decode cX7_crowdTold 94 = .ok (.getfield 81, 3) := by decide +kernel
theorem dX7_crowdTold_97 : decode cX7_crowdTold 97 = .ok (.iload_n 1, 1) := by decide +kernel
theorem dX7_crowdTold_98 : decode cX7_crowdTold 98 = .ok (.iaload, 1) := by decide +kernel
theorem dX7_crowdTold_99 : decode cX7_crowdTold 99 = .ok (.ireturn, 1) := by decide +kernel
theorem dX7_crowdTold_100 : decode cX7_crowdTold 100 = .ok (.aload_n 0, 1) := by decide +kernel
theorem dX7_crowdTold_101 : decode cX7_crowdTold 101 = .ok (.getfield 27, 3) := by decide +kernel
theorem dX7_crowdTold_104 : decode cX7_crowdTold 104 = .ok (.getfield 81, 3) := by decide +kernel
theorem dX7_crowdTold_107 : decode cX7_crowdTold 107 = .ok (.iload_n 1, 1) := by decide +kernel
theorem dX7_crowdTold_108 : decode cX7_crowdTold 108 = .ok (.iaload, 1) := by decide +kernel
theorem dX7_crowdTold_109 : decode cX7_crowdTold 109 = .ok (.ifCond .ne 7, 3) := by decide +kernel
theorem dX7_crowdTold_112 : decode cX7_crowdTold 112 = .ok (.iconst (-1), 1) := by decide +kernel
theorem dX7_crowdTold_113 : decode cX7_crowdTold 113 = .ok (.goto 15, 3) := by decide +kernel
theorem dX7_crowdTold_116 : decode cX7_crowdTold 116 = .ok (.aload_n 0, 1) := by decide +kernel
theorem dX7_crowdTold_117 : decode cX7_crowdTold 117 = .ok (.getfield 27, 3) := by decide +kernel
theorem dX7_crowdTold_120 : decode cX7_crowdTold 120 = .ok (.getfield 84, 3) := by decide +kernel
theorem dX7_crowdTold_123 : decode cX7_crowdTold 123 = .ok (.bipush 24, 2) := by decide +kernel
theorem dX7_crowdTold_125 : decode cX7_crowdTold 125 = .ok (.iload_n 1, 1) := by decide +kernel
theorem dX7_crowdTold_126 : decode cX7_crowdTold 126 = .ok (.imul, 1) := by decide +kernel
theorem dX7_crowdTold_127 : decode cX7_crowdTold 127 = .ok (.iaload, 1) := by decide +kernel
theorem dX7_crowdTold_128 : decode cX7_crowdTold 128 = .ok (.ireturn, 1) := by decide +kernel
theorem dX7_crowdTold_129 : decode cX7_crowdTold 129 = .ok (.aload_n 0, 1) := by decide +kernel
theorem dX7_crowdTold_130 : decode cX7_crowdTold 130 = .ok (.getfield 27, 3) := by decide +kernel
theorem dX7_crowdTold_133 : decode cX7_crowdTold 133 = .ok (.getfield 90, 3) := by decide +kernel
theorem dX7_crowdTold_136 : decode cX7_crowdTold 136 = .ok (.iload_n 1, 1) := by decide +kernel
theorem dX7_crowdTold_137 : decode cX7_crowdTold 137 = .ok (.iaload, 1) := by decide +kernel
theorem dX7_crowdTold_138 : decode cX7_crowdTold 138 = .ok (.ireturn, 1) := by decide +kernel
theorem dX7_crowdTold_139 : decode cX7_crowdTold 139 = .ok (.aload_n 0, 1) := by decide +kernel
theorem dX7_crowdTold_140 : decode cX7_crowdTold 140 = .ok (.getfield 27, 3) := by decide +kernel
theorem dX7_crowdTold_143 : decode cX7_crowdTold 143 = .ok (.iload_n 1, 1) := by decide +kernel
theorem dX7_crowdTold_144 : decode cX7_crowdTold 144 = .ok (.invokevirtual 93, 3) := by decide +kernel
theorem dX7_crowdTold_147 : decode cX7_crowdTold 147 = .ok (.ireturn, 1) := by decide +kernel
theorem dX7_crowd_0 : decode cX7_crowd 0 = .ok (.aload_n 0, 1) := by decide +kernel
theorem dX7_crowd_1 : decode cX7_crowd 1 = .ok (.iconst 0, 1) := by decide +kernel
theorem dX7_crowd_2 : decode cX7_crowd 2 = .ok (.putfield 34, 3) := by decide +kernel
theorem dX7_crowd_5 : decode cX7_crowd 5 = .ok (.aload_n 0, 1) := by decide +kernel
theorem dX7_crowd_6 : decode cX7_crowd 6 = .ok (.iload_n 1, 1) := by decide +kernel
theorem dX7_crowd_7 : decode cX7_crowd 7 = .ok (.invokevirtual 78, 3) := by decide +kernel
theorem dX7_crowd_10 : decode cX7_crowd 10 = .ok (.ifCond .eq 22, 3) := by decide +kernel
theorem dX7_crowd_13 : decode cX7_crowd 13 = .ok (.iload_n 2, 1) := by decide +kernel
theorem dX7_crowd_14 : decode cX7_crowd 14 = .ok (.iconst 0, 1) := by decide +kernel
theorem dX7_crowd_15 : decode cX7_crowd 15 = .ok (.bipush 7, 2) := by decide +kernel
theorem dX7_crowd_17 : decode cX7_crowd 17 = .ok (.invokestatic 38, 3) := by decide +kernel
theorem dX7_crowd_20 : decode cX7_crowd 20 = .ok (.ifCond .eq 12, 3) := by decide +kernel
theorem dX7_crowd_23 : decode cX7_crowd 23 = .ok (.aload_n 0, 1) := by decide +kernel
theorem dX7_crowd_24 : decode cX7_crowd 24 = .ok (.iload_n 1, 1) := by decide +kernel
theorem dX7_crowd_25 : decode cX7_crowd 25 = .ok (.iload_n 2, 1) := by decide +kernel
theorem dX7_crowd_26 : decode cX7_crowd 26 = .ok (.invokevirtual 96, 3) := by decide +kernel
theorem dX7_crowd_29 : decode cX7_crowd 29 = .ok (.goto 8, 3) := by decide +kernel
theorem dX7_crowd_32 : decode cX7_crowd 32 = .ok (.aload_n 0, 1) := by decide +kernel
theorem dX7_crowd_33 : decode cX7_crowd 33 = .ok (.iconst 1, 1) := by decide +kernel
theorem dX7_crowd_34 : decode cX7_crowd 34 = .ok (.invokevirtual 58, 3) := by decide +kernel
theorem dX7_crowd_37 : decode cX7_crowd 37 = .ok (.ireturn, 1) := by decide +kernel
theorem dX7_guardTold_0 : decode cX7_guardTold 0 = .ok (.iconst 0, 1) := by decide +kernel
theorem dX7_guardTold_1 : decode cX7_guardTold 1 = .ok (.istore_n 3, 1) := by decide +kernel
theorem dX7_guardTold_2 : decode cX7_guardTold 2 = .ok (.iconst 0, 1) := by decide +kernel
theorem dX7_guardTold_3 : decode cX7_guardTold 3 = .ok (.istore 4, 2) := by decide +kernel
theorem dX7_guardTold_5 : decode cX7_guardTold 5 = .ok (.iload 4, 2) := by decide +kernel
theorem dX7_guardTold_7 : decode cX7_guardTold 7 = .ok (.aload_n 0, 1) := by decide +kernel
theorem dX7_guardTold_8 : decode cX7_guardTold 8 = .ok (.getfield 42, 3) := by decide +kernel
theorem dX7_guardTold_11 : decode cX7_guardTold 11 = .ok (.if_icmp .ge 30, 3) := by decide +kernel
theorem dX7_guardTold_14 : decode cX7_guardTold 14 = .ok (.iload_n 3, 1) := by decide +kernel
theorem dX7_guardTold_15 : decode cX7_guardTold 15 = .ok (.aload_n 0, 1) := by decide +kernel
theorem dX7_guardTold_16 : decode cX7_guardTold 16 = .ok (.getfield 27, 3) := by decide +kernel
theorem dX7_guardTold_19 : decode cX7_guardTold 19 = .ok (.iload_n 1, 1) := by decide +kernel
theorem dX7_guardTold_20 : decode cX7_guardTold 20 = .ok (.iload 4, 2) := by decide +kernel
theorem dX7_guardTold_22 : decode cX7_guardTold 22 = .ok (.invokevirtual 100, 3) := by decide +kernel
theorem dX7_guardTold_25 : decode cX7_guardTold 25 = .ok (.ifCond .eq 7, 3) := by decide +kernel
theorem dX7_guardTold_28 : decode cX7_guardTold 28 = .ok (.iconst 1, 1) := by decide +kernel
theorem dX7_guardTold_29 : decode cX7_guardTold 29 = .ok (.goto 4, 3) := by decide +kernel
theorem dX7_guardTold_32 : decode cX7_guardTold 32 = .ok (.iconst 0, 1) := by decide +kernel
theorem dX7_guardTold_33 : decode cX7_guardTold 33 = .ok (.iadd, 1) := by decide +kernel
theorem dX7_guardTold_34 : decode cX7_guardTold 34 = .ok (.istore_n 3, 1) := by decide +kernel
theorem dX7_guardTold_35 : decode cX7_guardTold 35 = .ok (.iinc 4 1, 3) := by decide +kernel
theorem dX7_guardTold_38 : decode cX7_guardTold 38 = .ok (.goto (-33), 3) := by decide +kernel
theorem dX7_guardTold_41 : decode cX7_guardTold 41 = .ok (.iload_n 2, 1) := by decide +kernel
theorem dX7_guardTold_42 : decode cX7_guardTold 42 = .ok (.ifCond .ne 18, 3) := by decide +kernel
theorem dX7_guardTold_45 : decode cX7_guardTold 45 = .ok (.aload_n 0, 1) := by decide +kernel
theorem dX7_guardTold_46 : decode cX7_guardTold 46 = .ok (.getfield 27, 3) := by decide +kernel
theorem dX7_guardTold_49 : decode cX7_guardTold 49 = .ok (.getfield 87, 3) := by decide +kernel
theorem dX7_guardTold_52 : decode cX7_guardTold 52 = .ok (.iload_n 1, 1) := by decide +kernel
theorem dX7_guardTold_53 : decode cX7_guardTold 53 = .ok (.iaload, 1) := by decide +kernel
theorem dX7_guardTold_54 : decode cX7_guardTold 54 = .ok (.bipush 12, 2) := by decide +kernel
theorem dX7_guardTold_56 : decode cX7_guardTold 56 = .ok (.irem, 1) := by decide +kernel
theorem dX7_guardTold_57 : decode cX7_guardTold 57 = .ok (.goto 51, 3) := by decide +kernel
theorem dX7_guardTold_60 : decode cX7_guardTold 60 = .ok (.iload_n 2, 1) := by decide +kernel
theorem dX7_guardTold_61 : decode cX7_guardTold 61 = .ok (.iconst 1, 1) := by decide +kernel
theorem dX7_guardTold_62 : decode cX7_guardTold 62 = .ok (.if_icmp .ne 18, 3) := by decide +kernel
theorem dX7_guardTold_65 : decode cX7_guardTold 65 = .ok (.aload_n 0, 1) := by decide +kernel
theorem dX7_guardTold_66 : decode cX7_guardTold 66 = .ok (.getfield 27, 3) := by decide +kernel
theorem dX7_guardTold_69 : decode cX7_guardTold 69 = .ok (.getfield 87, 3) := by decide +kernel
theorem dX7_guardTold_72 : decode cX7_guardTold 72 = .ok (.iload_n 1, 1) := by decide +kernel
theorem dX7_guardTold_73 : decode cX7_guardTold 73 = .ok (.iaload, 1) := by decide +kernel
theorem dX7_guardTold_74 : decode cX7_guardTold 74 = .ok (.bipush 12, 2) := by decide +kernel
theorem dX7_guardTold_76 : decode cX7_guardTold 76 = .ok (.idiv, 1) := by decide +kernel
theorem dX7_guardTold_77 : decode cX7_guardTold 77 = .ok (.goto 31, 3) := by decide +kernel
theorem dX7_guardTold_80 : decode cX7_guardTold 80 = .ok (.iload_n 2, 1) := by decide +kernel
theorem dX7_guardTold_81 : decode cX7_guardTold 81 = .ok (.iconst 2, 1) := by decide +kernel
theorem dX7_guardTold_82 : decode cX7_guardTold 82 = .ok (.if_icmp .ne 25, 3) := by decide +kernel
theorem dX7_guardTold_85 : decode cX7_guardTold 85 = .ok (.aload_n 0, 1) := by decide +kernel
theorem dX7_guardTold_86 : decode cX7_guardTold 86 = .ok (.getfield 13, 3) := by decide +kernel
theorem dX7_guardTold_89 : decode cX7_guardTold 89 = .ok (.bipush 12, 2) := by decide +kernel
theorem dX7_guardTold_91 : decode cX7_guardTold 91 = .ok (.iload_n 1, 1) := by decide +kernel
theorem dX7_guardTold_92 : decode cX7_guardTold 92 = .ok (.imul, 1) := by decide +kernel
theorem dX7_guardTold_93 : decode cX7_guardTold 93 = .ok (.aload_n 0, 1) := by decide +kernel
theorem dX7_guardTold_94 : decode cX7_guardTold 94 = .ok (.getfield 27, 3) := by decide +kernel
theorem dX7_guardTold_97 : decode cX7_guardTold 97 = .ok (.getfield 103, 3) := by decide +kernel
theorem dX7_guardTold_100 : decode cX7_guardTold 100 = .ok (.iload_n 1, 1) := by decide +kernel
theorem dX7_guardTold_101 : decode cX7_guardTold 101 = .ok (.iaload, 1) := by decide +kernel
theorem dX7_guardTold_102 : decode cX7_guardTold 102 = .ok (.iadd, 1) := by decide +kernel
theorem dX7_guardTold_103 : decode cX7_guardTold 103 = .ok (.iaload, 1) := by decide +kernel
theorem dX7_guardTold_104 : decode cX7_guardTold 104 = .ok (.goto 4, 3) := by decide +kernel
theorem dX7_guardTold_107 : decode cX7_guardTold 107 = .ok (.iload_n 3, 1) := by decide +kernel
theorem dX7_guardTold_108 : decode cX7_guardTold 108 = .ok (.ireturn, 1) := by decide +kernel
theorem dX7_guard_0 : decode cX7_guard 0 = .ok (.aload_n 0, 1) := by decide +kernel
theorem dX7_guard_1 : decode cX7_guard 1 = .ok (.iconst 0, 1) := by decide +kernel
theorem dX7_guard_2 : decode cX7_guard 2 = .ok (.putfield 34, 3) := by decide +kernel
theorem dX7_guard_5 : decode cX7_guard 5 = .ok (.aload_n 0, 1) := by decide +kernel
theorem dX7_guard_6 : decode cX7_guard 6 = .ok (.iload_n 1, 1) := by decide +kernel
theorem dX7_guard_7 : decode cX7_guard 7 = .ok (.invokevirtual 106, 3) := by decide +kernel
theorem dX7_guard_10 : decode cX7_guard 10 = .ok (.ifCond .eq 21, 3) := by decide +kernel
theorem dX7_guard_13 : decode cX7_guard 13 = .ok (.iload_n 2, 1) := by decide +kernel
theorem dX7_guard_14 : decode cX7_guard 14 = .ok (.iconst 0, 1) := by decide +kernel
theorem dX7_guard_15 : decode cX7_guard 15 = .ok (.iconst 3, 1) := by decide +kernel
theorem dX7_guard_16 : decode cX7_guard 16 = .ok (.invokestatic 38, 3) := by decide +kernel
theorem dX7_guard_19 : decode cX7_guard 19 = .ok (.ifCond .eq 12, 3) := by decide +kernel
theorem dX7_guard_22 : decode cX7_guard 22 = .ok (.aload_n 0, 1) := by decide +kernel
theorem dX7_guard_23 : decode cX7_guard 23 = .ok (.iload_n 1, 1) := by decide +kernel
theorem dX7_guard_24 : decode cX7_guard 24 = .ok (.iload_n 2, 1) := by decide +kernel
theorem dX7_guard_25 : decode cX7_guard 25 = .ok (.invokevirtual 109, 3) := by decide +kernel
theorem dX7_guard_28 : decode cX7_guard 28 = .ok (.goto 8, 3) := by decide +kernel
theorem dX7_guard_31 : decode cX7_guard 31 = .ok (.aload_n 0, 1) := by decide +kernel
theorem dX7_guard_32 : decode cX7_guard 32 = .ok (.iconst 1, 1) := by decide +kernel
theorem dX7_guard_33 : decode cX7_guard 33 = .ok (.invokevirtual 58, 3) := by decide +kernel
theorem dX7_guard_36 : decode cX7_guard 36 = .ok (.ireturn, 1) := by decide +kernel
theorem dX7_sees_0 : decode cX7_sees 0 = .ok (.aload_n 0, 1) := by decide +kernel
theorem dX7_sees_1 : decode cX7_sees 1 = .ok (.iconst 0, 1) := by decide +kernel
theorem dX7_sees_2 : decode cX7_sees 2 = .ok (.putfield 34, 3) := by decide +kernel
theorem dX7_sees_5 : decode cX7_sees 5 = .ok (.aload_n 0, 1) := by decide +kernel
theorem dX7_sees_6 : decode cX7_sees 6 = .ok (.iload_n 1, 1) := by decide +kernel
theorem dX7_sees_7 : decode cX7_sees 7 = .ok (.invokevirtual 106, 3) := by decide +kernel
theorem dX7_sees_10 : decode cX7_sees 10 = .ok (.ifCond .eq 23, 3) := by decide +kernel
theorem dX7_sees_13 : decode cX7_sees 13 = .ok (.aload_n 0, 1) := by decide +kernel
theorem dX7_sees_14 : decode cX7_sees 14 = .ok (.iload_n 2, 1) := by decide +kernel
theorem dX7_sees_15 : decode cX7_sees 15 = .ok (.invokevirtual 78, 3) := by decide +kernel
theorem dX7_sees_18 : decode cX7_sees 18 = .ok (.ifCond .eq 15, 3) := by decide +kernel
theorem dX7_sees_21 : decode cX7_sees 21 = .ok (.aload_n 0, 1) := by decide +kernel
theorem dX7_sees_22 : decode cX7_sees 22 = .ok (.getfield 27, 3) := by decide +kernel
theorem dX7_sees_25 : decode cX7_sees 25 = .ok (.iload_n 1, 1) := by decide +kernel
theorem dX7_sees_26 : decode cX7_sees 26 = .ok (.iload_n 2, 1) := by decide +kernel
theorem dX7_sees_27 : decode cX7_sees 27 = .ok (.invokevirtual 100, 3) := by decide +kernel
theorem dX7_sees_30 : decode cX7_sees 30 = .ok (.goto 16, 3) := by decide +kernel
theorem dX7_sees_33 : decode cX7_sees 33 = .ok (.aload_n 0, 1) := by decide +kernel
theorem dX7_sees_34 : decode cX7_sees 34 = .ok (.iconst 1, 1) := by decide +kernel
theorem dX7_sees_35 : decode cX7_sees 35 = .ok (.invokevirtual 58, 3) := by decide +kernel
theorem dX7_sees_38 : decode cX7_sees 38 = .ok (.ifCond .eq 7, 3) := by decide +kernel
theorem dX7_sees_41 : decode cX7_sees 41 = .ok (.iconst 1, 1) := by decide +kernel
theorem dX7_sees_42 : decode cX7_sees 42 = .ok (.goto 4, 3) := by decide +kernel
theorem dX7_sees_45 : decode cX7_sees 45 = .ok (.iconst 0, 1) := by decide +kernel
theorem dX7_sees_46 : decode cX7_sees 46 = .ok (.ireturn, 1) := by decide +kernel
theorem dX7_left_0 : decode cX7_left 0 = .ok (.iconst 0, 1) := by decide +kernel
theorem dX7_left_1 : decode cX7_left 1 = .ok (.istore_n 1, 1) := by decide +kernel
theorem dX7_left_2 : decode cX7_left 2 = .ok (.iconst 0, 1) := by decide +kernel
theorem dX7_left_3 : decode cX7_left 3 = .ok (.istore_n 2, 1) := by decide +kernel
theorem dX7_left_4 : decode cX7_left 4 = .ok (.iload_n 2, 1) := by decide +kernel
theorem dX7_left_5 : decode cX7_left 5 = .ok (.aload_n 0, 1) := by decide +kernel
theorem dX7_left_6 : decode cX7_left 6 = .ok (.getfield 42, 3) := by decide +kernel
theorem dX7_left_9 : decode cX7_left 9 = .ok (.if_icmp .ge 29, 3) := by decide +kernel
theorem dX7_left_12 : decode cX7_left 12 = .ok (.iload_n 1, 1) := by decide +kernel
theorem dX7_left_13 : decode cX7_left 13 = .ok (.aload_n 0, 1) := by decide +kernel
theorem dX7_left_14 : decode cX7_left 14 = .ok (.getfield 27, 3) := by decide +kernel
theorem dX7_left_17 : decode cX7_left 17 = .ok (.getfield 72, 3) := by decide +kernel
theorem dX7_left_20 : decode cX7_left 20 = .ok (.iload_n 2, 1) := by decide +kernel
theorem dX7_left_21 : decode cX7_left 21 = .ok (.iaload, 1) := by decide +kernel
theorem dX7_left_22 : decode cX7_left 22 = .ok (.ifCond .le 7, 3) := by decide +kernel
theorem dX7_left_25 : decode cX7_left 25 = .ok (.iconst 1, 1) := by decide +kernel
theorem dX7_left_26 : decode cX7_left 26 = .ok (.goto 4, 3) := by decide +kernel
theorem dX7_left_29 : decode cX7_left 29 = .ok (.iconst 0, 1) := by decide +kernel
theorem dX7_left_30 : decode cX7_left 30 = .ok (.iadd, 1) := by decide +kernel
theorem dX7_left_31 : decode cX7_left 31 = .ok (.istore_n 1, 1) := by decide +kernel
theorem dX7_left_32 : decode cX7_left 32 = .ok (.iinc 2 1, 3) := by decide +kernel
theorem dX7_left_35 : decode cX7_left 35 = .ok (.goto (-31), 3) := by decide +kernel
theorem dX7_left_38 : decode cX7_left 38 = .ok (.iload_n 1, 1) := by decide +kernel
theorem dX7_left_39 : decode cX7_left 39 = .ok (.ireturn, 1) := by decide +kernel
theorem dX7_counted_0 : decode cX7_counted 0 = .ok (.iconst 0, 1) := by decide +kernel
theorem dX7_counted_1 : decode cX7_counted 1 = .ok (.istore_n 2, 1) := by decide +kernel
theorem dX7_counted_2 : decode cX7_counted 2 = .ok (.iconst 0, 1) := by decide +kernel
theorem dX7_counted_3 : decode cX7_counted 3 = .ok (.istore_n 3, 1) := by decide +kernel
theorem dX7_counted_4 : decode cX7_counted 4 = .ok (.iconst 0, 1) := by decide +kernel
theorem dX7_counted_5 : decode cX7_counted 5 = .ok (.istore 4, 2) := by decide +kernel
theorem dX7_counted_7 : decode cX7_counted 7 = .ok (.aload_n 0, 1) := by decide +kernel
theorem dX7_counted_8 : decode cX7_counted 8 = .ok (.getfield 27, 3) := by decide +kernel
theorem dX7_counted_11 : decode cX7_counted 11 = .ok (.getfield 62, 3) := by decide +kernel
theorem dX7_counted_14 : decode cX7_counted 14 = .ok (.astore 5, 2) := by decide +kernel
theorem dX7_counted_16 : decode cX7_counted 16 = .ok (.aload 5, 2) := by decide +kernel
theorem dX7_counted_18 : decode cX7_counted 18 = .ok (.arraylength, 1) := by decide +kernel
theorem dX7_counted_19 : decode cX7_counted 19 = .ok (.istore 6, 2) := by decide +kernel
theorem dX7_counted_21 : decode cX7_counted 21 = .ok (.iconst 0, 1) := by decide +kernel
theorem dX7_counted_22 : decode cX7_counted 22 = .ok (.istore 7, 2) := by decide +kernel
theorem dX7_counted_24 : decode cX7_counted 24 = .ok (.iload 7, 2) := by decide +kernel
theorem dX7_counted_26 : decode cX7_counted 26 = .ok (.iload 6, 2) := by decide +kernel
theorem dX7_counted_28 : decode cX7_counted 28 = .ok (.if_icmp .ge 43, 3) := by decide +kernel
theorem dX7_counted_31 : decode cX7_counted 31 = .ok (.aload 5, 2) := by decide +kernel
theorem dX7_counted_33 : decode cX7_counted 33 = .ok (.iload 7, 2) := by decide +kernel
theorem dX7_counted_35 : decode cX7_counted 35 = .ok (.iaload, 1) := by decide +kernel
theorem dX7_counted_36 : decode cX7_counted 36 = .ok (.istore 8, 2) := by decide +kernel
theorem dX7_counted_38 : decode cX7_counted 38 = .ok (.iload_n 2, 1) := by decide +kernel
theorem dX7_counted_39 : decode cX7_counted 39 = .ok (.iload 8, 2) := by decide +kernel
theorem dX7_counted_41 : decode cX7_counted 41 = .ok (.iconst (-1), 1) := by decide +kernel
theorem dX7_counted_42 : decode cX7_counted 42 = .ok (.if_icmp .ne 7, 3) := by decide +kernel
theorem dX7_counted_45 : decode cX7_counted 45 = .ok (.iconst 1, 1) := by decide +kernel
theorem dX7_counted_46 : decode cX7_counted 46 = .ok (.goto 4, 3) := by decide +kernel
theorem dX7_counted_49 : decode cX7_counted 49 = .ok (.iconst 0, 1) := by decide +kernel
theorem dX7_counted_50 : decode cX7_counted 50 = .ok (.iadd, 1) := by decide +kernel
theorem dX7_counted_51 : decode cX7_counted 51 = .ok (.istore_n 2, 1) := by decide +kernel
theorem dX7_counted_52 : decode cX7_counted 52 = .ok (.iload_n 3, 1) := by decide +kernel
theorem dX7_counted_53 : decode cX7_counted 53 = .ok (.iload 8, 2) := by decide +kernel
theorem dX7_counted_55 : decode cX7_counted 55 = .ok (.ifCond .ne 7, 3) := by decide +kernel
theorem dX7_counted_58 : decode cX7_counted 58 = .ok (.iconst 1, 1) := by decide +kernel
theorem dX7_counted_59 : decode cX7_counted 59 = .ok (.goto 4, 3) := by decide +kernel
theorem dX7_counted_62 : decode cX7_counted 62 = .ok (.iconst 0, 1) := by decide +kernel
theorem dX7_counted_63 : decode cX7_counted 63 = .ok (.iadd, 1) := by decide +kernel
theorem dX7_counted_64 : decode cX7_counted 64 = .ok (.istore_n 3, 1) := by decide +kernel
theorem dX7_counted_65 : decode cX7_counted 65 = .ok (.iinc 7 1, 3) := by decide +kernel
theorem dX7_counted_68 : decode cX7_counted 68 = .ok (.goto (-44), 3) := by decide +kernel
theorem dX7_counted_71 : decode cX7_counted 71 = .ok (.iconst 0, 1) := by decide +kernel
theorem dX7_counted_72 : decode cX7_counted 72 = .ok (.istore 5, 2) := by decide +kernel
theorem dX7_counted_74 : decode cX7_counted 74 = .ok (.iload 5, 2) := by decide +kernel
theorem dX7_counted_76 : decode cX7_counted 76 = .ok (.aload_n 0, 1) := by decide +kernel
theorem dX7_counted_77 : decode cX7_counted 77 = .ok (.getfield 42, 3) := by decide +kernel
theorem dX7_counted_80 : decode cX7_counted 80 = .ok (.if_icmp .ge 24, 3) := by decide +kernel
theorem dX7_counted_83 : decode cX7_counted 83 = .ok (.iload 4, 2) := by decide +kernel
theorem dX7_counted_85 : decode cX7_counted 85 = .ok (.aload_n 0, 1) := by decide +kernel
theorem dX7_counted_86 : decode cX7_counted 86 = .ok (.getfield 27, 3) := by decide +kernel
theorem dX7_counted_89 : decode cX7_counted 89 = .ok (.getfield 90, 3) := by decide +kernel
theorem dX7_counted_92 : decode cX7_counted 92 = .ok (.iload 5, 2) := by decide +kernel
theorem dX7_counted_94 : decode cX7_counted 94 = .ok (.iaload, 1) := by decide +kernel
theorem dX7_counted_95 : decode cX7_counted 95 = .ok (.iadd, 1) := by decide +kernel
theorem dX7_counted_96 : decode cX7_counted 96 = .ok (.istore 4, 2) := by decide +kernel
theorem dX7_counted_98 : decode cX7_counted 98 = .ok (.iinc 5 1, 3) := by decide +kernel
theorem dX7_counted_101 : decode cX7_counted 101 = .ok (.goto (-27), 3) := by decide +kernel
theorem dX7_counted_104 : decode cX7_counted 104 = .ok (.bipush 8, 2) := by decide +kernel
theorem dX7_counted_106 : decode cX7_counted 106 = .ok (.newarray .int, 2) := by decide +kernel
theorem dX7_counted_108 : decode cX7_counted 108 = .ok (.dup, 1) := by decide +kernel
theorem dX7_counted_109 : decode cX7_counted 109 = .ok (.iconst 0, 1) := by decide +kernel
theorem dX7_counted_110 : decode cX7_counted 110 = .ok (.aload_n 0, 1) := by decide +kernel
theorem dX7_counted_111 : decode cX7_counted 111 = .ok (.getfield 27, 3) := by decide +kernel
theorem dX7_counted_114 : decode cX7_counted 114 = .ok (.getfield 112, 3) := by decide +kernel
theorem dX7_counted_117 : decode cX7_counted 117 = .ok (.iastore, 1) := by decide +kernel
theorem dX7_counted_118 : decode cX7_counted 118 = .ok (.dup, 1) := by decide +kernel
theorem dX7_counted_119 : decode cX7_counted 119 = .ok (.iconst 1, 1) := by decide +kernel
theorem dX7_counted_120 : decode cX7_counted 120 = .ok (.iload_n 2, 1) := by decide +kernel
theorem dX7_counted_121 : decode cX7_counted 121 = .ok (.iastore, 1) := by decide +kernel
theorem dX7_counted_122 : decode cX7_counted 122 = .ok (.dup, 1) := by decide +kernel
theorem dX7_counted_123 : decode cX7_counted 123 = .ok (.iconst 2, 1) := by decide +kernel
theorem dX7_counted_124 : decode cX7_counted 124 = .ok (.aload_n 0, 1) := by decide +kernel
theorem dX7_counted_125 : decode cX7_counted 125 = .ok (.getfield 27, 3) := by decide +kernel
theorem dX7_counted_128 : decode cX7_counted 128 = .ok (.invokevirtual 115, 3) := by decide +kernel
theorem dX7_counted_131 : decode cX7_counted 131 = .ok (.iastore, 1) := by decide +kernel
theorem dX7_counted_132 : decode cX7_counted 132 = .ok (.dup, 1) := by decide +kernel
theorem dX7_counted_133 : decode cX7_counted 133 = .ok (.iconst 3, 1) := by decide +kernel
theorem dX7_counted_134 : decode cX7_counted 134 = .ok (.iload_n 3, 1) := by decide +kernel
theorem dX7_counted_135 : decode cX7_counted 135 = .ok (.iastore, 1) := by decide +kernel
theorem dX7_counted_136 : decode cX7_counted 136 = .ok (.dup, 1) := by decide +kernel
theorem dX7_counted_137 : decode cX7_counted 137 = .ok (.iconst 4, 1) := by decide +kernel
theorem dX7_counted_138 : decode cX7_counted 138 = .ok (.aload_n 0, 1) := by decide +kernel
theorem dX7_counted_139 : decode cX7_counted 139 = .ok (.invokevirtual 119, 3) := by decide +kernel
theorem dX7_counted_142 : decode cX7_counted 142 = .ok (.iastore, 1) := by decide +kernel
theorem dX7_counted_143 : decode cX7_counted 143 = .ok (.dup, 1) := by decide +kernel
theorem dX7_counted_144 : decode cX7_counted 144 = .ok (.iconst 5, 1) := by decide +kernel
theorem dX7_counted_145 : decode cX7_counted 145 = .ok (.aload_n 0, 1) := by decide +kernel
theorem dX7_counted_146 : decode cX7_counted 146 = .ok (.getfield 27, 3) := by decide +kernel
theorem dX7_counted_149 : decode cX7_counted 149 = .ok (.invokevirtual 122, 3) := by decide +kernel
theorem dX7_counted_152 : decode cX7_counted 152 = .ok (.iastore, 1) := by decide +kernel
theorem dX7_counted_153 : decode cX7_counted 153 = .ok (.dup, 1) := by decide +kernel
theorem dX7_counted_154 : decode cX7_counted 154 = .ok (.bipush 6, 2) := by decide +kernel
theorem dX7_counted_156 : decode cX7_counted 156 = .ok (.aload_n 0, 1) := by decide +kernel
theorem dX7_counted_157 : decode cX7_counted 157 = .ok (.getfield 45, 3) := by decide +kernel
theorem dX7_counted_160 : decode cX7_counted 160 = .ok (.iastore, 1) := by decide +kernel
theorem dX7_counted_161 : decode cX7_counted 161 = .ok (.dup, 1) := by decide +kernel
theorem dX7_counted_162 : decode cX7_counted 162 = .ok (.bipush 7, 2) := by decide +kernel
theorem dX7_counted_164 : decode cX7_counted 164 = .ok (.iload 4, 2) := by decide +kernel
theorem dX7_counted_166 : decode cX7_counted 166 = .ok (.iastore, 1) := by decide +kernel
theorem dX7_counted_167 : decode cX7_counted 167 = .ok (.astore 5, 2) := by decide +kernel
theorem dX7_counted_169 : decode cX7_counted 169 = .ok (.aload 5, 2) := by decide +kernel
theorem dX7_counted_171 : decode cX7_counted 171 = .ok (.iload_n 1, 1) := by decide +kernel
theorem dX7_counted_172 : decode cX7_counted 172 = .ok (.iaload, 1) := by decide +kernel
theorem dX7_counted_173 : decode cX7_counted 173 = .ok (.ireturn, 1) := by decide +kernel
theorem dX7_count_0 : decode cX7_count 0 = .ok (.aload_n 0, 1) := by decide +kernel
theorem dX7_count_1 : decode cX7_count 1 = .ok (.iconst 0, 1) := by decide +kernel
theorem dX7_count_2 : decode cX7_count 2 = .ok (.putfield 34, 3) := by decide +kernel
theorem dX7_count_5 : decode cX7_count 5 = .ok (.iload_n 1, 1) := by decide +kernel
theorem dX7_count_6 : decode cX7_count 6 = .ok (.iconst 0, 1) := by decide +kernel
theorem dX7_count_7 : decode cX7_count 7 = .ok (.bipush 7, 2) := by decide +kernel
theorem dX7_count_9 : decode cX7_count 9 = .ok (.invokestatic 38, 3) := by decide +kernel
theorem dX7_count_12 : decode cX7_count 12 = .ok (.ifCond .eq 11, 3) := by decide +kernel
theorem dX7_count_15 : decode cX7_count 15 = .ok (.aload_n 0, 1) := by decide +kernel
theorem dX7_count_16 : decode cX7_count 16 = .ok (.iload_n 1, 1) := by decide +kernel
theorem dX7_count_17 : decode cX7_count 17 = .ok (.invokevirtual 125, 3) := by decide +kernel
theorem dX7_count_20 : decode cX7_count 20 = .ok (.goto 8, 3) := by decide +kernel
theorem dX7_count_23 : decode cX7_count 23 = .ok (.aload_n 0, 1) := by decide +kernel
theorem dX7_count_24 : decode cX7_count 24 = .ok (.iconst 1, 1) := by decide +kernel
theorem dX7_count_25 : decode cX7_count 25 = .ok (.invokevirtual 58, 3) := by decide +kernel
theorem dX7_count_28 : decode cX7_count 28 = .ok (.ireturn, 1) := by decide +kernel
theorem dX7_way_0 : decode cX7_way 0 = .ok (.aload_n 0, 1) := by decide +kernel
theorem dX7_way_1 : decode cX7_way 1 = .ok (.iconst 0, 1) := by decide +kernel
theorem dX7_way_2 : decode cX7_way 2 = .ok (.putfield 34, 3) := by decide +kernel
theorem dX7_way_5 : decode cX7_way 5 = .ok (.iload_n 1, 1) := by decide +kernel
theorem dX7_way_6 : decode cX7_way 6 = .ok (.iload_n 2, 1) := by decide +kernel
theorem dX7_way_7 : decode cX7_way 7 = .ok (.invokestatic 54, 3) := by decide +kernel
theorem dX7_way_10 : decode cX7_way 10 = .ok (.ifCond .eq 12, 3) := by decide +kernel
theorem dX7_way_13 : decode cX7_way 13 = .ok (.iload_n 3, 1) := by decide +kernel
theorem dX7_way_14 : decode cX7_way 14 = .ok (.iload 4, 2) := by decide +kernel
theorem dX7_way_16 : decode cX7_way 16 = .ok (.invokestatic 54, 3) := by decide +kernel
theorem dX7_way_19 : decode cX7_way 19 = .ok (.ifCond .ne 9, 3) := by decide +kernel
theorem dX7_way_22 : decode cX7_way 22 = .ok (.aload_n 0, 1) := by decide +kernel
theorem dX7_way_23 : decode cX7_way 23 = .ok (.iconst 1, 1) := by decide +kernel
theorem dX7_way_24 : decode cX7_way 24 = .ok (.invokevirtual 58, 3) := by decide +kernel
theorem dX7_way_27 : decode cX7_way 27 = .ok (.ireturn, 1) := by decide +kernel
theorem dX7_way_28 : decode cX7_way 28 = .ok (.bipush 12, 2) := by decide +kernel
theorem dX7_way_30 : decode cX7_way 30 = .ok (.iload_n 2, 1) := by decide +kernel
theorem dX7_way_31 : decode cX7_way 31 = .ok (.imul, 1) := by decide +kernel
theorem dX7_way_32 : decode cX7_way 32 = .ok (.iload_n 1, 1) := by decide +kernel
theorem dX7_way_33 : decode cX7_way 33 = .ok (.iadd, 1) := by decide +kernel
theorem dX7_way_34 : decode cX7_way 34 = .ok (.istore 5, 2) := by decide +kernel
theorem dX7_way_36 : decode cX7_way 36 = .ok (.bipush 12, 2) := by decide +kernel
theorem dX7_way_38 : decode cX7_way 38 = .ok (.iload 4, 2) := by decide +kernel
theorem dX7_way_40 : decode cX7_way 40 = .ok (.imul, 1) := by decide +kernel
theorem dX7_way_41 : decode cX7_way 41 = .ok (.iload_n 3, 1) := by decide +kernel
theorem dX7_way_42 : decode cX7_way 42 = .ok (.iadd, 1) := by decide +kernel
theorem dX7_way_43 : decode cX7_way 43 = .ok (.istore 6, 2) := by decide +kernel
theorem dX7_way_45 : decode cX7_way 45 = .ok (.aload_n 0, 1) := by decide +kernel
theorem dX7_way_46 : decode cX7_way 46 = .ok (.getfield 27, 3) := by decide +kernel
theorem dX7_way_49 : decode cX7_way 49 = .ok (.getfield 62, 3) := by decide +kernel
theorem dX7_way_52 : decode cX7_way 52 = .ok (.iload 5, 2) := by decide +kernel
theorem dX7_way_54 : decode cX7_way 54 = .ok (.iaload, 1) := by decide +kernel
theorem dX7_way_55 : decode cX7_way 55 = .ok (.ifCond .ne 16, 3) := by decide +kernel
theorem dX7_way_58 : decode cX7_way 58 = .ok (.aload_n 0, 1) := by decide +kernel
theorem dX7_way_59 : decode cX7_way 59 = .ok (.getfield 27, 3) := by decide +kernel
theorem dX7_way_62 : decode cX7_way 62 = .ok (.getfield 62, 3) := by decide +kernel
theorem dX7_way_65 : decode cX7_way 65 = .ok (.iload 6, 2) := by decide +kernel
theorem dX7_way_67 : decode cX7_way 67 = .ok (.iaload, 1) := by decide +kernel
theorem dX7_way_68 : decode cX7_way 68 = .ok (.ifCond .eq 5, 3) := by decide +kernel
theorem dX7_way_71 : decode cX7_way 71 = .ok (.iconst (-1), 1) := by decide +kernel
theorem dX7_way_72 : decode cX7_way 72 = .ok (.ireturn, 1) := by decide +kernel
theorem dX7_way_73 : decode cX7_way 73 = .ok (.iconst 0, 1) := by decide +kernel
theorem dX7_way_74 : decode cX7_way 74 = .ok (.istore 7, 2) := by decide +kernel
theorem dX7_way_76 : decode cX7_way 76 = .ok (.iload 7, 2) := by decide +kernel
theorem dX7_way_78 : decode cX7_way 78 = .ok (.bipush 108, 2) := by decide +kernel
theorem dX7_way_80 : decode cX7_way 80 = .ok (.if_icmp .ge 19, 3) := by decide +kernel
theorem dX7_way_83 : decode cX7_way 83 = .ok (.aload_n 0, 1) := by decide +kernel
theorem dX7_way_84 : decode cX7_way 84 = .ok (.getfield 16, 3) := by decide +kernel
theorem dX7_way_87 : decode cX7_way 87 = .ok (.iload 7, 2) := by decide +kernel
theorem dX7_way_89 : decode cX7_way 89 = .ok (.sipush 9999, 3) := by decide +kernel
theorem dX7_way_92 : decode cX7_way 92 = .ok (.iastore, 1) := by decide +kernel
theorem dX7_way_93 : decode cX7_way 93 = .ok (.iinc 7 1, 3) := by decide +kernel
theorem dX7_way_96 : decode cX7_way 96 = .ok (.goto (-20), 3) := by decide +kernel
theorem dX7_way_99 : decode cX7_way 99 = .ok (.aload_n 0, 1) := by decide +kernel
theorem dX7_way_100 : decode cX7_way 100 = .ok (.getfield 16, 3) := by decide +kernel
theorem dX7_way_103 : decode cX7_way 103 = .ok (.iload 5, 2) := by decide +kernel
theorem dX7_way_105 : decode cX7_way 105 = .ok (.iconst 0, 1) := by decide +kernel
theorem dX7_way_106 : decode cX7_way 106 = .ok (.iastore, 1) := by decide +kernel
theorem dX7_way_107 : decode cX7_way 107 = .ok (.aload_n 0, 1) := by decide +kernel
theorem dX7_way_108 : decode cX7_way 108 = .ok (.getfield 19, 3) := by decide +kernel
theorem dX7_way_111 : decode cX7_way 111 = .ok (.iconst 0, 1) := by decide +kernel
theorem dX7_way_112 : decode cX7_way 112 = .ok (.iload 5, 2) := by decide +kernel
theorem dX7_way_114 : decode cX7_way 114 = .ok (.iastore, 1) := by decide +kernel
theorem dX7_way_115 : decode cX7_way 115 = .ok (.iconst 1, 1) := by decide +kernel
theorem dX7_way_116 : decode cX7_way 116 = .ok (.istore 7, 2) := by decide +kernel
theorem dX7_way_118 : decode cX7_way 118 = .ok (.iconst 0, 1) := by decide +kernel
theorem dX7_way_119 : decode cX7_way 119 = .ok (.istore 8, 2) := by decide +kernel
theorem dX7_way_121 : decode cX7_way 121 = .ok (.iload 8, 2) := by decide +kernel
theorem dX7_way_123 : decode cX7_way 123 = .ok (.iconst 4, 1) := by decide +kernel
theorem dX7_way_124 : decode cX7_way 124 = .ok (.iload 7, 2) := by decide +kernel
theorem dX7_way_126 : decode cX7_way 126 = .ok (.imul, 1) := by decide +kernel
theorem dX7_way_127 : decode cX7_way 127 = .ok (.if_icmp .ge 97, 3) := by decide +kernel
theorem dX7_way_130 : decode cX7_way 130 = .ok (.aload_n 0, 1) := by decide +kernel
theorem dX7_way_131 : decode cX7_way 131 = .ok (.getfield 19, 3) := by decide +kernel
theorem dX7_way_134 : decode cX7_way 134 = .ok (.iload 8, 2) := by decide +kernel
theorem dX7_way_136 : decode cX7_way 136 = .ok (.iconst 4, 1) := by decide +kernel
theorem dX7_way_137 : decode cX7_way 137 = .ok (.idiv, 1) := by decide +kernel
theorem dX7_way_138 : decode cX7_way 138 = .ok (.iaload, 1) := by decide +kernel
theorem dX7_way_139 : decode cX7_way 139 = .ok (.iload 8, 2) := by decide +kernel
theorem dX7_way_141 : decode cX7_way 141 = .ok (.iconst 4, 1) := by decide +kernel
theorem dX7_way_142 : decode cX7_way 142 = .ok (.irem, 1) := by decide +kernel
theorem dX7_way_143 : decode cX7_way 143 = .ok (.invokestatic 128, 3) := by decide +kernel
theorem dX7_way_146 : decode cX7_way 146 = .ok (.istore 9, 2) := by decide +kernel
theorem dX7_way_148 : decode cX7_way 148 = .ok (.iload 9, 2) := by decide +kernel
theorem dX7_way_150 : decode cX7_way 150 = .ok (.iconst (-1), 1) := by decide +kernel
theorem dX7_way_151 : decode cX7_way 151 = .ok (.if_icmp .eq 67, 3) := by decide +kernel
theorem dX7_way_154 : decode cX7_way 154 = .ok (.aload_n 0, 1) := by decide +kernel
theorem dX7_way_155 : decode cX7_way 155 = .ok (.getfield 27, 3) := by decide +kernel
theorem dX7_way_158 : decode cX7_way 158 = .ok (.getfield 62, 3) := by decide +kernel
theorem dX7_way_161 : decode cX7_way 161 = .ok (.iload 9, 2) := by decide +kernel
theorem dX7_way_163 : decode cX7_way 163 = .ok (.iaload, 1) := by decide +kernel
theorem dX7_way_164 : decode cX7_way 164 = .ok (.ifCond .ne 54, 3) := by decide +kernel
theorem dX7_way_167 : decode cX7_way 167 = .ok (.aload_n 0, 1) := by decide +kernel
theorem dX7_way_168 : decode cX7_way 168 = .ok (.getfield 16, 3) := by decide +kernel
theorem dX7_way_171 : decode cX7_way 171 = .ok (.iload 9, 2) := by decide +kernel
theorem dX7_way_173 : decode cX7_way 173 = .ok (.iaload, 1) := by decide +kernel
theorem dX7_way_174 : decode cX7_way 174 = .ok (.sipush 9999, 3) := by decide +kernel
theorem dX7_way_177 : decode cX7_way 177 = .ok (.if_icmp .ge 6, 3) := by decide +kernel
theorem dX7_way_180 : decode cX7_way 180 = .ok (.goto 38, 3) := by decide +kernel
theorem dX7_way_183 : decode cX7_way 183 = .ok (.aload_n 0, 1) := by decide +kernel
theorem dX7_way_184 : decode cX7_way 184 = .ok (.getfield 16, 3) := by decide +kernel
theorem dX7_way_187 : decode cX7_way 187 = .ok (.iload 9, 2) := by decide +kernel
theorem dX7_way_189 : decode cX7_way 189 = .ok (.aload_n 0, 1) := by decide +kernel
theorem dX7_way_190 : decode cX7_way 190 = .ok (.getfield 16, 3) := by decide +kernel
theorem dX7_way_193 : decode cX7_way 193 = .ok (.aload_n 0, 1) := by decide +kernel
theorem dX7_way_194 : decode cX7_way 194 = .ok (.getfield 19, 3) := by decide +kernel
theorem dX7_way_197 : decode cX7_way 197 = .ok (.iload 8, 2) := by decide +kernel
theorem dX7_way_199 : decode cX7_way 199 = .ok (.iconst 4, 1) := by decide +kernel
theorem dX7_way_200 : decode cX7_way 200 = .ok (.idiv, 1) := by decide +kernel
theorem dX7_way_201 : decode cX7_way 201 = .ok (.iaload, 1) := by decide +kernel
theorem dX7_way_202 : decode cX7_way 202 = .ok (.iaload, 1) := by decide +kernel
theorem dX7_way_203 : decode cX7_way 203 = .ok (.iconst 1, 1) := by decide +kernel
theorem dX7_way_204 : decode cX7_way 204 = .ok (.iadd, 1) := by decide +kernel
theorem dX7_way_205 : decode cX7_way 205 = .ok (.iastore, 1) := by decide +kernel
theorem dX7_way_206 : decode cX7_way 206 = .ok (.aload_n 0, 1) := by decide +kernel
theorem dX7_way_207 : decode cX7_way 207 = .ok (.getfield 19, 3) := by decide +kernel
theorem dX7_way_210 : decode cX7_way 210 = .ok (.iload 7, 2) := by decide +kernel
theorem dX7_way_212 : decode cX7_way 212 = .ok (.iload 9, 2) := by decide +kernel
theorem dX7_way_214 : decode cX7_way 214 = .ok (.iastore, 1) := by decide +kernel
theorem dX7_way_215 : decode cX7_way 215 = .ok (.iinc 7 1, 3) := by decide +kernel
theorem dX7_way_218 : decode cX7_way 218 = .ok (.iinc 8 1, 3) := by decide +kernel
theorem dX7_way_221 : decode cX7_way 221 = .ok (.goto (-100), 3) := by decide +kernel
theorem dX7_way_224 : decode cX7_way 224 = .ok (.aload_n 0, 1) := by decide +kernel
theorem dX7_way_225 : decode cX7_way 225 = .ok (.getfield 16, 3) := by decide +kernel
theorem dX7_way_228 : decode cX7_way 228 = .ok (.iload 6, 2) := by decide +kernel
theorem dX7_way_230 : decode cX7_way 230 = .ok (.iaload, 1) := by decide +kernel
theorem dX7_way_231 : decode cX7_way 231 = .ok (.sipush 9999, 3) := by decide +kernel
theorem dX7_way_234 : decode cX7_way 234 = .ok (.if_icmp .ne 7, 3) := by decide +kernel
theorem dX7_way_237 : decode cX7_way 237 = .ok (.iconst (-1), 1) := by decide +kernel
theorem dX7_way_238 : decode cX7_way 238 = .ok (.goto 10, 3) := by decide +kernel
theorem dX7_way_241 : decode cX7_way 241 = .ok (.aload_n 0, 1) := by decide +kernel
theorem dX7_way_242 : decode cX7_way 242 = .ok (.getfield 16, 3) := by decide +kernel
theorem dX7_way_245 : decode cX7_way 245 = .ok (.iload 6, 2) := by decide +kernel
theorem dX7_way_247 : decode cX7_way 247 = .ok (.iaload, 1) := by decide +kernel
theorem dX7_way_248 : decode cX7_way 248 = .ok (.ireturn, 1) := by decide +kernel
theorem dX7_shuts_0 : decode cX7_shuts 0 = .ok (.aload_n 0, 1) := by decide +kernel
theorem dX7_shuts_1 : decode cX7_shuts 1 = .ok (.iconst 0, 1) := by decide +kernel
theorem dX7_shuts_2 : decode cX7_shuts 2 = .ok (.putfield 34, 3) := by decide +kernel
theorem dX7_shuts_5 : decode cX7_shuts 5 = .ok (.aload_n 0, 1) := by decide +kernel
theorem dX7_shuts_6 : decode cX7_shuts 6 = .ok (.getfield 27, 3) := by decide +kernel
theorem dX7_shuts_9 : decode cX7_shuts 9 = .ok (.invokevirtual 131, 3) := by decide +kernel
theorem dX7_shuts_12 : decode cX7_shuts 12 = .ok (.ireturn, 1) := by decide +kernel
theorem dX7_pass_0 : decode cX7_pass 0 = .ok (.aload_n 0, 1) := by decide +kernel
theorem dX7_pass_1 : decode cX7_pass 1 = .ok (.iconst 0, 1) := by decide +kernel
theorem dX7_pass_2 : decode cX7_pass 2 = .ok (.putfield 34, 3) := by decide +kernel
theorem dX7_pass_5 : decode cX7_pass 5 = .ok (.iload_n 1, 1) := by decide +kernel
theorem dX7_pass_6 : decode cX7_pass 6 = .ok (.iconst 1, 1) := by decide +kernel
theorem dX7_pass_7 : decode cX7_pass 7 = .ok (.bipush 60, 2) := by decide +kernel
theorem dX7_pass_9 : decode cX7_pass 9 = .ok (.invokestatic 38, 3) := by decide +kernel
theorem dX7_pass_12 : decode cX7_pass 12 = .ok (.ifCond .ne 9, 3) := by decide +kernel
theorem dX7_pass_15 : decode cX7_pass 15 = .ok (.aload_n 0, 1) := by decide +kernel
theorem dX7_pass_16 : decode cX7_pass 16 = .ok (.iconst 1, 1) := by decide +kernel
theorem dX7_pass_17 : decode cX7_pass 17 = .ok (.invokevirtual 58, 3) := by decide +kernel
theorem dX7_pass_20 : decode cX7_pass 20 = .ok (.ireturn, 1) := by decide +kernel
theorem dX7_pass_21 : decode cX7_pass 21 = .ok (.aload_n 0, 1) := by decide +kernel
theorem dX7_pass_22 : decode cX7_pass 22 = .ok (.getfield 27, 3) := by decide +kernel
theorem dX7_pass_25 : decode cX7_pass 25 = .ok (.invokevirtual 122, 3) := by decide +kernel
theorem dX7_pass_28 : decode cX7_pass 28 = .ok (.istore_n 2, 1) := by decide +kernel
theorem dX7_pass_29 : decode cX7_pass 29 = .ok (.iconst 0, 1) := by decide +kernel
theorem dX7_pass_30 : decode cX7_pass 30 = .ok (.istore_n 3, 1) := by decide +kernel
theorem dX7_pass_31 : decode cX7_pass 31 = .ok (.iload_n 3, 1) := by decide +kernel
theorem dX7_pass_32 : decode cX7_pass 32 = .ok (.iload_n 1, 1) := by decide +kernel
theorem dX7_pass_33 : decode cX7_pass 33 = .ok (.if_icmp .ge 16, 3) := by decide +kernel
theorem dX7_pass_36 : decode cX7_pass 36 = .ok (.aload_n 0, 1) := by decide +kernel
theorem dX7_pass_37 : decode cX7_pass 37 = .ok (.getfield 27, 3) := by decide +kernel
theorem dX7_pass_40 : decode cX7_pass 40 = .ok (.invokevirtual 134, 3) := by decide +kernel
theorem dX7_pass_43 : decode cX7_pass 43 = .ok (.iinc 3 1, 3) := by decide +kernel
theorem dX7_pass_46 : decode cX7_pass 46 = .ok (.goto (-15), 3) := by decide +kernel
theorem dX7_pass_49 : decode cX7_pass 49 = .ok (.iload_n 2, 1) := by decide +kernel
theorem dX7_pass_50 : decode cX7_pass 50 = .ok (.aload_n 0, 1) := by decide +kernel
theorem dX7_pass_51 : decode cX7_pass 51 = .ok (.getfield 27, 3) := by decide +kernel
theorem dX7_pass_54 : decode cX7_pass 54 = .ok (.invokevirtual 122, 3) := by decide +kernel
theorem dX7_pass_57 : decode cX7_pass 57 = .ok (.isub, 1) := by decide +kernel
theorem dX7_pass_58 : decode cX7_pass 58 = .ok (.ireturn, 1) := by decide +kernel
theorem dX7_foresee_0 : decode cX7_foresee 0 = .ok (.aload_n 0, 1) := by decide +kernel
theorem dX7_foresee_1 : decode cX7_foresee 1 = .ok (.iconst 0, 1) := by decide +kernel
theorem dX7_foresee_2 : decode cX7_foresee 2 = .ok (.putfield 34, 3) := by decide +kernel
theorem dX7_foresee_5 : decode cX7_foresee 5 = .ok (.iload_n 1, 1) := by decide +kernel
theorem dX7_foresee_6 : decode cX7_foresee 6 = .ok (.iconst 1, 1) := by decide +kernel
theorem dX7_foresee_7 : decode cX7_foresee 7 = .ok (.bipush 60, 2) := by decide +kernel
theorem dX7_foresee_9 : decode cX7_foresee 9 = .ok (.invokestatic 38, 3) := by decide +kernel
theorem dX7_foresee_12 : decode cX7_foresee 12 = .ok (.ifCond .ne 9, 3) := by decide +kernel
theorem dX7_foresee_15 : decode cX7_foresee 15 = .ok (.aload_n 0, 1) := by decide +kernel
theorem dX7_foresee_16 : decode cX7_foresee 16 = .ok (.iconst 1, 1) := by decide +kernel
theorem dX7_foresee_17 : decode cX7_foresee 17 = .ok (.invokevirtual 58, 3) := by decide +kernel
theorem dX7_foresee_20 : decode cX7_foresee 20 = .ok (.ireturn, 1) := by decide +kernel
theorem dX7_foresee_21 : decode cX7_foresee 21 = .ok (.iload_n 2, 1) := by decide +kernel
theorem dX7_foresee_22 : decode cX7_foresee 22 = .ok (.iconst 0, 1) := by decide +kernel
theorem dX7_foresee_23 : decode cX7_foresee 23 = .ok (.iconst 2, 1) := by decide +kernel
theorem dX7_foresee_24 : decode cX7_foresee 24 = .ok (.invokestatic 38, 3) := by decide +kernel
theorem dX7_foresee_27 : decode cX7_foresee 27 = .ok (.ifCond .ne 9, 3) := by decide +kernel
theorem dX7_foresee_30 : decode cX7_foresee 30 = .ok (.aload_n 0, 1) := by decide +kernel
theorem dX7_foresee_31 : decode cX7_foresee 31 = .ok (.iconst 2, 1) := by decide +kernel
theorem dX7_foresee_32 : decode cX7_foresee 32 = .ok (.invokevirtual 58, 3) := by decide +kernel
theorem dX7_foresee_35 : decode cX7_foresee 35 = .ok (.ireturn, 1) := by decide +kernel
theorem dX7_foresee_36 : decode cX7_foresee 36 = .ok (.aload_n 0, 1) := by decide +kernel
theorem dX7_foresee_37 : decode cX7_foresee 37 = .ok (.getfield 31, 3) := by decide +kernel
theorem dX7_foresee_40 : decode cX7_foresee 40 = .ok (.aload_n 0, 1) := by decide +kernel
theorem dX7_foresee_41 : decode cX7_foresee 41 = .ok (.getfield 27, 3) := by decide +kernel
theorem dX7_foresee_44 : decode cX7_foresee 44 = .ok (.invokevirtual 137, 3) := by decide +kernel
theorem dX7_foresee_47 : decode cX7_foresee 47 = .ok (.iconst 0, 1) := by decide +kernel
theorem dX7_foresee_48 : decode cX7_foresee 48 = .ok (.istore_n 3, 1) := by decide +kernel
theorem dX7_foresee_49 : decode cX7_foresee 49 = .ok (.iload_n 3, 1) := by decide +kernel
theorem dX7_foresee_50 : decode cX7_foresee 50 = .ok (.iload_n 1, 1) := by decide +kernel
theorem dX7_foresee_51 : decode cX7_foresee 51 = .ok (.if_icmp .ge 16, 3) := by decide +kernel
theorem dX7_foresee_54 : decode cX7_foresee 54 = .ok (.aload_n 0, 1) := by decide +kernel
theorem dX7_foresee_55 : decode cX7_foresee 55 = .ok (.getfield 31, 3) := by decide +kernel
theorem dX7_foresee_58 : decode cX7_foresee 58 = .ok (.invokevirtual 134, 3) := by decide +kernel
theorem dX7_foresee_61 : decode cX7_foresee 61 = .ok (.iinc 3 1, 3) := by decide +kernel
theorem dX7_foresee_64 : decode cX7_foresee 64 = .ok (.goto (-15), 3) := by decide +kernel
theorem dX7_foresee_67 : decode cX7_foresee 67 = .ok (.iload_n 2, 1) := by decide +kernel
theorem dX7_foresee_68 : decode cX7_foresee 68 = .ok (.ifCond .ne 13, 3) := by decide +kernel
theorem dX7_foresee_71 : decode cX7_foresee 71 = .ok (.aload_n 0, 1) := by decide +kernel
theorem dX7_foresee_72 : decode cX7_foresee 72 = .ok (.getfield 31, 3) := by decide +kernel
theorem dX7_foresee_75 : decode cX7_foresee 75 = .ok (.invokevirtual 122, 3) := by decide +kernel
theorem dX7_foresee_78 : decode cX7_foresee 78 = .ok (.goto 25, 3) := by decide +kernel
theorem dX7_foresee_81 : decode cX7_foresee 81 = .ok (.iload_n 2, 1) := by decide +kernel
theorem dX7_foresee_82 : decode cX7_foresee 82 = .ok (.iconst 1, 1) := by decide +kernel
theorem dX7_foresee_83 : decode cX7_foresee 83 = .ok (.if_icmp .ne 13, 3) := by decide +kernel
theorem dX7_foresee_86 : decode cX7_foresee 86 = .ok (.aload_n 0, 1) := by decide +kernel
theorem dX7_foresee_87 : decode cX7_foresee 87 = .ok (.getfield 31, 3) := by decide +kernel
theorem dX7_foresee_90 : decode cX7_foresee 90 = .ok (.invokevirtual 115, 3) := by decide +kernel
theorem dX7_foresee_93 : decode cX7_foresee 93 = .ok (.goto 10, 3) := by decide +kernel
theorem dX7_foresee_96 : decode cX7_foresee 96 = .ok (.aload_n 0, 1) := by decide +kernel
theorem dX7_foresee_97 : decode cX7_foresee 97 = .ok (.getfield 31, 3) := by decide +kernel
theorem dX7_foresee_100 : decode cX7_foresee 100 = .ok (.invokevirtual 131, 3) := by decide +kernel
theorem dX7_foresee_103 : decode cX7_foresee 103 = .ok (.ireturn, 1) := by decide +kernel
theorem dX7_advise_0 : decode cX7_advise 0 = .ok (.aload_n 0, 1) := by decide +kernel
theorem dX7_advise_1 : decode cX7_advise 1 = .ok (.iconst 0, 1) := by decide +kernel
theorem dX7_advise_2 : decode cX7_advise 2 = .ok (.putfield 34, 3) := by decide +kernel
theorem dX7_advise_5 : decode cX7_advise 5 = .ok (.aload_n 0, 1) := by decide +kernel
theorem dX7_advise_6 : decode cX7_advise 6 = .ok (.iload_n 1, 1) := by decide +kernel
theorem dX7_advise_7 : decode cX7_advise 7 = .ok (.invokevirtual 78, 3) := by decide +kernel
theorem dX7_advise_10 : decode cX7_advise 10 = .ok (.ifCond .ne 9, 3) := by decide +kernel
theorem dX7_advise_13 : decode cX7_advise 13 = .ok (.aload_n 0, 1) := by decide +kernel
theorem dX7_advise_14 : decode cX7_advise 14 = .ok (.iconst 1, 1) := by decide +kernel
theorem dX7_advise_15 : decode cX7_advise 15 = .ok (.invokevirtual 58, 3) := by decide +kernel
theorem dX7_advise_18 : decode cX7_advise 18 = .ok (.ireturn, 1) := by decide +kernel
theorem dX7_advise_19 : decode cX7_advise 19 = .ok (.aload_n 0, 1) := by decide +kernel
theorem dX7_advise_20 : decode cX7_advise 20 = .ok (.getfield 27, 3) := by decide +kernel
theorem dX7_advise_23 : decode cX7_advise 23 = .ok (.getfield 72, 3) := by decide +kernel
theorem dX7_advise_26 : decode cX7_advise 26 = .ok (.iload_n 1, 1) := by decide +kernel
theorem dX7_advise_27 : decode cX7_advise 27 = .ok (.iaload, 1) := by decide +kernel
theorem dX7_advise_28 : decode cX7_advise 28 = .ok (.ifCond .ne 5, 3) := by decide +kernel
theorem dX7_advise_31 : decode cX7_advise 31 = .ok (.iconst (-1), 1) := by decide +kernel
theorem dX7_advise_32 : decode cX7_advise 32 = .ok (.ireturn, 1) := by decide +kernel
theorem dX7_advise_33 : decode cX7_advise 33 = .ok (.iconst (-1), 1) := by decide +kernel
theorem dX7_advise_34 : decode cX7_advise 34 = .ok (.istore_n 2, 1) := by decide +kernel
theorem dX7_advise_35 : decode cX7_advise 35 = .ok (.sipush 9999, 3) := by decide +kernel
theorem dX7_advise_38 : decode cX7_advise 38 = .ok (.istore_n 3, 1) := by decide +kernel
theorem dX7_advise_39 : decode cX7_advise 39 = .ok (.iconst 0, 1) := by decide +kernel
theorem dX7_advise_40 : decode cX7_advise 40 = .ok (.istore 4, 2) := by decide +kernel
theorem dX7_advise_42 : decode cX7_advise 42 = .ok (.iload 4, 2) := by decide +kernel
theorem dX7_advise_44 : decode cX7_advise 44 = .ok (.bipush 12, 2) := by decide +kernel
theorem dX7_advise_46 : decode cX7_advise 46 = .ok (.if_icmp .ge 75, 3) := by decide +kernel
theorem dX7_advise_49 : decode cX7_advise 49 = .ok (.aload_n 0, 1) := by decide +kernel
theorem dX7_advise_50 : decode cX7_advise 50 = .ok (.getfield 31, 3) := by decide +kernel
theorem dX7_advise_53 : decode cX7_advise 53 = .ok (.aload_n 0, 1) := by decide +kernel
theorem dX7_advise_54 : decode cX7_advise 54 = .ok (.getfield 27, 3) := by decide +kernel
theorem dX7_advise_57 : decode cX7_advise 57 = .ok (.invokevirtual 137, 3) := by decide +kernel
theorem dX7_advise_60 : decode cX7_advise 60 = .ok (.aload_n 0, 1) := by decide +kernel
theorem dX7_advise_61 : decode cX7_advise 61 = .ok (.getfield 31, 3) := by decide +kernel
theorem dX7_advise_64 : decode cX7_advise 64 = .ok (.getfield 81, 3) := by decide +kernel
theorem dX7_advise_67 : decode cX7_advise 67 = .ok (.iload_n 1, 1) := by decide +kernel
theorem dX7_advise_68 : decode cX7_advise 68 = .ok (.iconst 1, 1) := by decide +kernel
theorem dX7_advise_69 : decode cX7_advise 69 = .ok (.iastore, 1) := by decide +kernel
theorem dX7_advise_70 : decode cX7_advise 70 = .ok (.aload_n 0, 1) := by decide +kernel
theorem dX7_advise_71 : decode cX7_advise 71 = .ok (.getfield 31, 3) := by decide +kernel
theorem dX7_advise_74 : decode cX7_advise 74 = .ok (.getfield 84, 3) := by decide +kernel
theorem dX7_advise_77 : decode cX7_advise 77 = .ok (.bipush 24, 2) := by decide +kernel
theorem dX7_advise_79 : decode cX7_advise 79 = .ok (.iload_n 1, 1) := by decide +kernel
theorem dX7_advise_80 : decode cX7_advise 80 = .ok (.imul, 1) := by decide +kernel
theorem dX7_advise_81 : decode cX7_advise 81 = .ok (.iload 4, 2) := by decide +kernel
theorem dX7_advise_83 : decode cX7_advise 83 = .ok (.iastore, 1) := by decide +kernel
theorem dX7_advise_84 : decode cX7_advise 84 = .ok (.aload_n 0, 1) := by decide +kernel
theorem dX7_advise_85 : decode cX7_advise 85 = .ok (.getfield 31, 3) := by decide +kernel
theorem dX7_advise_88 : decode cX7_advise 88 = .ok (.invokevirtual 134, 3) := by decide +kernel
theorem dX7_advise_91 : decode cX7_advise 91 = .ok (.aload_n 0, 1) := by decide +kernel
theorem dX7_advise_92 : decode cX7_advise 92 = .ok (.getfield 31, 3) := by decide +kernel
theorem dX7_advise_95 : decode cX7_advise 95 = .ok (.invokevirtual 131, 3) := by decide +kernel
theorem dX7_advise_98 : decode cX7_advise 98 = .ok (.istore 5, 2) := by decide +kernel
theorem dX7_advise_100 : decode cX7_advise 100 = .ok (.iload 5, 2) := by decide +kernel
theorem dX7_advise_102 : decode cX7_advise 102 = .ok (.iload_n 3, 1) := by decide +kernel
theorem dX7_advise_103 : decode cX7_advise 103 = .ok (.if_icmp .lt 6, 3) := by decide +kernel
theorem dX7_advise_106 : decode cX7_advise 106 = .ok (.goto 9, 3) := by decide +kernel
theorem dX7_advise_109 : decode cX7_advise 109 = .ok (.iload 5, 2) := by decide +kernel
theorem dX7_advise_111 : decode cX7_advise 111 = .ok (.istore_n 3, 1) := by decide +kernel
theorem dX7_advise_112 : decode cX7_advise 112 = .ok (.iload 4, 2) := by decide +kernel
theorem dX7_advise_114 : decode cX7_advise 114 = .ok (.istore_n 2, 1) := by decide +kernel
theorem dX7_advise_115 : decode cX7_advise 115 = .ok (.iinc 4 1, 3) := by decide +kernel
theorem dX7_advise_118 : decode cX7_advise 118 = .ok (.goto (-76), 3) := by decide +kernel
theorem dX7_advise_121 : decode cX7_advise 121 = .ok (.iload_n 2, 1) := by decide +kernel
theorem dX7_advise_122 : decode cX7_advise 122 = .ok (.ireturn, 1) := by decide +kernel
theorem dX7_mean_0 : decode cX7_mean 0 = .ok (.aload_n 0, 1) := by decide +kernel
theorem dX7_mean_1 : decode cX7_mean 1 = .ok (.iconst 0, 1) := by decide +kernel
theorem dX7_mean_2 : decode cX7_mean 2 = .ok (.putfield 34, 3) := by decide +kernel
theorem dX7_mean_5 : decode cX7_mean 5 = .ok (.aload_n 0, 1) := by decide +kernel
theorem dX7_mean_6 : decode cX7_mean 6 = .ok (.invokevirtual 119, 3) := by decide +kernel
theorem dX7_mean_9 : decode cX7_mean 9 = .ok (.ifCond .ne 7, 3) := by decide +kernel
theorem dX7_mean_12 : decode cX7_mean 12 = .ok (.dconst 0, 1) := by decide +kernel
theorem dX7_mean_13 : decode cX7_mean 13 = .ok (.goto 17, 3) := by decide +kernel
theorem dX7_mean_16 : decode cX7_mean 16 = .ok (.aload_n 0, 1) := by decide +kernel
theorem dX7_mean_17 : decode cX7_mean 17 = .ok (.getfield 27, 3) := by decide +kernel
theorem dX7_mean_20 : decode cX7_mean 20 = .ok (.invokevirtual 122, 3) := by decide +kernel
theorem dX7_mean_23 : decode cX7_mean 23 = .ok (.i2d, 1) := by decide +kernel
theorem dX7_mean_24 : decode cX7_mean 24 = .ok (.aload_n 0, 1) := by decide +kernel
theorem dX7_mean_25 : decode cX7_mean 25 = .ok (.invokevirtual 119, 3) := by decide +kernel
theorem dX7_mean_28 : decode cX7_mean 28 = .ok (.i2d, 1) := by decide +kernel
theorem dX7_mean_29 : decode cX7_mean 29 = .ok (.ddiv, 1) := by decide +kernel
theorem dX7_mean_30 : decode cX7_mean 30 = .ok (.dreturn, 1) := by decide +kernel
theorem dX7_digest_0 : decode cX7_digest 0 = .ok (.aload_n 0, 1) := by decide +kernel
theorem dX7_digest_1 : decode cX7_digest 1 = .ok (.iconst 0, 1) := by decide +kernel
theorem dX7_digest_2 : decode cX7_digest 2 = .ok (.putfield 34, 3) := by decide +kernel
theorem dX7_digest_5 : decode cX7_digest 5 = .ok (.ldc2_w 141, 3) := by decide +kernel
theorem dX7_digest_8 : decode cX7_digest 8 = .ok (.lstore_n 1, 1) := by decide +kernel
theorem dX7_digest_9 : decode cX7_digest 9 = .ok (.iconst 0, 1) := by decide +kernel
theorem dX7_digest_10 : decode cX7_digest 10 = .ok (.istore_n 3, 1) := by decide +kernel
theorem dX7_digest_11 : decode cX7_digest 11 = .ok (.iload_n 3, 1) := by decide +kernel
theorem dX7_digest_12 : decode cX7_digest 12 = .ok (.bipush 7, 2) := by decide +kernel
theorem dX7_digest_14 : decode cX7_digest 14 = .ok (.if_icmp .gt 22, 3) := by decide +kernel
theorem dX7_digest_17 : decode cX7_digest 17 = .ok (.lload_n 1, 1) := by decide +kernel
theorem dX7_digest_18 : decode cX7_digest 18 = .ok (.ldc2_w 143, 3) := by decide +kernel
theorem dX7_digest_21 : decode cX7_digest 21 = .ok (.lmul, 1) := by decide +kernel
theorem dX7_digest_22 : decode cX7_digest 22 = .ok (.aload_n 0, 1) := by decide +kernel
theorem dX7_digest_23 : decode cX7_digest 23 = .ok (.iload_n 3, 1) := by decide +kernel
theorem dX7_digest_24 : decode cX7_digest 24 = .ok (.invokevirtual 125, 3) := by decide +kernel
theorem dX7_digest_27 : decode cX7_digest 27 = .ok (.i2l, 1) := by decide +kernel
theorem dX7_digest_28 : decode cX7_digest 28 = .ok (.ladd, 1) := by decide +kernel
theorem dX7_digest_29 : decode cX7_digest 29 = .ok (.lstore_n 1, 1) := by decide +kernel
theorem dX7_digest_30 : decode cX7_digest 30 = .ok (.iinc 3 1, 3) := by decide +kernel
theorem dX7_digest_33 : decode cX7_digest 33 = .ok (.goto (-22), 3) := by decide +kernel
theorem dX7_digest_36 : decode cX7_digest 36 = .ok (.iconst 0, 1) := by decide +kernel
theorem dX7_digest_37 : decode cX7_digest 37 = .ok (.istore_n 3, 1) := by decide +kernel
theorem dX7_digest_38 : decode cX7_digest 38 = .ok (.iload_n 3, 1) := by decide +kernel
theorem dX7_digest_39 : decode cX7_digest 39 = .ok (.bipush 108, 2) := by decide +kernel
theorem dX7_digest_41 : decode cX7_digest 41 = .ok (.if_icmp .ge 26, 3) := by decide +kernel
theorem dX7_digest_44 : decode cX7_digest 44 = .ok (.lload_n 1, 1) := by decide +kernel
theorem dX7_digest_45 : decode cX7_digest 45 = .ok (.ldc2_w 143, 3) := by decide +kernel
theorem dX7_digest_48 : decode cX7_digest 48 = .ok (.lmul, 1) := by decide +kernel
theorem dX7_digest_49 : decode cX7_digest 49 = .ok (.aload_n 0, 1) := by decide +kernel
theorem dX7_digest_50 : decode cX7_digest 50 = .ok (.getfield 27, 3) := by decide +kernel
theorem dX7_digest_53 : decode cX7_digest 53 = .ok (.getfield 62, 3) := by decide +kernel
theorem dX7_digest_56 : decode cX7_digest 56 = .ok (.iload_n 3, 1) := by decide +kernel
theorem dX7_digest_57 : decode cX7_digest 57 = .ok (.iaload, 1) := by decide +kernel
theorem dX7_digest_58 : decode cX7_digest 58 = .ok (.i2l, 1) := by decide +kernel
theorem dX7_digest_59 : decode cX7_digest 59 = .ok (.ladd, 1) := by decide +kernel
theorem dX7_digest_60 : decode cX7_digest 60 = .ok (.lstore_n 1, 1) := by decide +kernel
theorem dX7_digest_61 : decode cX7_digest 61 = .ok (.iinc 3 1, 3) := by decide +kernel
theorem dX7_digest_64 : decode cX7_digest 64 = .ok (.goto (-26), 3) := by decide +kernel
theorem dX7_digest_67 : decode cX7_digest 67 = .ok (.iconst 0, 1) := by decide +kernel
theorem dX7_digest_68 : decode cX7_digest 68 = .ok (.istore_n 3, 1) := by decide +kernel
theorem dX7_digest_69 : decode cX7_digest 69 = .ok (.iload_n 3, 1) := by decide +kernel
theorem dX7_digest_70 : decode cX7_digest 70 = .ok (.aload_n 0, 1) := by decide +kernel
theorem dX7_digest_71 : decode cX7_digest 71 = .ok (.getfield 42, 3) := by decide +kernel
theorem dX7_digest_74 : decode cX7_digest 74 = .ok (.if_icmp .ge 86, 3) := by decide +kernel
theorem dX7_digest_77 : decode cX7_digest 77 = .ok (.iconst 0, 1) := by decide +kernel
theorem dX7_digest_78 : decode cX7_digest 78 = .ok (.istore 4, 2) := by decide +kernel
theorem dX7_digest_80 : decode cX7_digest 80 = .ok (.iload 4, 2) := by decide +kernel
theorem dX7_digest_82 : decode cX7_digest 82 = .ok (.bipush 7, 2) := by decide +kernel
theorem dX7_digest_84 : decode cX7_digest 84 = .ok (.if_icmp .gt 24, 3) := by decide +kernel
theorem dX7_digest_87 : decode cX7_digest 87 = .ok (.lload_n 1, 1) := by decide +kernel
theorem dX7_digest_88 : decode cX7_digest 88 = .ok (.ldc2_w 143, 3) := by decide +kernel
theorem dX7_digest_91 : decode cX7_digest 91 = .ok (.lmul, 1) := by decide +kernel
theorem dX7_digest_92 : decode cX7_digest 92 = .ok (.aload_n 0, 1) := by decide +kernel
theorem dX7_digest_93 : decode cX7_digest 93 = .ok (.iload_n 3, 1) := by decide +kernel
theorem dX7_digest_94 : decode cX7_digest 94 = .ok (.iload 4, 2) := by decide +kernel
theorem dX7_digest_96 : decode cX7_digest 96 = .ok (.invokevirtual 96, 3) := by decide +kernel
theorem dX7_digest_99 : decode cX7_digest 99 = .ok (.i2l, 1) := by decide +kernel
theorem dX7_digest_100 : decode cX7_digest 100 = .ok (.ladd, 1) := by decide +kernel
theorem dX7_digest_101 : decode cX7_digest 101 = .ok (.lstore_n 1, 1) := by decide +kernel
theorem dX7_digest_102 : decode cX7_digest 102 = .ok (.iinc 4 1, 3) := by decide +kernel
theorem dX7_digest_105 : decode cX7_digest 105 = .ok (.goto (-25), 3) := by decide +kernel
theorem dX7_digest_108 : decode cX7_digest 108 = .ok (.iconst 0, 1) := by decide +kernel
theorem dX7_digest_109 : decode cX7_digest 109 = .ok (.istore 4, 2) := by decide +kernel
theorem dX7_digest_111 : decode cX7_digest 111 = .ok (.iload 4, 2) := by decide +kernel
theorem dX7_digest_113 : decode cX7_digest 113 = .ok (.aload_n 0, 1) := by decide +kernel
theorem dX7_digest_114 : decode cX7_digest 114 = .ok (.getfield 27, 3) := by decide +kernel
theorem dX7_digest_117 : decode cX7_digest 117 = .ok (.getfield 81, 3) := by decide +kernel
theorem dX7_digest_120 : decode cX7_digest 120 = .ok (.iload_n 3, 1) := by decide +kernel
theorem dX7_digest_121 : decode cX7_digest 121 = .ok (.iaload, 1) := by decide +kernel
theorem dX7_digest_122 : decode cX7_digest 122 = .ok (.if_icmp .ge 32, 3) := by decide +kernel
theorem dX7_digest_125 : decode cX7_digest 125 = .ok (.lload_n 1, 1) := by decide +kernel
theorem dX7_digest_126 : decode cX7_digest 126 = .ok (.ldc2_w 143, 3) := by decide +kernel
theorem dX7_digest_129 : decode cX7_digest 129 = .ok (.lmul, 1) := by decide +kernel
theorem dX7_digest_130 : decode cX7_digest 130 = .ok (.aload_n 0, 1) := by decide +kernel
theorem dX7_digest_131 : decode cX7_digest 131 = .ok (.getfield 27, 3) := by decide +kernel
theorem dX7_digest_134 : decode cX7_digest 134 = .ok (.getfield 84, 3) := by decide +kernel
theorem dX7_digest_137 : decode cX7_digest 137 = .ok (.bipush 24, 2) := by decide +kernel
theorem dX7_digest_139 : decode cX7_digest 139 = .ok (.iload_n 3, 1) := by decide +kernel
theorem dX7_digest_140 : decode cX7_digest 140 = .ok (.imul, 1) := by decide +kernel
theorem dX7_digest_141 : decode cX7_digest 141 = .ok (.iload 4, 2) := by decide +kernel
theorem dX7_digest_143 : decode cX7_digest 143 = .ok (.iadd, 1) := by decide +kernel
theorem dX7_digest_144 : decode cX7_digest 144 = .ok (.iaload, 1) := by decide +kernel
theorem dX7_digest_145 : decode cX7_digest 145 = .ok (.i2l, 1) := by decide +kernel
theorem dX7_digest_146 : decode cX7_digest 146 = .ok (.ladd, 1) := by decide +kernel
theorem dX7_digest_147 : decode cX7_digest 147 = .ok (.lstore_n 1, 1) := by decide +kernel
theorem dX7_digest_148 : decode cX7_digest 148 = .ok (.iinc 4 1, 3) := by decide +kernel
theorem dX7_digest_151 : decode cX7_digest 151 = .ok (.goto (-40), 3) := by decide +kernel
theorem dX7_digest_154 : decode cX7_digest 154 = .ok (.iinc 3 1, 3) := by decide +kernel
theorem dX7_digest_157 : decode cX7_digest 157 = .ok (.goto (-88), 3) := by decide +kernel
theorem dX7_digest_160 : decode cX7_digest 160 = .ok (.iconst 0, 1) := by decide +kernel
theorem dX7_digest_161 : decode cX7_digest 161 = .ok (.istore_n 3, 1) := by decide +kernel
theorem dX7_digest_162 : decode cX7_digest 162 = .ok (.iload_n 3, 1) := by decide +kernel
theorem dX7_digest_163 : decode cX7_digest 163 = .ok (.aload_n 0, 1) := by decide +kernel
theorem dX7_digest_164 : decode cX7_digest 164 = .ok (.getfield 45, 3) := by decide +kernel
theorem dX7_digest_167 : decode cX7_digest 167 = .ok (.if_icmp .ge 39, 3) := by decide +kernel
theorem dX7_digest_170 : decode cX7_digest 170 = .ok (.iconst 0, 1) := by decide +kernel
theorem dX7_digest_171 : decode cX7_digest 171 = .ok (.istore 4, 2) := by decide +kernel
theorem dX7_digest_173 : decode cX7_digest 173 = .ok (.iload 4, 2) := by decide +kernel
theorem dX7_digest_175 : decode cX7_digest 175 = .ok (.iconst 3, 1) := by decide +kernel
theorem dX7_digest_176 : decode cX7_digest 176 = .ok (.if_icmp .gt 24, 3) := by decide +kernel
theorem dX7_digest_179 : decode cX7_digest 179 = .ok (.lload_n 1, 1) := by decide +kernel
theorem dX7_digest_180 : decode cX7_digest 180 = .ok (.ldc2_w 143, 3) := by decide +kernel
theorem dX7_digest_183 : decode cX7_digest 183 = .ok (.lmul, 1) := by decide +kernel
theorem dX7_digest_184 : decode cX7_digest 184 = .ok (.aload_n 0, 1) := by decide +kernel
theorem dX7_digest_185 : decode cX7_digest 185 = .ok (.iload_n 3, 1) := by decide +kernel
theorem dX7_digest_186 : decode cX7_digest 186 = .ok (.iload 4, 2) := by decide +kernel
theorem dX7_digest_188 : decode cX7_digest 188 = .ok (.invokevirtual 109, 3) := by decide +kernel
theorem dX7_digest_191 : decode cX7_digest 191 = .ok (.i2l, 1) := by decide +kernel
theorem dX7_digest_192 : decode cX7_digest 192 = .ok (.ladd, 1) := by decide +kernel
theorem dX7_digest_193 : decode cX7_digest 193 = .ok (.lstore_n 1, 1) := by decide +kernel
theorem dX7_digest_194 : decode cX7_digest 194 = .ok (.iinc 4 1, 3) := by decide +kernel
theorem dX7_digest_197 : decode cX7_digest 197 = .ok (.goto (-24), 3) := by decide +kernel
theorem dX7_digest_200 : decode cX7_digest 200 = .ok (.iinc 3 1, 3) := by decide +kernel
theorem dX7_digest_203 : decode cX7_digest 203 = .ok (.goto (-41), 3) := by decide +kernel
theorem dX7_digest_206 : decode cX7_digest 206 = .ok (.lload_n 1, 1) := by decide +kernel
theorem dX7_digest_207 : decode cX7_digest 207 = .ok (.lreturn, 1) := by decide +kernel
