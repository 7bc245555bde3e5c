theorem dX6_init_0 : decode cX6_init 0 = .ok (.aload_n 0, 1) := by decide +kernel
theorem dX6_init_1 : decode cX6_init 1 = .ok (.aload_n 1, 1) := by decide +kernel
theorem dX6_init_2 : decode cX6_init 2 = .ok (.putfield 3, 3) := by decide +kernel
theorem dX6_init_5 : decode cX6_init 5 = .ok (.aload_n 0, 1) := by decide +kernel
theorem dX6_init_6 : decode cX6_init 6 = .ok (.invokespecial 9, 3) := by decide +kernel
theorem dX6_init_9 : decode cX6_init 9 = .ok (.aload_n 0, 1) := by decide +kernel
theorem dX6_init_10 : decode cX6_init 10 = .ok (.bipush 108, 2) := by decide +kernel
theorem dX6_init_12 : decode cX6_init 12 = .ok (.newarray .int, 2) := by decide +kernel
theorem dX6_init_14 : decode cX6_init 14 = .ok (.putfield 15, 3) := by decide +kernel
theorem dX6_init_17 : decode cX6_init 17 = .ok (.aload_n 0, 1) := by decide +kernel
theorem dX6_init_18 : decode cX6_init 18 = .ok (.bipush 6, 2) := by decide +kernel
theorem dX6_init_20 : decode cX6_init 20 = .ok (.newarray .int, 2) := by decide +kernel
theorem dX6_init_22 : decode cX6_init 22 = .ok (.putfield 19, 3) := by decide +kernel
theorem dX6_init_25 : decode cX6_init 25 = .ok (.aload_n 0, 1) := by decide +kernel
theorem dX6_init_26 : decode cX6_init 26 = .ok (.bipush 6, 2) := by decide +kernel
theorem dX6_init_28 : decode cX6_init 28 = .ok (.newarray .int, 2) := by decide +kernel
theorem dX6_init_30 : decode cX6_init 30 = .ok (.putfield 22, 3) := by decide +kernel
theorem dX6_init_33 : decode cX6_init 33 = .ok (.aload_n 0, 1) := by decide +kernel
theorem dX6_init_34 : decode cX6_init 34 = .ok (.bipush 6, 2) := by decide +kernel
theorem dX6_init_36 : decode cX6_init 36 = .ok (.newarray .int, 2) := by decide +kernel
theorem dX6_init_38 : decode cX6_init 38 = .ok (.putfield 25, 3) := by decide +kernel
theorem dX6_init_41 : decode cX6_init 41 = .ok (.aload_n 0, 1) := by decide +kernel
theorem dX6_init_42 : decode cX6_init 42 = .ok (.bipush 6, 2) := by decide +kernel
theorem dX6_init_44 : decode cX6_init 44 = .ok (.newarray .int, 2) := by decide +kernel
theorem dX6_init_46 : decode cX6_init 46 = .ok (.putfield 28, 3) := by decide +kernel
theorem dX6_init_49 : decode cX6_init 49 = .ok (.aload_n 0, 1) := by decide +kernel
theorem dX6_init_50 : decode cX6_init 50 = .ok (.sipush 144, 3) := by decide +kernel
theorem dX6_init_53 : decode cX6_init 53 = .ok (.newarray .int, 2) := by decide +kernel
theorem dX6_init_55 : decode cX6_init 55 = .ok (.putfield 31, 3) := by decide +kernel
theorem dX6_init_58 : decode cX6_init 58 = .ok (.aload_n 0, 1) := by decide +kernel
theorem dX6_init_59 : decode cX6_init 59 = .ok (.bipush 6, 2) := by decide +kernel
theorem dX6_init_61 : decode cX6_init 61 = .ok (.newarray .int, 2) := by decide +kernel
theorem dX6_init_63 : decode cX6_init 63 = .ok (.putfield 34, 3) := by decide +kernel
theorem dX6_init_66 : decode cX6_init 66 = .ok (.aload_n 0, 1) := by decide +kernel
theorem dX6_init_67 : decode cX6_init 67 = .ok (.iconst 3, 1) := by decide +kernel
theorem dX6_init_68 : decode cX6_init 68 = .ok (.newarray .int, 2) := by decide +kernel
theorem dX6_init_70 : decode cX6_init 70 = .ok (.putfield 37, 3) := by decide +kernel
theorem dX6_init_73 : decode cX6_init 73 = .ok (.aload_n 0, 1) := by decide +kernel
theorem dX6_init_74 : decode cX6_init 74 = .ok (.iconst 3, 1) := by decide +kernel
theorem dX6_init_75 : decode cX6_init 75 = .ok (.newarray .int, 2) := by decide +kernel
theorem dX6_init_77 : decode cX6_init 77 = .ok (.putfield 40, 3) := by decide +kernel
theorem dX6_init_80 : decode cX6_init 80 = .ok (.return_, 1) := by decide +kernel
theorem dX6_copy_0 : decode cX6_copy 0 = .ok (.aload_n 1, 1) := by decide +kernel
theorem dX6_copy_1 : decode cX6_copy 1 = .ok (.iconst 0, 1) := by decide +kernel
theorem dX6_copy_2 : decode cX6_copy 2 = .ok (.aload_n 2, 1) := by decide +kernel
theorem dX6_copy_3 : decode cX6_copy 3 = .ok (.iconst 0, 1) := by decide +kernel
theorem dX6_copy_4 : decode cX6_copy 4 = .ok (.aload_n 1, 1) := by decide +kernel
theorem dX6_copy_5 : decode cX6_copy 5 = .ok (.arraylength, 1) := by decide +kernel
theorem dX6_copy_6 : decode cX6_copy 6 = .ok (.invokestatic 43, 3) := by decide +kernel
theorem dX6_copy_9 : decode cX6_copy 9 = .ok (.return_, 1) := by decide +kernel
theorem dX6_become_0 : decode cX6_become 0 = .ok (.aload_n 0, 1) := by decide +kernel
theorem dX6_become_1 : decode cX6_become 1 = .ok (.aload_n 1, 1) := by decide +kernel
theorem dX6_become_2 : decode cX6_become 2 = .ok (.getfield 49, 3) := by decide +kernel
theorem dX6_become_5 : decode cX6_become 5 = .ok (.putfield 49, 3) := by decide +kernel
theorem dX6_become_8 : decode cX6_become 8 = .ok (.aload_n 0, 1) := by decide +kernel
theorem dX6_become_9 : decode cX6_become 9 = .ok (.aload_n 1, 1) := by decide +kernel
theorem dX6_become_10 : decode cX6_become 10 = .ok (.getfield 15, 3) := by decide +kernel
theorem dX6_become_13 : decode cX6_become 13 = .ok (.aload_n 0, 1) := by decide +kernel
theorem dX6_become_14 : decode cX6_become 14 = .ok (.getfield 15, 3) := by decide +kernel
theorem dX6_become_17 : decode cX6_become 17 = .ok (.invokevirtual 53, 3) := by decide +kernel
theorem dX6_become_20 : decode cX6_become 20 = .ok (.aload_n 0, 1) := by decide +kernel
theorem dX6_become_21 : decode cX6_become 21 = .ok (.aload_n 1, 1) := by decide +kernel
theorem dX6_become_22 : decode cX6_become 22 = .ok (.getfield 19, 3) := by decide +kernel
theorem dX6_become_25 : decode cX6_become 25 = .ok (.aload_n 0, 1) := by decide +kernel
theorem dX6_become_26 : decode cX6_become 26 = .ok (.getfield 19, 3) := by decide +kernel
theorem dX6_become_29 : decode cX6_become 29 = .ok (.invokevirtual 53, 3) := by decide +kernel
theorem dX6_become_32 : decode cX6_become 32 = .ok (.aload_n 0, 1) := by decide +kernel
theorem dX6_become_33 : decode cX6_become 33 = .ok (.aload_n 1, 1) := by decide +kernel
theorem dX6_become_34 : decode cX6_become 34 = .ok (.getfield 22, 3) := by decide +kernel
theorem dX6_become_37 : decode cX6_become 37 = .ok (.aload_n 0, 1) := by decide +kernel
theorem dX6_become_38 : decode cX6_become 38 = .ok (.getfield 22, 3) := by decide +kernel
theorem dX6_become_41 : decode cX6_become 41 = .ok (.invokevirtual 53, 3) := by decide +kernel
theorem dX6_become_44 : decode cX6_become 44 = .ok (.aload_n 0, 1) := by decide +kernel
theorem dX6_become_45 : decode cX6_become 45 = .ok (.aload_n 1, 1) := by decide +kernel
theorem dX6_become_46 : decode cX6_become 46 = .ok (.getfield 25, 3) := by decide +kernel
theorem dX6_become_49 : decode cX6_become 49 = .ok (.aload_n 0, 1) := by decide +kernel
theorem dX6_become_50 : decode cX6_become 50 = .ok (.getfield 25, 3) := by decide +kernel
theorem dX6_become_53 : decode cX6_become 53 = .ok (.invokevirtual 53, 3) := by decide +kernel
theorem dX6_become_56 : decode cX6_become 56 = .ok (.aload_n 0, 1) := by decide +kernel
theorem dX6_become_57 : decode cX6_become 57 = .ok (.aload_n 1, 1) := by decide +kernel
theorem dX6_become_58 : decode cX6_become 58 = .ok (.getfield 28, 3) := by decide +kernel
theorem dX6_become_61 : decode cX6_become 61 = .ok (.aload_n 0, 1) := by decide +kernel
theorem dX6_become_62 : decode cX6_become 62 = .ok (.getfield 28, 3) := by decide +kernel
theorem dX6_become_65 : decode cX6_become 65 = .ok (.invokevirtual 53, 3) := by decide +kernel
theorem dX6_become_68 : decode cX6_become 68 = .ok (.aload_n 0, 1) := by decide +kernel
theorem dX6_become_69 : decode cX6_become 69 = .ok (.aload_n 1, 1) := by decide +kernel
theorem dX6_become_70 : decode cX6_become 70 = .ok (.getfield 31, 3) := by decide +kernel
theorem dX6_become_73 : decode cX6_become 73 = .ok (.aload_n 0, 1) := by decide +kernel
theorem dX6_become_74 : decode cX6_become 74 = .ok (.getfield 31, 3) := by decide +kernel
theorem dX6_become_77 : decode cX6_become 77 = .ok (.invokevirtual 53, 3) := by decide +kernel
theorem dX6_become_80 : decode cX6_become 80 = .ok (.aload_n 0, 1) := by decide +kernel
theorem dX6_become_81 : decode cX6_become 81 = .ok (.aload_n 1, 1) := by decide +kernel
theorem dX6_become_82 : decode cX6_become 82 = .ok (.getfield 34, 3) := by decide +kernel
theorem dX6_become_85 : decode cX6_become 85 = .ok (.aload_n 0, 1) := by decide +kernel
theorem dX6_become_86 : decode cX6_become 86 = .ok (.getfield 34, 3) := by decide +kernel
theorem dX6_become_89 : decode cX6_become 89 = .ok (.invokevirtual 53, 3) := by decide +kernel
theorem dX6_become_92 : decode cX6_become 92 = .ok (.aload_n 0, 1) := by decide +kernel
theorem dX6_become_93 : decode cX6_become 93 = .ok (.aload_n 1, 1) := by decide +kernel
theorem dX6_become_94 : decode cX6_become 94 = .ok (.getfield 37, 3) := by decide +kernel
theorem dX6_become_97 : decode cX6_become 97 = .ok (.aload_n 0, 1) := by decide +kernel
theorem dX6_become_98 : decode cX6_become 98 = .ok (.getfield 37, 3) := by decide +kernel
theorem dX6_become_101 : decode cX6_become 101 = .ok (.invokevirtual 53, 3) := by decide +kernel
theorem dX6_become_104 : decode cX6_become 104 = .ok (.aload_n 0, 1) := by decide +kernel
theorem dX6_become_105 : decode cX6_become 105 = .ok (.aload_n 1, 1) := by decide +kernel
theorem dX6_become_106 : decode cX6_become 106 = .ok (.getfield 40, 3) := by decide +kernel
theorem dX6_become_109 : decode cX6_become 109 = .ok (.aload_n 0, 1) := by decide +kernel
theorem dX6_become_110 : decode cX6_become 110 = .ok (.getfield 40, 3) := by decide +kernel
theorem dX6_become_113 : decode cX6_become 113 = .ok (.invokevirtual 53, 3) := by decide +kernel
theorem dX6_become_116 : decode cX6_become 116 = .ok (.return_, 1) := by decide +kernel
theorem dX6_isBusy_0 : decode cX6_isBusy 0 = .ok (.iconst 0, 1) := by decide +kernel
theorem dX6_isBusy_1 : decode cX6_isBusy 1 = .ok (.istore_n 2, 1) := by decide +kernel
theorem dX6_isBusy_2 : decode cX6_isBusy 2 = .ok (.iload_n 2, 1) := by decide +kernel
theorem dX6_isBusy_3 : decode cX6_isBusy 3 = .ok (.aload_n 0, 1) := by decide +kernel
theorem dX6_isBusy_4 : decode cX6_isBusy 4 = .ok (.getfield 3, 3) := by decide +kernel
theorem dX6_isBusy_7 : decode cX6_isBusy 7 = .ok (.getfield 57, 3) := by decide +kernel
theorem dX6_isBusy_10 : decode cX6_isBusy 10 = .ok (.if_icmp .ge 30, 3) := by decide +kernel
theorem dX6_isBusy_13 : decode cX6_isBusy 13 = .ok (.aload_n 0, 1) := by decide +kernel
theorem dX6_isBusy_14 : decode cX6_isBusy 14 = .ok (.getfield 22, 3) := by decide +kernel
theorem dX6_isBusy_17 : decode cX6_isBusy 17 = .ok (.iload_n 2, 1) := by decide +kernel
theorem dX6_isBusy_18 : decode cX6_isBusy 18 = .ok (.iaload, 1) := by decide +kernel
theorem dX6_isBusy_19 : decode cX6_isBusy 19 = .ok (.ifCond .le 15, 3) := by decide +kernel
theorem dX6_isBusy_22 : decode cX6_isBusy 22 = .ok (.aload_n 0, 1) := by decide +kernel
theorem dX6_isBusy_23 : decode cX6_isBusy 23 = .ok (.getfield 19, 3) := by decide +kernel
theorem dX6_isBusy_26 : decode cX6_isBusy 26 = .ok (.iload_n 2, 1) := by decide +kernel
theorem dX6_isBusy_27 : decode cX6_isBusy 27 = .ok (.iaload, 1) := by decide +kernel
theorem dX6_isBusy_28 : decode cX6_isBusy 28 = .ok (.iload_n 1, 1) := by decide +kernel
theorem dX6_isBusy_29 : decode cX6_isBusy 29 = .ok (.if_icmp .ne 5, 3) := by decide +kernel
theorem dX6_isBusy_32 : decode cX6_isBusy 32 = .ok (.iconst 1, 1) := by decide +kernel
theorem dX6_isBusy_33 : decode cX6_isBusy 33 = .ok (.ireturn, 1) := by decide +kernel
theorem dX6_isBusy_34 : decode cX6_isBusy 34 = .ok (.iinc 2 1, 3) := by decide +kernel
theorem dX6_isBusy_37 : decode cX6_isBusy 37 = .ok (.goto (-35), 3) := by decide +kernel
theorem dX6_isBusy_40 : decode cX6_isBusy 40 = .ok (.iconst 0, 1) := by decide +kernel
theorem dX6_isBusy_41 : decode cX6_isBusy 41 = .ok (.istore_n 2, 1) := by decide +kernel
theorem dX6_isBusy_42 : decode cX6_isBusy 42 = .ok (.iload_n 2, 1) := by decide +kernel
theorem dX6_isBusy_43 : decode cX6_isBusy 43 = .ok (.aload_n 0, 1) := by decide +kernel
theorem dX6_isBusy_44 : decode cX6_isBusy 44 = .ok (.getfield 3, 3) := by decide +kernel
theorem dX6_isBusy_47 : decode cX6_isBusy 47 = .ok (.getfield 60, 3) := by decide +kernel
theorem dX6_isBusy_50 : decode cX6_isBusy 50 = .ok (.if_icmp .ge 21, 3) := by decide +kernel
theorem dX6_isBusy_53 : decode cX6_isBusy 53 = .ok (.aload_n 0, 1) := by decide +kernel
theorem dX6_isBusy_54 : decode cX6_isBusy 54 = .ok (.getfield 37, 3) := by decide +kernel
theorem dX6_isBusy_57 : decode cX6_isBusy 57 = .ok (.iload_n 2, 1) := by decide +kernel
theorem dX6_isBusy_58 : decode cX6_isBusy 58 = .ok (.iaload, 1) := by decide +kernel
theorem dX6_isBusy_59 : decode cX6_isBusy 59 = .ok (.iload_n 1, 1) := by decide +kernel
theorem dX6_isBusy_60 : decode cX6_isBusy 60 = .ok (.if_icmp .ne 5, 3) := by decide +kernel
theorem dX6_isBusy_63 : decode cX6_isBusy 63 = .ok (.iconst 1, 1) := by decide +kernel
theorem dX6_isBusy_64 : decode cX6_isBusy 64 = .ok (.ireturn, 1) := by decide +kernel
theorem dX6_isBusy_65 : decode cX6_isBusy 65 = .ok (.iinc 2 1, 3) := by decide +kernel
theorem dX6_isBusy_68 : decode cX6_isBusy 68 = .ok (.goto (-26), 3) := by decide +kernel
theorem dX6_isBusy_71 : decode cX6_isBusy 71 = .ok (.iconst 0, 1) := by decide +kernel
theorem dX6_isBusy_72 : decode cX6_isBusy 72 = .ok (.ireturn, 1) := by decide +kernel
theorem dX6_isLane_0 : decode cX6_isLane 0 = .ok (.iload_n 1, 1) := by decide +kernel
theorem dX6_isLane_1 : decode cX6_isLane 1 = .ok (.iconst (-1), 1) := by decide +kernel
theorem dX6_isLane_2 : decode cX6_isLane 2 = .ok (.if_icmp .eq 17, 3) := by decide +kernel
theorem dX6_isLane_5 : decode cX6_isLane 5 = .ok (.aload_n 0, 1) := by decide +kernel
theorem dX6_isLane_6 : decode cX6_isLane 6 = .ok (.getfield 15, 3) := by decide +kernel
theorem dX6_isLane_9 : decode cX6_isLane 9 = .ok (.iload_n 1, 1) := by decide +kernel
theorem dX6_isLane_10 : decode cX6_isLane 10 = .ok (.iaload, 1) := by decide +kernel
theorem dX6_isLane_11 : decode cX6_isLane 11 = .ok (.iconst (-1), 1) := by decide +kernel
theorem dX6_isLane_12 : decode cX6_isLane 12 = .ok (.if_icmp .eq 7, 3) := by decide +kernel
theorem dX6_isLane_15 : decode cX6_isLane 15 = .ok (.iconst 1, 1) := by decide +kernel
theorem dX6_isLane_16 : decode cX6_isLane 16 = .ok (.goto 4, 3) := by decide +kernel
theorem dX6_isLane_19 : decode cX6_isLane 19 = .ok (.iconst 0, 1) := by decide +kernel
theorem dX6_isLane_20 : decode cX6_isLane 20 = .ok (.ireturn, 1) := by decide +kernel
theorem dX6_goes_0 : decode cX6_goes 0 = .ok (.aload_n 0, 1) := by decide +kernel
theorem dX6_goes_1 : decode cX6_goes 1 = .ok (.iload_n 2, 1) := by decide +kernel
theorem dX6_goes_2 : decode cX6_goes 2 = .ok (.invokevirtual 63, 3) := by decide +kernel
theorem dX6_goes_5 : decode cX6_goes 5 = .ok (.ifCond .ne 5, 3) := by decide +kernel
theorem dX6_goes_8 : decode cX6_goes 8 = .ok (.iconst 0, 1) := by decide +kernel
theorem dX6_goes_9 : decode cX6_goes 9 = .ok (.ireturn, 1) := by decide +kernel
theorem dX6_goes_10 : decode cX6_goes 10 = .ok (.aload_n 0, 1) := by decide +kernel
theorem dX6_goes_11 : decode cX6_goes 11 = .ok (.getfield 15, 3) := by decide +kernel
theorem dX6_goes_14 : decode cX6_goes 14 = .ok (.iload_n 2, 1) := by decide +kernel
theorem dX6_goes_15 : decode cX6_goes 15 = .ok (.iaload, 1) := by decide +kernel
theorem dX6_goes_16 : decode cX6_goes 16 = .ok (.istore 4, 2) := by decide +kernel
theorem dX6_goes_18 : decode cX6_goes 18 = .ok (.iload 4, 2) := by decide +kernel
theorem dX6_goes_20 : decode cX6_goes 20 = .ok (.ifCond .le 65, 3) := by decide +kernel
theorem dX6_goes_23 : decode cX6_goes 23 = .ok (.aload_n 0, 1) := by decide +kernel
theorem dX6_goes_24 : decode cX6_goes 24 = .ok (.getfield 22, 3) := by decide +kernel
theorem dX6_goes_27 : decode cX6_goes 27 = .ok (.iload_n 1, 1) := by decide +kernel
theorem dX6_goes_28 : decode cX6_goes 28 = .ok (.iaload, 1) := by decide +kernel
theorem dX6_goes_29 : decode cX6_goes 29 = .ok (.iconst 2, 1) := by decide +kernel
theorem dX6_goes_30 : decode cX6_goes 30 = .ok (.iload 4, 2) := by decide +kernel
theorem dX6_goes_32 : decode cX6_goes 32 = .ok (.imul, 1) := by decide +kernel
theorem dX6_goes_33 : decode cX6_goes 33 = .ok (.if_icmp .lt 32, 3) := by decide +kernel
theorem dX6_goes_36 : decode cX6_goes 36 = .ok (.aload_n 0, 1) := by decide +kernel
theorem dX6_goes_37 : decode cX6_goes 37 = .ok (.iload_n 3, 1) := by decide +kernel
theorem dX6_goes_38 : decode cX6_goes 38 = .ok (.invokevirtual 63, 3) := by decide +kernel
theorem dX6_goes_41 : decode cX6_goes 41 = .ok (.ifCond .eq 24, 3) := by decide +kernel
theorem dX6_goes_44 : decode cX6_goes 44 = .ok (.aload_n 0, 1) := by decide +kernel
theorem dX6_goes_45 : decode cX6_goes 45 = .ok (.getfield 15, 3) := by decide +kernel
theorem dX6_goes_48 : decode cX6_goes 48 = .ok (.iload_n 3, 1) := by decide +kernel
theorem dX6_goes_49 : decode cX6_goes 49 = .ok (.iaload, 1) := by decide +kernel
theorem dX6_goes_50 : decode cX6_goes 50 = .ok (.iconst 3, 1) := by decide +kernel
theorem dX6_goes_51 : decode cX6_goes 51 = .ok (.iload 4, 2) := by decide +kernel
theorem dX6_goes_53 : decode cX6_goes 53 = .ok (.isub, 1) := by decide +kernel
theorem dX6_goes_54 : decode cX6_goes 54 = .ok (.if_icmp .gt 11, 3) := by decide +kernel
theorem dX6_goes_57 : decode cX6_goes 57 = .ok (.aload_n 0, 1) := by decide +kernel
theorem dX6_goes_58 : decode cX6_goes 58 = .ok (.iload_n 3, 1) := by decide +kernel
theorem dX6_goes_59 : decode cX6_goes 59 = .ok (.invokevirtual 67, 3) := by decide +kernel
theorem dX6_goes_62 : decode cX6_goes 62 = .ok (.ifCond .eq 5, 3) := by decide +kernel
theorem dX6_goes_65 : decode cX6_goes 65 = .ok (.iconst 0, 1) := by decide +kernel
theorem dX6_goes_66 : decode cX6_goes 66 = .ok (.ireturn, 1) := by decide +kernel
theorem dX6_goes_67 : decode cX6_goes 67 = .ok (.aload_n 0, 1) := by decide +kernel
theorem dX6_goes_68 : decode cX6_goes 68 = .ok (.getfield 15, 3) := by decide +kernel
theorem dX6_goes_71 : decode cX6_goes 71 = .ok (.iload_n 3, 1) := by decide +kernel
theorem dX6_goes_72 : decode cX6_goes 72 = .ok (.dup2, 1) := by decide +kernel
theorem dX6_goes_73 : decode cX6_goes 73 = .ok (.iaload, 1) := by decide +kernel
theorem dX6_goes_74 : decode cX6_goes 74 = .ok (.iload 4, 2) := by decide +kernel
theorem dX6_goes_76 : decode cX6_goes 76 = .ok (.iadd, 1) := by decide +kernel
theorem dX6_goes_77 : decode cX6_goes 77 = .ok (.iastore, 1) := by decide +kernel
theorem dX6_goes_78 : decode cX6_goes 78 = .ok (.aload_n 0, 1) := by decide +kernel
theorem dX6_goes_79 : decode cX6_goes 79 = .ok (.getfield 15, 3) := by decide +kernel
theorem dX6_goes_82 : decode cX6_goes 82 = .ok (.iload_n 2, 1) := by decide +kernel
theorem dX6_goes_83 : decode cX6_goes 83 = .ok (.iconst 0, 1) := by decide +kernel
theorem dX6_goes_84 : decode cX6_goes 84 = .ok (.iastore, 1) := by decide +kernel
theorem dX6_goes_85 : decode cX6_goes 85 = .ok (.aload_n 0, 1) := by decide +kernel
theorem dX6_goes_86 : decode cX6_goes 86 = .ok (.getfield 19, 3) := by decide +kernel
theorem dX6_goes_89 : decode cX6_goes 89 = .ok (.iload_n 1, 1) := by decide +kernel
theorem dX6_goes_90 : decode cX6_goes 90 = .ok (.iload_n 2, 1) := by decide +kernel
theorem dX6_goes_91 : decode cX6_goes 91 = .ok (.iastore, 1) := by decide +kernel
theorem dX6_goes_92 : decode cX6_goes 92 = .ok (.iconst 1, 1) := by decide +kernel
theorem dX6_goes_93 : decode cX6_goes 93 = .ok (.ireturn, 1) := by decide +kernel
theorem dX6_raises_0 : decode cX6_raises 0 = .ok (.aload_n 0, 1) := by decide +kernel
theorem dX6_raises_1 : decode cX6_raises 1 = .ok (.getfield 22, 3) := by decide +kernel
theorem dX6_raises_4 : decode cX6_raises 4 = .ok (.iload_n 1, 1) := by decide +kernel
theorem dX6_raises_5 : decode cX6_raises 5 = .ok (.iaload, 1) := by decide +kernel
theorem dX6_raises_6 : decode cX6_raises 6 = .ok (.iconst 3, 1) := by decide +kernel
theorem dX6_raises_7 : decode cX6_raises 7 = .ok (.if_icmp .lt 29, 3) := by decide +kernel
theorem dX6_raises_10 : decode cX6_raises 10 = .ok (.aload_n 0, 1) := by decide +kernel
theorem dX6_raises_11 : decode cX6_raises 11 = .ok (.iload_n 2, 1) := by decide +kernel
theorem dX6_raises_12 : decode cX6_raises 12 = .ok (.invokevirtual 63, 3) := by decide +kernel
theorem dX6_raises_15 : decode cX6_raises 15 = .ok (.ifCond .eq 21, 3) := by decide +kernel
theorem dX6_raises_18 : decode cX6_raises 18 = .ok (.aload_n 0, 1) := by decide +kernel
theorem dX6_raises_19 : decode cX6_raises 19 = .ok (.getfield 15, 3) := by decide +kernel
theorem dX6_raises_22 : decode cX6_raises 22 = .ok (.iload_n 2, 1) := by decide +kernel
theorem dX6_raises_23 : decode cX6_raises 23 = .ok (.iaload, 1) := by decide +kernel
theorem dX6_raises_24 : decode cX6_raises 24 = .ok (.iconst 3, 1) := by decide +kernel
theorem dX6_raises_25 : decode cX6_raises 25 = .ok (.if_icmp .eq 11, 3) := by decide +kernel
theorem dX6_raises_28 : decode cX6_raises 28 = .ok (.aload_n 0, 1) := by decide +kernel
theorem dX6_raises_29 : decode cX6_raises 29 = .ok (.iload_n 2, 1) := by decide +kernel
theorem dX6_raises_30 : decode cX6_raises 30 = .ok (.invokevirtual 67, 3) := by decide +kernel
theorem dX6_raises_33 : decode cX6_raises 33 = .ok (.ifCond .eq 5, 3) := by decide +kernel
theorem dX6_raises_36 : decode cX6_raises 36 = .ok (.iconst 0, 1) := by decide +kernel
theorem dX6_raises_37 : decode cX6_raises 37 = .ok (.ireturn, 1) := by decide +kernel
theorem dX6_raises_38 : decode cX6_raises 38 = .ok (.aload_n 0, 1) := by decide +kernel
theorem dX6_raises_39 : decode cX6_raises 39 = .ok (.getfield 15, 3) := by decide +kernel
theorem dX6_raises_42 : decode cX6_raises 42 = .ok (.iload_n 2, 1) := by decide +kernel
theorem dX6_raises_43 : decode cX6_raises 43 = .ok (.dup2, 1) := by decide +kernel
theorem dX6_raises_44 : decode cX6_raises 44 = .ok (.iaload, 1) := by decide +kernel
theorem dX6_raises_45 : decode cX6_raises 45 = .ok (.iconst 1, 1) := by decide +kernel
theorem dX6_raises_46 : decode cX6_raises 46 = .ok (.iadd, 1) := by decide +kernel
theorem dX6_raises_47 : decode cX6_raises 47 = .ok (.iastore, 1) := by decide +kernel
theorem dX6_raises_48 : decode cX6_raises 48 = .ok (.iconst 1, 1) := by decide +kernel
theorem dX6_raises_49 : decode cX6_raises 49 = .ok (.ireturn, 1) := by decide +kernel
theorem dX6_pulls_0 : decode cX6_pulls 0 = .ok (.aload_n 0, 1) := by decide +kernel
theorem dX6_pulls_1 : decode cX6_pulls 1 = .ok (.iload_n 1, 1) := by decide +kernel
theorem dX6_pulls_2 : decode cX6_pulls 2 = .ok (.invokevirtual 63, 3) := by decide +kernel
theorem dX6_pulls_5 : decode cX6_pulls 5 = .ok (.ifCond .eq 12, 3) := by decide +kernel
theorem dX6_pulls_8 : decode cX6_pulls 8 = .ok (.aload_n 0, 1) := by decide +kernel
theorem dX6_pulls_9 : decode cX6_pulls 9 = .ok (.getfield 15, 3) := by decide +kernel
theorem dX6_pulls_12 : decode cX6_pulls 12 = .ok (.iload_n 1, 1) := by decide +kernel
theorem dX6_pulls_13 : decode cX6_pulls 13 = .ok (.iaload, 1) := by decide +kernel
theorem dX6_pulls_14 : decode cX6_pulls 14 = .ok (.ifCond .ne 5, 3) := by decide +kernel
theorem dX6_pulls_17 : decode cX6_pulls 17 = .ok (.iconst 0, 1) := by decide +kernel
theorem dX6_pulls_18 : decode cX6_pulls 18 = .ok (.ireturn, 1) := by decide +kernel
theorem dX6_pulls_19 : decode cX6_pulls 19 = .ok (.aload_n 0, 1) := by decide +kernel
theorem dX6_pulls_20 : decode cX6_pulls 20 = .ok (.getfield 15, 3) := by decide +kernel
theorem dX6_pulls_23 : decode cX6_pulls 23 = .ok (.iload_n 1, 1) := by decide +kernel
theorem dX6_pulls_24 : decode cX6_pulls 24 = .ok (.dup2, 1) := by decide +kernel
theorem dX6_pulls_25 : decode cX6_pulls 25 = .ok (.iaload, 1) := by decide +kernel
theorem dX6_pulls_26 : decode cX6_pulls 26 = .ok (.iconst 1, 1) := by decide +kernel
theorem dX6_pulls_27 : decode cX6_pulls 27 = .ok (.isub, 1) := by decide +kernel
theorem dX6_pulls_28 : decode cX6_pulls 28 = .ok (.iastore, 1) := by decide +kernel
theorem dX6_pulls_29 : decode cX6_pulls 29 = .ok (.iconst 1, 1) := by decide +kernel
theorem dX6_pulls_30 : decode cX6_pulls 30 = .ok (.ireturn, 1) := by decide +kernel
theorem dX6_carriesOut_0 : decode cX6_carriesOut 0 = .ok (.aload_n 0, 1) := by decide +kernel
theorem dX6_carriesOut_1 : decode cX6_carriesOut 1 = .ok (.getfield 19, 3) := by decide +kernel
theorem dX6_carriesOut_4 : decode cX6_carriesOut 4 = .ok (.iload_n 1, 1) := by decide +kernel
theorem dX6_carriesOut_5 : decode cX6_carriesOut 5 = .ok (.iaload, 1) := by decide +kernel
theorem dX6_carriesOut_6 : decode cX6_carriesOut 6 = .ok (.iload_n 2, 1) := by decide +kernel
theorem dX6_carriesOut_7 : decode cX6_carriesOut 7 = .ok (.iconst 4, 1) := by decide +kernel
theorem dX6_carriesOut_8 : decode cX6_carriesOut 8 = .ok (.irem, 1) := by decide +kernel
theorem dX6_carriesOut_9 : decode cX6_carriesOut 9 = .ok (.invokestatic 70, 3) := by decide +kernel
theorem dX6_carriesOut_12 : decode cX6_carriesOut 12 = .ok (.istore_n 3, 1) := by decide +kernel
theorem dX6_carriesOut_13 : decode cX6_carriesOut 13 = .ok (.iload_n 2, 1) := by decide +kernel
theorem dX6_carriesOut_14 : decode cX6_carriesOut 14 = .ok (.bipush 7, 2) := by decide +kernel
theorem dX6_carriesOut_16 : decode cX6_carriesOut 16 = .ok (.if_icmp .le 9, 3) := by decide +kernel
theorem dX6_carriesOut_19 : decode cX6_carriesOut 19 = .ok (.aload_n 0, 1) := by decide +kernel
theorem dX6_carriesOut_20 : decode cX6_carriesOut 20 = .ok (.iload_n 3, 1) := by decide +kernel
theorem dX6_carriesOut_21 : decode cX6_carriesOut 21 = .ok (.invokevirtual 74, 3) := by decide +kernel
theorem dX6_carriesOut_24 : decode cX6_carriesOut 24 = .ok (.ireturn, 1) := by decide +kernel
theorem dX6_carriesOut_25 : decode cX6_carriesOut 25 = .ok (.iload_n 2, 1) := by decide +kernel
theorem dX6_carriesOut_26 : decode cX6_carriesOut 26 = .ok (.iconst 3, 1) := by decide +kernel
theorem dX6_carriesOut_27 : decode cX6_carriesOut 27 = .ok (.if_icmp .le 12, 3) := by decide +kernel
theorem dX6_carriesOut_30 : decode cX6_carriesOut 30 = .ok (.aload_n 0, 1) := by decide +kernel
theorem dX6_carriesOut_31 : decode cX6_carriesOut 31 = .ok (.iload_n 1, 1) := by decide +kernel
theorem dX6_carriesOut_32 : decode cX6_carriesOut 32 = .ok (.iload_n 3, 1) := by decide +kernel
theorem dX6_carriesOut_33 : decode cX6_carriesOut 33 = .ok (.invokevirtual 77, 3) := by decide +kernel
theorem dX6_carriesOut_36 : decode cX6_carriesOut 36 = .ok (.goto 23, 3) := by decide +kernel
theorem dX6_carriesOut_39 : decode cX6_carriesOut 39 = .ok (.aload_n 0, 1) := by decide +kernel
theorem dX6_carriesOut_40 : decode cX6_carriesOut 40 = .ok (.iload_n 1, 1) := by decide +kernel
theorem dX6_carriesOut_41 : decode cX6_carriesOut 41 = .ok (.iload_n 3, 1) := by decide +kernel
theorem dX6_carriesOut_42 : decode cX6_carriesOut 42 = .ok (.iload_n 3, 1) := by decide +kernel
theorem dX6_carriesOut_43 : decode cX6_carriesOut 43 = .ok (.iconst (-1), 1) := by decide +kernel
theorem dX6_carriesOut_44 : decode cX6_carriesOut 44 = .ok (.if_icmp .ne 7, 3) := by decide +kernel
theorem dX6_carriesOut_47 : decode cX6_carriesOut 47 = .ok (.iconst (-1), 1) := by decide +kernel
theorem dX6_carriesOut_48 : decode cX6_carriesOut 48 = .ok (.goto 8, 3) := by decide +kernel
theorem dX6_carriesOut_51 : decode cX6_carriesOut 51 = .ok (.iload_n 3, 1) := by decide +kernel
theorem dX6_carriesOut_52 : decode cX6_carriesOut 52 = .ok (.iload_n 2, 1) := by decide +kernel
theorem dX6_carriesOut_53 : decode cX6_carriesOut 53 = .ok (.invokestatic 70, 3) := by decide +kernel
theorem dX6_carriesOut_56 : decode cX6_carriesOut 56 = .ok (.invokevirtual 81, 3) := by decide +kernel
theorem dX6_carriesOut_59 : decode cX6_carriesOut 59 = .ok (.ireturn, 1) := by decide +kernel
theorem dX6_act_0 : decode cX6_act 0 = .ok (.aload_n 0, 1) := by decide +kernel
theorem dX6_act_1 : decode cX6_act 1 = .ok (.getfield 22, 3) := by decide +kernel
theorem dX6_act_4 : decode cX6_act 4 = .ok (.iload_n 1, 1) := by decide +kernel
theorem dX6_act_5 : decode cX6_act 5 = .ok (.iaload, 1) := by decide +kernel
theorem dX6_act_6 : decode cX6_act 6 = .ok (.ifCond .eq 12, 3) := by decide +kernel
theorem dX6_act_9 : decode cX6_act 9 = .ok (.aload_n 0, 1) := by decide +kernel
theorem dX6_act_10 : decode cX6_act 10 = .ok (.getfield 28, 3) := by decide +kernel
theorem dX6_act_13 : decode cX6_act 13 = .ok (.iload_n 1, 1) := by decide +kernel
theorem dX6_act_14 : decode cX6_act 14 = .ok (.iaload, 1) := by decide +kernel
theorem dX6_act_15 : decode cX6_act 15 = .ok (.ifCond .ne 4, 3) := by decide +kernel
theorem dX6_act_18 : decode cX6_act 18 = .ok (.return_, 1) := by decide +kernel
theorem dX6_act_19 : decode cX6_act 19 = .ok (.aload_n 0, 1) := by decide +kernel
theorem dX6_act_20 : decode cX6_act 20 = .ok (.getfield 31, 3) := by decide +kernel
theorem dX6_act_23 : decode cX6_act 23 = .ok (.bipush 24, 2) := by decide +kernel
theorem dX6_act_25 : decode cX6_act 25 = .ok (.iload_n 1, 1) := by decide +kernel
theorem dX6_act_26 : decode cX6_act 26 = .ok (.imul, 1) := by decide +kernel
theorem dX6_act_27 : decode cX6_act 27 = .ok (.iaload, 1) := by decide +kernel
theorem dX6_act_28 : decode cX6_act 28 = .ok (.istore_n 2, 1) := by decide +kernel
theorem dX6_act_29 : decode cX6_act 29 = .ok (.aload_n 0, 1) := by decide +kernel
theorem dX6_act_30 : decode cX6_act 30 = .ok (.getfield 28, 3) := by decide +kernel
theorem dX6_act_33 : decode cX6_act 33 = .ok (.iload_n 1, 1) := by decide +kernel
theorem dX6_act_34 : decode cX6_act 34 = .ok (.dup2, 1) := by decide +kernel
theorem dX6_act_35 : decode cX6_act 35 = .ok (.iaload, 1) := by decide +kernel
theorem dX6_act_36 : decode cX6_act 36 = .ok (.iconst 1, 1) := by decide +kernel
theorem dX6_act_37 : decode cX6_act 37 = .ok (.isub, 1) := by decide +kernel
theorem dX6_act_38 : decode cX6_act 38 = .ok (.iastore, 1) := by decide +kernel
theorem dX6_act_39 : decode cX6_act 39 = .ok (.aload_n 0, 1) := by decide +kernel
theorem dX6_act_40 : decode cX6_act 40 = .ok (.getfield 31, 3) := by decide +kernel
theorem dX6_act_43 : decode cX6_act 43 = .ok (.bipush 24, 2) := by decide +kernel
theorem dX6_act_45 : decode cX6_act 45 = .ok (.iload_n 1, 1) := by decide +kernel
theorem dX6_act_46 : decode cX6_act 46 = .ok (.imul, 1) := by decide +kernel
theorem dX6_act_47 : decode cX6_act 47 = .ok (.iconst 1, 1) := by decide +kernel
theorem dX6_act_48 : decode cX6_act 48 = .ok (.iadd, 1) := by decide +kernel
theorem dX6_act_49 : decode cX6_act 49 = .ok (.aload_n 0, 1) := by decide +kernel
theorem dX6_act_50 : decode cX6_act 50 = .ok (.getfield 31, 3) := by decide +kernel
theorem dX6_act_53 : decode cX6_act 53 = .ok (.bipush 24, 2) := by decide +kernel
theorem dX6_act_55 : decode cX6_act 55 = .ok (.iload_n 1, 1) := by decide +kernel
theorem dX6_act_56 : decode cX6_act 56 = .ok (.imul, 1) := by decide +kernel
theorem dX6_act_57 : decode cX6_act 57 = .ok (.aload_n 0, 1) := by decide +kernel
theorem dX6_act_58 : decode cX6_act 58 = .ok (.getfield 28, 3) := by decide +kernel
theorem dX6_act_61 : decode cX6_act 61 = .ok (.iload_n 1, 1) := by decide +kernel
theorem dX6_act_62 : decode cX6_act 62 = .ok (.iaload, 1) := by decide +kernel
theorem dX6_act_63 : decode cX6_act 63 = .ok (.invokestatic 43, 3) := by decide +kernel
theorem dX6_act_66 : decode cX6_act 66 = .ok (.aload_n 0, 1) := by decide +kernel
theorem dX6_act_67 : decode cX6_act 67 = .ok (.iload_n 1, 1) := by decide +kernel
theorem dX6_act_68 : decode cX6_act 68 = .ok (.iload_n 2, 1) := by decide +kernel
theorem dX6_act_69 : decode cX6_act 69 = .ok (.invokevirtual 85, 3) := by decide +kernel
theorem dX6_act_72 : decode cX6_act 72 = .ok (.ifCond .ne 13, 3) := by decide +kernel
theorem dX6_act_75 : decode cX6_act 75 = .ok (.aload_n 0, 1) := by decide +kernel
theorem dX6_act_76 : decode cX6_act 76 = .ok (.getfield 34, 3) := by decide +kernel
theorem dX6_act_79 : decode cX6_act 79 = .ok (.iload_n 1, 1) := by decide +kernel
theorem dX6_act_80 : decode cX6_act 80 = .ok (.dup2, 1) := by decide +kernel
theorem dX6_act_81 : decode cX6_act 81 = .ok (.iaload, 1) := by decide +kernel
theorem dX6_act_82 : decode cX6_act 82 = .ok (.iconst 1, 1) := by decide +kernel
theorem dX6_act_83 : decode cX6_act 83 = .ok (.iadd, 1) := by decide +kernel
theorem dX6_act_84 : decode cX6_act 84 = .ok (.iastore, 1) := by decide +kernel
theorem dX6_act_85 : decode cX6_act 85 = .ok (.return_, 1) := by decide +kernel
theorem dX6_patrol_0 : decode cX6_patrol 0 = .ok (.aload_n 0, 1) := by decide +kernel
theorem dX6_patrol_1 : decode cX6_patrol 1 = .ok (.getfield 37, 3) := by decide +kernel
theorem dX6_patrol_4 : decode cX6_patrol 4 = .ok (.iload_n 1, 1) := by decide +kernel
theorem dX6_patrol_5 : decode cX6_patrol 5 = .ok (.iaload, 1) := by decide +kernel
theorem dX6_patrol_6 : decode cX6_patrol 6 = .ok (.aload_n 0, 1) := by decide +kernel
theorem dX6_patrol_7 : decode cX6_patrol 7 = .ok (.getfield 3, 3) := by decide +kernel
theorem dX6_patrol_10 : decode cX6_patrol 10 = .ok (.getfield 88, 3) := by decide +kernel
theorem dX6_patrol_13 : decode cX6_patrol 13 = .ok (.bipush 12, 2) := by decide +kernel
theorem dX6_patrol_15 : decode cX6_patrol 15 = .ok (.iload_n 1, 1) := by decide +kernel
theorem dX6_patrol_16 : decode cX6_patrol 16 = .ok (.imul, 1) := by decide +kernel
theorem dX6_patrol_17 : decode cX6_patrol 17 = .ok (.aload_n 0, 1) := by decide +kernel
theorem dX6_patrol_18 : decode cX6_patrol 18 = .ok (.getfield 40, 3) := by decide +kernel
theorem dX6_patrol_21 : decode cX6_patrol 21 = .ok (.iload_n 1, 1) := by decide +kernel
theorem dX6_patrol_22 : decode cX6_patrol 22 = .ok (.iaload, 1) := by decide +kernel
theorem dX6_patrol_23 : decode cX6_patrol 23 = .ok (.iadd, 1) := by decide +kernel
theorem dX6_patrol_24 : decode cX6_patrol 24 = .ok (.iaload, 1) := by decide +kernel
theorem dX6_patrol_25 : decode cX6_patrol 25 = .ok (.invokestatic 70, 3) := by decide +kernel
theorem dX6_patrol_28 : decode cX6_patrol 28 = .ok (.istore_n 2, 1) := by decide +kernel
theorem dX6_patrol_29 : decode cX6_patrol 29 = .ok (.aload_n 0, 1) := by decide +kernel
theorem dX6_patrol_30 : decode cX6_patrol 30 = .ok (.iload_n 2, 1) := by decide +kernel
theorem dX6_patrol_31 : decode cX6_patrol 31 = .ok (.invokevirtual 63, 3) := by decide +kernel
theorem dX6_patrol_34 : decode cX6_patrol 34 = .ok (.ifCond .eq 19, 3) := by decide +kernel
theorem dX6_patrol_37 : decode cX6_patrol 37 = .ok (.aload_n 0, 1) := by decide +kernel
theorem dX6_patrol_38 : decode cX6_patrol 38 = .ok (.getfield 15, 3) := by decide +kernel
theorem dX6_patrol_41 : decode cX6_patrol 41 = .ok (.iload_n 2, 1) := by decide +kernel
theorem dX6_patrol_42 : decode cX6_patrol 42 = .ok (.iaload, 1) := by decide +kernel
theorem dX6_patrol_43 : decode cX6_patrol 43 = .ok (.ifCond .ne 10, 3) := by decide +kernel
theorem dX6_patrol_46 : decode cX6_patrol 46 = .ok (.aload_n 0, 1) := by decide +kernel
theorem dX6_patrol_47 : decode cX6_patrol 47 = .ok (.getfield 37, 3) := by decide +kernel
theorem dX6_patrol_50 : decode cX6_patrol 50 = .ok (.iload_n 1, 1) := by decide +kernel
theorem dX6_patrol_51 : decode cX6_patrol 51 = .ok (.iload_n 2, 1) := by decide +kernel
theorem dX6_patrol_52 : decode cX6_patrol 52 = .ok (.iastore, 1) := by decide +kernel
theorem dX6_patrol_53 : decode cX6_patrol 53 = .ok (.aload_n 0, 1) := by decide +kernel
theorem dX6_patrol_54 : decode cX6_patrol 54 = .ok (.getfield 40, 3) := by decide +kernel
theorem dX6_patrol_57 : decode cX6_patrol 57 = .ok (.iload_n 1, 1) := by decide +kernel
theorem dX6_patrol_58 : decode cX6_patrol 58 = .ok (.aload_n 0, 1) := by decide +kernel
theorem dX6_patrol_59 : decode cX6_patrol 59 = .ok (.getfield 40, 3) := by decide +kernel
theorem dX6_patrol_62 : decode cX6_patrol 62 = .ok (.iload_n 1, 1) := by decide +kernel
theorem dX6_patrol_63 : decode cX6_patrol 63 = .ok (.iaload, 1) := by decide +kernel
theorem dX6_patrol_64 : decode cX6_patrol 64 = .ok (.iconst 1, 1) := by decide +kernel
theorem dX6_patrol_65 : decode cX6_patrol 65 = .ok (.iadd, 1) := by decide +kernel
theorem dX6_patrol_66 : decode cX6_patrol 66 = .ok (.aload_n 0, 1) := by decide +kernel
theorem dX6_patrol_67 : decode cX6_patrol 67 = .ok (.getfield 3, 3) := by decide +kernel
theorem dX6_patrol_70 : decode cX6_patrol 70 = .ok (.getfield 91, 3) := by decide +kernel
theorem dX6_patrol_73 : decode cX6_patrol 73 = .ok (.iload_n 1, 1) := by decide +kernel
theorem dX6_patrol_74 : decode cX6_patrol 74 = .ok (.iaload, 1) := by decide +kernel
theorem dX6_patrol_75 : decode cX6_patrol 75 = .ok (.irem, 1) := by decide +kernel
theorem dX6_patrol_76 : decode cX6_patrol 76 = .ok (.iastore, 1) := by decide +kernel
theorem dX6_patrol_77 : decode cX6_patrol 77 = .ok (.return_, 1) := by decide +kernel
theorem dX6_sees_0 : decode cX6_sees 0 = .ok (.aload_n 0, 1) := by decide +kernel
theorem dX6_sees_1 : decode cX6_sees 1 = .ok (.getfield 22, 3) := by decide +kernel
theorem dX6_sees_4 : decode cX6_sees 4 = .ok (.iload_n 2, 1) := by decide +kernel
theorem dX6_sees_5 : decode cX6_sees 5 = .ok (.iaload, 1) := by decide +kernel
theorem dX6_sees_6 : decode cX6_sees 6 = .ok (.ifCond .ne 5, 3) := by decide +kernel
theorem dX6_sees_9 : decode cX6_sees 9 = .ok (.iconst 0, 1) := by decide +kernel
theorem dX6_sees_10 : decode cX6_sees 10 = .ok (.ireturn, 1) := by decide +kernel
theorem dX6_sees_11 : decode cX6_sees 11 = .ok (.aload_n 0, 1) := by decide +kernel
theorem dX6_sees_12 : decode cX6_sees 12 = .ok (.getfield 19, 3) := by decide +kernel
theorem dX6_sees_15 : decode cX6_sees 15 = .ok (.iload_n 2, 1) := by decide +kernel
theorem dX6_sees_16 : decode cX6_sees 16 = .ok (.iaload, 1) := by decide +kernel
theorem dX6_sees_17 : decode cX6_sees 17 = .ok (.bipush 12, 2) := by decide +kernel
theorem dX6_sees_19 : decode cX6_sees 19 = .ok (.irem, 1) := by decide +kernel
theorem dX6_sees_20 : decode cX6_sees 20 = .ok (.aload_n 0, 1) := by decide +kernel
theorem dX6_sees_21 : decode cX6_sees 21 = .ok (.getfield 37, 3) := by decide +kernel
theorem dX6_sees_24 : decode cX6_sees 24 = .ok (.iload_n 1, 1) := by decide +kernel
theorem dX6_sees_25 : decode cX6_sees 25 = .ok (.iaload, 1) := by decide +kernel
theorem dX6_sees_26 : decode cX6_sees 26 = .ok (.bipush 12, 2) := by decide +kernel
theorem dX6_sees_28 : decode cX6_sees 28 = .ok (.irem, 1) := by decide +kernel
theorem dX6_sees_29 : decode cX6_sees 29 = .ok (.isub, 1) := by decide +kernel
theorem dX6_sees_30 : decode cX6_sees 30 = .ok (.istore_n 3, 1) := by decide +kernel
theorem dX6_sees_31 : decode cX6_sees 31 = .ok (.aload_n 0, 1) := by decide +kernel
theorem dX6_sees_32 : decode cX6_sees 32 = .ok (.getfield 19, 3) := by decide +kernel
theorem dX6_sees_35 : decode cX6_sees 35 = .ok (.iload_n 2, 1) := by decide +kernel
theorem dX6_sees_36 : decode cX6_sees 36 = .ok (.iaload, 1) := by decide +kernel
theorem dX6_sees_37 : decode cX6_sees 37 = .ok (.bipush 12, 2) := by decide +kernel
theorem dX6_sees_39 : decode cX6_sees 39 = .ok (.idiv, 1) := by decide +kernel
theorem dX6_sees_40 : decode cX6_sees 40 = .ok (.aload_n 0, 1) := by decide +kernel
theorem dX6_sees_41 : decode cX6_sees 41 = .ok (.getfield 37, 3) := by decide +kernel
theorem dX6_sees_44 : decode cX6_sees 44 = .ok (.iload_n 1, 1) := by decide +kernel
theorem dX6_sees_45 : decode cX6_sees 45 = .ok (.iaload, 1) := by decide +kernel
theorem dX6_sees_46 : decode cX6_sees 46 = .ok (.bipush 12, 2) := by decide +kernel
theorem dX6_sees_48 : decode cX6_sees 48 = .ok (.idiv, 1) := by decide +kernel
theorem dX6_sees_49 : decode cX6_sees 49 = .ok (.isub, 1) := by decide +kernel
theorem dX6_sees_50 : decode cX6_sees 50 = .ok (.istore 4, 2) := by decide +kernel
theorem dX6_sees_52 : decode cX6_sees 52 = .ok (.iload_n 3, 1) := by decide +kernel
theorem dX6_sees_53 : decode cX6_sees 53 = .ok (.invokestatic 94, 3) := by decide +kernel
theorem dX6_sees_56 : decode cX6_sees 56 = .ok (.iload 4, 2) := by decide +kernel
theorem dX6_sees_58 : decode cX6_sees 58 = .ok (.invokestatic 94, 3) := by decide +kernel
theorem dX6_sees_61 : decode cX6_sees 61 = .ok (.iadd, 1) := by decide +kernel
theorem dX6_sees_62 : decode cX6_sees 62 = .ok (.istore 5, 2) := by decide +kernel
theorem dX6_sees_64 : decode cX6_sees 64 = .ok (.iload_n 3, 1) := by decide +kernel
theorem dX6_sees_65 : decode cX6_sees 65 = .ok (.ifCond .eq 8, 3) := by decide +kernel
theorem dX6_sees_68 : decode cX6_sees 68 = .ok (.iload 4, 2) := by decide +kernel
theorem dX6_sees_70 : decode cX6_sees 70 = .ok (.ifCond .ne 23, 3) := by decide +kernel
theorem dX6_sees_73 : decode cX6_sees 73 = .ok (.iload 5, 2) := by decide +kernel
theorem dX6_sees_75 : decode cX6_sees 75 = .ok (.aload_n 0, 1) := by decide +kernel
theorem dX6_sees_76 : decode cX6_sees 76 = .ok (.getfield 25, 3) := by decide +kernel
theorem dX6_sees_79 : decode cX6_sees 79 = .ok (.iload_n 2, 1) := by decide +kernel
theorem dX6_sees_80 : decode cX6_sees 80 = .ok (.iaload, 1) := by decide +kernel
theorem dX6_sees_81 : decode cX6_sees 81 = .ok (.iconst 1, 1) := by decide +kernel
theorem dX6_sees_82 : decode cX6_sees 82 = .ok (.if_icmp .ne 7, 3) := by decide +kernel
theorem dX6_sees_85 : decode cX6_sees 85 = .ok (.iconst 4, 1) := by decide +kernel
theorem dX6_sees_86 : decode cX6_sees 86 = .ok (.goto 4, 3) := by decide +kernel
theorem dX6_sees_89 : decode cX6_sees 89 = .ok (.iconst 1, 1) := by decide +kernel
theorem dX6_sees_90 : decode cX6_sees 90 = .ok (.if_icmp .le 5, 3) := by decide +kernel
theorem dX6_sees_93 : decode cX6_sees 93 = .ok (.iconst 0, 1) := by decide +kernel
theorem dX6_sees_94 : decode cX6_sees 94 = .ok (.ireturn, 1) := by decide +kernel
theorem dX6_sees_95 : decode cX6_sees 95 = .ok (.iload_n 3, 1) := by decide +kernel
theorem dX6_sees_96 : decode cX6_sees 96 = .ok (.invokestatic 100, 3) := by decide +kernel
theorem dX6_sees_99 : decode cX6_sees 99 = .ok (.bipush 12, 2) := by decide +kernel
theorem dX6_sees_101 : decode cX6_sees 101 = .ok (.iload 4, 2) := by decide +kernel
theorem dX6_sees_103 : decode cX6_sees 103 = .ok (.invokestatic 100, 3) := by decide +kernel
theorem dX6_sees_106 : decode cX6_sees 106 = .ok (.imul, 1) := by decide +kernel
theorem dX6_sees_107 : decode cX6_sees 107 = .ok (.iadd, 1) := by decide +kernel
theorem dX6_sees_108 : decode cX6_sees 108 = .ok (.istore 6, 2) := by decide +kernel
theorem dX6_sees_110 : decode cX6_sees 110 = .ok (.iconst 1, 1) := by decide +kernel
theorem dX6_sees_111 : decode cX6_sees 111 = .ok (.istore 7, 2) := by decide +kernel
theorem dX6_sees_113 : decode cX6_sees 113 = .ok (.iload 7, 2) := by decide +kernel
theorem dX6_sees_115 : decode cX6_sees 115 = .ok (.iload 5, 2) := by decide +kernel
theorem dX6_sees_117 : decode cX6_sees 117 = .ok (.if_icmp .ge 31, 3) := by decide +kernel
theorem dX6_sees_120 : decode cX6_sees 120 = .ok (.aload_n 0, 1) := by decide +kernel
theorem dX6_sees_121 : decode cX6_sees 121 = .ok (.getfield 15, 3) := by decide +kernel
theorem dX6_sees_124 : decode cX6_sees 124 = .ok (.aload_n 0, 1) := by decide +kernel
theorem dX6_sees_125 : decode cX6_sees 125 = .ok (.getfield 37, 3) := by decide +kernel
theorem dX6_sees_128 : decode cX6_sees 128 = .ok (.iload_n 1, 1) := by decide +kernel
theorem dX6_sees_129 : decode cX6_sees 129 = .ok (.iaload, 1) := by decide +kernel
theorem dX6_sees_130 : decode cX6_sees 130 = .ok (.iload 7, 2) := by decide +kernel
theorem dX6_sees_132 : decode cX6_sees 132 = .ok (.iload 6, 2) := by decide +kernel
theorem dX6_sees_134 : decode cX6_sees 134 = .ok (.imul, 1) := by decide +kernel
theorem dX6_sees_135 : decode cX6_sees 135 = .ok (.iadd, 1) := by decide +kernel
theorem dX6_sees_136 : decode cX6_sees 136 = .ok (.iaload, 1) := by decide +kernel
theorem dX6_sees_137 : decode cX6_sees 137 = .ok (.ifCond .eq 5, 3) := by decide +kernel
theorem dX6_sees_140 : decode cX6_sees 140 = .ok (.iconst 0, 1) := by decide +kernel
theorem dX6_sees_141 : decode cX6_sees 141 = .ok (.ireturn, 1) := by decide +kernel
theorem dX6_sees_142 : decode cX6_sees 142 = .ok (.iinc 7 1, 3) := by decide +kernel
theorem dX6_sees_145 : decode cX6_sees 145 = .ok (.goto (-32), 3) := by decide +kernel
theorem dX6_sees_148 : decode cX6_sees 148 = .ok (.iconst 1, 1) := by decide +kernel
theorem dX6_sees_149 : decode cX6_sees 149 = .ok (.ireturn, 1) := by decide +kernel
theorem dX6_seenBy_0 : decode cX6_seenBy 0 = .ok (.iconst 0, 1) := by decide +kernel
theorem dX6_seenBy_1 : decode cX6_seenBy 1 = .ok (.istore_n 2, 1) := by decide +kernel
theorem dX6_seenBy_2 : decode cX6_seenBy 2 = .ok (.iconst 0, 1) := by decide +kernel
theorem dX6_seenBy_3 : decode cX6_seenBy 3 = .ok (.istore_n 3, 1) := by decide +kernel
theorem dX6_seenBy_4 : decode cX6_seenBy 4 = .ok (.iload_n 3, 1) := by decide +kernel
theorem dX6_seenBy_5 : decode cX6_seenBy 5 = .ok (.aload_n 0, 1) := by decide +kernel
theorem dX6_seenBy_6 : decode cX6_seenBy 6 = .ok (.getfield 3, 3) := by decide +kernel
theorem dX6_seenBy_9 : decode cX6_seenBy 9 = .ok (.getfield 60, 3) := by decide +kernel
theorem dX6_seenBy_12 : decode cX6_seenBy 12 = .ok (.if_icmp .ge 26, 3) := by decide +kernel
theorem dX6_seenBy_15 : decode cX6_seenBy 15 = .ok (.iload_n 2, 1) := by decide +kernel
theorem dX6_seenBy_16 : decode cX6_seenBy 16 = .ok (.aload_n 0, 1) := by decide +kernel
theorem dX6_seenBy_17 : decode cX6_seenBy 17 = .ok (.iload_n 3, 1) := by decide +kernel
theorem dX6_seenBy_18 : decode cX6_seenBy 18 = .ok (.iload_n 1, 1) := by decide +kernel
theorem dX6_seenBy_19 : decode cX6_seenBy 19 = .ok (.invokevirtual 105, 3) := by decide +kernel
theorem dX6_seenBy_22 : decode cX6_seenBy 22 = .ok (.ifCond .eq 7, 3) := by decide +kernel
theorem dX6_seenBy_25 : decode cX6_seenBy 25 = .ok (.iconst 1, 1) := by decide +kernel
theorem dX6_seenBy_26 : decode cX6_seenBy 26 = .ok (.goto 4, 3) := by decide +kernel
theorem dX6_seenBy_29 : decode cX6_seenBy 29 = .ok (.iconst 0, 1) := by decide +kernel
theorem dX6_seenBy_30 : decode cX6_seenBy 30 = .ok (.iadd, 1) := by decide +kernel
theorem dX6_seenBy_31 : decode cX6_seenBy 31 = .ok (.istore_n 2, 1) := by decide +kernel
theorem dX6_seenBy_32 : decode cX6_seenBy 32 = .ok (.iinc 3 1, 3) := by decide +kernel
theorem dX6_seenBy_35 : decode cX6_seenBy 35 = .ok (.goto (-31), 3) := by decide +kernel
theorem dX6_seenBy_38 : decode cX6_seenBy 38 = .ok (.iload_n 2, 1) := by decide +kernel
theorem dX6_seenBy_39 : decode cX6_seenBy 39 = .ok (.ireturn, 1) := by decide +kernel
theorem dX6_pass_0 : decode cX6_pass 0 = .ok (.iconst 0, 1) := by decide +kernel
theorem dX6_pass_1 : decode cX6_pass 1 = .ok (.istore_n 1, 1) := by decide +kernel
theorem dX6_pass_2 : decode cX6_pass 2 = .ok (.iload_n 1, 1) := by decide +kernel
theorem dX6_pass_3 : decode cX6_pass 3 = .ok (.aload_n 0, 1) := by decide +kernel
theorem dX6_pass_4 : decode cX6_pass 4 = .ok (.getfield 3, 3) := by decide +kernel
theorem dX6_pass_7 : decode cX6_pass 7 = .ok (.getfield 57, 3) := by decide +kernel
theorem dX6_pass_10 : decode cX6_pass 10 = .ok (.if_icmp .ge 14, 3) := by decide +kernel
theorem dX6_pass_13 : decode cX6_pass 13 = .ok (.aload_n 0, 1) := by decide +kernel
theorem dX6_pass_14 : decode cX6_pass 14 = .ok (.iload_n 1, 1) := by decide +kernel
theorem dX6_pass_15 : decode cX6_pass 15 = .ok (.invokevirtual 108, 3) := by decide +kernel
theorem dX6_pass_18 : decode cX6_pass 18 = .ok (.iinc 1 1, 3) := by decide +kernel
theorem dX6_pass_21 : decode cX6_pass 21 = .ok (.goto (-19), 3) := by decide +kernel
theorem dX6_pass_24 : decode cX6_pass 24 = .ok (.iconst 0, 1) := by decide +kernel
theorem dX6_pass_25 : decode cX6_pass 25 = .ok (.istore_n 1, 1) := by decide +kernel
theorem dX6_pass_26 : decode cX6_pass 26 = .ok (.iload_n 1, 1) := by decide +kernel
theorem dX6_pass_27 : decode cX6_pass 27 = .ok (.aload_n 0, 1) := by decide +kernel
theorem dX6_pass_28 : decode cX6_pass 28 = .ok (.getfield 3, 3) := by decide +kernel
theorem dX6_pass_31 : decode cX6_pass 31 = .ok (.getfield 60, 3) := by decide +kernel
theorem dX6_pass_34 : decode cX6_pass 34 = .ok (.if_icmp .ge 14, 3) := by decide +kernel
theorem dX6_pass_37 : decode cX6_pass 37 = .ok (.aload_n 0, 1) := by decide +kernel
theorem dX6_pass_38 : decode cX6_pass 38 = .ok (.iload_n 1, 1) := by decide +kernel
theorem dX6_pass_39 : decode cX6_pass 39 = .ok (.invokevirtual 112, 3) := by decide +kernel
theorem dX6_pass_42 : decode cX6_pass 42 = .ok (.iinc 1 1, 3) := by decide +kernel
theorem dX6_pass_45 : decode cX6_pass 45 = .ok (.goto (-19), 3) := by decide +kernel
theorem dX6_pass_48 : decode cX6_pass 48 = .ok (.iconst 0, 1) := by decide +kernel
theorem dX6_pass_49 : decode cX6_pass 49 = .ok (.istore_n 1, 1) := by decide +kernel
theorem dX6_pass_50 : decode cX6_pass 50 = .ok (.iload_n 1, 1) := by decide +kernel
theorem dX6_pass_51 : decode cX6_pass 51 = .ok (.aload_n 0, 1) := by decide +kernel
theorem dX6_pass_52 : decode cX6_pass 52 = .ok (.getfield 3, 3) := by decide +kernel
theorem dX6_pass_55 : decode cX6_pass 55 = .ok (.getfield 57, 3) := by decide +kernel
theorem dX6_pass_58 : decode cX6_pass 58 = .ok (.if_icmp .ge 31, 3) := by decide +kernel
theorem dX6_pass_61 : decode cX6_pass 61 = .ok (.aload_n 0, 1) := by decide +kernel
theorem dX6_pass_62 : decode cX6_pass 62 = .ok (.getfield 22, 3) := by decide +kernel
theorem dX6_pass_65 : decode cX6_pass 65 = .ok (.iload_n 1, 1) := by decide +kernel
theorem dX6_pass_66 : decode cX6_pass 66 = .ok (.iconst 0, 1) := by decide +kernel
theorem dX6_pass_67 : decode cX6_pass 67 = .ok (.aload_n 0, 1) := by decide +kernel
theorem dX6_pass_68 : decode cX6_pass 68 = .ok (.getfield 22, 3) := by decide +kernel
theorem dX6_pass_71 : decode cX6_pass 71 = .ok (.iload_n 1, 1) := by decide +kernel
theorem dX6_pass_72 : decode cX6_pass 72 = .ok (.iaload, 1) := by decide +kernel
theorem dX6_pass_73 : decode cX6_pass 73 = .ok (.aload_n 0, 1) := by decide +kernel
theorem dX6_pass_74 : decode cX6_pass 74 = .ok (.iload_n 1, 1) := by decide +kernel
theorem dX6_pass_75 : decode cX6_pass 75 = .ok (.invokevirtual 115, 3) := by decide +kernel
theorem dX6_pass_78 : decode cX6_pass 78 = .ok (.isub, 1) := by decide +kernel
theorem dX6_pass_79 : decode cX6_pass 79 = .ok (.invokestatic 118, 3) := by decide +kernel
theorem dX6_pass_82 : decode cX6_pass 82 = .ok (.iastore, 1) := by decide +kernel
theorem dX6_pass_83 : decode cX6_pass 83 = .ok (.iinc 1 1, 3) := by decide +kernel
theorem dX6_pass_86 : decode cX6_pass 86 = .ok (.goto (-36), 3) := by decide +kernel
theorem dX6_pass_89 : decode cX6_pass 89 = .ok (.aload_n 0, 1) := by decide +kernel
theorem dX6_pass_90 : decode cX6_pass 90 = .ok (.dup, 1) := by decide +kernel
theorem dX6_pass_91 : decode cX6_pass 91 = .ok (.getfield 49, 3) := by decide +kernel
theorem dX6_pass_94 : decode cX6_pass 94 = .ok (.iconst 1, 1) := by decide +kernel
theorem dX6_pass_95 : decode cX6_pass 95 = .ok (.iadd, 1) := by decide +kernel
theorem dX6_pass_96 : decode cX6_pass 96 = .ok (.putfield 49, 3) := by decide +kernel
theorem dX6_pass_99 : decode cX6_pass 99 = .ok (.return_, 1) := by decide +kernel
theorem dX6_allPeople_0 : decode cX6_allPeople 0 = .ok (.iconst 0, 1) := by decide +kernel
theorem dX6_allPeople_1 : decode cX6_allPeople 1 = .ok (.istore_n 1, 1) := by decide +kernel
theorem dX6_allPeople_2 : decode cX6_allPeople 2 = .ok (.iconst 0, 1) := by decide +kernel
theorem dX6_allPeople_3 : decode cX6_allPeople 3 = .ok (.istore_n 2, 1) := by decide +kernel
theorem dX6_allPeople_4 : decode cX6_allPeople 4 = .ok (.iload_n 2, 1) := by decide +kernel
theorem dX6_allPeople_5 : decode cX6_allPeople 5 = .ok (.aload_n 0, 1) := by decide +kernel
theorem dX6_allPeople_6 : decode cX6_allPeople 6 = .ok (.getfield 3, 3) := by decide +kernel
theorem dX6_allPeople_9 : decode cX6_allPeople 9 = .ok (.getfield 57, 3) := by decide +kernel
theorem dX6_allPeople_12 : decode cX6_allPeople 12 = .ok (.if_icmp .ge 18, 3) := by decide +kernel
theorem dX6_allPeople_15 : decode cX6_allPeople 15 = .ok (.iload_n 1, 1) := by decide +kernel
theorem dX6_allPeople_16 : decode cX6_allPeople 16 = .ok (.aload_n 0, 1) := by decide +kernel
theorem dX6_allPeople_17 : decode cX6_allPeople 17 = .ok (.getfield 22, 3) := by decide +kernel
theorem dX6_allPeople_20 : decode cX6_allPeople 20 = .ok (.iload_n 2, 1) := by decide +kernel
theorem dX6_allPeople_21 : decode cX6_allPeople 21 = .ok (.iaload, 1) := by decide +kernel
theorem dX6_allPeople_22 : decode cX6_allPeople 22 = .ok (.iadd, 1) := by decide +kernel
theorem dX6_allPeople_23 : decode cX6_allPeople 23 = .ok (.istore_n 1, 1) := by decide +kernel
theorem dX6_allPeople_24 : decode cX6_allPeople 24 = .ok (.iinc 2 1, 3) := by decide +kernel
theorem dX6_allPeople_27 : decode cX6_allPeople 27 = .ok (.goto (-23), 3) := by decide +kernel
theorem dX6_allPeople_30 : decode cX6_allPeople 30 = .ok (.iload_n 1, 1) := by decide +kernel
theorem dX6_allPeople_31 : decode cX6_allPeople 31 = .ok (.ireturn, 1) := by decide +kernel
theorem dX6_barricades_0 : decode cX6_barricades 0 = .ok (.iconst 0, 1) := by decide +kernel
theorem dX6_barricades_1 : decode cX6_barricades 1 = .ok (.istore_n 1, 1) := by decide +kernel
theorem dX6_barricades_2 : decode cX6_barricades 2 = .ok (.aload_n 0, 1) := by decide +kernel
theorem dX6_barricades_3 : decode cX6_barricades 3 = .ok (.getfield 15, 3) := by decide +kernel
theorem dX6_barricades_6 : decode cX6_barricades 6 = .ok (.astore_n 2, 1) := by decide +kernel
theorem dX6_barricades_7 : decode cX6_barricades 7 = .ok (.aload_n 2, 1) := by decide +kernel
theorem dX6_barricades_8 : decode cX6_barricades 8 = .ok (.arraylength, 1) := by decide +kernel
theorem dX6_barricades_9 : decode cX6_barricades 9 = .ok (.istore_n 3, 1) := by decide +kernel
theorem dX6_barricades_10 : decode cX6_barricades 10 = .ok (.iconst 0, 1) := by decide +kernel
theorem dX6_barricades_11 : decode cX6_barricades 11 = .ok (.istore 4, 2) := by decide +kernel
theorem dX6_barricades_13 : decode cX6_barricades 13 = .ok (.iload 4, 2) := by decide +kernel
theorem dX6_barricades_15 : decode cX6_barricades 15 = .ok (.iload_n 3, 1) := by decide +kernel
theorem dX6_barricades_16 : decode cX6_barricades 16 = .ok (.if_icmp .ge 24, 3) := by decide +kernel
theorem dX6_barricades_19 : decode cX6_barricades 19 = .ok (.aload_n 2, 1) := by decide +kernel
theorem dX6_barricades_20 : decode cX6_barricades 20 = .ok (.iload 4, 2) := by decide +kernel
theorem dX6_barricades_22 : decode cX6_barricades 22 = .ok (.iaload, 1) := by decide +kernel
theorem dX6_barricades_23 : decode cX6_barricades 23 = .ok (.istore 5, 2) := by decide +kernel
theorem dX6_barricades_25 : decode cX6_barricades 25 = .ok (.iload_n 1, 1) := by decide +kernel
theorem dX6_barricades_26 : decode cX6_barricades 26 = .ok (.iconst 0, 1) := by decide +kernel
theorem dX6_barricades_27 : decode cX6_barricades 27 = .ok (.iload 5, 2) := by decide +kernel
theorem dX6_barricades_29 : decode cX6_barricades 29 = .ok (.invokestatic 118, 3) := by decide +kernel
theorem dX6_barricades_32 : decode cX6_barricades 32 = .ok (.iadd, 1) := by decide +kernel
theorem dX6_barricades_33 : decode cX6_barricades 33 = .ok (.istore_n 1, 1) := by decide +kernel
theorem dX6_barricades_34 : decode cX6_barricades 34 = .ok (.iinc 4 1, 3) := by decide +kernel
theorem dX6_barricades_37 : decode cX6_barricades 37 = .ok (.goto (-24), 3) := by decide +kernel
theorem dX6_barricades_40 : decode cX6_barricades 40 = .ok (.iload_n 1, 1) := by decide +kernel
theorem dX6_barricades_41 : decode cX6_barricades 41 = .ok (.ireturn, 1) := by decide +kernel
theorem dX6_shuts_0 : decode cX6_shuts 0 = .ok (.iconst 0, 1) := by decide +kernel
theorem dX6_shuts_1 : decode cX6_shuts 1 = .ok (.istore_n 1, 1) := by decide +kernel
theorem dX6_shuts_2 : decode cX6_shuts 2 = .ok (.iload_n 1, 1) := by decide +kernel
theorem dX6_shuts_3 : decode cX6_shuts 3 = .ok (.bipush 108, 2) := by decide +kernel
theorem dX6_shuts_5 : decode cX6_shuts 5 = .ok (.if_icmp .ge 35, 3) := by decide +kernel
theorem dX6_shuts_8 : decode cX6_shuts 8 = .ok (.aload_n 0, 1) := by decide +kernel
theorem dX6_shuts_9 : decode cX6_shuts 9 = .ok (.getfield 3, 3) := by decide +kernel
theorem dX6_shuts_12 : decode cX6_shuts 12 = .ok (.getfield 121, 3) := by decide +kernel
theorem dX6_shuts_15 : decode cX6_shuts 15 = .ok (.iload_n 1, 1) := by decide +kernel
theorem dX6_shuts_16 : decode cX6_shuts 16 = .ok (.iload_n 1, 1) := by decide +kernel
theorem dX6_shuts_17 : decode cX6_shuts 17 = .ok (.bipush 12, 2) := by decide +kernel
theorem dX6_shuts_19 : decode cX6_shuts 19 = .ok (.if_icmp .ge 11, 3) := by decide +kernel
theorem dX6_shuts_22 : decode cX6_shuts 22 = .ok (.aload_n 0, 1) := by decide +kernel
theorem dX6_shuts_23 : decode cX6_shuts 23 = .ok (.iload_n 1, 1) := by decide +kernel
theorem dX6_shuts_24 : decode cX6_shuts 24 = .ok (.invokevirtual 124, 3) := by decide +kernel
theorem dX6_shuts_27 : decode cX6_shuts 27 = .ok (.goto 6, 3) := by decide +kernel
theorem dX6_shuts_30 : decode cX6_shuts 30 = .ok (.sipush 9999, 3) := by decide +kernel
theorem dX6_shuts_33 : decode cX6_shuts 33 = .ok (.iastore, 1) := by decide +kernel
theorem dX6_shuts_34 : decode cX6_shuts 34 = .ok (.iinc 1 1, 3) := by decide +kernel
theorem dX6_shuts_37 : decode cX6_shuts 37 = .ok (.goto (-35), 3) := by decide +kernel
theorem dX6_shuts_40 : decode cX6_shuts 40 = .ok (.iconst 1, 1) := by decide +kernel
theorem dX6_shuts_41 : decode cX6_shuts 41 = .ok (.istore_n 1, 1) := by decide +kernel
theorem dX6_shuts_42 : decode cX6_shuts 42 = .ok (.iload_n 1, 1) := by decide +kernel
theorem dX6_shuts_43 : decode cX6_shuts 43 = .ok (.ifCond .eq 77, 3) := by decide +kernel
theorem dX6_shuts_46 : decode cX6_shuts 46 = .ok (.iconst 0, 1) := by decide +kernel
theorem dX6_shuts_47 : decode cX6_shuts 47 = .ok (.istore_n 1, 1) := by decide +kernel
theorem dX6_shuts_48 : decode cX6_shuts 48 = .ok (.iconst 0, 1) := by decide +kernel
theorem dX6_shuts_49 : decode cX6_shuts 49 = .ok (.istore_n 2, 1) := by decide +kernel
theorem dX6_shuts_50 : decode cX6_shuts 50 = .ok (.iload_n 2, 1) := by decide +kernel
theorem dX6_shuts_51 : decode cX6_shuts 51 = .ok (.bipush 108, 2) := by decide +kernel
theorem dX6_shuts_53 : decode cX6_shuts 53 = .ok (.if_icmp .ge 64, 3) := by decide +kernel
theorem dX6_shuts_56 : decode cX6_shuts 56 = .ok (.aload_n 0, 1) := by decide +kernel
theorem dX6_shuts_57 : decode cX6_shuts 57 = .ok (.getfield 3, 3) := by decide +kernel
theorem dX6_shuts_60 : decode cX6_shuts 60 = .ok (.getfield 121, 3) := by decide +kernel
theorem dX6_shuts_63 : decode cX6_shuts 63 = .ok (.iload_n 2, 1) := by decide +kernel
theorem dX6_shuts_64 : decode cX6_shuts 64 = .ok (.iaload, 1) := by decide +kernel
theorem dX6_shuts_65 : decode cX6_shuts 65 = .ok (.aload_n 0, 1) := by decide +kernel
theorem dX6_shuts_66 : decode cX6_shuts 66 = .ok (.iload_n 2, 1) := by decide +kernel
theorem dX6_shuts_67 : decode cX6_shuts 67 = .ok (.invokevirtual 127, 3) := by decide +kernel
theorem dX6_shuts_70 : decode cX6_shuts 70 = .ok (.aload_n 0, 1) := by decide +kernel
theorem dX6_shuts_71 : decode cX6_shuts 71 = .ok (.iload_n 2, 1) := by decide +kernel
theorem dX6_shuts_72 : decode cX6_shuts 72 = .ok (.invokevirtual 124, 3) := by decide +kernel
theorem dX6_shuts_75 : decode cX6_shuts 75 = .ok (.iadd, 1) := by decide +kernel
theorem dX6_shuts_76 : decode cX6_shuts 76 = .ok (.invokestatic 130, 3) := by decide +kernel
theorem dX6_shuts_79 : decode cX6_shuts 79 = .ok (.istore_n 3, 1) := by decide +kernel
theorem dX6_shuts_80 : decode cX6_shuts 80 = .ok (.iload_n 1, 1) := by decide +kernel
theorem dX6_shuts_81 : decode cX6_shuts 81 = .ok (.iload_n 3, 1) := by decide +kernel
theorem dX6_shuts_82 : decode cX6_shuts 82 = .ok (.aload_n 0, 1) := by decide +kernel
theorem dX6_shuts_83 : decode cX6_shuts 83 = .ok (.getfield 3, 3) := by decide +kernel
theorem dX6_shuts_86 : decode cX6_shuts 86 = .ok (.getfield 121, 3) := by decide +kernel
theorem dX6_shuts_89 : decode cX6_shuts 89 = .ok (.iload_n 2, 1) := by decide +kernel
theorem dX6_shuts_90 : decode cX6_shuts 90 = .ok (.iaload, 1) := by decide +kernel
theorem dX6_shuts_91 : decode cX6_shuts 91 = .ok (.if_icmp .ge 7, 3) := by decide +kernel
theorem dX6_shuts_94 : decode cX6_shuts 94 = .ok (.iconst 1, 1) := by decide +kernel
theorem dX6_shuts_95 : decode cX6_shuts 95 = .ok (.goto 4, 3) := by decide +kernel
theorem dX6_shuts_98 : decode cX6_shuts 98 = .ok (.iconst 0, 1) := by decide +kernel
theorem dX6_shuts_99 : decode cX6_shuts 99 = .ok (.ior, 1) := by decide +kernel
theorem dX6_shuts_100 : decode cX6_shuts 100 = .ok (.istore_n 1, 1) := by decide +kernel
theorem dX6_shuts_101 : decode cX6_shuts 101 = .ok (.aload_n 0, 1) := by decide +kernel
theorem dX6_shuts_102 : decode cX6_shuts 102 = .ok (.getfield 3, 3) := by decide +kernel
theorem dX6_shuts_105 : decode cX6_shuts 105 = .ok (.getfield 121, 3) := by decide +kernel
theorem dX6_shuts_108 : decode cX6_shuts 108 = .ok (.iload_n 2, 1) := by decide +kernel
theorem dX6_shuts_109 : decode cX6_shuts 109 = .ok (.iload_n 3, 1) := by decide +kernel
theorem dX6_shuts_110 : decode cX6_shuts 110 = .ok (.iastore, 1) := by decide +kernel
theorem dX6_shuts_111 : decode cX6_shuts 111 = .ok (.iinc 2 1, 3) := by decide +kernel
theorem dX6_shuts_114 : decode cX6_shuts 114 = .ok (.goto (-64), 3) := by decide +kernel
theorem dX6_shuts_117 : decode cX6_shuts 117 = .ok (.goto (-75), 3) := by decide +kernel
theorem dX6_shuts_120 : decode cX6_shuts 120 = .ok (.sipush 9999, 3) := by decide +kernel
theorem dX6_shuts_123 : decode cX6_shuts 123 = .ok (.istore_n 2, 1) := by decide +kernel
theorem dX6_shuts_124 : decode cX6_shuts 124 = .ok (.bipush 96, 2) := by decide +kernel
theorem dX6_shuts_126 : decode cX6_shuts 126 = .ok (.istore_n 3, 1) := by decide +kernel
theorem dX6_shuts_127 : decode cX6_shuts 127 = .ok (.iload_n 3, 1) := by decide +kernel
theorem dX6_shuts_128 : decode cX6_shuts 128 = .ok (.bipush 108, 2) := by decide +kernel
theorem dX6_shuts_130 : decode cX6_shuts 130 = .ok (.if_icmp .ge 23, 3) := by decide +kernel
theorem dX6_shuts_133 : decode cX6_shuts 133 = .ok (.iload_n 2, 1) := by decide +kernel
theorem dX6_shuts_134 : decode cX6_shuts 134 = .ok (.aload_n 0, 1) := by decide +kernel
theorem dX6_shuts_135 : decode cX6_shuts 135 = .ok (.getfield 3, 3) := by decide +kernel
theorem dX6_shuts_138 : decode cX6_shuts 138 = .ok (.getfield 121, 3) := by decide +kernel
theorem dX6_shuts_141 : decode cX6_shuts 141 = .ok (.iload_n 3, 1) := by decide +kernel
theorem dX6_shuts_142 : decode cX6_shuts 142 = .ok (.iaload, 1) := by decide +kernel
theorem dX6_shuts_143 : decode cX6_shuts 143 = .ok (.invokestatic 130, 3) := by decide +kernel
theorem dX6_shuts_146 : decode cX6_shuts 146 = .ok (.istore_n 2, 1) := by decide +kernel
theorem dX6_shuts_147 : decode cX6_shuts 147 = .ok (.iinc 3 1, 3) := by decide +kernel
theorem dX6_shuts_150 : decode cX6_shuts 150 = .ok (.goto (-23), 3) := by decide +kernel
theorem dX6_shuts_153 : decode cX6_shuts 153 = .ok (.iload_n 2, 1) := by decide +kernel
theorem dX6_shuts_154 : decode cX6_shuts 154 = .ok (.ireturn, 1) := by decide +kernel
theorem dX6_cost_0 : decode cX6_cost 0 = .ok (.aload_n 0, 1) := by decide +kernel
theorem dX6_cost_1 : decode cX6_cost 1 = .ok (.getfield 15, 3) := by decide +kernel
theorem dX6_cost_4 : decode cX6_cost 4 = .ok (.iload_n 1, 1) := by decide +kernel
theorem dX6_cost_5 : decode cX6_cost 5 = .ok (.iaload, 1) := by decide +kernel
theorem dX6_cost_6 : decode cX6_cost 6 = .ok (.ifCond .ne 7, 3) := by decide +kernel
theorem dX6_cost_9 : decode cX6_cost 9 = .ok (.iconst 1, 1) := by decide +kernel
theorem dX6_cost_10 : decode cX6_cost 10 = .ok (.goto 4, 3) := by decide +kernel
theorem dX6_cost_13 : decode cX6_cost 13 = .ok (.iconst 0, 1) := by decide +kernel
theorem dX6_cost_14 : decode cX6_cost 14 = .ok (.ireturn, 1) := by decide +kernel
theorem dX6_leastBeside_0 : decode cX6_leastBeside 0 = .ok (.iload_n 1, 1) := by decide +kernel
theorem dX6_leastBeside_1 : decode cX6_leastBeside 1 = .ok (.bipush 12, 2) := by decide +kernel
theorem dX6_leastBeside_3 : decode cX6_leastBeside 3 = .ok (.irem, 1) := by decide +kernel
theorem dX6_leastBeside_4 : decode cX6_leastBeside 4 = .ok (.istore_n 2, 1) := by decide +kernel
theorem dX6_leastBeside_5 : decode cX6_leastBeside 5 = .ok (.iload_n 1, 1) := by decide +kernel
theorem dX6_leastBeside_6 : decode cX6_leastBeside 6 = .ok (.bipush 12, 2) := by decide +kernel
theorem dX6_leastBeside_8 : decode cX6_leastBeside 8 = .ok (.idiv, 1) := by decide +kernel
theorem dX6_leastBeside_9 : decode cX6_leastBeside 9 = .ok (.istore_n 3, 1) := by decide +kernel
theorem dX6_leastBeside_10 : decode cX6_leastBeside 10 = .ok (.sipush 9999, 3) := by decide +kernel
theorem dX6_leastBeside_13 : decode cX6_leastBeside 13 = .ok (.istore 4, 2) := by decide +kernel
theorem dX6_leastBeside_15 : decode cX6_leastBeside 15 = .ok (.iconst 0, 1) := by decide +kernel
theorem dX6_leastBeside_16 : decode cX6_leastBeside 16 = .ok (.iload_n 2, 1) := by decide +kernel
theorem dX6_leastBeside_17 : decode cX6_leastBeside 17 = .ok (.iconst 1, 1) := by decide +kernel
theorem dX6_leastBeside_18 : decode cX6_leastBeside 18 = .ok (.isub, 1) := by decide +kernel
theorem dX6_leastBeside_19 : decode cX6_leastBeside 19 = .ok (.invokestatic 118, 3) := by decide +kernel
theorem dX6_leastBeside_22 : decode cX6_leastBeside 22 = .ok (.istore 5, 2) := by decide +kernel
theorem dX6_leastBeside_24 : decode cX6_leastBeside 24 = .ok (.iload 5, 2) := by decide +kernel
theorem dX6_leastBeside_26 : decode cX6_leastBeside 26 = .ok (.bipush 11, 2) := by decide +kernel
theorem dX6_leastBeside_28 : decode cX6_leastBeside 28 = .ok (.iload_n 2, 1) := by decide +kernel
theorem dX6_leastBeside_29 : decode cX6_leastBeside 29 = .ok (.iconst 1, 1) := by decide +kernel
theorem dX6_leastBeside_30 : decode cX6_leastBeside 30 = .ok (.iadd, 1) := by decide +kernel
theorem dX6_leastBeside_31 : decode cX6_leastBeside 31 = .ok (.invokestatic 130, 3) := by decide +kernel
theorem dX6_leastBeside_34 : decode cX6_leastBeside 34 = .ok (.if_icmp .gt 60, 3) := by decide +kernel
theorem dX6_leastBeside_37 : decode cX6_leastBeside 37 = .ok (.iconst 0, 1) := by decide +kernel
theorem dX6_leastBeside_38 : decode cX6_leastBeside 38 = .ok (.iload_n 3, 1) := by decide +kernel
theorem dX6_leastBeside_39 : decode cX6_leastBeside 39 = .ok (.iconst 1, 1) := by decide +kernel
theorem dX6_leastBeside_40 : decode cX6_leastBeside 40 = .ok (.isub, 1) := by decide +kernel
theorem dX6_leastBeside_41 : decode cX6_leastBeside 41 = .ok (.invokestatic 118, 3) := by decide +kernel
theorem dX6_leastBeside_44 : decode cX6_leastBeside 44 = .ok (.istore 6, 2) := by decide +kernel
theorem dX6_leastBeside_46 : decode cX6_leastBeside 46 = .ok (.iload 6, 2) := by decide +kernel
theorem dX6_leastBeside_48 : decode cX6_leastBeside 48 = .ok (.bipush 8, 2) := by decide +kernel
theorem dX6_leastBeside_50 : decode cX6_leastBeside 50 = .ok (.iload_n 3, 1) := by decide +kernel
theorem dX6_leastBeside_51 : decode cX6_leastBeside 51 = .ok (.iconst 1, 1) := by decide +kernel
theorem dX6_leastBeside_52 : decode cX6_leastBeside 52 = .ok (.iadd, 1) := by decide +kernel
theorem dX6_leastBeside_53 : decode cX6_leastBeside 53 = .ok (.invokestatic 130, 3) := by decide +kernel
theorem dX6_leastBeside_56 : decode cX6_leastBeside 56 = .ok (.if_icmp .gt 32, 3) := by decide +kernel
theorem dX6_leastBeside_59 : decode cX6_leastBeside 59 = .ok (.iload 4, 2) := by decide +kernel
theorem dX6_leastBeside_61 : decode cX6_leastBeside 61 = .ok (.aload_n 0, 1) := by decide +kernel
theorem dX6_leastBeside_62 : decode cX6_leastBeside 62 = .ok (.getfield 3, 3) := by decide +kernel
theorem dX6_leastBeside_65 : decode cX6_leastBeside 65 = .ok (.getfield 121, 3) := by decide +kernel
theorem dX6_leastBeside_68 : decode cX6_leastBeside 68 = .ok (.bipush 12, 2) := by decide +kernel
theorem dX6_leastBeside_70 : decode cX6_leastBeside 70 = .ok (.iload 6, 2) := by decide +kernel
theorem dX6_leastBeside_72 : decode cX6_leastBeside 72 = .ok (.imul, 1) := by decide +kernel
theorem dX6_leastBeside_73 : decode cX6_leastBeside 73 = .ok (.iload 5, 2) := by decide +kernel
theorem dX6_leastBeside_75 : decode cX6_leastBeside 75 = .ok (.iadd, 1) := by decide +kernel
theorem dX6_leastBeside_76 : decode cX6_leastBeside 76 = .ok (.iaload, 1) := by decide +kernel
theorem dX6_leastBeside_77 : decode cX6_leastBeside 77 = .ok (.invokestatic 130, 3) := by decide +kernel
theorem dX6_leastBeside_80 : decode cX6_leastBeside 80 = .ok (.istore 4, 2) := by decide +kernel
theorem dX6_leastBeside_82 : decode cX6_leastBeside 82 = .ok (.iinc 6 1, 3) := by decide +kernel
theorem dX6_leastBeside_85 : decode cX6_leastBeside 85 = .ok (.goto (-39), 3) := by decide +kernel
theorem dX6_leastBeside_88 : decode cX6_leastBeside 88 = .ok (.iinc 5 1, 3) := by decide +kernel
theorem dX6_leastBeside_91 : decode cX6_leastBeside 91 = .ok (.goto (-67), 3) := by decide +kernel
theorem dX6_leastBeside_94 : decode cX6_leastBeside 94 = .ok (.iload 4, 2) := by decide +kernel
theorem dX6_leastBeside_96 : decode cX6_leastBeside 96 = .ok (.ireturn, 1) := by decide +kernel
