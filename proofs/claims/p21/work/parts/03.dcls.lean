theorem dX0_init_0 : decode cX0_init 0 = .ok (.aload_n 0, 1) := by decide +kernel
theorem dX0_init_1 : decode cX0_init 1 = .ok (.invokespecial 3, 3) := by decide +kernel
theorem dX0_init_4 : decode cX0_init 4 = .ok (.aload_n 0, 1) := by decide +kernel
theorem dX0_init_5 : decode cX0_init 5 = .ok (.bipush 24, 2) := by decide +kernel
theorem dX0_init_7 : decode cX0_init 7 = .ok (.newarray .int, 2) := by decide +kernel
theorem dX0_init_9 : decode cX0_init 9 = .ok (.putfield 9, 3) := by decide +kernel
theorem dX0_init_12 : decode cX0_init 12 = .ok (.return_, 1) := by decide +kernel
theorem dX0_isScattered_0 : decode cX0_isScattered 0 = .ok (.aload_n 0, 1) := by decide +kernel
theorem dX0_isScattered_1 : decode cX0_isScattered 1 = .ok (.getfield 15, 3) := by decide +kernel
theorem dX0_isScattered_4 : decode cX0_isScattered 4 = .ok (.ifCond .ne 7, 3) := by decide +kernel
theorem dX0_isScattered_7 : decode cX0_isScattered 7 = .ok (.iconst 1, 1) := by decide +kernel
theorem dX0_isScattered_8 : decode cX0_isScattered 8 = .ok (.goto 4, 3) := by decide +kernel
theorem dX0_isScattered_11 : decode cX0_isScattered 11 = .ok (.iconst 0, 1) := by decide +kernel
theorem dX0_isScattered_12 : decode cX0_isScattered 12 = .ok (.ireturn, 1) := by decide +kernel
theorem dX0_addOrder_0 : decode cX0_addOrder 0 = .ok (.aload_n 0, 1) := by decide +kernel
theorem dX0_addOrder_1 : decode cX0_addOrder 1 = .ok (.getfield 19, 3) := by decide +kernel
theorem dX0_addOrder_4 : decode cX0_addOrder 4 = .ok (.ifCond .lt 32, 3) := by decide +kernel
theorem dX0_addOrder_7 : decode cX0_addOrder 7 = .ok (.aload_n 0, 1) := by decide +kernel
theorem dX0_addOrder_8 : decode cX0_addOrder 8 = .ok (.getfield 19, 3) := by decide +kernel
theorem dX0_addOrder_11 : decode cX0_addOrder 11 = .ok (.bipush 24, 2) := by decide +kernel
theorem dX0_addOrder_13 : decode cX0_addOrder 13 = .ok (.if_icmp .ge 23, 3) := by decide +kernel
theorem dX0_addOrder_16 : decode cX0_addOrder 16 = .ok (.aload_n 0, 1) := by decide +kernel
theorem dX0_addOrder_17 : decode cX0_addOrder 17 = .ok (.getfield 9, 3) := by decide +kernel
theorem dX0_addOrder_20 : decode cX0_addOrder 20 = .ok (.aload_n 0, 1) := by decide +kernel
theorem dX0_addOrder_21 : decode cX0_addOrder 21 = .ok (.getfield 19, 3) := by decide +kernel
theorem dX0_addOrder_24 : decode cX0_addOrder 24 = .ok (.iload_n 1, 1) := by decide +kernel
theorem dX0_addOrder_25 : decode cX0_addOrder 25 = .ok (.iastore, 1) := by decide +kernel
theorem dX0_addOrder_26 : decode cX0_addOrder 26 = .ok (.aload_n 0, 1) := by decide +kernel
theorem dX0_addOrder_27 : decode cX0_addOrder 27 = .ok (.dup, 1) := by decide +kernel
theorem dX0_addOrder_28 : decode cX0_addOrder 28 = .ok (.getfield 19, 3) := by decide +kernel
theorem dX0_addOrder_31 : decode cX0_addOrder 31 = .ok (.iconst 1, 1) := by decide +kernel
theorem dX0_addOrder_32 : decode cX0_addOrder 32 = .ok (.iadd, 1) := by decide +kernel
theorem dX0_addOrder_33 : decode cX0_addOrder 33 = .ok (.putfield 19, 3) := by decide +kernel
theorem dX0_addOrder_36 : decode cX0_addOrder 36 = .ok (.return_, 1) := by decide +kernel
theorem dX0_firstOrder_0 : decode cX0_firstOrder 0 = .ok (.aload_n 0, 1) := by decide +kernel
theorem dX0_firstOrder_1 : decode cX0_firstOrder 1 = .ok (.getfield 19, 3) := by decide +kernel
theorem dX0_firstOrder_4 : decode cX0_firstOrder 4 = .ok (.ifCond .le 12, 3) := by decide +kernel
theorem dX0_firstOrder_7 : decode cX0_firstOrder 7 = .ok (.aload_n 0, 1) := by decide +kernel
theorem dX0_firstOrder_8 : decode cX0_firstOrder 8 = .ok (.getfield 9, 3) := by decide +kernel
theorem dX0_firstOrder_11 : decode cX0_firstOrder 11 = .ok (.iconst 0, 1) := by decide +kernel
theorem dX0_firstOrder_12 : decode cX0_firstOrder 12 = .ok (.iaload, 1) := by decide +kernel
theorem dX0_firstOrder_13 : decode cX0_firstOrder 13 = .ok (.goto 4, 3) := by decide +kernel
theorem dX0_firstOrder_16 : decode cX0_firstOrder 16 = .ok (.iconst (-1), 1) := by decide +kernel
theorem dX0_firstOrder_17 : decode cX0_firstOrder 17 = .ok (.ireturn, 1) := by decide +kernel
theorem dX0_dropFirstOrder_0 : decode cX0_dropFirstOrder 0 = .ok (.aload_n 0, 1) := by decide +kernel
theorem dX0_dropFirstOrder_1 : decode cX0_dropFirstOrder 1 = .ok (.getfield 19, 3) := by decide +kernel
theorem dX0_dropFirstOrder_4 : decode cX0_dropFirstOrder 4 = .ok (.ifCond .le 39, 3) := by decide +kernel
theorem dX0_dropFirstOrder_7 : decode cX0_dropFirstOrder 7 = .ok (.aload_n 0, 1) := by decide +kernel
theorem dX0_dropFirstOrder_8 : decode cX0_dropFirstOrder 8 = .ok (.getfield 19, 3) := by decide +kernel
theorem dX0_dropFirstOrder_11 : decode cX0_dropFirstOrder 11 = .ok (.bipush 24, 2) := by decide +kernel
theorem dX0_dropFirstOrder_13 : decode cX0_dropFirstOrder 13 = .ok (.if_icmp .gt 30, 3) := by decide +kernel
theorem dX0_dropFirstOrder_16 : decode cX0_dropFirstOrder 16 = .ok (.aload_n 0, 1) := by decide +kernel
theorem dX0_dropFirstOrder_17 : decode cX0_dropFirstOrder 17 = .ok (.dup, 1) := by decide +kernel
theorem dX0_dropFirstOrder_18 : decode cX0_dropFirstOrder 18 = .ok (.getfield 19, 3) := by decide +kernel
theorem dX0_dropFirstOrder_21 : decode cX0_dropFirstOrder 21 = .ok (.iconst 1, 1) := by decide +kernel
theorem dX0_dropFirstOrder_22 : decode cX0_dropFirstOrder 22 = .ok (.isub, 1) := by decide +kernel
theorem dX0_dropFirstOrder_23 : decode cX0_dropFirstOrder 23 = .ok (.putfield 19, 3) := by decide +kernel
theorem dX0_dropFirstOrder_26 : decode cX0_dropFirstOrder 26 = .ok (.aload_n 0, 1) := by decide +kernel
theorem dX0_dropFirstOrder_27 : decode cX0_dropFirstOrder 27 = .ok (.getfield 9, 3) := by decide +kernel
theorem dX0_dropFirstOrder_30 : decode cX0_dropFirstOrder 30 = .ok (.iconst 1, 1) := by decide +kernel
theorem dX0_dropFirstOrder_31 : decode cX0_dropFirstOrder 31 = .ok (.aload_n 0, 1) := by decide +kernel
theorem dX0_dropFirstOrder_32 : decode cX0_dropFirstOrder 32 = .ok (.getfield 9, 3) := by decide +kernel
theorem dX0_dropFirstOrder_35 : decode cX0_dropFirstOrder 35 = .ok (.iconst 0, 1) := by decide +kernel
theorem dX0_dropFirstOrder_36 : decode cX0_dropFirstOrder 36 = .ok (.aload_n 0, 1) := by decide +kernel
theorem dX0_dropFirstOrder_37 : decode cX0_dropFirstOrder 37 = .ok (.getfield 19, 3) := by decide +kernel
theorem dX0_dropFirstOrder_40 : decode cX0_dropFirstOrder 40 = .ok (.invokestatic 22, 3) := by decide +kernel
theorem dX0_dropFirstOrder_43 : decode cX0_dropFirstOrder 43 = .ok (.return_, 1) := by decide +kernel
theorem dX0_addOrdersTo_0 : decode cX0_addOrdersTo 0 = .ok (.lload_n 1, 1) := by decide +kernel
theorem dX0_addOrdersTo_1 : decode cX0_addOrdersTo 1 = .ok (.lstore_n 3, 1) := by decide +kernel
theorem dX0_addOrdersTo_2 : decode cX0_addOrdersTo 2 = .ok (.iconst 0, 1) := by decide +kernel
theorem dX0_addOrdersTo_3 : decode cX0_addOrdersTo 3 = .ok (.istore 5, 2) := by decide +kernel
theorem dX0_addOrdersTo_5 : decode cX0_addOrdersTo 5 = .ok (.iload 5, 2) := by decide +kernel
theorem dX0_addOrdersTo_7 : decode cX0_addOrdersTo 7 = .ok (.aload_n 0, 1) := by decide +kernel
theorem dX0_addOrdersTo_8 : decode cX0_addOrdersTo 8 = .ok (.getfield 19, 3) := by decide +kernel
theorem dX0_addOrdersTo_11 : decode cX0_addOrdersTo 11 = .ok (.if_icmp .ge 31, 3) := by decide +kernel
theorem dX0_addOrdersTo_14 : decode cX0_addOrdersTo 14 = .ok (.iload 5, 2) := by decide +kernel
theorem dX0_addOrdersTo_16 : decode cX0_addOrdersTo 16 = .ok (.bipush 24, 2) := by decide +kernel
theorem dX0_addOrdersTo_18 : decode cX0_addOrdersTo 18 = .ok (.if_icmp .ge 24, 3) := by decide +kernel
theorem dX0_addOrdersTo_21 : decode cX0_addOrdersTo 21 = .ok (.lload_n 3, 1) := by decide +kernel
theorem dX0_addOrdersTo_22 : decode cX0_addOrdersTo 22 = .ok (.ldc2_w 28, 3) := by decide +kernel
theorem dX0_addOrdersTo_25 : decode cX0_addOrdersTo 25 = .ok (.lmul, 1) := by decide +kernel
theorem dX0_addOrdersTo_26 : decode cX0_addOrdersTo 26 = .ok (.aload_n 0, 1) := by decide +kernel
theorem dX0_addOrdersTo_27 : decode cX0_addOrdersTo 27 = .ok (.getfield 9, 3) := by decide +kernel
theorem dX0_addOrdersTo_30 : decode cX0_addOrdersTo 30 = .ok (.iload 5, 2) := by decide +kernel
theorem dX0_addOrdersTo_32 : decode cX0_addOrdersTo 32 = .ok (.iaload, 1) := by decide +kernel
theorem dX0_addOrdersTo_33 : decode cX0_addOrdersTo 33 = .ok (.i2l, 1) := by decide +kernel
theorem dX0_addOrdersTo_34 : decode cX0_addOrdersTo 34 = .ok (.ladd, 1) := by decide +kernel
theorem dX0_addOrdersTo_35 : decode cX0_addOrdersTo 35 = .ok (.lstore_n 3, 1) := by decide +kernel
theorem dX0_addOrdersTo_36 : decode cX0_addOrdersTo 36 = .ok (.iinc 5 1, 3) := by decide +kernel
theorem dX0_addOrdersTo_39 : decode cX0_addOrdersTo 39 = .ok (.goto (-34), 3) := by decide +kernel
theorem dX0_addOrdersTo_42 : decode cX0_addOrdersTo 42 = .ok (.lload_n 3, 1) := by decide +kernel
theorem dX0_addOrdersTo_43 : decode cX0_addOrdersTo 43 = .ok (.lreturn, 1) := by decide +kernel
theorem dX0_become_0 : decode cX0_become 0 = .ok (.aload_n 0, 1) := by decide +kernel
theorem dX0_become_1 : decode cX0_become 1 = .ok (.aload_n 1, 1) := by decide +kernel
theorem dX0_become_2 : decode cX0_become 2 = .ok (.getfield 30, 3) := by decide +kernel
theorem dX0_become_5 : decode cX0_become 5 = .ok (.putfield 30, 3) := by decide +kernel
theorem dX0_become_8 : decode cX0_become 8 = .ok (.aload_n 0, 1) := by decide +kernel
theorem dX0_become_9 : decode cX0_become 9 = .ok (.aload_n 1, 1) := by decide +kernel
theorem dX0_become_10 : decode cX0_become 10 = .ok (.getfield 15, 3) := by decide +kernel
theorem dX0_become_13 : decode cX0_become 13 = .ok (.putfield 15, 3) := by decide +kernel
theorem dX0_become_16 : decode cX0_become 16 = .ok (.aload_n 0, 1) := by decide +kernel
theorem dX0_become_17 : decode cX0_become 17 = .ok (.aload_n 1, 1) := by decide +kernel
theorem dX0_become_18 : decode cX0_become 18 = .ok (.getfield 33, 3) := by decide +kernel
theorem dX0_become_21 : decode cX0_become 21 = .ok (.putfield 33, 3) := by decide +kernel
theorem dX0_become_24 : decode cX0_become 24 = .ok (.aload_n 1, 1) := by decide +kernel
theorem dX0_become_25 : decode cX0_become 25 = .ok (.getfield 9, 3) := by decide +kernel
theorem dX0_become_28 : decode cX0_become 28 = .ok (.iconst 0, 1) := by decide +kernel
theorem dX0_become_29 : decode cX0_become 29 = .ok (.aload_n 0, 1) := by decide +kernel
theorem dX0_become_30 : decode cX0_become 30 = .ok (.getfield 9, 3) := by decide +kernel
theorem dX0_become_33 : decode cX0_become 33 = .ok (.iconst 0, 1) := by decide +kernel
theorem dX0_become_34 : decode cX0_become 34 = .ok (.bipush 24, 2) := by decide +kernel
theorem dX0_become_36 : decode cX0_become 36 = .ok (.invokestatic 22, 3) := by decide +kernel
theorem dX0_become_39 : decode cX0_become 39 = .ok (.aload_n 0, 1) := by decide +kernel
theorem dX0_become_40 : decode cX0_become 40 = .ok (.aload_n 1, 1) := by decide +kernel
theorem dX0_become_41 : decode cX0_become 41 = .ok (.getfield 19, 3) := by decide +kernel
theorem dX0_become_44 : decode cX0_become 44 = .ok (.putfield 19, 3) := by decide +kernel
theorem dX0_become_47 : decode cX0_become 47 = .ok (.aload_n 0, 1) := by decide +kernel
theorem dX0_become_48 : decode cX0_become 48 = .ok (.aload_n 1, 1) := by decide +kernel
theorem dX0_become_49 : decode cX0_become 49 = .ok (.getfield 37, 3) := by decide +kernel
theorem dX0_become_52 : decode cX0_become 52 = .ok (.putfield 37, 3) := by decide +kernel
theorem dX0_become_55 : decode cX0_become 55 = .ok (.return_, 1) := by decide +kernel
theorem dX1_init_0 : decode cX1_init 0 = .ok (.aload_n 0, 1) := by decide +kernel
theorem dX1_init_1 : decode cX1_init 1 = .ok (.invokespecial 3, 3) := by decide +kernel
theorem dX1_init_4 : decode cX1_init 4 = .ok (.aload_n 0, 1) := by decide +kernel
theorem dX1_init_5 : decode cX1_init 5 = .ok (.new 9, 3) := by decide +kernel
theorem dX1_init_8 : decode cX1_init 8 = .ok (.dup, 1) := by decide +kernel
theorem dX1_init_9 : decode cX1_init 9 = .ok (.invokespecial 11, 3) := by decide +kernel
theorem dX1_init_12 : decode cX1_init 12 = .ok (.putfield 12, 3) := by decide +kernel
theorem dX1_init_15 : decode cX1_init 15 = .ok (.aload_n 0, 1) := by decide +kernel
theorem dX1_init_16 : decode cX1_init 16 = .ok (.bipush 6, 2) := by decide +kernel
theorem dX1_init_18 : decode cX1_init 18 = .ok (.anewarray 18, 3) := by decide +kernel
theorem dX1_init_21 : decode cX1_init 21 = .ok (.putfield 20, 3) := by decide +kernel
theorem dX1_init_24 : decode cX1_init 24 = .ok (.iconst 0, 1) := by decide +kernel
theorem dX1_init_25 : decode cX1_init 25 = .ok (.istore_n 1, 1) := by decide +kernel
theorem dX1_init_26 : decode cX1_init 26 = .ok (.iload_n 1, 1) := by decide +kernel
theorem dX1_init_27 : decode cX1_init 27 = .ok (.bipush 6, 2) := by decide +kernel
theorem dX1_init_29 : decode cX1_init 29 = .ok (.if_icmp .ge 22, 3) := by decide +kernel
theorem dX1_init_32 : decode cX1_init 32 = .ok (.aload_n 0, 1) := by decide +kernel
theorem dX1_init_33 : decode cX1_init 33 = .ok (.getfield 20, 3) := by decide +kernel
theorem dX1_init_36 : decode cX1_init 36 = .ok (.iload_n 1, 1) := by decide +kernel
theorem dX1_init_37 : decode cX1_init 37 = .ok (.new 18, 3) := by decide +kernel
theorem dX1_init_40 : decode cX1_init 40 = .ok (.dup, 1) := by decide +kernel
theorem dX1_init_41 : decode cX1_init 41 = .ok (.invokespecial 24, 3) := by decide +kernel
theorem dX1_init_44 : decode cX1_init 44 = .ok (.aastore, 1) := by decide +kernel
theorem dX1_init_45 : decode cX1_init 45 = .ok (.iinc 1 1, 3) := by decide +kernel
theorem dX1_init_48 : decode cX1_init 48 = .ok (.goto (-22), 3) := by decide +kernel
theorem dX1_init_51 : decode cX1_init 51 = .ok (.aload_n 0, 1) := by decide +kernel
theorem dX1_init_52 : decode cX1_init 52 = .ok (.iconst 3, 1) := by decide +kernel
theorem dX1_init_53 : decode cX1_init 53 = .ok (.anewarray 25, 3) := by decide +kernel
theorem dX1_init_56 : decode cX1_init 56 = .ok (.putfield 27, 3) := by decide +kernel
theorem dX1_init_59 : decode cX1_init 59 = .ok (.iconst 0, 1) := by decide +kernel
theorem dX1_init_60 : decode cX1_init 60 = .ok (.istore_n 1, 1) := by decide +kernel
theorem dX1_init_61 : decode cX1_init 61 = .ok (.iload_n 1, 1) := by decide +kernel
theorem dX1_init_62 : decode cX1_init 62 = .ok (.iconst 3, 1) := by decide +kernel
theorem dX1_init_63 : decode cX1_init 63 = .ok (.if_icmp .ge 22, 3) := by decide +kernel
theorem dX1_init_66 : decode cX1_init 66 = .ok (.aload_n 0, 1) := by decide +kernel
theorem dX1_init_67 : decode cX1_init 67 = .ok (.getfield 27, 3) := by decide +kernel
theorem dX1_init_70 : decode cX1_init 70 = .ok (.iload_n 1, 1) := by decide +kernel
theorem dX1_init_71 : decode cX1_init 71 = .ok (.new 25, 3) := by decide +kernel
theorem dX1_init_74 : decode cX1_init 74 = .ok (.dup, 1) := by decide +kernel
theorem dX1_init_75 : decode cX1_init 75 = .ok (.invokespecial 31, 3) := by decide +kernel
theorem dX1_init_78 : decode cX1_init 78 = .ok (.aastore, 1) := by decide +kernel
theorem dX1_init_79 : decode cX1_init 79 = .ok (.iinc 1 1, 3) := by decide +kernel
theorem dX1_init_82 : decode cX1_init 82 = .ok (.goto (-21), 3) := by decide +kernel
theorem dX1_init_85 : decode cX1_init 85 = .ok (.return_, 1) := by decide +kernel
theorem dX1_addCrowd_0 : decode cX1_addCrowd 0 = .ok (.aload_n 0, 1) := by decide +kernel
theorem dX1_addCrowd_1 : decode cX1_addCrowd 1 = .ok (.getfield 32, 3) := by decide +kernel
theorem dX1_addCrowd_4 : decode cX1_addCrowd 4 = .ok (.istore_n 3, 1) := by decide +kernel
theorem dX1_addCrowd_5 : decode cX1_addCrowd 5 = .ok (.iload_n 3, 1) := by decide +kernel
theorem dX1_addCrowd_6 : decode cX1_addCrowd 6 = .ok (.bipush 6, 2) := by decide +kernel
theorem dX1_addCrowd_8 : decode cX1_addCrowd 8 = .ok (.if_icmp .ge 43, 3) := by decide +kernel
theorem dX1_addCrowd_11 : decode cX1_addCrowd 11 = .ok (.aload_n 0, 1) := by decide +kernel
theorem dX1_addCrowd_12 : decode cX1_addCrowd 12 = .ok (.getfield 20, 3) := by decide +kernel
theorem dX1_addCrowd_15 : decode cX1_addCrowd 15 = .ok (.iload_n 3, 1) := by decide +kernel
theorem dX1_addCrowd_16 : decode cX1_addCrowd 16 = .ok (.aaload, 1) := by decide +kernel
theorem dX1_addCrowd_17 : decode cX1_addCrowd 17 = .ok (.iload_n 1, 1) := by decide +kernel
theorem dX1_addCrowd_18 : decode cX1_addCrowd 18 = .ok (.putfield 36, 3) := by decide +kernel
theorem dX1_addCrowd_21 : decode cX1_addCrowd 21 = .ok (.aload_n 0, 1) := by decide +kernel
theorem dX1_addCrowd_22 : decode cX1_addCrowd 22 = .ok (.getfield 20, 3) := by decide +kernel
theorem dX1_addCrowd_25 : decode cX1_addCrowd 25 = .ok (.iload_n 3, 1) := by decide +kernel
theorem dX1_addCrowd_26 : decode cX1_addCrowd 26 = .ok (.aaload, 1) := by decide +kernel
theorem dX1_addCrowd_27 : decode cX1_addCrowd 27 = .ok (.iload_n 2, 1) := by decide +kernel
theorem dX1_addCrowd_28 : decode cX1_addCrowd 28 = .ok (.putfield 39, 3) := by decide +kernel
theorem dX1_addCrowd_31 : decode cX1_addCrowd 31 = .ok (.aload_n 0, 1) := by decide +kernel
theorem dX1_addCrowd_32 : decode cX1_addCrowd 32 = .ok (.getfield 20, 3) := by decide +kernel
theorem dX1_addCrowd_35 : decode cX1_addCrowd 35 = .ok (.iload_n 3, 1) := by decide +kernel
theorem dX1_addCrowd_36 : decode cX1_addCrowd 36 = .ok (.aaload, 1) := by decide +kernel
theorem dX1_addCrowd_37 : decode cX1_addCrowd 37 = .ok (.iconst 1, 1) := by decide +kernel
theorem dX1_addCrowd_38 : decode cX1_addCrowd 38 = .ok (.putfield 42, 3) := by decide +kernel
theorem dX1_addCrowd_41 : decode cX1_addCrowd 41 = .ok (.aload_n 0, 1) := by decide +kernel
theorem dX1_addCrowd_42 : decode cX1_addCrowd 42 = .ok (.dup, 1) := by decide +kernel
theorem dX1_addCrowd_43 : decode cX1_addCrowd 43 = .ok (.getfield 32, 3) := by decide +kernel
theorem dX1_addCrowd_46 : decode cX1_addCrowd 46 = .ok (.iconst 1, 1) := by decide +kernel
theorem dX1_addCrowd_47 : decode cX1_addCrowd 47 = .ok (.iadd, 1) := by decide +kernel
theorem dX1_addCrowd_48 : decode cX1_addCrowd 48 = .ok (.putfield 32, 3) := by decide +kernel
theorem dX1_addCrowd_51 : decode cX1_addCrowd 51 = .ok (.iload_n 3, 1) := by decide +kernel
theorem dX1_addCrowd_52 : decode cX1_addCrowd 52 = .ok (.ireturn, 1) := by decide +kernel
theorem dX1_addPatrol_0 : decode cX1_addPatrol 0 = .ok (.aload_n 0, 1) := by decide +kernel
theorem dX1_addPatrol_1 : decode cX1_addPatrol 1 = .ok (.getfield 46, 3) := by decide +kernel
theorem dX1_addPatrol_4 : decode cX1_addPatrol 4 = .ok (.istore 4, 2) := by decide +kernel
theorem dX1_addPatrol_6 : decode cX1_addPatrol 6 = .ok (.iload 4, 2) := by decide +kernel
theorem dX1_addPatrol_8 : decode cX1_addPatrol 8 = .ok (.iconst 3, 1) := by decide +kernel
theorem dX1_addPatrol_9 : decode cX1_addPatrol 9 = .ok (.if_icmp .ge 46, 3) := by decide +kernel
theorem dX1_addPatrol_12 : decode cX1_addPatrol 12 = .ok (.aload_n 0, 1) := by decide +kernel
theorem dX1_addPatrol_13 : decode cX1_addPatrol 13 = .ok (.getfield 27, 3) := by decide +kernel
theorem dX1_addPatrol_16 : decode cX1_addPatrol 16 = .ok (.iload 4, 2) := by decide +kernel
theorem dX1_addPatrol_18 : decode cX1_addPatrol 18 = .ok (.aaload, 1) := by decide +kernel
theorem dX1_addPatrol_19 : decode cX1_addPatrol 19 = .ok (.iload_n 1, 1) := by decide +kernel
theorem dX1_addPatrol_20 : decode cX1_addPatrol 20 = .ok (.putfield 49, 3) := by decide +kernel
theorem dX1_addPatrol_23 : decode cX1_addPatrol 23 = .ok (.aload_n 0, 1) := by decide +kernel
theorem dX1_addPatrol_24 : decode cX1_addPatrol 24 = .ok (.getfield 27, 3) := by decide +kernel
theorem dX1_addPatrol_27 : decode cX1_addPatrol 27 = .ok (.iload 4, 2) := by decide +kernel
theorem dX1_addPatrol_29 : decode cX1_addPatrol 29 = .ok (.aaload, 1) := by decide +kernel
theorem dX1_addPatrol_30 : decode cX1_addPatrol 30 = .ok (.iload_n 2, 1) := by decide +kernel
theorem dX1_addPatrol_31 : decode cX1_addPatrol 31 = .ok (.putfield 50, 3) := by decide +kernel
theorem dX1_addPatrol_34 : decode cX1_addPatrol 34 = .ok (.aload_n 0, 1) := by decide +kernel
theorem dX1_addPatrol_35 : decode cX1_addPatrol 35 = .ok (.getfield 27, 3) := by decide +kernel
theorem dX1_addPatrol_38 : decode cX1_addPatrol 38 = .ok (.iload 4, 2) := by decide +kernel
theorem dX1_addPatrol_40 : decode cX1_addPatrol 40 = .ok (.aaload, 1) := by decide +kernel
theorem dX1_addPatrol_41 : decode cX1_addPatrol 41 = .ok (.iload_n 3, 1) := by decide +kernel
theorem dX1_addPatrol_42 : decode cX1_addPatrol 42 = .ok (.putfield 53, 3) := by decide +kernel
theorem dX1_addPatrol_45 : decode cX1_addPatrol 45 = .ok (.aload_n 0, 1) := by decide +kernel
theorem dX1_addPatrol_46 : decode cX1_addPatrol 46 = .ok (.dup, 1) := by decide +kernel
theorem dX1_addPatrol_47 : decode cX1_addPatrol 47 = .ok (.getfield 46, 3) := by decide +kernel
theorem dX1_addPatrol_50 : decode cX1_addPatrol 50 = .ok (.iconst 1, 1) := by decide +kernel
theorem dX1_addPatrol_51 : decode cX1_addPatrol 51 = .ok (.iadd, 1) := by decide +kernel
theorem dX1_addPatrol_52 : decode cX1_addPatrol 52 = .ok (.putfield 46, 3) := by decide +kernel
theorem dX1_addPatrol_55 : decode cX1_addPatrol 55 = .ok (.iload 4, 2) := by decide +kernel
theorem dX1_addPatrol_57 : decode cX1_addPatrol 57 = .ok (.ireturn, 1) := by decide +kernel
theorem dX1_isTaken_0 : decode cX1_isTaken 0 = .ok (.iconst 0, 1) := by decide +kernel
theorem dX1_isTaken_1 : decode cX1_isTaken 1 = .ok (.istore_n 2, 1) := by decide +kernel
theorem dX1_isTaken_2 : decode cX1_isTaken 2 = .ok (.iload_n 2, 1) := by decide +kernel
theorem dX1_isTaken_3 : decode cX1_isTaken 3 = .ok (.aload_n 0, 1) := by decide +kernel
theorem dX1_isTaken_4 : decode cX1_isTaken 4 = .ok (.getfield 32, 3) := by decide +kernel
theorem dX1_isTaken_7 : decode cX1_isTaken 7 = .ok (.if_icmp .ge 36, 3) := by decide +kernel
theorem dX1_isTaken_10 : decode cX1_isTaken 10 = .ok (.aload_n 0, 1) := by decide +kernel
theorem dX1_isTaken_11 : decode cX1_isTaken 11 = .ok (.getfield 20, 3) := by decide +kernel
theorem dX1_isTaken_14 : decode cX1_isTaken 14 = .ok (.iload_n 2, 1) := by decide +kernel
theorem dX1_isTaken_15 : decode cX1_isTaken 15 = .ok (.aaload, 1) := by decide +kernel
theorem dX1_isTaken_16 : decode cX1_isTaken 16 = .ok (.getfield 39, 3) := by decide +kernel
theorem dX1_isTaken_19 : decode cX1_isTaken 19 = .ok (.ifCond .le 18, 3) := by decide +kernel
theorem dX1_isTaken_22 : decode cX1_isTaken 22 = .ok (.aload_n 0, 1) := by decide +kernel
theorem dX1_isTaken_23 : decode cX1_isTaken 23 = .ok (.getfield 20, 3) := by decide +kernel
theorem dX1_isTaken_26 : decode cX1_isTaken 26 = .ok (.iload_n 2, 1) := by decide +kernel
theorem dX1_isTaken_27 : decode cX1_isTaken 27 = .ok (.aaload, 1) := by decide +kernel
theorem dX1_isTaken_28 : decode cX1_isTaken 28 = .ok (.getfield 36, 3) := by decide +kernel
theorem dX1_isTaken_31 : decode cX1_isTaken 31 = .ok (.iload_n 1, 1) := by decide +kernel
theorem dX1_isTaken_32 : decode cX1_isTaken 32 = .ok (.if_icmp .ne 5, 3) := by decide +kernel
theorem dX1_isTaken_35 : decode cX1_isTaken 35 = .ok (.iconst 1, 1) := by decide +kernel
theorem dX1_isTaken_36 : decode cX1_isTaken 36 = .ok (.ireturn, 1) := by decide +kernel
theorem dX1_isTaken_37 : decode cX1_isTaken 37 = .ok (.iinc 2 1, 3) := by decide +kernel
theorem dX1_isTaken_40 : decode cX1_isTaken 40 = .ok (.goto (-38), 3) := by decide +kernel
theorem dX1_isTaken_43 : decode cX1_isTaken 43 = .ok (.iconst 0, 1) := by decide +kernel
theorem dX1_isTaken_44 : decode cX1_isTaken 44 = .ok (.istore_n 2, 1) := by decide +kernel
theorem dX1_isTaken_45 : decode cX1_isTaken 45 = .ok (.iload_n 2, 1) := by decide +kernel
theorem dX1_isTaken_46 : decode cX1_isTaken 46 = .ok (.aload_n 0, 1) := by decide +kernel
theorem dX1_isTaken_47 : decode cX1_isTaken 47 = .ok (.getfield 46, 3) := by decide +kernel
theorem dX1_isTaken_50 : decode cX1_isTaken 50 = .ok (.if_icmp .ge 24, 3) := by decide +kernel
theorem dX1_isTaken_53 : decode cX1_isTaken 53 = .ok (.aload_n 0, 1) := by decide +kernel
theorem dX1_isTaken_54 : decode cX1_isTaken 54 = .ok (.getfield 27, 3) := by decide +kernel
theorem dX1_isTaken_57 : decode cX1_isTaken 57 = .ok (.iload_n 2, 1) := by decide +kernel
theorem dX1_isTaken_58 : decode cX1_isTaken 58 = .ok (.aaload, 1) := by decide +kernel
theorem dX1_isTaken_59 : decode cX1_isTaken 59 = .ok (.getfield 49, 3) := by decide +kernel
theorem dX1_isTaken_62 : decode cX1_isTaken 62 = .ok (.iload_n 1, 1) := by decide +kernel
theorem dX1_isTaken_63 : decode cX1_isTaken 63 = .ok (.if_icmp .ne 5, 3) := by decide +kernel
theorem dX1_isTaken_66 : decode cX1_isTaken 66 = .ok (.iconst 1, 1) := by decide +kernel
theorem dX1_isTaken_67 : decode cX1_isTaken 67 = .ok (.ireturn, 1) := by decide +kernel
theorem dX1_isTaken_68 : decode cX1_isTaken 68 = .ok (.iinc 2 1, 3) := by decide +kernel
theorem dX1_isTaken_71 : decode cX1_isTaken 71 = .ok (.goto (-26), 3) := by decide +kernel
theorem dX1_isTaken_74 : decode cX1_isTaken 74 = .ok (.iconst 0, 1) := by decide +kernel
theorem dX1_isTaken_75 : decode cX1_isTaken 75 = .ok (.ireturn, 1) := by decide +kernel
theorem dX1_goOn_0 : decode cX1_goOn 0 = .ok (.iconst 0, 1) := by decide +kernel
theorem dX1_goOn_1 : decode cX1_goOn 1 = .ok (.istore_n 2, 1) := by decide +kernel
theorem dX1_goOn_2 : decode cX1_goOn 2 = .ok (.iload_n 2, 1) := by decide +kernel
theorem dX1_goOn_3 : decode cX1_goOn 3 = .ok (.iload_n 1, 1) := by decide +kernel
theorem dX1_goOn_4 : decode cX1_goOn 4 = .ok (.if_icmp .ge 56, 3) := by decide +kernel
theorem dX1_goOn_7 : decode cX1_goOn 7 = .ok (.aload_n 0, 1) := by decide +kernel
theorem dX1_goOn_8 : decode cX1_goOn 8 = .ok (.invokevirtual 56, 3) := by decide +kernel
theorem dX1_goOn_11 : decode cX1_goOn 11 = .ok (.iconst 0, 1) := by decide +kernel
theorem dX1_goOn_12 : decode cX1_goOn 12 = .ok (.istore_n 3, 1) := by decide +kernel
theorem dX1_goOn_13 : decode cX1_goOn 13 = .ok (.iload_n 3, 1) := by decide +kernel
theorem dX1_goOn_14 : decode cX1_goOn 14 = .ok (.aload_n 0, 1) := by decide +kernel
theorem dX1_goOn_15 : decode cX1_goOn 15 = .ok (.getfield 46, 3) := by decide +kernel
theorem dX1_goOn_18 : decode cX1_goOn 18 = .ok (.if_icmp .ge 22, 3) := by decide +kernel
theorem dX1_goOn_21 : decode cX1_goOn 21 = .ok (.aload_n 0, 1) := by decide +kernel
theorem dX1_goOn_22 : decode cX1_goOn 22 = .ok (.getfield 27, 3) := by decide +kernel
theorem dX1_goOn_25 : decode cX1_goOn 25 = .ok (.iload_n 3, 1) := by decide +kernel
theorem dX1_goOn_26 : decode cX1_goOn 26 = .ok (.aaload, 1) := by decide +kernel
theorem dX1_goOn_27 : decode cX1_goOn 27 = .ok (.aload_n 0, 1) := by decide +kernel
theorem dX1_goOn_28 : decode cX1_goOn 28 = .ok (.getfield 12, 3) := by decide +kernel
theorem dX1_goOn_31 : decode cX1_goOn 31 = .ok (.invokevirtual 59, 3) := by decide +kernel
theorem dX1_goOn_34 : decode cX1_goOn 34 = .ok (.iinc 3 1, 3) := by decide +kernel
theorem dX1_goOn_37 : decode cX1_goOn 37 = .ok (.goto (-24), 3) := by decide +kernel
theorem dX1_goOn_40 : decode cX1_goOn 40 = .ok (.aload_n 0, 1) := by decide +kernel
theorem dX1_goOn_41 : decode cX1_goOn 41 = .ok (.invokevirtual 63, 3) := by decide +kernel
theorem dX1_goOn_44 : decode cX1_goOn 44 = .ok (.aload_n 0, 1) := by decide +kernel
theorem dX1_goOn_45 : decode cX1_goOn 45 = .ok (.dup, 1) := by decide +kernel
theorem dX1_goOn_46 : decode cX1_goOn 46 = .ok (.getfield 66, 3) := by decide +kernel
theorem dX1_goOn_49 : decode cX1_goOn 49 = .ok (.iconst 1, 1) := by decide +kernel
theorem dX1_goOn_50 : decode cX1_goOn 50 = .ok (.iadd, 1) := by decide +kernel
theorem dX1_goOn_51 : decode cX1_goOn 51 = .ok (.putfield 66, 3) := by decide +kernel
theorem dX1_goOn_54 : decode cX1_goOn 54 = .ok (.iinc 2 1, 3) := by decide +kernel
theorem dX1_goOn_57 : decode cX1_goOn 57 = .ok (.goto (-55), 3) := by decide +kernel
theorem dX1_goOn_60 : decode cX1_goOn 60 = .ok (.return_, 1) := by decide +kernel
theorem dX1_obeyOrders_0 : decode cX1_obeyOrders 0 = .ok (.iconst 0, 1) := by decide +kernel
theorem dX1_obeyOrders_1 : decode cX1_obeyOrders 1 = .ok (.istore_n 1, 1) := by decide +kernel
theorem dX1_obeyOrders_2 : decode cX1_obeyOrders 2 = .ok (.iload_n 1, 1) := by decide +kernel
theorem dX1_obeyOrders_3 : decode cX1_obeyOrders 3 = .ok (.aload_n 0, 1) := by decide +kernel
theorem dX1_obeyOrders_4 : decode cX1_obeyOrders 4 = .ok (.getfield 32, 3) := by decide +kernel
theorem dX1_obeyOrders_7 : decode cX1_obeyOrders 7 = .ok (.if_icmp .ge 64, 3) := by decide +kernel
theorem dX1_obeyOrders_10 : decode cX1_obeyOrders 10 = .ok (.aload_n 0, 1) := by decide +kernel
theorem dX1_obeyOrders_11 : decode cX1_obeyOrders 11 = .ok (.getfield 20, 3) := by decide +kernel
theorem dX1_obeyOrders_14 : decode cX1_obeyOrders 14 = .ok (.iload_n 1, 1) := by decide +kernel
theorem dX1_obeyOrders_15 : decode cX1_obeyOrders 15 = .ok (.aaload, 1) := by decide +kernel
theorem dX1_obeyOrders_16 : decode cX1_obeyOrders 16 = .ok (.astore_n 2, 1) := by decide +kernel
theorem dX1_obeyOrders_17 : decode cX1_obeyOrders 17 = .ok (.aload_n 2, 1) := by decide +kernel
theorem dX1_obeyOrders_18 : decode cX1_obeyOrders 18 = .ok (.invokevirtual 69, 3) := by decide +kernel
theorem dX1_obeyOrders_21 : decode cX1_obeyOrders 21 = .ok (.istore_n 3, 1) := by decide +kernel
theorem dX1_obeyOrders_22 : decode cX1_obeyOrders 22 = .ok (.aload_n 2, 1) := by decide +kernel
theorem dX1_obeyOrders_23 : decode cX1_obeyOrders 23 = .ok (.invokevirtual 73, 3) := by decide +kernel
theorem dX1_obeyOrders_26 : decode cX1_obeyOrders 26 = .ok (.ifCond .ne 39, 3) := by decide +kernel
theorem dX1_obeyOrders_29 : decode cX1_obeyOrders 29 = .ok (.iload_n 3, 1) := by decide +kernel
theorem dX1_obeyOrders_30 : decode cX1_obeyOrders 30 = .ok (.iconst (-1), 1) := by decide +kernel
theorem dX1_obeyOrders_31 : decode cX1_obeyOrders 31 = .ok (.if_icmp .ne 6, 3) := by decide +kernel
theorem dX1_obeyOrders_34 : decode cX1_obeyOrders 34 = .ok (.goto 31, 3) := by decide +kernel
theorem dX1_obeyOrders_37 : decode cX1_obeyOrders 37 = .ok (.aload_n 2, 1) := by decide +kernel
theorem dX1_obeyOrders_38 : decode cX1_obeyOrders 38 = .ok (.invokevirtual 77, 3) := by decide +kernel
theorem dX1_obeyOrders_41 : decode cX1_obeyOrders 41 = .ok (.aload_n 0, 1) := by decide +kernel
theorem dX1_obeyOrders_42 : decode cX1_obeyOrders 42 = .ok (.aload_n 2, 1) := by decide +kernel
theorem dX1_obeyOrders_43 : decode cX1_obeyOrders 43 = .ok (.iload_n 3, 1) := by decide +kernel
theorem dX1_obeyOrders_44 : decode cX1_obeyOrders 44 = .ok (.iconst 2, 1) := by decide +kernel
theorem dX1_obeyOrders_45 : decode cX1_obeyOrders 45 = .ok (.ishr, 1) := by decide +kernel
theorem dX1_obeyOrders_46 : decode cX1_obeyOrders 46 = .ok (.iload_n 3, 1) := by decide +kernel
theorem dX1_obeyOrders_47 : decode cX1_obeyOrders 47 = .ok (.iconst 3, 1) := by decide +kernel
theorem dX1_obeyOrders_48 : decode cX1_obeyOrders 48 = .ok (.iand, 1) := by decide +kernel
theorem dX1_obeyOrders_49 : decode cX1_obeyOrders 49 = .ok (.invokevirtual 80, 3) := by decide +kernel
theorem dX1_obeyOrders_52 : decode cX1_obeyOrders 52 = .ok (.ifCond .ne 13, 3) := by decide +kernel
theorem dX1_obeyOrders_55 : decode cX1_obeyOrders 55 = .ok (.aload_n 2, 1) := by decide +kernel
theorem dX1_obeyOrders_56 : decode cX1_obeyOrders 56 = .ok (.dup, 1) := by decide +kernel
theorem dX1_obeyOrders_57 : decode cX1_obeyOrders 57 = .ok (.getfield 84, 3) := by decide +kernel
theorem dX1_obeyOrders_60 : decode cX1_obeyOrders 60 = .ok (.iconst 1, 1) := by decide +kernel
theorem dX1_obeyOrders_61 : decode cX1_obeyOrders 61 = .ok (.iadd, 1) := by decide +kernel
theorem dX1_obeyOrders_62 : decode cX1_obeyOrders 62 = .ok (.putfield 84, 3) := by decide +kernel
theorem dX1_obeyOrders_65 : decode cX1_obeyOrders 65 = .ok (.iinc 1 1, 3) := by decide +kernel
theorem dX1_obeyOrders_68 : decode cX1_obeyOrders 68 = .ok (.goto (-66), 3) := by decide +kernel
theorem dX1_obeyOrders_71 : decode cX1_obeyOrders 71 = .ok (.return_, 1) := by decide +kernel
theorem dX1_tryOrder_0 : decode cX1_tryOrder 0 = .ok (.aload_n 1, 1) := by decide +kernel
theorem dX1_tryOrder_1 : decode cX1_tryOrder 1 = .ok (.getfield 36, 3) := by decide +kernel
theorem dX1_tryOrder_4 : decode cX1_tryOrder 4 = .ok (.iload_n 3, 1) := by decide +kernel
theorem dX1_tryOrder_5 : decode cX1_tryOrder 5 = .ok (.invokestatic 87, 3) := by decide +kernel
theorem dX1_tryOrder_8 : decode cX1_tryOrder 8 = .ok (.istore 4, 2) := by decide +kernel
theorem dX1_tryOrder_10 : decode cX1_tryOrder 10 = .ok (.iload_n 2, 1) := by decide +kernel
theorem dX1_tryOrder_11 : decode cX1_tryOrder 11 = .ok (.lookupswitch 47 #[(0, 25), (1, 39)], 25) := by decide +kernel
theorem dX1_tryOrder_36 : decode cX1_tryOrder 36 = .ok (.aload_n 0, 1) := by decide +kernel
theorem dX1_tryOrder_37 : decode cX1_tryOrder 37 = .ok (.aload_n 1, 1) := by decide +kernel
theorem dX1_tryOrder_38 : decode cX1_tryOrder 38 = .ok (.iload 4, 2) := by decide +kernel
theorem dX1_tryOrder_40 : decode cX1_tryOrder 40 = .ok (.iload 4, 2) := by decide +kernel
theorem dX1_tryOrder_42 : decode cX1_tryOrder 42 = .ok (.iload_n 3, 1) := by decide +kernel
theorem dX1_tryOrder_43 : decode cX1_tryOrder 43 = .ok (.invokestatic 87, 3) := by decide +kernel
theorem dX1_tryOrder_46 : decode cX1_tryOrder 46 = .ok (.invokevirtual 91, 3) := by decide +kernel
theorem dX1_tryOrder_49 : decode cX1_tryOrder 49 = .ok (.ireturn, 1) := by decide +kernel
theorem dX1_tryOrder_50 : decode cX1_tryOrder 50 = .ok (.aload_n 0, 1) := by decide +kernel
theorem dX1_tryOrder_51 : decode cX1_tryOrder 51 = .ok (.aload_n 1, 1) := by decide +kernel
theorem dX1_tryOrder_52 : decode cX1_tryOrder 52 = .ok (.iload 4, 2) := by decide +kernel
theorem dX1_tryOrder_54 : decode cX1_tryOrder 54 = .ok (.invokevirtual 94, 3) := by decide +kernel
theorem dX1_tryOrder_57 : decode cX1_tryOrder 57 = .ok (.ireturn, 1) := by decide +kernel
theorem dX1_tryOrder_58 : decode cX1_tryOrder 58 = .ok (.aload_n 0, 1) := by decide +kernel
theorem dX1_tryOrder_59 : decode cX1_tryOrder 59 = .ok (.iload 4, 2) := by decide +kernel
theorem dX1_tryOrder_61 : decode cX1_tryOrder 61 = .ok (.invokevirtual 98, 3) := by decide +kernel
theorem dX1_tryOrder_64 : decode cX1_tryOrder 64 = .ok (.ireturn, 1) := by decide +kernel
theorem dX1_tryGo_0 : decode cX1_tryGo 0 = .ok (.aload_n 0, 1) := by decide +kernel
theorem dX1_tryGo_1 : decode cX1_tryGo 1 = .ok (.getfield 12, 3) := by decide +kernel
theorem dX1_tryGo_4 : decode cX1_tryGo 4 = .ok (.iload_n 2, 1) := by decide +kernel
theorem dX1_tryGo_5 : decode cX1_tryGo 5 = .ok (.invokevirtual 102, 3) := by decide +kernel
theorem dX1_tryGo_8 : decode cX1_tryGo 8 = .ok (.istore 4, 2) := by decide +kernel
theorem dX1_tryGo_10 : decode cX1_tryGo 10 = .ok (.aload_n 0, 1) := by decide +kernel
theorem dX1_tryGo_11 : decode cX1_tryGo 11 = .ok (.getfield 12, 3) := by decide +kernel
theorem dX1_tryGo_14 : decode cX1_tryGo 14 = .ok (.iload_n 3, 1) := by decide +kernel
theorem dX1_tryGo_15 : decode cX1_tryGo 15 = .ok (.invokevirtual 102, 3) := by decide +kernel
theorem dX1_tryGo_18 : decode cX1_tryGo 18 = .ok (.istore 5, 2) := by decide +kernel
theorem dX1_tryGo_20 : decode cX1_tryGo 20 = .ok (.iload 4, 2) := by decide +kernel
theorem dX1_tryGo_22 : decode cX1_tryGo 22 = .ok (.ifCond .le 41, 3) := by decide +kernel
theorem dX1_tryGo_25 : decode cX1_tryGo 25 = .ok (.aload_n 1, 1) := by decide +kernel
theorem dX1_tryGo_26 : decode cX1_tryGo 26 = .ok (.getfield 39, 3) := by decide +kernel
theorem dX1_tryGo_29 : decode cX1_tryGo 29 = .ok (.iconst 2, 1) := by decide +kernel
theorem dX1_tryGo_30 : decode cX1_tryGo 30 = .ok (.iload 4, 2) := by decide +kernel
theorem dX1_tryGo_32 : decode cX1_tryGo 32 = .ok (.imul, 1) := by decide +kernel
theorem dX1_tryGo_33 : decode cX1_tryGo 33 = .ok (.if_icmp .lt 30, 3) := by decide +kernel
theorem dX1_tryGo_36 : decode cX1_tryGo 36 = .ok (.iload 5, 2) := by decide +kernel
theorem dX1_tryGo_38 : decode cX1_tryGo 38 = .ok (.iconst (-1), 1) := by decide +kernel
theorem dX1_tryGo_39 : decode cX1_tryGo 39 = .ok (.if_icmp .eq 24, 3) := by decide +kernel
theorem dX1_tryGo_42 : decode cX1_tryGo 42 = .ok (.iload 5, 2) := by decide +kernel
theorem dX1_tryGo_44 : decode cX1_tryGo 44 = .ok (.iconst 3, 1) := by decide +kernel
theorem dX1_tryGo_45 : decode cX1_tryGo 45 = .ok (.iload 4, 2) := by decide +kernel
theorem dX1_tryGo_47 : decode cX1_tryGo 47 = .ok (.isub, 1) := by decide +kernel
theorem dX1_tryGo_48 : decode cX1_tryGo 48 = .ok (.if_icmp .gt 15, 3) := by decide +kernel
theorem dX1_tryGo_51 : decode cX1_tryGo 51 = .ok (.aload_n 0, 1) := by decide +kernel
theorem dX1_tryGo_52 : decode cX1_tryGo 52 = .ok (.iload_n 3, 1) := by decide +kernel
theorem dX1_tryGo_53 : decode cX1_tryGo 53 = .ok (.invokevirtual 106, 3) := by decide +kernel
theorem dX1_tryGo_56 : decode cX1_tryGo 56 = .ok (.ifCond .ne 7, 3) := by decide +kernel
theorem dX1_tryGo_59 : decode cX1_tryGo 59 = .ok (.iconst 1, 1) := by decide +kernel
theorem dX1_tryGo_60 : decode cX1_tryGo 60 = .ok (.goto 4, 3) := by decide +kernel
theorem dX1_tryGo_63 : decode cX1_tryGo 63 = .ok (.iconst 0, 1) := by decide +kernel
theorem dX1_tryGo_64 : decode cX1_tryGo 64 = .ok (.istore 6, 2) := by decide +kernel
theorem dX1_tryGo_66 : decode cX1_tryGo 66 = .ok (.iload 4, 2) := by decide +kernel
theorem dX1_tryGo_68 : decode cX1_tryGo 68 = .ok (.ifCond .eq 10, 3) := by decide +kernel
theorem dX1_tryGo_71 : decode cX1_tryGo 71 = .ok (.iload 6, 2) := by decide +kernel
theorem dX1_tryGo_73 : decode cX1_tryGo 73 = .ok (.ifCond .ne 5, 3) := by decide +kernel
theorem dX1_tryGo_76 : decode cX1_tryGo 76 = .ok (.iconst 0, 1) := by decide +kernel
theorem dX1_tryGo_77 : decode cX1_tryGo 77 = .ok (.ireturn, 1) := by decide +kernel
theorem dX1_tryGo_78 : decode cX1_tryGo 78 = .ok (.iload 6, 2) := by decide +kernel
theorem dX1_tryGo_80 : decode cX1_tryGo 80 = .ok (.ifCond .eq 25, 3) := by decide +kernel
theorem dX1_tryGo_83 : decode cX1_tryGo 83 = .ok (.aload_n 0, 1) := by decide +kernel
theorem dX1_tryGo_84 : decode cX1_tryGo 84 = .ok (.getfield 12, 3) := by decide +kernel
theorem dX1_tryGo_87 : decode cX1_tryGo 87 = .ok (.iload_n 2, 1) := by decide +kernel
theorem dX1_tryGo_88 : decode cX1_tryGo 88 = .ok (.iconst 0, 1) := by decide +kernel
theorem dX1_tryGo_89 : decode cX1_tryGo 89 = .ok (.invokevirtual 109, 3) := by decide +kernel
theorem dX1_tryGo_92 : decode cX1_tryGo 92 = .ok (.aload_n 0, 1) := by decide +kernel
theorem dX1_tryGo_93 : decode cX1_tryGo 93 = .ok (.getfield 12, 3) := by decide +kernel
theorem dX1_tryGo_96 : decode cX1_tryGo 96 = .ok (.iload_n 3, 1) := by decide +kernel
theorem dX1_tryGo_97 : decode cX1_tryGo 97 = .ok (.iload 5, 2) := by decide +kernel
theorem dX1_tryGo_99 : decode cX1_tryGo 99 = .ok (.iload 4, 2) := by decide +kernel
theorem dX1_tryGo_101 : decode cX1_tryGo 101 = .ok (.iadd, 1) := by decide +kernel
theorem dX1_tryGo_102 : decode cX1_tryGo 102 = .ok (.invokevirtual 109, 3) := by decide +kernel
theorem dX1_tryGo_105 : decode cX1_tryGo 105 = .ok (.aload_n 1, 1) := by decide +kernel
theorem dX1_tryGo_106 : decode cX1_tryGo 106 = .ok (.iload_n 2, 1) := by decide +kernel
theorem dX1_tryGo_107 : decode cX1_tryGo 107 = .ok (.putfield 36, 3) := by decide +kernel
theorem dX1_tryGo_110 : decode cX1_tryGo 110 = .ok (.iconst 1, 1) := by decide +kernel
theorem dX1_tryGo_111 : decode cX1_tryGo 111 = .ok (.ireturn, 1) := by decide +kernel
theorem dX1_tryRaise_0 : decode cX1_tryRaise 0 = .ok (.aload_n 0, 1) := by decide +kernel
theorem dX1_tryRaise_1 : decode cX1_tryRaise 1 = .ok (.getfield 12, 3) := by decide +kernel
theorem dX1_tryRaise_4 : decode cX1_tryRaise 4 = .ok (.iload_n 2, 1) := by decide +kernel
theorem dX1_tryRaise_5 : decode cX1_tryRaise 5 = .ok (.invokevirtual 102, 3) := by decide +kernel
theorem dX1_tryRaise_8 : decode cX1_tryRaise 8 = .ok (.istore_n 3, 1) := by decide +kernel
theorem dX1_tryRaise_9 : decode cX1_tryRaise 9 = .ok (.aload_n 1, 1) := by decide +kernel
theorem dX1_tryRaise_10 : decode cX1_tryRaise 10 = .ok (.getfield 39, 3) := by decide +kernel
theorem dX1_tryRaise_13 : decode cX1_tryRaise 13 = .ok (.iconst 3, 1) := by decide +kernel
theorem dX1_tryRaise_14 : decode cX1_tryRaise 14 = .ok (.if_icmp .lt 21, 3) := by decide +kernel
theorem dX1_tryRaise_17 : decode cX1_tryRaise 17 = .ok (.iload_n 3, 1) := by decide +kernel
theorem dX1_tryRaise_18 : decode cX1_tryRaise 18 = .ok (.iconst (-1), 1) := by decide +kernel
theorem dX1_tryRaise_19 : decode cX1_tryRaise 19 = .ok (.if_icmp .eq 16, 3) := by decide +kernel
theorem dX1_tryRaise_22 : decode cX1_tryRaise 22 = .ok (.iload_n 3, 1) := by decide +kernel
theorem dX1_tryRaise_23 : decode cX1_tryRaise 23 = .ok (.iconst 3, 1) := by decide +kernel
theorem dX1_tryRaise_24 : decode cX1_tryRaise 24 = .ok (.if_icmp .ge 11, 3) := by decide +kernel
theorem dX1_tryRaise_27 : decode cX1_tryRaise 27 = .ok (.aload_n 0, 1) := by decide +kernel
theorem dX1_tryRaise_28 : decode cX1_tryRaise 28 = .ok (.iload_n 2, 1) := by decide +kernel
theorem dX1_tryRaise_29 : decode cX1_tryRaise 29 = .ok (.invokevirtual 106, 3) := by decide +kernel
theorem dX1_tryRaise_32 : decode cX1_tryRaise 32 = .ok (.ifCond .eq 5, 3) := by decide +kernel
theorem dX1_tryRaise_35 : decode cX1_tryRaise 35 = .ok (.iconst 0, 1) := by decide +kernel
theorem dX1_tryRaise_36 : decode cX1_tryRaise 36 = .ok (.ireturn, 1) := by decide +kernel
theorem dX1_tryRaise_37 : decode cX1_tryRaise 37 = .ok (.aload_n 0, 1) := by decide +kernel
theorem dX1_tryRaise_38 : decode cX1_tryRaise 38 = .ok (.getfield 12, 3) := by decide +kernel
theorem dX1_tryRaise_41 : decode cX1_tryRaise 41 = .ok (.iload_n 2, 1) := by decide +kernel
theorem dX1_tryRaise_42 : decode cX1_tryRaise 42 = .ok (.iload_n 3, 1) := by decide +kernel
theorem dX1_tryRaise_43 : decode cX1_tryRaise 43 = .ok (.iconst 1, 1) := by decide +kernel
theorem dX1_tryRaise_44 : decode cX1_tryRaise 44 = .ok (.iadd, 1) := by decide +kernel
theorem dX1_tryRaise_45 : decode cX1_tryRaise 45 = .ok (.invokevirtual 109, 3) := by decide +kernel
theorem dX1_tryRaise_48 : decode cX1_tryRaise 48 = .ok (.iconst 1, 1) := by decide +kernel
theorem dX1_tryRaise_49 : decode cX1_tryRaise 49 = .ok (.ireturn, 1) := by decide +kernel
theorem dX1_tryPullDown_0 : decode cX1_tryPullDown 0 = .ok (.aload_n 0, 1) := by decide +kernel
theorem dX1_tryPullDown_1 : decode cX1_tryPullDown 1 = .ok (.getfield 12, 3) := by decide +kernel
theorem dX1_tryPullDown_4 : decode cX1_tryPullDown 4 = .ok (.iload_n 1, 1) := by decide +kernel
theorem dX1_tryPullDown_5 : decode cX1_tryPullDown 5 = .ok (.invokevirtual 102, 3) := by decide +kernel
theorem dX1_tryPullDown_8 : decode cX1_tryPullDown 8 = .ok (.istore_n 2, 1) := by decide +kernel
theorem dX1_tryPullDown_9 : decode cX1_tryPullDown 9 = .ok (.iload_n 2, 1) := by decide +kernel
theorem dX1_tryPullDown_10 : decode cX1_tryPullDown 10 = .ok (.ifCond .gt 5, 3) := by decide +kernel
theorem dX1_tryPullDown_13 : decode cX1_tryPullDown 13 = .ok (.iconst 0, 1) := by decide +kernel
theorem dX1_tryPullDown_14 : decode cX1_tryPullDown 14 = .ok (.ireturn, 1) := by decide +kernel
theorem dX1_tryPullDown_15 : decode cX1_tryPullDown 15 = .ok (.aload_n 0, 1) := by decide +kernel
theorem dX1_tryPullDown_16 : decode cX1_tryPullDown 16 = .ok (.getfield 12, 3) := by decide +kernel
theorem dX1_tryPullDown_19 : decode cX1_tryPullDown 19 = .ok (.iload_n 1, 1) := by decide +kernel
theorem dX1_tryPullDown_20 : decode cX1_tryPullDown 20 = .ok (.iload_n 2, 1) := by decide +kernel
theorem dX1_tryPullDown_21 : decode cX1_tryPullDown 21 = .ok (.iconst 1, 1) := by decide +kernel
theorem dX1_tryPullDown_22 : decode cX1_tryPullDown 22 = .ok (.isub, 1) := by decide +kernel
theorem dX1_tryPullDown_23 : decode cX1_tryPullDown 23 = .ok (.invokevirtual 109, 3) := by decide +kernel
theorem dX1_tryPullDown_26 : decode cX1_tryPullDown 26 = .ok (.iconst 1, 1) := by decide +kernel
theorem dX1_tryPullDown_27 : decode cX1_tryPullDown 27 = .ok (.ireturn, 1) := by decide +kernel
theorem dX1_scatter_0 : decode cX1_scatter 0 = .ok (.iconst 0, 1) := by decide +kernel
theorem dX1_scatter_1 : decode cX1_scatter 1 = .ok (.istore_n 1, 1) := by decide +kernel
theorem dX1_scatter_2 : decode cX1_scatter 2 = .ok (.iload_n 1, 1) := by decide +kernel
theorem dX1_scatter_3 : decode cX1_scatter 3 = .ok (.aload_n 0, 1) := by decide +kernel
theorem dX1_scatter_4 : decode cX1_scatter 4 = .ok (.getfield 32, 3) := by decide +kernel
theorem dX1_scatter_7 : decode cX1_scatter 7 = .ok (.if_icmp .ge 34, 3) := by decide +kernel
theorem dX1_scatter_10 : decode cX1_scatter 10 = .ok (.aload_n 0, 1) := by decide +kernel
theorem dX1_scatter_11 : decode cX1_scatter 11 = .ok (.getfield 20, 3) := by decide +kernel
theorem dX1_scatter_14 : decode cX1_scatter 14 = .ok (.iload_n 1, 1) := by decide +kernel
theorem dX1_scatter_15 : decode cX1_scatter 15 = .ok (.aaload, 1) := by decide +kernel
theorem dX1_scatter_16 : decode cX1_scatter 16 = .ok (.astore_n 2, 1) := by decide +kernel
theorem dX1_scatter_17 : decode cX1_scatter 17 = .ok (.aload_n 2, 1) := by decide +kernel
theorem dX1_scatter_18 : decode cX1_scatter 18 = .ok (.aload_n 2, 1) := by decide +kernel
theorem dX1_scatter_19 : decode cX1_scatter 19 = .ok (.getfield 39, 3) := by decide +kernel
theorem dX1_scatter_22 : decode cX1_scatter 22 = .ok (.aload_n 0, 1) := by decide +kernel
theorem dX1_scatter_23 : decode cX1_scatter 23 = .ok (.aload_n 2, 1) := by decide +kernel
theorem dX1_scatter_24 : decode cX1_scatter 24 = .ok (.invokevirtual 113, 3) := by decide +kernel
theorem dX1_scatter_27 : decode cX1_scatter 27 = .ok (.isub, 1) := by decide +kernel
theorem dX1_scatter_28 : decode cX1_scatter 28 = .ok (.iconst 0, 1) := by decide +kernel
theorem dX1_scatter_29 : decode cX1_scatter 29 = .ok (.invokestatic 117, 3) := by decide +kernel
theorem dX1_scatter_32 : decode cX1_scatter 32 = .ok (.putfield 39, 3) := by decide +kernel
theorem dX1_scatter_35 : decode cX1_scatter 35 = .ok (.iinc 1 1, 3) := by decide +kernel
theorem dX1_scatter_38 : decode cX1_scatter 38 = .ok (.goto (-36), 3) := by decide +kernel
theorem dX1_scatter_41 : decode cX1_scatter 41 = .ok (.return_, 1) := by decide +kernel
theorem dX1_isSeen_0 : decode cX1_isSeen 0 = .ok (.aload_n 2, 1) := by decide +kernel
theorem dX1_isSeen_1 : decode cX1_isSeen 1 = .ok (.getfield 36, 3) := by decide +kernel
theorem dX1_isSeen_4 : decode cX1_isSeen 4 = .ok (.bipush 12, 2) := by decide +kernel
theorem dX1_isSeen_6 : decode cX1_isSeen 6 = .ok (.irem, 1) := by decide +kernel
theorem dX1_isSeen_7 : decode cX1_isSeen 7 = .ok (.aload_n 1, 1) := by decide +kernel
theorem dX1_isSeen_8 : decode cX1_isSeen 8 = .ok (.getfield 49, 3) := by decide +kernel
theorem dX1_isSeen_11 : decode cX1_isSeen 11 = .ok (.bipush 12, 2) := by decide +kernel
theorem dX1_isSeen_13 : decode cX1_isSeen 13 = .ok (.irem, 1) := by decide +kernel
theorem dX1_isSeen_14 : decode cX1_isSeen 14 = .ok (.isub, 1) := by decide +kernel
theorem dX1_isSeen_15 : decode cX1_isSeen 15 = .ok (.invokestatic 122, 3) := by decide +kernel
theorem dX1_isSeen_18 : decode cX1_isSeen 18 = .ok (.istore_n 3, 1) := by decide +kernel
theorem dX1_isSeen_19 : decode cX1_isSeen 19 = .ok (.aload_n 2, 1) := by decide +kernel
theorem dX1_isSeen_20 : decode cX1_isSeen 20 = .ok (.getfield 36, 3) := by decide +kernel
theorem dX1_isSeen_23 : decode cX1_isSeen 23 = .ok (.bipush 12, 2) := by decide +kernel
theorem dX1_isSeen_25 : decode cX1_isSeen 25 = .ok (.idiv, 1) := by decide +kernel
theorem dX1_isSeen_26 : decode cX1_isSeen 26 = .ok (.aload_n 1, 1) := by decide +kernel
theorem dX1_isSeen_27 : decode cX1_isSeen 27 = .ok (.getfield 49, 3) := by decide +kernel
theorem dX1_isSeen_30 : decode cX1_isSeen 30 = .ok (.bipush 12, 2) := by decide +kernel
theorem dX1_isSeen_32 : decode cX1_isSeen 32 = .ok (.idiv, 1) := by decide +kernel
theorem dX1_isSeen_33 : decode cX1_isSeen 33 = .ok (.isub, 1) := by decide +kernel
theorem dX1_isSeen_34 : decode cX1_isSeen 34 = .ok (.invokestatic 122, 3) := by decide +kernel
theorem dX1_isSeen_37 : decode cX1_isSeen 37 = .ok (.istore 4, 2) := by decide +kernel
theorem dX1_isSeen_39 : decode cX1_isSeen 39 = .ok (.iload_n 3, 1) := by decide +kernel
theorem dX1_isSeen_40 : decode cX1_isSeen 40 = .ok (.iload 4, 2) := by decide +kernel
theorem dX1_isSeen_42 : decode cX1_isSeen 42 = .ok (.iadd, 1) := by decide +kernel
theorem dX1_isSeen_43 : decode cX1_isSeen 43 = .ok (.istore 5, 2) := by decide +kernel
theorem dX1_isSeen_45 : decode cX1_isSeen 45 = .ok (.aload_n 2, 1) := by decide +kernel
theorem dX1_isSeen_46 : decode cX1_isSeen 46 = .ok (.getfield 42, 3) := by decide +kernel
theorem dX1_isSeen_49 : decode cX1_isSeen 49 = .ok (.ifCond .eq 7, 3) := by decide +kernel
theorem dX1_isSeen_52 : decode cX1_isSeen 52 = .ok (.iconst 4, 1) := by decide +kernel
theorem dX1_isSeen_53 : decode cX1_isSeen 53 = .ok (.goto 4, 3) := by decide +kernel
theorem dX1_isSeen_56 : decode cX1_isSeen 56 = .ok (.iconst 1, 1) := by decide +kernel
theorem dX1_isSeen_57 : decode cX1_isSeen 57 = .ok (.istore 6, 2) := by decide +kernel
theorem dX1_isSeen_59 : decode cX1_isSeen 59 = .ok (.aload_n 2, 1) := by decide +kernel
theorem dX1_isSeen_60 : decode cX1_isSeen 60 = .ok (.invokevirtual 73, 3) := by decide +kernel
theorem dX1_isSeen_63 : decode cX1_isSeen 63 = .ok (.ifCond .ne 19, 3) := by decide +kernel
theorem dX1_isSeen_66 : decode cX1_isSeen 66 = .ok (.iload_n 3, 1) := by decide +kernel
theorem dX1_isSeen_67 : decode cX1_isSeen 67 = .ok (.ifCond .le 8, 3) := by decide +kernel
theorem dX1_isSeen_70 : decode cX1_isSeen 70 = .ok (.iload 4, 2) := by decide +kernel
theorem dX1_isSeen_72 : decode cX1_isSeen 72 = .ok (.ifCond .gt 10, 3) := by decide +kernel
theorem dX1_isSeen_75 : decode cX1_isSeen 75 = .ok (.iload 5, 2) := by decide +kernel
theorem dX1_isSeen_77 : decode cX1_isSeen 77 = .ok (.iload 6, 2) := by decide +kernel
theorem dX1_isSeen_79 : decode cX1_isSeen 79 = .ok (.if_icmp .le 5, 3) := by decide +kernel
theorem dX1_isSeen_82 : decode cX1_isSeen 82 = .ok (.iconst 0, 1) := by decide +kernel
theorem dX1_isSeen_83 : decode cX1_isSeen 83 = .ok (.ireturn, 1) := by decide +kernel
theorem dX1_isSeen_84 : decode cX1_isSeen 84 = .ok (.aload_n 2, 1) := by decide +kernel
theorem dX1_isSeen_85 : decode cX1_isSeen 85 = .ok (.getfield 36, 3) := by decide +kernel
theorem dX1_isSeen_88 : decode cX1_isSeen 88 = .ok (.aload_n 1, 1) := by decide +kernel
theorem dX1_isSeen_89 : decode cX1_isSeen 89 = .ok (.getfield 49, 3) := by decide +kernel
theorem dX1_isSeen_92 : decode cX1_isSeen 92 = .ok (.invokestatic 125, 3) := by decide +kernel
theorem dX1_isSeen_95 : decode cX1_isSeen 95 = .ok (.istore 7, 2) := by decide +kernel
theorem dX1_isSeen_97 : decode cX1_isSeen 97 = .ok (.iload 4, 2) := by decide +kernel
theorem dX1_isSeen_99 : decode cX1_isSeen 99 = .ok (.ifCond .ne 7, 3) := by decide +kernel
theorem dX1_isSeen_102 : decode cX1_isSeen 102 = .ok (.iconst 1, 1) := by decide +kernel
theorem dX1_isSeen_103 : decode cX1_isSeen 103 = .ok (.goto 5, 3) := by decide +kernel
theorem dX1_isSeen_106 : decode cX1_isSeen 106 = .ok (.bipush 12, 2) := by decide +kernel
theorem dX1_isSeen_108 : decode cX1_isSeen 108 = .ok (.istore 8, 2) := by decide +kernel
theorem dX1_isSeen_110 : decode cX1_isSeen 110 = .ok (.iconst 1, 1) := by decide +kernel
theorem dX1_isSeen_111 : decode cX1_isSeen 111 = .ok (.istore 9, 2) := by decide +kernel
theorem dX1_isSeen_113 : decode cX1_isSeen 113 = .ok (.iload 9, 2) := by decide +kernel
theorem dX1_isSeen_115 : decode cX1_isSeen 115 = .ok (.iload 5, 2) := by decide +kernel
theorem dX1_isSeen_117 : decode cX1_isSeen 117 = .ok (.if_icmp .ge 29, 3) := by decide +kernel
theorem dX1_isSeen_120 : decode cX1_isSeen 120 = .ok (.aload_n 0, 1) := by decide +kernel
theorem dX1_isSeen_121 : decode cX1_isSeen 121 = .ok (.getfield 12, 3) := by decide +kernel
theorem dX1_isSeen_124 : decode cX1_isSeen 124 = .ok (.iload 7, 2) := by decide +kernel
theorem dX1_isSeen_126 : decode cX1_isSeen 126 = .ok (.iload 9, 2) := by decide +kernel
theorem dX1_isSeen_128 : decode cX1_isSeen 128 = .ok (.iload 8, 2) := by decide +kernel
theorem dX1_isSeen_130 : decode cX1_isSeen 130 = .ok (.imul, 1) := by decide +kernel
theorem dX1_isSeen_131 : decode cX1_isSeen 131 = .ok (.iadd, 1) := by decide +kernel
theorem dX1_isSeen_132 : decode cX1_isSeen 132 = .ok (.invokevirtual 102, 3) := by decide +kernel
theorem dX1_isSeen_135 : decode cX1_isSeen 135 = .ok (.ifCond .eq 5, 3) := by decide +kernel
theorem dX1_isSeen_138 : decode cX1_isSeen 138 = .ok (.iconst 0, 1) := by decide +kernel
theorem dX1_isSeen_139 : decode cX1_isSeen 139 = .ok (.ireturn, 1) := by decide +kernel
theorem dX1_isSeen_140 : decode cX1_isSeen 140 = .ok (.iinc 9 1, 3) := by decide +kernel
theorem dX1_isSeen_143 : decode cX1_isSeen 143 = .ok (.goto (-30), 3) := by decide +kernel
theorem dX1_isSeen_146 : decode cX1_isSeen 146 = .ok (.iconst 1, 1) := by decide +kernel
theorem dX1_isSeen_147 : decode cX1_isSeen 147 = .ok (.ireturn, 1) := by decide +kernel
theorem dX1_patrolsThatSee_0 : decode cX1_patrolsThatSee 0 = .ok (.iconst 0, 1) := by decide +kernel
theorem dX1_patrolsThatSee_1 : decode cX1_patrolsThatSee 1 = .ok (.istore_n 2, 1) := by decide +kernel
theorem dX1_patrolsThatSee_2 : decode cX1_patrolsThatSee 2 = .ok (.iconst 0, 1) := by decide +kernel
theorem dX1_patrolsThatSee_3 : decode cX1_patrolsThatSee 3 = .ok (.istore_n 3, 1) := by decide +kernel
theorem dX1_patrolsThatSee_4 : decode cX1_patrolsThatSee 4 = .ok (.iload_n 3, 1) := by decide +kernel
theorem dX1_patrolsThatSee_5 : decode cX1_patrolsThatSee 5 = .ok (.aload_n 0, 1) := by decide +kernel
theorem dX1_patrolsThatSee_6 : decode cX1_patrolsThatSee 6 = .ok (.getfield 46, 3) := by decide +kernel
theorem dX1_patrolsThatSee_9 : decode cX1_patrolsThatSee 9 = .ok (.if_icmp .ge 26, 3) := by decide +kernel
theorem dX1_patrolsThatSee_12 : decode cX1_patrolsThatSee 12 = .ok (.aload_n 0, 1) := by decide +kernel
theorem dX1_patrolsThatSee_13 : decode cX1_patrolsThatSee 13 = .ok (.aload_n 0, 1) := by decide +kernel
theorem dX1_patrolsThatSee_14 : decode cX1_patrolsThatSee 14 = .ok (.getfield 27, 3) := by decide +kernel
theorem dX1_patrolsThatSee_17 : decode cX1_patrolsThatSee 17 = .ok (.iload_n 3, 1) := by decide +kernel
theorem dX1_patrolsThatSee_18 : decode cX1_patrolsThatSee 18 = .ok (.aaload, 1) := by decide +kernel
theorem dX1_patrolsThatSee_19 : decode cX1_patrolsThatSee 19 = .ok (.aload_n 1, 1) := by decide +kernel
theorem dX1_patrolsThatSee_20 : decode cX1_patrolsThatSee 20 = .ok (.invokevirtual 128, 3) := by decide +kernel
theorem dX1_patrolsThatSee_23 : decode cX1_patrolsThatSee 23 = .ok (.ifCond .eq 6, 3) := by decide +kernel
theorem dX1_patrolsThatSee_26 : decode cX1_patrolsThatSee 26 = .ok (.iinc 2 1, 3) := by decide +kernel
theorem dX1_patrolsThatSee_29 : decode cX1_patrolsThatSee 29 = .ok (.iinc 3 1, 3) := by decide +kernel
theorem dX1_patrolsThatSee_32 : decode cX1_patrolsThatSee 32 = .ok (.goto (-28), 3) := by decide +kernel
theorem dX1_patrolsThatSee_35 : decode cX1_patrolsThatSee 35 = .ok (.iload_n 2, 1) := by decide +kernel
theorem dX1_patrolsThatSee_36 : decode cX1_patrolsThatSee 36 = .ok (.ireturn, 1) := by decide +kernel
theorem dX1_crowdsSeenBy_0 : decode cX1_crowdsSeenBy 0 = .ok (.iconst 0, 1) := by decide +kernel
theorem dX1_crowdsSeenBy_1 : decode cX1_crowdsSeenBy 1 = .ok (.istore_n 2, 1) := by decide +kernel
theorem dX1_crowdsSeenBy_2 : decode cX1_crowdsSeenBy 2 = .ok (.iconst 0, 1) := by decide +kernel
theorem dX1_crowdsSeenBy_3 : decode cX1_crowdsSeenBy 3 = .ok (.istore_n 3, 1) := by decide +kernel
theorem dX1_crowdsSeenBy_4 : decode cX1_crowdsSeenBy 4 = .ok (.iload_n 3, 1) := by decide +kernel
theorem dX1_crowdsSeenBy_5 : decode cX1_crowdsSeenBy 5 = .ok (.aload_n 0, 1) := by decide +kernel
theorem dX1_crowdsSeenBy_6 : decode cX1_crowdsSeenBy 6 = .ok (.getfield 32, 3) := by decide +kernel
theorem dX1_crowdsSeenBy_9 : decode cX1_crowdsSeenBy 9 = .ok (.if_icmp .ge 26, 3) := by decide +kernel
theorem dX1_crowdsSeenBy_12 : decode cX1_crowdsSeenBy 12 = .ok (.aload_n 0, 1) := by decide +kernel
theorem dX1_crowdsSeenBy_13 : decode cX1_crowdsSeenBy 13 = .ok (.aload_n 1, 1) := by decide +kernel
theorem dX1_crowdsSeenBy_14 : decode cX1_crowdsSeenBy 14 = .ok (.aload_n 0, 1) := by decide +kernel
theorem dX1_crowdsSeenBy_15 : decode cX1_crowdsSeenBy 15 = .ok (.getfield 20, 3) := by decide +kernel
theorem dX1_crowdsSeenBy_18 : decode cX1_crowdsSeenBy 18 = .ok (.iload_n 3, 1) := by decide +kernel
theorem dX1_crowdsSeenBy_19 : decode cX1_crowdsSeenBy 19 = .ok (.aaload, 1) := by decide +kernel
theorem dX1_crowdsSeenBy_20 : decode cX1_crowdsSeenBy 20 = .ok (.invokevirtual 128, 3) := by decide +kernel
theorem dX1_crowdsSeenBy_23 : decode cX1_crowdsSeenBy 23 = .ok (.ifCond .eq 6, 3) := by decide +kernel
theorem dX1_crowdsSeenBy_26 : decode cX1_crowdsSeenBy 26 = .ok (.iinc 2 1, 3) := by decide +kernel
theorem dX1_crowdsSeenBy_29 : decode cX1_crowdsSeenBy 29 = .ok (.iinc 3 1, 3) := by decide +kernel
theorem dX1_crowdsSeenBy_32 : decode cX1_crowdsSeenBy 32 = .ok (.goto (-28), 3) := by decide +kernel
theorem dX1_crowdsSeenBy_35 : decode cX1_crowdsSeenBy 35 = .ok (.iload_n 2, 1) := by decide +kernel
theorem dX1_crowdsSeenBy_36 : decode cX1_crowdsSeenBy 36 = .ok (.ireturn, 1) := by decide +kernel
theorem dX1_crowdsLeft_0 : decode cX1_crowdsLeft 0 = .ok (.iconst 0, 1) := by decide +kernel
theorem dX1_crowdsLeft_1 : decode cX1_crowdsLeft 1 = .ok (.istore_n 1, 1) := by decide +kernel
theorem dX1_crowdsLeft_2 : decode cX1_crowdsLeft 2 = .ok (.iconst 0, 1) := by decide +kernel
theorem dX1_crowdsLeft_3 : decode cX1_crowdsLeft 3 = .ok (.istore_n 2, 1) := by decide +kernel
theorem dX1_crowdsLeft_4 : decode cX1_crowdsLeft 4 = .ok (.iload_n 2, 1) := by decide +kernel
theorem dX1_crowdsLeft_5 : decode cX1_crowdsLeft 5 = .ok (.aload_n 0, 1) := by decide +kernel
theorem dX1_crowdsLeft_6 : decode cX1_crowdsLeft 6 = .ok (.getfield 32, 3) := by decide +kernel
theorem dX1_crowdsLeft_9 : decode cX1_crowdsLeft 9 = .ok (.if_icmp .ge 24, 3) := by decide +kernel
theorem dX1_crowdsLeft_12 : decode cX1_crowdsLeft 12 = .ok (.aload_n 0, 1) := by decide +kernel
theorem dX1_crowdsLeft_13 : decode cX1_crowdsLeft 13 = .ok (.getfield 20, 3) := by decide +kernel
theorem dX1_crowdsLeft_16 : decode cX1_crowdsLeft 16 = .ok (.iload_n 2, 1) := by decide +kernel
theorem dX1_crowdsLeft_17 : decode cX1_crowdsLeft 17 = .ok (.aaload, 1) := by decide +kernel
theorem dX1_crowdsLeft_18 : decode cX1_crowdsLeft 18 = .ok (.invokevirtual 73, 3) := by decide +kernel
theorem dX1_crowdsLeft_21 : decode cX1_crowdsLeft 21 = .ok (.ifCond .ne 6, 3) := by decide +kernel
theorem dX1_crowdsLeft_24 : decode cX1_crowdsLeft 24 = .ok (.iinc 1 1, 3) := by decide +kernel
theorem dX1_crowdsLeft_27 : decode cX1_crowdsLeft 27 = .ok (.iinc 2 1, 3) := by decide +kernel
theorem dX1_crowdsLeft_30 : decode cX1_crowdsLeft 30 = .ok (.goto (-26), 3) := by decide +kernel
theorem dX1_crowdsLeft_33 : decode cX1_crowdsLeft 33 = .ok (.iload_n 1, 1) := by decide +kernel
theorem dX1_crowdsLeft_34 : decode cX1_crowdsLeft 34 = .ok (.ireturn, 1) := by decide +kernel
theorem dX1_peopleLeft_0 : decode cX1_peopleLeft 0 = .ok (.iconst 0, 1) := by decide +kernel
theorem dX1_peopleLeft_1 : decode cX1_peopleLeft 1 = .ok (.istore_n 1, 1) := by decide +kernel
theorem dX1_peopleLeft_2 : decode cX1_peopleLeft 2 = .ok (.iconst 0, 1) := by decide +kernel
theorem dX1_peopleLeft_3 : decode cX1_peopleLeft 3 = .ok (.istore_n 2, 1) := by decide +kernel
theorem dX1_peopleLeft_4 : decode cX1_peopleLeft 4 = .ok (.iload_n 2, 1) := by decide +kernel
theorem dX1_peopleLeft_5 : decode cX1_peopleLeft 5 = .ok (.aload_n 0, 1) := by decide +kernel
theorem dX1_peopleLeft_6 : decode cX1_peopleLeft 6 = .ok (.getfield 32, 3) := by decide +kernel
theorem dX1_peopleLeft_9 : decode cX1_peopleLeft 9 = .ok (.if_icmp .ge 21, 3) := by decide +kernel
theorem dX1_peopleLeft_12 : decode cX1_peopleLeft 12 = .ok (.iload_n 1, 1) := by decide +kernel
theorem dX1_peopleLeft_13 : decode cX1_peopleLeft 13 = .ok (.aload_n 0, 1) := by decide +kernel
theorem dX1_peopleLeft_14 : decode cX1_peopleLeft 14 = .ok (.getfield 20, 3) := by decide +kernel
theorem dX1_peopleLeft_17 : decode cX1_peopleLeft 17 = .ok (.iload_n 2, 1) := by decide +kernel
theorem dX1_peopleLeft_18 : decode cX1_peopleLeft 18 = .ok (.aaload, 1) := by decide +kernel
theorem dX1_peopleLeft_19 : decode cX1_peopleLeft 19 = .ok (.getfield 39, 3) := by decide +kernel
theorem dX1_peopleLeft_22 : decode cX1_peopleLeft 22 = .ok (.iadd, 1) := by decide +kernel
theorem dX1_peopleLeft_23 : decode cX1_peopleLeft 23 = .ok (.istore_n 1, 1) := by decide +kernel
theorem dX1_peopleLeft_24 : decode cX1_peopleLeft 24 = .ok (.iinc 2 1, 3) := by decide +kernel
theorem dX1_peopleLeft_27 : decode cX1_peopleLeft 27 = .ok (.goto (-23), 3) := by decide +kernel
theorem dX1_peopleLeft_30 : decode cX1_peopleLeft 30 = .ok (.iload_n 1, 1) := by decide +kernel
theorem dX1_peopleLeft_31 : decode cX1_peopleLeft 31 = .ok (.ireturn, 1) := by decide +kernel
theorem dX1_ordersMissed_0 : decode cX1_ordersMissed 0 = .ok (.iconst 0, 1) := by decide +kernel
theorem dX1_ordersMissed_1 : decode cX1_ordersMissed 1 = .ok (.istore_n 1, 1) := by decide +kernel
theorem dX1_ordersMissed_2 : decode cX1_ordersMissed 2 = .ok (.iconst 0, 1) := by decide +kernel
theorem dX1_ordersMissed_3 : decode cX1_ordersMissed 3 = .ok (.istore_n 2, 1) := by decide +kernel
theorem dX1_ordersMissed_4 : decode cX1_ordersMissed 4 = .ok (.iload_n 2, 1) := by decide +kernel
theorem dX1_ordersMissed_5 : decode cX1_ordersMissed 5 = .ok (.aload_n 0, 1) := by decide +kernel
theorem dX1_ordersMissed_6 : decode cX1_ordersMissed 6 = .ok (.getfield 32, 3) := by decide +kernel
theorem dX1_ordersMissed_9 : decode cX1_ordersMissed 9 = .ok (.if_icmp .ge 21, 3) := by decide +kernel
theorem dX1_ordersMissed_12 : decode cX1_ordersMissed 12 = .ok (.iload_n 1, 1) := by decide +kernel
theorem dX1_ordersMissed_13 : decode cX1_ordersMissed 13 = .ok (.aload_n 0, 1) := by decide +kernel
theorem dX1_ordersMissed_14 : decode cX1_ordersMissed 14 = .ok (.getfield 20, 3) := by decide +kernel
theorem dX1_ordersMissed_17 : decode cX1_ordersMissed 17 = .ok (.iload_n 2, 1) := by decide +kernel
theorem dX1_ordersMissed_18 : decode cX1_ordersMissed 18 = .ok (.aaload, 1) := by decide +kernel
theorem dX1_ordersMissed_19 : decode cX1_ordersMissed 19 = .ok (.getfield 84, 3) := by decide +kernel
theorem dX1_ordersMissed_22 : decode cX1_ordersMissed 22 = .ok (.iadd, 1) := by decide +kernel
theorem dX1_ordersMissed_23 : decode cX1_ordersMissed 23 = .ok (.istore_n 1, 1) := by decide +kernel
theorem dX1_ordersMissed_24 : decode cX1_ordersMissed 24 = .ok (.iinc 2 1, 3) := by decide +kernel
theorem dX1_ordersMissed_27 : decode cX1_ordersMissed 27 = .ok (.goto (-23), 3) := by decide +kernel
theorem dX1_ordersMissed_30 : decode cX1_ordersMissed 30 = .ok (.iload_n 1, 1) := by decide +kernel
theorem dX1_ordersMissed_31 : decode cX1_ordersMissed 31 = .ok (.ireturn, 1) := by decide +kernel
theorem dX1_crowdNumber_0 : decode cX1_crowdNumber 0 = .ok (.iload_n 2, 1) := by decide +kernel
theorem dX1_crowdNumber_1 : decode cX1_crowdNumber 1 = .ok (.tableswitch 92 0 6 #[43, 51, 59, 64, 77, 82, 87], 43) := by decide +kernel
theorem dX1_crowdNumber_44 : decode cX1_crowdNumber 44 = .ok (.aload_n 1, 1) := by decide +kernel
theorem dX1_crowdNumber_45 : decode cX1_crowdNumber 45 = .ok (.getfield 36, 3) := by decide +kernel
theorem dX1_crowdNumber_48 : decode cX1_crowdNumber 48 = .ok (.bipush 12, 2) := by decide +kernel
theorem dX1_crowdNumber_50 : decode cX1_crowdNumber 50 = .ok (.irem, 1) := by decide +kernel
theorem dX1_crowdNumber_51 : decode cX1_crowdNumber 51 = .ok (.ireturn, 1) := by decide +kernel
theorem dX1_crowdNumber_52 : decode cX1_crowdNumber 52 = .ok (.aload_n 1, 1) := by decide +kernel
theorem dX1_crowdNumber_53 : decode cX1_crowdNumber 53 = .ok (.getfield 36, 3) := by decide +kernel
theorem dX1_crowdNumber_56 : decode cX1_crowdNumber 56 = .ok (.bipush 12, 2) := by decide +kernel
theorem dX1_crowdNumber_58 : decode cX1_crowdNumber 58 = .ok (.idiv, 1) := by decide +kernel
theorem dX1_crowdNumber_59 : decode cX1_crowdNumber 59 = .ok (.ireturn, 1) := by decide +kernel
theorem dX1_crowdNumber_60 : decode cX1_crowdNumber 60 = .ok (.aload_n 1, 1) := by decide +kernel
theorem dX1_crowdNumber_61 : decode cX1_crowdNumber 61 = .ok (.getfield 39, 3) := by decide +kernel
theorem dX1_crowdNumber_64 : decode cX1_crowdNumber 64 = .ok (.ireturn, 1) := by decide +kernel
theorem dX1_crowdNumber_65 : decode cX1_crowdNumber 65 = .ok (.aload_n 1, 1) := by decide +kernel
theorem dX1_crowdNumber_66 : decode cX1_crowdNumber 66 = .ok (.getfield 42, 3) := by decide +kernel
theorem dX1_crowdNumber_69 : decode cX1_crowdNumber 69 = .ok (.ifCond .eq 7, 3) := by decide +kernel
theorem dX1_crowdNumber_72 : decode cX1_crowdNumber 72 = .ok (.iconst 1, 1) := by decide +kernel
theorem dX1_crowdNumber_73 : decode cX1_crowdNumber 73 = .ok (.goto 4, 3) := by decide +kernel
theorem dX1_crowdNumber_76 : decode cX1_crowdNumber 76 = .ok (.iconst 0, 1) := by decide +kernel
theorem dX1_crowdNumber_77 : decode cX1_crowdNumber 77 = .ok (.ireturn, 1) := by decide +kernel
theorem dX1_crowdNumber_78 : decode cX1_crowdNumber 78 = .ok (.aload_n 1, 1) := by decide +kernel
theorem dX1_crowdNumber_79 : decode cX1_crowdNumber 79 = .ok (.getfield 132, 3) := by decide +kernel
theorem dX1_crowdNumber_82 : decode cX1_crowdNumber 82 = .ok (.ireturn, 1) := by decide +kernel
theorem dX1_crowdNumber_83 : decode cX1_crowdNumber 83 = .ok (.aload_n 1, 1) := by decide +kernel
theorem dX1_crowdNumber_84 : decode cX1_crowdNumber 84 = .ok (.invokevirtual 69, 3) := by decide +kernel
theorem dX1_crowdNumber_87 : decode cX1_crowdNumber 87 = .ok (.ireturn, 1) := by decide +kernel
theorem dX1_crowdNumber_88 : decode cX1_crowdNumber 88 = .ok (.aload_n 1, 1) := by decide +kernel
theorem dX1_crowdNumber_89 : decode cX1_crowdNumber 89 = .ok (.getfield 84, 3) := by decide +kernel
theorem dX1_crowdNumber_92 : decode cX1_crowdNumber 92 = .ok (.ireturn, 1) := by decide +kernel
theorem dX1_crowdNumber_93 : decode cX1_crowdNumber 93 = .ok (.aload_n 0, 1) := by decide +kernel
theorem dX1_crowdNumber_94 : decode cX1_crowdNumber 94 = .ok (.aload_n 1, 1) := by decide +kernel
theorem dX1_crowdNumber_95 : decode cX1_crowdNumber 95 = .ok (.invokevirtual 113, 3) := by decide +kernel
theorem dX1_crowdNumber_98 : decode cX1_crowdNumber 98 = .ok (.ireturn, 1) := by decide +kernel
theorem dX1_guardNumber_0 : decode cX1_guardNumber 0 = .ok (.iload_n 2, 1) := by decide +kernel
theorem dX1_guardNumber_1 : decode cX1_guardNumber 1 = .ok (.tableswitch 48 0 2 #[27, 35, 43], 27) := by decide +kernel
theorem dX1_guardNumber_28 : decode cX1_guardNumber 28 = .ok (.aload_n 1, 1) := by decide +kernel
theorem dX1_guardNumber_29 : decode cX1_guardNumber 29 = .ok (.getfield 49, 3) := by decide +kernel
theorem dX1_guardNumber_32 : decode cX1_guardNumber 32 = .ok (.bipush 12, 2) := by decide +kernel
theorem dX1_guardNumber_34 : decode cX1_guardNumber 34 = .ok (.irem, 1) := by decide +kernel
theorem dX1_guardNumber_35 : decode cX1_guardNumber 35 = .ok (.ireturn, 1) := by decide +kernel
theorem dX1_guardNumber_36 : decode cX1_guardNumber 36 = .ok (.aload_n 1, 1) := by decide +kernel
theorem dX1_guardNumber_37 : decode cX1_guardNumber 37 = .ok (.getfield 49, 3) := by decide +kernel
theorem dX1_guardNumber_40 : decode cX1_guardNumber 40 = .ok (.bipush 12, 2) := by decide +kernel
theorem dX1_guardNumber_42 : decode cX1_guardNumber 42 = .ok (.idiv, 1) := by decide +kernel
theorem dX1_guardNumber_43 : decode cX1_guardNumber 43 = .ok (.ireturn, 1) := by decide +kernel
theorem dX1_guardNumber_44 : decode cX1_guardNumber 44 = .ok (.aload_n 1, 1) := by decide +kernel
theorem dX1_guardNumber_45 : decode cX1_guardNumber 45 = .ok (.invokevirtual 135, 3) := by decide +kernel
theorem dX1_guardNumber_48 : decode cX1_guardNumber 48 = .ok (.ireturn, 1) := by decide +kernel
theorem dX1_guardNumber_49 : decode cX1_guardNumber 49 = .ok (.aload_n 0, 1) := by decide +kernel
theorem dX1_guardNumber_50 : decode cX1_guardNumber 50 = .ok (.aload_n 1, 1) := by decide +kernel
theorem dX1_guardNumber_51 : decode cX1_guardNumber 51 = .ok (.invokevirtual 138, 3) := by decide +kernel
theorem dX1_guardNumber_54 : decode cX1_guardNumber 54 = .ok (.ireturn, 1) := by decide +kernel
theorem dX1_total_0 : decode cX1_total 0 = .ok (.iload_n 1, 1) := by decide +kernel
theorem dX1_total_1 : decode cX1_total 1 = .ok (.tableswitch 89 0 6 #[43, 48, 57, 65, 74, 79, 84], 43) := by decide +kernel
theorem dX1_total_44 : decode cX1_total 44 = .ok (.aload_n 0, 1) := by decide +kernel
theorem dX1_total_45 : decode cX1_total 45 = .ok (.getfield 66, 3) := by decide +kernel
theorem dX1_total_48 : decode cX1_total 48 = .ok (.ireturn, 1) := by decide +kernel
theorem dX1_total_49 : decode cX1_total 49 = .ok (.aload_n 0, 1) := by decide +kernel
theorem dX1_total_50 : decode cX1_total 50 = .ok (.getfield 12, 3) := by decide +kernel
theorem dX1_total_53 : decode cX1_total 53 = .ok (.iconst (-1), 1) := by decide +kernel
theorem dX1_total_54 : decode cX1_total 54 = .ok (.invokevirtual 142, 3) := by decide +kernel
theorem dX1_total_57 : decode cX1_total 57 = .ok (.ireturn, 1) := by decide +kernel
theorem dX1_total_58 : decode cX1_total 58 = .ok (.aload_n 0, 1) := by decide +kernel
theorem dX1_total_59 : decode cX1_total 59 = .ok (.getfield 12, 3) := by decide +kernel
theorem dX1_total_62 : decode cX1_total 62 = .ok (.invokevirtual 145, 3) := by decide +kernel
theorem dX1_total_65 : decode cX1_total 65 = .ok (.ireturn, 1) := by decide +kernel
theorem dX1_total_66 : decode cX1_total 66 = .ok (.aload_n 0, 1) := by decide +kernel
theorem dX1_total_67 : decode cX1_total 67 = .ok (.getfield 12, 3) := by decide +kernel
theorem dX1_total_70 : decode cX1_total 70 = .ok (.iconst 0, 1) := by decide +kernel
theorem dX1_total_71 : decode cX1_total 71 = .ok (.invokevirtual 142, 3) := by decide +kernel
theorem dX1_total_74 : decode cX1_total 74 = .ok (.ireturn, 1) := by decide +kernel
theorem dX1_total_75 : decode cX1_total 75 = .ok (.aload_n 0, 1) := by decide +kernel
theorem dX1_total_76 : decode cX1_total 76 = .ok (.invokevirtual 148, 3) := by decide +kernel
theorem dX1_total_79 : decode cX1_total 79 = .ok (.ireturn, 1) := by decide +kernel
theorem dX1_total_80 : decode cX1_total 80 = .ok (.aload_n 0, 1) := by decide +kernel
theorem dX1_total_81 : decode cX1_total 81 = .ok (.invokevirtual 151, 3) := by decide +kernel
theorem dX1_total_84 : decode cX1_total 84 = .ok (.ireturn, 1) := by decide +kernel
theorem dX1_total_85 : decode cX1_total 85 = .ok (.aload_n 0, 1) := by decide +kernel
theorem dX1_total_86 : decode cX1_total 86 = .ok (.getfield 46, 3) := by decide +kernel
theorem dX1_total_89 : decode cX1_total 89 = .ok (.ireturn, 1) := by decide +kernel
theorem dX1_total_90 : decode cX1_total 90 = .ok (.aload_n 0, 1) := by decide +kernel
theorem dX1_total_91 : decode cX1_total 91 = .ok (.invokevirtual 154, 3) := by decide +kernel
theorem dX1_total_94 : decode cX1_total 94 = .ok (.ireturn, 1) := by decide +kernel
theorem dX1_addCrowdTo_0 : decode cX1_addCrowdTo 0 = .ok (.lload_n 1, 1) := by decide +kernel
theorem dX1_addCrowdTo_1 : decode cX1_addCrowdTo 1 = .ok (.lstore 4, 2) := by decide +kernel
theorem dX1_addCrowdTo_3 : decode cX1_addCrowdTo 3 = .ok (.iconst 0, 1) := by decide +kernel
theorem dX1_addCrowdTo_4 : decode cX1_addCrowdTo 4 = .ok (.istore 6, 2) := by decide +kernel
theorem dX1_addCrowdTo_6 : decode cX1_addCrowdTo 6 = .ok (.iload 6, 2) := by decide +kernel
theorem dX1_addCrowdTo_8 : decode cX1_addCrowdTo 8 = .ok (.bipush 8, 2) := by decide +kernel
theorem dX1_addCrowdTo_10 : decode cX1_addCrowdTo 10 = .ok (.if_icmp .ge 26, 3) := by decide +kernel
theorem dX1_addCrowdTo_13 : decode cX1_addCrowdTo 13 = .ok (.lload 4, 2) := by decide +kernel
theorem dX1_addCrowdTo_15 : decode cX1_addCrowdTo 15 = .ok (.ldc2_w 157, 3) := by decide +kernel
theorem dX1_addCrowdTo_18 : decode cX1_addCrowdTo 18 = .ok (.lmul, 1) := by decide +kernel
theorem dX1_addCrowdTo_19 : decode cX1_addCrowdTo 19 = .ok (.aload_n 0, 1) := by decide +kernel
theorem dX1_addCrowdTo_20 : decode cX1_addCrowdTo 20 = .ok (.aload_n 3, 1) := by decide +kernel
theorem dX1_addCrowdTo_21 : decode cX1_addCrowdTo 21 = .ok (.iload 6, 2) := by decide +kernel
theorem dX1_addCrowdTo_23 : decode cX1_addCrowdTo 23 = .ok (.invokevirtual 159, 3) := by decide +kernel
theorem dX1_addCrowdTo_26 : decode cX1_addCrowdTo 26 = .ok (.i2l, 1) := by decide +kernel
theorem dX1_addCrowdTo_27 : decode cX1_addCrowdTo 27 = .ok (.ladd, 1) := by decide +kernel
theorem dX1_addCrowdTo_28 : decode cX1_addCrowdTo 28 = .ok (.lstore 4, 2) := by decide +kernel
theorem dX1_addCrowdTo_30 : decode cX1_addCrowdTo 30 = .ok (.iinc 6 1, 3) := by decide +kernel
theorem dX1_addCrowdTo_33 : decode cX1_addCrowdTo 33 = .ok (.goto (-27), 3) := by decide +kernel
theorem dX1_addCrowdTo_36 : decode cX1_addCrowdTo 36 = .ok (.aload_n 3, 1) := by decide +kernel
theorem dX1_addCrowdTo_37 : decode cX1_addCrowdTo 37 = .ok (.lload 4, 2) := by decide +kernel
theorem dX1_addCrowdTo_39 : decode cX1_addCrowdTo 39 = .ok (.invokevirtual 163, 3) := by decide +kernel
theorem dX1_addCrowdTo_42 : decode cX1_addCrowdTo 42 = .ok (.lreturn, 1) := by decide +kernel
theorem dX1_addPatrolTo_0 : decode cX1_addPatrolTo 0 = .ok (.lload_n 1, 1) := by decide +kernel
theorem dX1_addPatrolTo_1 : decode cX1_addPatrolTo 1 = .ok (.lstore 4, 2) := by decide +kernel
theorem dX1_addPatrolTo_3 : decode cX1_addPatrolTo 3 = .ok (.iconst 0, 1) := by decide +kernel
theorem dX1_addPatrolTo_4 : decode cX1_addPatrolTo 4 = .ok (.istore 6, 2) := by decide +kernel
theorem dX1_addPatrolTo_6 : decode cX1_addPatrolTo 6 = .ok (.iload 6, 2) := by decide +kernel
theorem dX1_addPatrolTo_8 : decode cX1_addPatrolTo 8 = .ok (.iconst 4, 1) := by decide +kernel
theorem dX1_addPatrolTo_9 : decode cX1_addPatrolTo 9 = .ok (.if_icmp .ge 26, 3) := by decide +kernel
theorem dX1_addPatrolTo_12 : decode cX1_addPatrolTo 12 = .ok (.lload 4, 2) := by decide +kernel
theorem dX1_addPatrolTo_14 : decode cX1_addPatrolTo 14 = .ok (.ldc2_w 157, 3) := by decide +kernel
theorem dX1_addPatrolTo_17 : decode cX1_addPatrolTo 17 = .ok (.lmul, 1) := by decide +kernel
theorem dX1_addPatrolTo_18 : decode cX1_addPatrolTo 18 = .ok (.aload_n 0, 1) := by decide +kernel
theorem dX1_addPatrolTo_19 : decode cX1_addPatrolTo 19 = .ok (.aload_n 3, 1) := by decide +kernel
theorem dX1_addPatrolTo_20 : decode cX1_addPatrolTo 20 = .ok (.iload 6, 2) := by decide +kernel
theorem dX1_addPatrolTo_22 : decode cX1_addPatrolTo 22 = .ok (.invokevirtual 167, 3) := by decide +kernel
theorem dX1_addPatrolTo_25 : decode cX1_addPatrolTo 25 = .ok (.i2l, 1) := by decide +kernel
theorem dX1_addPatrolTo_26 : decode cX1_addPatrolTo 26 = .ok (.ladd, 1) := by decide +kernel
theorem dX1_addPatrolTo_27 : decode cX1_addPatrolTo 27 = .ok (.lstore 4, 2) := by decide +kernel
theorem dX1_addPatrolTo_29 : decode cX1_addPatrolTo 29 = .ok (.iinc 6 1, 3) := by decide +kernel
theorem dX1_addPatrolTo_32 : decode cX1_addPatrolTo 32 = .ok (.goto (-26), 3) := by decide +kernel
theorem dX1_addPatrolTo_35 : decode cX1_addPatrolTo 35 = .ok (.lload 4, 2) := by decide +kernel
theorem dX1_addPatrolTo_37 : decode cX1_addPatrolTo 37 = .ok (.lreturn, 1) := by decide +kernel
theorem dX1_become_0 : decode cX1_become 0 = .ok (.aload_n 0, 1) := by decide +kernel
theorem dX1_become_1 : decode cX1_become 1 = .ok (.getfield 12, 3) := by decide +kernel
theorem dX1_become_4 : decode cX1_become 4 = .ok (.aload_n 1, 1) := by decide +kernel
theorem dX1_become_5 : decode cX1_become 5 = .ok (.getfield 12, 3) := by decide +kernel
theorem dX1_become_8 : decode cX1_become 8 = .ok (.invokevirtual 171, 3) := by decide +kernel
theorem dX1_become_11 : decode cX1_become 11 = .ok (.iconst 0, 1) := by decide +kernel
theorem dX1_become_12 : decode cX1_become 12 = .ok (.istore_n 2, 1) := by decide +kernel
theorem dX1_become_13 : decode cX1_become 13 = .ok (.iload_n 2, 1) := by decide +kernel
theorem dX1_become_14 : decode cX1_become 14 = .ok (.bipush 6, 2) := by decide +kernel
theorem dX1_become_16 : decode cX1_become 16 = .ok (.if_icmp .ge 24, 3) := by decide +kernel
theorem dX1_become_19 : decode cX1_become 19 = .ok (.aload_n 0, 1) := by decide +kernel
theorem dX1_become_20 : decode cX1_become 20 = .ok (.getfield 20, 3) := by decide +kernel
theorem dX1_become_23 : decode cX1_become 23 = .ok (.iload_n 2, 1) := by decide +kernel
theorem dX1_become_24 : decode cX1_become 24 = .ok (.aaload, 1) := by decide +kernel
theorem dX1_become_25 : decode cX1_become 25 = .ok (.aload_n 1, 1) := by decide +kernel
theorem dX1_become_26 : decode cX1_become 26 = .ok (.getfield 20, 3) := by decide +kernel
theorem dX1_become_29 : decode cX1_become 29 = .ok (.iload_n 2, 1) := by decide +kernel
theorem dX1_become_30 : decode cX1_become 30 = .ok (.aaload, 1) := by decide +kernel
theorem dX1_become_31 : decode cX1_become 31 = .ok (.invokevirtual 174, 3) := by decide +kernel
theorem dX1_become_34 : decode cX1_become 34 = .ok (.iinc 2 1, 3) := by decide +kernel
theorem dX1_become_37 : decode cX1_become 37 = .ok (.goto (-24), 3) := by decide +kernel
theorem dX1_become_40 : decode cX1_become 40 = .ok (.aload_n 0, 1) := by decide +kernel
theorem dX1_become_41 : decode cX1_become 41 = .ok (.aload_n 1, 1) := by decide +kernel
theorem dX1_become_42 : decode cX1_become 42 = .ok (.getfield 32, 3) := by decide +kernel
theorem dX1_become_45 : decode cX1_become 45 = .ok (.putfield 32, 3) := by decide +kernel
theorem dX1_become_48 : decode cX1_become 48 = .ok (.iconst 0, 1) := by decide +kernel
theorem dX1_become_49 : decode cX1_become 49 = .ok (.istore_n 2, 1) := by decide +kernel
theorem dX1_become_50 : decode cX1_become 50 = .ok (.iload_n 2, 1) := by decide +kernel
theorem dX1_become_51 : decode cX1_become 51 = .ok (.iconst 3, 1) := by decide +kernel
theorem dX1_become_52 : decode cX1_become 52 = .ok (.if_icmp .ge 24, 3) := by decide +kernel
theorem dX1_become_55 : decode cX1_become 55 = .ok (.aload_n 0, 1) := by decide +kernel
theorem dX1_become_56 : decode cX1_become 56 = .ok (.getfield 27, 3) := by decide +kernel
theorem dX1_become_59 : decode cX1_become 59 = .ok (.iload_n 2, 1) := by decide +kernel
theorem dX1_become_60 : decode cX1_become 60 = .ok (.aaload, 1) := by decide +kernel
theorem dX1_become_61 : decode cX1_become 61 = .ok (.aload_n 1, 1) := by decide +kernel
theorem dX1_become_62 : decode cX1_become 62 = .ok (.getfield 27, 3) := by decide +kernel
theorem dX1_become_65 : decode cX1_become 65 = .ok (.iload_n 2, 1) := by decide +kernel
theorem dX1_become_66 : decode cX1_become 66 = .ok (.aaload, 1) := by decide +kernel
theorem dX1_become_67 : decode cX1_become 67 = .ok (.invokevirtual 177, 3) := by decide +kernel
theorem dX1_become_70 : decode cX1_become 70 = .ok (.iinc 2 1, 3) := by decide +kernel
theorem dX1_become_73 : decode cX1_become 73 = .ok (.goto (-23), 3) := by decide +kernel
theorem dX1_become_76 : decode cX1_become 76 = .ok (.aload_n 0, 1) := by decide +kernel
theorem dX1_become_77 : decode cX1_become 77 = .ok (.aload_n 1, 1) := by decide +kernel
theorem dX1_become_78 : decode cX1_become 78 = .ok (.getfield 46, 3) := by decide +kernel
theorem dX1_become_81 : decode cX1_become 81 = .ok (.putfield 46, 3) := by decide +kernel
theorem dX1_become_84 : decode cX1_become 84 = .ok (.aload_n 0, 1) := by decide +kernel
theorem dX1_become_85 : decode cX1_become 85 = .ok (.aload_n 1, 1) := by decide +kernel
theorem dX1_become_86 : decode cX1_become 86 = .ok (.getfield 66, 3) := by decide +kernel
theorem dX1_become_89 : decode cX1_become 89 = .ok (.putfield 66, 3) := by decide +kernel
theorem dX1_become_92 : decode cX1_become 92 = .ok (.return_, 1) := by decide +kernel
theorem dX2_init_0 : decode cX2_init 0 = .ok (.aload_n 0, 1) := by decide +kernel
theorem dX2_init_1 : decode cX2_init 1 = .ok (.invokespecial 1, 3) := by decide +kernel
theorem dX2_init_4 : decode cX2_init 4 = .ok (.return_, 1) := by decide +kernel
theorem dX2_nextDirection_0 : decode cX2_nextDirection 0 = .ok (.aload_n 0, 1) := by decide +kernel
theorem dX2_nextDirection_1 : decode cX2_nextDirection 1 = .ok (.getfield 7, 3) := by decide +kernel
theorem dX2_nextDirection_4 : decode cX2_nextDirection 4 = .ok (.iconst 2, 1) := by decide +kernel
theorem dX2_nextDirection_5 : decode cX2_nextDirection 5 = .ok (.aload_n 0, 1) := by decide +kernel
theorem dX2_nextDirection_6 : decode cX2_nextDirection 6 = .ok (.getfield 13, 3) := by decide +kernel
theorem dX2_nextDirection_9 : decode cX2_nextDirection 9 = .ok (.imul, 1) := by decide +kernel
theorem dX2_nextDirection_10 : decode cX2_nextDirection 10 = .ok (.ishr, 1) := by decide +kernel
theorem dX2_nextDirection_11 : decode cX2_nextDirection 11 = .ok (.iconst 3, 1) := by decide +kernel
theorem dX2_nextDirection_12 : decode cX2_nextDirection 12 = .ok (.iand, 1) := by decide +kernel
theorem dX2_nextDirection_13 : decode cX2_nextDirection 13 = .ok (.ireturn, 1) := by decide +kernel
theorem dX2_moveOn_0 : decode cX2_moveOn 0 = .ok (.aload_n 0, 1) := by decide +kernel
theorem dX2_moveOn_1 : decode cX2_moveOn 1 = .ok (.getfield 16, 3) := by decide +kernel
theorem dX2_moveOn_4 : decode cX2_moveOn 4 = .ok (.aload_n 0, 1) := by decide +kernel
theorem dX2_moveOn_5 : decode cX2_moveOn 5 = .ok (.invokevirtual 19, 3) := by decide +kernel
theorem dX2_moveOn_8 : decode cX2_moveOn 8 = .ok (.invokestatic 23, 3) := by decide +kernel
theorem dX2_moveOn_11 : decode cX2_moveOn 11 = .ok (.istore_n 2, 1) := by decide +kernel
theorem dX2_moveOn_12 : decode cX2_moveOn 12 = .ok (.aload_n 1, 1) := by decide +kernel
theorem dX2_moveOn_13 : decode cX2_moveOn 13 = .ok (.iload_n 2, 1) := by decide +kernel
theorem dX2_moveOn_14 : decode cX2_moveOn 14 = .ok (.invokevirtual 29, 3) := by decide +kernel
theorem dX2_moveOn_17 : decode cX2_moveOn 17 = .ok (.ifCond .eq 8, 3) := by decide +kernel
theorem dX2_moveOn_20 : decode cX2_moveOn 20 = .ok (.aload_n 0, 1) := by decide +kernel
theorem dX2_moveOn_21 : decode cX2_moveOn 21 = .ok (.iload_n 2, 1) := by decide +kernel
theorem dX2_moveOn_22 : decode cX2_moveOn 22 = .ok (.putfield 16, 3) := by decide +kernel
theorem dX2_moveOn_25 : decode cX2_moveOn 25 = .ok (.aload_n 0, 1) := by decide +kernel
theorem dX2_moveOn_26 : decode cX2_moveOn 26 = .ok (.aload_n 0, 1) := by decide +kernel
theorem dX2_moveOn_27 : decode cX2_moveOn 27 = .ok (.getfield 13, 3) := by decide +kernel
theorem dX2_moveOn_30 : decode cX2_moveOn 30 = .ok (.iconst 1, 1) := by decide +kernel
theorem dX2_moveOn_31 : decode cX2_moveOn 31 = .ok (.iadd, 1) := by decide +kernel
theorem dX2_moveOn_32 : decode cX2_moveOn 32 = .ok (.aload_n 0, 1) := by decide +kernel
theorem dX2_moveOn_33 : decode cX2_moveOn 33 = .ok (.getfield 33, 3) := by decide +kernel
theorem dX2_moveOn_36 : decode cX2_moveOn 36 = .ok (.if_icmp .ge 12, 3) := by decide +kernel
theorem dX2_moveOn_39 : decode cX2_moveOn 39 = .ok (.aload_n 0, 1) := by decide +kernel
theorem dX2_moveOn_40 : decode cX2_moveOn 40 = .ok (.getfield 13, 3) := by decide +kernel
theorem dX2_moveOn_43 : decode cX2_moveOn 43 = .ok (.iconst 1, 1) := by decide +kernel
theorem dX2_moveOn_44 : decode cX2_moveOn 44 = .ok (.iadd, 1) := by decide +kernel
theorem dX2_moveOn_45 : decode cX2_moveOn 45 = .ok (.goto 4, 3) := by decide +kernel
theorem dX2_moveOn_48 : decode cX2_moveOn 48 = .ok (.iconst 0, 1) := by decide +kernel
theorem dX2_moveOn_49 : decode cX2_moveOn 49 = .ok (.putfield 13, 3) := by decide +kernel
theorem dX2_moveOn_52 : decode cX2_moveOn 52 = .ok (.return_, 1) := by decide +kernel
theorem dX2_become_0 : decode cX2_become 0 = .ok (.aload_n 0, 1) := by decide +kernel
theorem dX2_become_1 : decode cX2_become 1 = .ok (.aload_n 1, 1) := by decide +kernel
theorem dX2_become_2 : decode cX2_become 2 = .ok (.getfield 16, 3) := by decide +kernel
theorem dX2_become_5 : decode cX2_become 5 = .ok (.putfield 16, 3) := by decide +kernel
theorem dX2_become_8 : decode cX2_become 8 = .ok (.aload_n 0, 1) := by decide +kernel
theorem dX2_become_9 : decode cX2_become 9 = .ok (.aload_n 1, 1) := by decide +kernel
theorem dX2_become_10 : decode cX2_become 10 = .ok (.getfield 33, 3) := by decide +kernel
theorem dX2_become_13 : decode cX2_become 13 = .ok (.putfield 33, 3) := by decide +kernel
theorem dX2_become_16 : decode cX2_become 16 = .ok (.aload_n 0, 1) := by decide +kernel
theorem dX2_become_17 : decode cX2_become 17 = .ok (.aload_n 1, 1) := by decide +kernel
theorem dX2_become_18 : decode cX2_become 18 = .ok (.getfield 7, 3) := by decide +kernel
theorem dX2_become_21 : decode cX2_become 21 = .ok (.putfield 7, 3) := by decide +kernel
theorem dX2_become_24 : decode cX2_become 24 = .ok (.aload_n 0, 1) := by decide +kernel
theorem dX2_become_25 : decode cX2_become 25 = .ok (.aload_n 1, 1) := by decide +kernel
theorem dX2_become_26 : decode cX2_become 26 = .ok (.getfield 13, 3) := by decide +kernel
theorem dX2_become_29 : decode cX2_become 29 = .ok (.putfield 13, 3) := by decide +kernel
theorem dX2_become_32 : decode cX2_become 32 = .ok (.return_, 1) := by decide +kernel
theorem dX3_init_0 : decode cX3_init 0 = .ok (.aload_n 0, 1) := by decide +kernel
theorem dX3_init_1 : decode cX3_init 1 = .ok (.invokespecial 3, 3) := by decide +kernel
theorem dX3_init_4 : decode cX3_init 4 = .ok (.aload_n 0, 1) := by decide +kernel
theorem dX3_init_5 : decode cX3_init 5 = .ok (.bipush 108, 2) := by decide +kernel
theorem dX3_init_7 : decode cX3_init 7 = .ok (.newarray .int, 2) := by decide +kernel
theorem dX3_init_9 : decode cX3_init 9 = .ok (.putfield 9, 3) := by decide +kernel
theorem dX3_init_12 : decode cX3_init 12 = .ok (.return_, 1) := by decide +kernel
theorem dX3_next_0 : decode cX3_next 0 = .ok (.iload_n 0, 1) := by decide +kernel
theorem dX3_next_1 : decode cX3_next 1 = .ok (.ifCond .lt 9, 3) := by decide +kernel
theorem dX3_next_4 : decode cX3_next 4 = .ok (.iload_n 0, 1) := by decide +kernel
theorem dX3_next_5 : decode cX3_next 5 = .ok (.bipush 108, 2) := by decide +kernel
theorem dX3_next_7 : decode cX3_next 7 = .ok (.if_icmp .lt 5, 3) := by decide +kernel
theorem dX3_next_10 : decode cX3_next 10 = .ok (.iconst (-1), 1) := by decide +kernel
theorem dX3_next_11 : decode cX3_next 11 = .ok (.ireturn, 1) := by decide +kernel
theorem dX3_next_12 : decode cX3_next 12 = .ok (.iload_n 1, 1) := by decide +kernel
theorem dX3_next_13 : decode cX3_next 13 = .ok (.tableswitch 74 0 2 #[27, 42, 59], 27) := by decide +kernel
theorem dX3_next_40 : decode cX3_next 40 = .ok (.iload_n 0, 1) := by decide +kernel
theorem dX3_next_41 : decode cX3_next 41 = .ok (.bipush 12, 2) := by decide +kernel
theorem dX3_next_43 : decode cX3_next 43 = .ok (.if_icmp .lt 10, 3) := by decide +kernel
theorem dX3_next_46 : decode cX3_next 46 = .ok (.iload_n 0, 1) := by decide +kernel
theorem dX3_next_47 : decode cX3_next 47 = .ok (.bipush 12, 2) := by decide +kernel
theorem dX3_next_49 : decode cX3_next 49 = .ok (.isub, 1) := by decide +kernel
theorem dX3_next_50 : decode cX3_next 50 = .ok (.goto 4, 3) := by decide +kernel
theorem dX3_next_53 : decode cX3_next 53 = .ok (.iconst (-1), 1) := by decide +kernel
theorem dX3_next_54 : decode cX3_next 54 = .ok (.ireturn, 1) := by decide +kernel
theorem dX3_next_55 : decode cX3_next 55 = .ok (.iload_n 0, 1) := by decide +kernel
theorem dX3_next_56 : decode cX3_next 56 = .ok (.bipush 12, 2) := by decide +kernel
theorem dX3_next_58 : decode cX3_next 58 = .ok (.irem, 1) := by decide +kernel
theorem dX3_next_59 : decode cX3_next 59 = .ok (.bipush 11, 2) := by decide +kernel
theorem dX3_next_61 : decode cX3_next 61 = .ok (.if_icmp .ge 9, 3) := by decide +kernel
theorem dX3_next_64 : decode cX3_next 64 = .ok (.iload_n 0, 1) := by decide +kernel
theorem dX3_next_65 : decode cX3_next 65 = .ok (.iconst 1, 1) := by decide +kernel
theorem dX3_next_66 : decode cX3_next 66 = .ok (.iadd, 1) := by decide +kernel
theorem dX3_next_67 : decode cX3_next 67 = .ok (.goto 4, 3) := by decide +kernel
theorem dX3_next_70 : decode cX3_next 70 = .ok (.iconst (-1), 1) := by decide +kernel
theorem dX3_next_71 : decode cX3_next 71 = .ok (.ireturn, 1) := by decide +kernel
theorem dX3_next_72 : decode cX3_next 72 = .ok (.iload_n 0, 1) := by decide +kernel
theorem dX3_next_73 : decode cX3_next 73 = .ok (.bipush 96, 2) := by decide +kernel
theorem dX3_next_75 : decode cX3_next 75 = .ok (.if_icmp .ge 10, 3) := by decide +kernel
theorem dX3_next_78 : decode cX3_next 78 = .ok (.iload_n 0, 1) := by decide +kernel
theorem dX3_next_79 : decode cX3_next 79 = .ok (.bipush 12, 2) := by decide +kernel
theorem dX3_next_81 : decode cX3_next 81 = .ok (.iadd, 1) := by decide +kernel
theorem dX3_next_82 : decode cX3_next 82 = .ok (.goto 4, 3) := by decide +kernel
theorem dX3_next_85 : decode cX3_next 85 = .ok (.iconst (-1), 1) := by decide +kernel
theorem dX3_next_86 : decode cX3_next 86 = .ok (.ireturn, 1) := by decide +kernel
theorem dX3_next_87 : decode cX3_next 87 = .ok (.iload_n 0, 1) := by decide +kernel
theorem dX3_next_88 : decode cX3_next 88 = .ok (.bipush 12, 2) := by decide +kernel
theorem dX3_next_90 : decode cX3_next 90 = .ok (.irem, 1) := by decide +kernel
theorem dX3_next_91 : decode cX3_next 91 = .ok (.ifCond .le 9, 3) := by decide +kernel
theorem dX3_next_94 : decode cX3_next 94 = .ok (.iload_n 0, 1) := by decide +kernel
theorem dX3_next_95 : decode cX3_next 95 = .ok (.iconst 1, 1) := by decide +kernel
theorem dX3_next_96 : decode cX3_next 96 = .ok (.isub, 1) := by decide +kernel
theorem dX3_next_97 : decode cX3_next 97 = .ok (.goto 4, 3) := by decide +kernel
theorem dX3_next_100 : decode cX3_next 100 = .ok (.iconst (-1), 1) := by decide +kernel
theorem dX3_next_101 : decode cX3_next 101 = .ok (.ireturn, 1) := by decide +kernel
theorem dX3_at_0 : decode cX3_at 0 = .ok (.iload_n 1, 1) := by decide +kernel
theorem dX3_at_1 : decode cX3_at 1 = .ok (.ifCond .lt 18, 3) := by decide +kernel
theorem dX3_at_4 : decode cX3_at 4 = .ok (.iload_n 1, 1) := by decide +kernel
theorem dX3_at_5 : decode cX3_at 5 = .ok (.bipush 108, 2) := by decide +kernel
theorem dX3_at_7 : decode cX3_at 7 = .ok (.if_icmp .ge 12, 3) := by decide +kernel
theorem dX3_at_10 : decode cX3_at 10 = .ok (.aload_n 0, 1) := by decide +kernel
theorem dX3_at_11 : decode cX3_at 11 = .ok (.getfield 9, 3) := by decide +kernel
theorem dX3_at_14 : decode cX3_at 14 = .ok (.iload_n 1, 1) := by decide +kernel
theorem dX3_at_15 : decode cX3_at 15 = .ok (.iaload, 1) := by decide +kernel
theorem dX3_at_16 : decode cX3_at 16 = .ok (.goto 4, 3) := by decide +kernel
theorem dX3_at_19 : decode cX3_at 19 = .ok (.iconst (-1), 1) := by decide +kernel
theorem dX3_at_20 : decode cX3_at 20 = .ok (.ireturn, 1) := by decide +kernel
theorem dX3_put_0 : decode cX3_put 0 = .ok (.iload_n 1, 1) := by decide +kernel
theorem dX3_put_1 : decode cX3_put 1 = .ok (.ifCond .lt 16, 3) := by decide +kernel
theorem dX3_put_4 : decode cX3_put 4 = .ok (.iload_n 1, 1) := by decide +kernel
theorem dX3_put_5 : decode cX3_put 5 = .ok (.bipush 108, 2) := by decide +kernel
theorem dX3_put_7 : decode cX3_put 7 = .ok (.if_icmp .ge 10, 3) := by decide +kernel
theorem dX3_put_10 : decode cX3_put 10 = .ok (.aload_n 0, 1) := by decide +kernel
theorem dX3_put_11 : decode cX3_put 11 = .ok (.getfield 9, 3) := by decide +kernel
theorem dX3_put_14 : decode cX3_put 14 = .ok (.iload_n 1, 1) := by decide +kernel
theorem dX3_put_15 : decode cX3_put 15 = .ok (.iload_n 2, 1) := by decide +kernel
theorem dX3_put_16 : decode cX3_put 16 = .ok (.iastore, 1) := by decide +kernel
theorem dX3_put_17 : decode cX3_put 17 = .ok (.return_, 1) := by decide +kernel
theorem dX3_isFree_0 : decode cX3_isFree 0 = .ok (.aload_n 0, 1) := by decide +kernel
theorem dX3_isFree_1 : decode cX3_isFree 1 = .ok (.iload_n 1, 1) := by decide +kernel
theorem dX3_isFree_2 : decode cX3_isFree 2 = .ok (.invokevirtual 15, 3) := by decide +kernel
theorem dX3_isFree_5 : decode cX3_isFree 5 = .ok (.ifCond .ne 7, 3) := by decide +kernel
theorem dX3_isFree_8 : decode cX3_isFree 8 = .ok (.iconst 1, 1) := by decide +kernel
theorem dX3_isFree_9 : decode cX3_isFree 9 = .ok (.goto 4, 3) := by decide +kernel
theorem dX3_isFree_12 : decode cX3_isFree 12 = .ok (.iconst 0, 1) := by decide +kernel
theorem dX3_isFree_13 : decode cX3_isFree 13 = .ok (.ireturn, 1) := by decide +kernel
theorem dX3_cellsWith_0 : decode cX3_cellsWith 0 = .ok (.iconst 0, 1) := by decide +kernel
theorem dX3_cellsWith_1 : decode cX3_cellsWith 1 = .ok (.istore_n 2, 1) := by decide +kernel
theorem dX3_cellsWith_2 : decode cX3_cellsWith 2 = .ok (.iconst 0, 1) := by decide +kernel
theorem dX3_cellsWith_3 : decode cX3_cellsWith 3 = .ok (.istore_n 3, 1) := by decide +kernel
theorem dX3_cellsWith_4 : decode cX3_cellsWith 4 = .ok (.iload_n 3, 1) := by decide +kernel
theorem dX3_cellsWith_5 : decode cX3_cellsWith 5 = .ok (.bipush 108, 2) := by decide +kernel
theorem dX3_cellsWith_7 : decode cX3_cellsWith 7 = .ok (.if_icmp .ge 22, 3) := by decide +kernel
theorem dX3_cellsWith_10 : decode cX3_cellsWith 10 = .ok (.aload_n 0, 1) := by decide +kernel
theorem dX3_cellsWith_11 : decode cX3_cellsWith 11 = .ok (.getfield 9, 3) := by decide +kernel
theorem dX3_cellsWith_14 : decode cX3_cellsWith 14 = .ok (.iload_n 3, 1) := by decide +kernel
theorem dX3_cellsWith_15 : decode cX3_cellsWith 15 = .ok (.iaload, 1) := by decide +kernel
theorem dX3_cellsWith_16 : decode cX3_cellsWith 16 = .ok (.iload_n 1, 1) := by decide +kernel
theorem dX3_cellsWith_17 : decode cX3_cellsWith 17 = .ok (.if_icmp .ne 6, 3) := by decide +kernel
theorem dX3_cellsWith_20 : decode cX3_cellsWith 20 = .ok (.iinc 2 1, 3) := by decide +kernel
theorem dX3_cellsWith_23 : decode cX3_cellsWith 23 = .ok (.iinc 3 1, 3) := by decide +kernel
theorem dX3_cellsWith_26 : decode cX3_cellsWith 26 = .ok (.goto (-22), 3) := by decide +kernel
theorem dX3_cellsWith_29 : decode cX3_cellsWith 29 = .ok (.iload_n 2, 1) := by decide +kernel
theorem dX3_cellsWith_30 : decode cX3_cellsWith 30 = .ok (.ireturn, 1) := by decide +kernel
theorem dX3_barricades_0 : decode cX3_barricades 0 = .ok (.iconst 0, 1) := by decide +kernel
theorem dX3_barricades_1 : decode cX3_barricades 1 = .ok (.istore_n 1, 1) := by decide +kernel
theorem dX3_barricades_2 : decode cX3_barricades 2 = .ok (.iconst 0, 1) := by decide +kernel
theorem dX3_barricades_3 : decode cX3_barricades 3 = .ok (.istore_n 2, 1) := by decide +kernel
theorem dX3_barricades_4 : decode cX3_barricades 4 = .ok (.iload_n 2, 1) := by decide +kernel
theorem dX3_barricades_5 : decode cX3_barricades 5 = .ok (.bipush 108, 2) := by decide +kernel
theorem dX3_barricades_7 : decode cX3_barricades 7 = .ok (.if_icmp .ge 27, 3) := by decide +kernel
theorem dX3_barricades_10 : decode cX3_barricades 10 = .ok (.aload_n 0, 1) := by decide +kernel
theorem dX3_barricades_11 : decode cX3_barricades 11 = .ok (.getfield 9, 3) := by decide +kernel
theorem dX3_barricades_14 : decode cX3_barricades 14 = .ok (.iload_n 2, 1) := by decide +kernel
theorem dX3_barricades_15 : decode cX3_barricades 15 = .ok (.iaload, 1) := by decide +kernel
theorem dX3_barricades_16 : decode cX3_barricades 16 = .ok (.ifCond .le 12, 3) := by decide +kernel
theorem dX3_barricades_19 : decode cX3_barricades 19 = .ok (.iload_n 1, 1) := by decide +kernel
theorem dX3_barricades_20 : decode cX3_barricades 20 = .ok (.aload_n 0, 1) := by decide +kernel
theorem dX3_barricades_21 : decode cX3_barricades 21 = .ok (.getfield 9, 3) := by decide +kernel
theorem dX3_barricades_24 : decode cX3_barricades 24 = .ok (.iload_n 2, 1) := by decide +kernel
theorem dX3_barricades_25 : decode cX3_barricades 25 = .ok (.iaload, 1) := by decide +kernel
theorem dX3_barricades_26 : decode cX3_barricades 26 = .ok (.iadd, 1) := by decide +kernel
theorem dX3_barricades_27 : decode cX3_barricades 27 = .ok (.istore_n 1, 1) := by decide +kernel
theorem dX3_barricades_28 : decode cX3_barricades 28 = .ok (.iinc 2 1, 3) := by decide +kernel
theorem dX3_barricades_31 : decode cX3_barricades 31 = .ok (.goto (-27), 3) := by decide +kernel
theorem dX3_barricades_34 : decode cX3_barricades 34 = .ok (.iload_n 1, 1) := by decide +kernel
theorem dX3_barricades_35 : decode cX3_barricades 35 = .ok (.ireturn, 1) := by decide +kernel
theorem dX3_addCellsTo_0 : decode cX3_addCellsTo 0 = .ok (.lload_n 1, 1) := by decide +kernel
theorem dX3_addCellsTo_1 : decode cX3_addCellsTo 1 = .ok (.lstore_n 3, 1) := by decide +kernel
theorem dX3_addCellsTo_2 : decode cX3_addCellsTo 2 = .ok (.iconst 0, 1) := by decide +kernel
theorem dX3_addCellsTo_3 : decode cX3_addCellsTo 3 = .ok (.istore 5, 2) := by decide +kernel
theorem dX3_addCellsTo_5 : decode cX3_addCellsTo 5 = .ok (.iload 5, 2) := by decide +kernel
theorem dX3_addCellsTo_7 : decode cX3_addCellsTo 7 = .ok (.bipush 108, 2) := by decide +kernel
theorem dX3_addCellsTo_9 : decode cX3_addCellsTo 9 = .ok (.if_icmp .ge 24, 3) := by decide +kernel
theorem dX3_addCellsTo_12 : decode cX3_addCellsTo 12 = .ok (.lload_n 3, 1) := by decide +kernel
theorem dX3_addCellsTo_13 : decode cX3_addCellsTo 13 = .ok (.ldc2_w 19, 3) := by decide +kernel
theorem dX3_addCellsTo_16 : decode cX3_addCellsTo 16 = .ok (.lmul, 1) := by decide +kernel
theorem dX3_addCellsTo_17 : decode cX3_addCellsTo 17 = .ok (.aload_n 0, 1) := by decide +kernel
theorem dX3_addCellsTo_18 : decode cX3_addCellsTo 18 = .ok (.getfield 9, 3) := by decide +kernel
theorem dX3_addCellsTo_21 : decode cX3_addCellsTo 21 = .ok (.iload 5, 2) := by decide +kernel
theorem dX3_addCellsTo_23 : decode cX3_addCellsTo 23 = .ok (.iaload, 1) := by decide +kernel
theorem dX3_addCellsTo_24 : decode cX3_addCellsTo 24 = .ok (.i2l, 1) := by decide +kernel
theorem dX3_addCellsTo_25 : decode cX3_addCellsTo 25 = .ok (.ladd, 1) := by decide +kernel
theorem dX3_addCellsTo_26 : decode cX3_addCellsTo 26 = .ok (.lstore_n 3, 1) := by decide +kernel
theorem dX3_addCellsTo_27 : decode cX3_addCellsTo 27 = .ok (.iinc 5 1, 3) := by decide +kernel
theorem dX3_addCellsTo_30 : decode cX3_addCellsTo 30 = .ok (.goto (-25), 3) := by decide +kernel
theorem dX3_addCellsTo_33 : decode cX3_addCellsTo 33 = .ok (.lload_n 3, 1) := by decide +kernel
theorem dX3_addCellsTo_34 : decode cX3_addCellsTo 34 = .ok (.lreturn, 1) := by decide +kernel
theorem dX3_become_0 : decode cX3_become 0 = .ok (.aload_n 1, 1) := by decide +kernel
theorem dX3_become_1 : decode cX3_become 1 = .ok (.getfield 9, 3) := by decide +kernel
theorem dX3_become_4 : decode cX3_become 4 = .ok (.iconst 0, 1) := by decide +kernel
theorem dX3_become_5 : decode cX3_become 5 = .ok (.aload_n 0, 1) := by decide +kernel
theorem dX3_become_6 : decode cX3_become 6 = .ok (.getfield 9, 3) := by decide +kernel
theorem dX3_become_9 : decode cX3_become 9 = .ok (.iconst 0, 1) := by decide +kernel
theorem dX3_become_10 : decode cX3_become 10 = .ok (.bipush 108, 2) := by decide +kernel
theorem dX3_become_12 : decode cX3_become 12 = .ok (.invokestatic 21, 3) := by decide +kernel
theorem dX3_become_15 : decode cX3_become 15 = .ok (.return_, 1) := by decide +kernel
theorem dX4_init_0 : decode cX4_init 0 = .ok (.aload_n 0, 1) := by decide +kernel
theorem dX4_init_1 : decode cX4_init 1 = .ok (.invokespecial 3, 3) := by decide +kernel
theorem dX4_init_4 : decode cX4_init 4 = .ok (.aload_n 0, 1) := by decide +kernel
theorem dX4_init_5 : decode cX4_init 5 = .ok (.bipush 108, 2) := by decide +kernel
theorem dX4_init_7 : decode cX4_init 7 = .ok (.newarray .int, 2) := by decide +kernel
theorem dX4_init_9 : decode cX4_init 9 = .ok (.putfield 9, 3) := by decide +kernel
theorem dX4_init_12 : decode cX4_init 12 = .ok (.aload_n 0, 1) := by decide +kernel
theorem dX4_init_13 : decode cX4_init 13 = .ok (.sipush 216, 3) := by decide +kernel
theorem dX4_init_16 : decode cX4_init 16 = .ok (.newarray .int, 2) := by decide +kernel
theorem dX4_init_18 : decode cX4_init 18 = .ok (.putfield 15, 3) := by decide +kernel
theorem dX4_init_21 : decode cX4_init 21 = .ok (.return_, 1) := by decide +kernel
theorem dX4_startAnew_0 : decode cX4_startAnew 0 = .ok (.aload_n 0, 1) := by decide +kernel
theorem dX4_startAnew_1 : decode cX4_startAnew 1 = .ok (.getfield 9, 3) := by decide +kernel
theorem dX4_startAnew_4 : decode cX4_startAnew 4 = .ok (.iconst (-1), 1) := by decide +kernel
theorem dX4_startAnew_5 : decode cX4_startAnew 5 = .ok (.invokestatic 18, 3) := by decide +kernel
theorem dX4_startAnew_8 : decode cX4_startAnew 8 = .ok (.aload_n 0, 1) := by decide +kernel
theorem dX4_startAnew_9 : decode cX4_startAnew 9 = .ok (.bipush 108, 2) := by decide +kernel
theorem dX4_startAnew_11 : decode cX4_startAnew 11 = .ok (.putfield 24, 3) := by decide +kernel
theorem dX4_startAnew_14 : decode cX4_startAnew 14 = .ok (.aload_n 0, 1) := by decide +kernel
theorem dX4_startAnew_15 : decode cX4_startAnew 15 = .ok (.bipush 108, 2) := by decide +kernel
theorem dX4_startAnew_17 : decode cX4_startAnew 17 = .ok (.putfield 28, 3) := by decide +kernel
theorem dX4_startAnew_20 : decode cX4_startAnew 20 = .ok (.return_, 1) := by decide +kernel
theorem dX4_fewestSteps_0 : decode cX4_fewestSteps 0 = .ok (.aload_n 1, 1) := by decide +kernel
theorem dX4_fewestSteps_1 : decode cX4_fewestSteps 1 = .ok (.iload_n 2, 1) := by decide +kernel
theorem dX4_fewestSteps_2 : decode cX4_fewestSteps 2 = .ok (.invokevirtual 31, 3) := by decide +kernel
theorem dX4_fewestSteps_5 : decode cX4_fewestSteps 5 = .ok (.ifCond .eq 11, 3) := by decide +kernel
theorem dX4_fewestSteps_8 : decode cX4_fewestSteps 8 = .ok (.aload_n 1, 1) := by decide +kernel
theorem dX4_fewestSteps_9 : decode cX4_fewestSteps 9 = .ok (.iload_n 3, 1) := by decide +kernel
theorem dX4_fewestSteps_10 : decode cX4_fewestSteps 10 = .ok (.invokevirtual 31, 3) := by decide +kernel
theorem dX4_fewestSteps_13 : decode cX4_fewestSteps 13 = .ok (.ifCond .ne 5, 3) := by decide +kernel
theorem dX4_fewestSteps_16 : decode cX4_fewestSteps 16 = .ok (.iconst (-1), 1) := by decide +kernel
theorem dX4_fewestSteps_17 : decode cX4_fewestSteps 17 = .ok (.ireturn, 1) := by decide +kernel
theorem dX4_fewestSteps_18 : decode cX4_fewestSteps 18 = .ok (.aload_n 0, 1) := by decide +kernel
theorem dX4_fewestSteps_19 : decode cX4_fewestSteps 19 = .ok (.invokevirtual 37, 3) := by decide +kernel
theorem dX4_fewestSteps_22 : decode cX4_fewestSteps 22 = .ok (.aload_n 0, 1) := by decide +kernel
theorem dX4_fewestSteps_23 : decode cX4_fewestSteps 23 = .ok (.iload_n 2, 1) := by decide +kernel
theorem dX4_fewestSteps_24 : decode cX4_fewestSteps 24 = .ok (.iconst 0, 1) := by decide +kernel
theorem dX4_fewestSteps_25 : decode cX4_fewestSteps 25 = .ok (.invokevirtual 40, 3) := by decide +kernel
theorem dX4_fewestSteps_28 : decode cX4_fewestSteps 28 = .ok (.iconst 0, 1) := by decide +kernel
theorem dX4_fewestSteps_29 : decode cX4_fewestSteps 29 = .ok (.istore 4, 2) := by decide +kernel
theorem dX4_fewestSteps_31 : decode cX4_fewestSteps 31 = .ok (.iload 4, 2) := by decide +kernel
theorem dX4_fewestSteps_33 : decode cX4_fewestSteps 33 = .ok (.bipush 108, 2) := by decide +kernel
theorem dX4_fewestSteps_35 : decode cX4_fewestSteps 35 = .ok (.if_icmp .ge 100, 3) := by decide +kernel
theorem dX4_fewestSteps_38 : decode cX4_fewestSteps 38 = .ok (.aload_n 0, 1) := by decide +kernel
theorem dX4_fewestSteps_39 : decode cX4_fewestSteps 39 = .ok (.getfield 24, 3) := by decide +kernel
theorem dX4_fewestSteps_42 : decode cX4_fewestSteps 42 = .ok (.aload_n 0, 1) := by decide +kernel
theorem dX4_fewestSteps_43 : decode cX4_fewestSteps 43 = .ok (.getfield 28, 3) := by decide +kernel
theorem dX4_fewestSteps_46 : decode cX4_fewestSteps 46 = .ok (.if_icmp .ge 89, 3) := by decide +kernel
theorem dX4_fewestSteps_49 : decode cX4_fewestSteps 49 = .ok (.aload_n 0, 1) := by decide +kernel
theorem dX4_fewestSteps_50 : decode cX4_fewestSteps 50 = .ok (.getfield 15, 3) := by decide +kernel
theorem dX4_fewestSteps_53 : decode cX4_fewestSteps 53 = .ok (.aload_n 0, 1) := by decide +kernel
theorem dX4_fewestSteps_54 : decode cX4_fewestSteps 54 = .ok (.getfield 24, 3) := by decide +kernel
theorem dX4_fewestSteps_57 : decode cX4_fewestSteps 57 = .ok (.iaload, 1) := by decide +kernel
theorem dX4_fewestSteps_58 : decode cX4_fewestSteps 58 = .ok (.istore 5, 2) := by decide +kernel
theorem dX4_fewestSteps_60 : decode cX4_fewestSteps 60 = .ok (.aload_n 0, 1) := by decide +kernel
theorem dX4_fewestSteps_61 : decode cX4_fewestSteps 61 = .ok (.dup, 1) := by decide +kernel
theorem dX4_fewestSteps_62 : decode cX4_fewestSteps 62 = .ok (.getfield 24, 3) := by decide +kernel
theorem dX4_fewestSteps_65 : decode cX4_fewestSteps 65 = .ok (.iconst 1, 1) := by decide +kernel
theorem dX4_fewestSteps_66 : decode cX4_fewestSteps 66 = .ok (.iadd, 1) := by decide +kernel
theorem dX4_fewestSteps_67 : decode cX4_fewestSteps 67 = .ok (.putfield 24, 3) := by decide +kernel
theorem dX4_fewestSteps_70 : decode cX4_fewestSteps 70 = .ok (.iconst 0, 1) := by decide +kernel
theorem dX4_fewestSteps_71 : decode cX4_fewestSteps 71 = .ok (.istore 6, 2) := by decide +kernel
theorem dX4_fewestSteps_73 : decode cX4_fewestSteps 73 = .ok (.iload 6, 2) := by decide +kernel
theorem dX4_fewestSteps_75 : decode cX4_fewestSteps 75 = .ok (.iconst 4, 1) := by decide +kernel
theorem dX4_fewestSteps_76 : decode cX4_fewestSteps 76 = .ok (.if_icmp .ge 53, 3) := by decide +kernel
theorem dX4_fewestSteps_79 : decode cX4_fewestSteps 79 = .ok (.iload 5, 2) := by decide +kernel
theorem dX4_fewestSteps_81 : decode cX4_fewestSteps 81 = .ok (.iload 6, 2) := by decide +kernel
theorem dX4_fewestSteps_83 : decode cX4_fewestSteps 83 = .ok (.invokestatic 44, 3) := by decide +kernel
theorem dX4_fewestSteps_86 : decode cX4_fewestSteps 86 = .ok (.istore 7, 2) := by decide +kernel
theorem dX4_fewestSteps_88 : decode cX4_fewestSteps 88 = .ok (.aload_n 1, 1) := by decide +kernel
theorem dX4_fewestSteps_89 : decode cX4_fewestSteps 89 = .ok (.iload 7, 2) := by decide +kernel
theorem dX4_fewestSteps_91 : decode cX4_fewestSteps 91 = .ok (.invokevirtual 31, 3) := by decide +kernel
theorem dX4_fewestSteps_94 : decode cX4_fewestSteps 94 = .ok (.ifCond .eq 29, 3) := by decide +kernel
theorem dX4_fewestSteps_97 : decode cX4_fewestSteps 97 = .ok (.aload_n 0, 1) := by decide +kernel
theorem dX4_fewestSteps_98 : decode cX4_fewestSteps 98 = .ok (.getfield 9, 3) := by decide +kernel
theorem dX4_fewestSteps_101 : decode cX4_fewestSteps 101 = .ok (.iload 7, 2) := by decide +kernel
theorem dX4_fewestSteps_103 : decode cX4_fewestSteps 103 = .ok (.iaload, 1) := by decide +kernel
theorem dX4_fewestSteps_104 : decode cX4_fewestSteps 104 = .ok (.iconst (-1), 1) := by decide +kernel
theorem dX4_fewestSteps_105 : decode cX4_fewestSteps 105 = .ok (.if_icmp .ne 18, 3) := by decide +kernel
theorem dX4_fewestSteps_108 : decode cX4_fewestSteps 108 = .ok (.aload_n 0, 1) := by decide +kernel
theorem dX4_fewestSteps_109 : decode cX4_fewestSteps 109 = .ok (.iload 7, 2) := by decide +kernel
theorem dX4_fewestSteps_111 : decode cX4_fewestSteps 111 = .ok (.aload_n 0, 1) := by decide +kernel
theorem dX4_fewestSteps_112 : decode cX4_fewestSteps 112 = .ok (.getfield 9, 3) := by decide +kernel
theorem dX4_fewestSteps_115 : decode cX4_fewestSteps 115 = .ok (.iload 5, 2) := by decide +kernel
theorem dX4_fewestSteps_117 : decode cX4_fewestSteps 117 = .ok (.iaload, 1) := by decide +kernel
theorem dX4_fewestSteps_118 : decode cX4_fewestSteps 118 = .ok (.iconst 1, 1) := by decide +kernel
theorem dX4_fewestSteps_119 : decode cX4_fewestSteps 119 = .ok (.iadd, 1) := by decide +kernel
theorem dX4_fewestSteps_120 : decode cX4_fewestSteps 120 = .ok (.invokevirtual 40, 3) := by decide +kernel
theorem dX4_fewestSteps_123 : decode cX4_fewestSteps 123 = .ok (.iinc 6 1, 3) := by decide +kernel
theorem dX4_fewestSteps_126 : decode cX4_fewestSteps 126 = .ok (.goto (-53), 3) := by decide +kernel
theorem dX4_fewestSteps_129 : decode cX4_fewestSteps 129 = .ok (.iinc 4 1, 3) := by decide +kernel
theorem dX4_fewestSteps_132 : decode cX4_fewestSteps 132 = .ok (.goto (-101), 3) := by decide +kernel
theorem dX4_fewestSteps_135 : decode cX4_fewestSteps 135 = .ok (.aload_n 0, 1) := by decide +kernel
theorem dX4_fewestSteps_136 : decode cX4_fewestSteps 136 = .ok (.getfield 9, 3) := by decide +kernel
theorem dX4_fewestSteps_139 : decode cX4_fewestSteps 139 = .ok (.iload_n 3, 1) := by decide +kernel
theorem dX4_fewestSteps_140 : decode cX4_fewestSteps 140 = .ok (.iaload, 1) := by decide +kernel
theorem dX4_fewestSteps_141 : decode cX4_fewestSteps 141 = .ok (.ireturn, 1) := by decide +kernel
theorem dX4_fewestToShut_0 : decode cX4_fewestToShut 0 = .ok (.aload_n 0, 1) := by decide +kernel
theorem dX4_fewestToShut_1 : decode cX4_fewestToShut 1 = .ok (.invokevirtual 37, 3) := by decide +kernel
theorem dX4_fewestToShut_4 : decode cX4_fewestToShut 4 = .ok (.iconst 0, 1) := by decide +kernel
theorem dX4_fewestToShut_5 : decode cX4_fewestToShut 5 = .ok (.istore_n 2, 1) := by decide +kernel
theorem dX4_fewestToShut_6 : decode cX4_fewestToShut 6 = .ok (.iload_n 2, 1) := by decide +kernel
theorem dX4_fewestToShut_7 : decode cX4_fewestToShut 7 = .ok (.bipush 12, 2) := by decide +kernel
theorem dX4_fewestToShut_9 : decode cX4_fewestToShut 9 = .ok (.if_icmp .ge 16, 3) := by decide +kernel
theorem dX4_fewestToShut_12 : decode cX4_fewestToShut 12 = .ok (.aload_n 0, 1) := by decide +kernel
theorem dX4_fewestToShut_13 : decode cX4_fewestToShut 13 = .ok (.aload_n 1, 1) := by decide +kernel
theorem dX4_fewestToShut_14 : decode cX4_fewestToShut 14 = .ok (.iload_n 2, 1) := by decide +kernel
theorem dX4_fewestToShut_15 : decode cX4_fewestToShut 15 = .ok (.iconst 0, 1) := by decide +kernel
theorem dX4_fewestToShut_16 : decode cX4_fewestToShut 16 = .ok (.invokevirtual 48, 3) := by decide +kernel
theorem dX4_fewestToShut_19 : decode cX4_fewestToShut 19 = .ok (.iinc 2 1, 3) := by decide +kernel
theorem dX4_fewestToShut_22 : decode cX4_fewestToShut 22 = .ok (.goto (-16), 3) := by decide +kernel
theorem dX4_fewestToShut_25 : decode cX4_fewestToShut 25 = .ok (.iconst 0, 1) := by decide +kernel
theorem dX4_fewestToShut_26 : decode cX4_fewestToShut 26 = .ok (.istore_n 2, 1) := by decide +kernel
theorem dX4_fewestToShut_27 : decode cX4_fewestToShut 27 = .ok (.iload_n 2, 1) := by decide +kernel
theorem dX4_fewestToShut_28 : decode cX4_fewestToShut 28 = .ok (.bipush 108, 2) := by decide +kernel
theorem dX4_fewestToShut_30 : decode cX4_fewestToShut 30 = .ok (.if_icmp .ge 46, 3) := by decide +kernel
theorem dX4_fewestToShut_33 : decode cX4_fewestToShut 33 = .ok (.aload_n 0, 1) := by decide +kernel
theorem dX4_fewestToShut_34 : decode cX4_fewestToShut 34 = .ok (.getfield 24, 3) := by decide +kernel
theorem dX4_fewestToShut_37 : decode cX4_fewestToShut 37 = .ok (.aload_n 0, 1) := by decide +kernel
theorem dX4_fewestToShut_38 : decode cX4_fewestToShut 38 = .ok (.getfield 28, 3) := by decide +kernel
theorem dX4_fewestToShut_41 : decode cX4_fewestToShut 41 = .ok (.if_icmp .ge 35, 3) := by decide +kernel
theorem dX4_fewestToShut_44 : decode cX4_fewestToShut 44 = .ok (.aload_n 0, 1) := by decide +kernel
theorem dX4_fewestToShut_45 : decode cX4_fewestToShut 45 = .ok (.getfield 15, 3) := by decide +kernel
theorem dX4_fewestToShut_48 : decode cX4_fewestToShut 48 = .ok (.aload_n 0, 1) := by decide +kernel
theorem dX4_fewestToShut_49 : decode cX4_fewestToShut 49 = .ok (.getfield 24, 3) := by decide +kernel
theorem dX4_fewestToShut_52 : decode cX4_fewestToShut 52 = .ok (.iaload, 1) := by decide +kernel
theorem dX4_fewestToShut_53 : decode cX4_fewestToShut 53 = .ok (.istore_n 3, 1) := by decide +kernel
theorem dX4_fewestToShut_54 : decode cX4_fewestToShut 54 = .ok (.aload_n 0, 1) := by decide +kernel
theorem dX4_fewestToShut_55 : decode cX4_fewestToShut 55 = .ok (.dup, 1) := by decide +kernel
theorem dX4_fewestToShut_56 : decode cX4_fewestToShut 56 = .ok (.getfield 24, 3) := by decide +kernel
theorem dX4_fewestToShut_59 : decode cX4_fewestToShut 59 = .ok (.iconst 1, 1) := by decide +kernel
theorem dX4_fewestToShut_60 : decode cX4_fewestToShut 60 = .ok (.iadd, 1) := by decide +kernel
theorem dX4_fewestToShut_61 : decode cX4_fewestToShut 61 = .ok (.putfield 24, 3) := by decide +kernel
theorem dX4_fewestToShut_64 : decode cX4_fewestToShut 64 = .ok (.aload_n 0, 1) := by decide +kernel
theorem dX4_fewestToShut_65 : decode cX4_fewestToShut 65 = .ok (.aload_n 1, 1) := by decide +kernel
theorem dX4_fewestToShut_66 : decode cX4_fewestToShut 66 = .ok (.iload_n 3, 1) := by decide +kernel
theorem dX4_fewestToShut_67 : decode cX4_fewestToShut 67 = .ok (.invokevirtual 52, 3) := by decide +kernel
theorem dX4_fewestToShut_70 : decode cX4_fewestToShut 70 = .ok (.iinc 2 1, 3) := by decide +kernel
theorem dX4_fewestToShut_73 : decode cX4_fewestToShut 73 = .ok (.goto (-46), 3) := by decide +kernel
theorem dX4_fewestToShut_76 : decode cX4_fewestToShut 76 = .ok (.bipush 9, 2) := by decide +kernel
theorem dX4_fewestToShut_78 : decode cX4_fewestToShut 78 = .ok (.istore_n 2, 1) := by decide +kernel
theorem dX4_fewestToShut_79 : decode cX4_fewestToShut 79 = .ok (.bipush 96, 2) := by decide +kernel
theorem dX4_fewestToShut_81 : decode cX4_fewestToShut 81 = .ok (.istore_n 3, 1) := by decide +kernel
theorem dX4_fewestToShut_82 : decode cX4_fewestToShut 82 = .ok (.iload_n 3, 1) := by decide +kernel
theorem dX4_fewestToShut_83 : decode cX4_fewestToShut 83 = .ok (.bipush 108, 2) := by decide +kernel
theorem dX4_fewestToShut_85 : decode cX4_fewestToShut 85 = .ok (.if_icmp .ge 20, 3) := by decide +kernel
theorem dX4_fewestToShut_88 : decode cX4_fewestToShut 88 = .ok (.iload_n 2, 1) := by decide +kernel
theorem dX4_fewestToShut_89 : decode cX4_fewestToShut 89 = .ok (.aload_n 0, 1) := by decide +kernel
theorem dX4_fewestToShut_90 : decode cX4_fewestToShut 90 = .ok (.getfield 9, 3) := by decide +kernel
theorem dX4_fewestToShut_93 : decode cX4_fewestToShut 93 = .ok (.iload_n 3, 1) := by decide +kernel
theorem dX4_fewestToShut_94 : decode cX4_fewestToShut 94 = .ok (.iaload, 1) := by decide +kernel
theorem dX4_fewestToShut_95 : decode cX4_fewestToShut 95 = .ok (.invokestatic 56, 3) := by decide +kernel
theorem dX4_fewestToShut_98 : decode cX4_fewestToShut 98 = .ok (.istore_n 2, 1) := by decide +kernel
theorem dX4_fewestToShut_99 : decode cX4_fewestToShut 99 = .ok (.iinc 3 1, 3) := by decide +kernel
theorem dX4_fewestToShut_102 : decode cX4_fewestToShut 102 = .ok (.goto (-20), 3) := by decide +kernel
theorem dX4_fewestToShut_105 : decode cX4_fewestToShut 105 = .ok (.iload_n 2, 1) := by decide +kernel
theorem dX4_fewestToShut_106 : decode cX4_fewestToShut 106 = .ok (.ireturn, 1) := by decide +kernel
theorem dX4_leadAround_0 : decode cX4_leadAround 0 = .ok (.iload_n 2, 1) := by decide +kernel
theorem dX4_leadAround_1 : decode cX4_leadAround 1 = .ok (.bipush 12, 2) := by decide +kernel
theorem dX4_leadAround_3 : decode cX4_leadAround 3 = .ok (.irem, 1) := by decide +kernel
theorem dX4_leadAround_4 : decode cX4_leadAround 4 = .ok (.istore_n 3, 1) := by decide +kernel
theorem dX4_leadAround_5 : decode cX4_leadAround 5 = .ok (.iload_n 2, 1) := by decide +kernel
theorem dX4_leadAround_6 : decode cX4_leadAround 6 = .ok (.bipush 12, 2) := by decide +kernel
theorem dX4_leadAround_8 : decode cX4_leadAround 8 = .ok (.idiv, 1) := by decide +kernel
theorem dX4_leadAround_9 : decode cX4_leadAround 9 = .ok (.istore 4, 2) := by decide +kernel
theorem dX4_leadAround_11 : decode cX4_leadAround 11 = .ok (.iload 4, 2) := by decide +kernel
theorem dX4_leadAround_13 : decode cX4_leadAround 13 = .ok (.iconst 1, 1) := by decide +kernel
theorem dX4_leadAround_14 : decode cX4_leadAround 14 = .ok (.isub, 1) := by decide +kernel
theorem dX4_leadAround_15 : decode cX4_leadAround 15 = .ok (.iconst 0, 1) := by decide +kernel
theorem dX4_leadAround_16 : decode cX4_leadAround 16 = .ok (.invokestatic 61, 3) := by decide +kernel
theorem dX4_leadAround_19 : decode cX4_leadAround 19 = .ok (.istore 5, 2) := by decide +kernel
theorem dX4_leadAround_21 : decode cX4_leadAround 21 = .ok (.iload 5, 2) := by decide +kernel
theorem dX4_leadAround_23 : decode cX4_leadAround 23 = .ok (.iload 4, 2) := by decide +kernel
theorem dX4_leadAround_25 : decode cX4_leadAround 25 = .ok (.iconst 1, 1) := by decide +kernel
theorem dX4_leadAround_26 : decode cX4_leadAround 26 = .ok (.iadd, 1) := by decide +kernel
theorem dX4_leadAround_27 : decode cX4_leadAround 27 = .ok (.if_icmp .gt 65, 3) := by decide +kernel
theorem dX4_leadAround_30 : decode cX4_leadAround 30 = .ok (.iload 5, 2) := by decide +kernel
theorem dX4_leadAround_32 : decode cX4_leadAround 32 = .ok (.bipush 9, 2) := by decide +kernel
theorem dX4_leadAround_34 : decode cX4_leadAround 34 = .ok (.if_icmp .ge 58, 3) := by decide +kernel
theorem dX4_leadAround_37 : decode cX4_leadAround 37 = .ok (.iload_n 3, 1) := by decide +kernel
theorem dX4_leadAround_38 : decode cX4_leadAround 38 = .ok (.iconst 1, 1) := by decide +kernel
theorem dX4_leadAround_39 : decode cX4_leadAround 39 = .ok (.isub, 1) := by decide +kernel
theorem dX4_leadAround_40 : decode cX4_leadAround 40 = .ok (.iconst 0, 1) := by decide +kernel
theorem dX4_leadAround_41 : decode cX4_leadAround 41 = .ok (.invokestatic 61, 3) := by decide +kernel
theorem dX4_leadAround_44 : decode cX4_leadAround 44 = .ok (.istore 6, 2) := by decide +kernel
theorem dX4_leadAround_46 : decode cX4_leadAround 46 = .ok (.iload 6, 2) := by decide +kernel
theorem dX4_leadAround_48 : decode cX4_leadAround 48 = .ok (.iload_n 3, 1) := by decide +kernel
theorem dX4_leadAround_49 : decode cX4_leadAround 49 = .ok (.iconst 1, 1) := by decide +kernel
theorem dX4_leadAround_50 : decode cX4_leadAround 50 = .ok (.iadd, 1) := by decide +kernel
theorem dX4_leadAround_51 : decode cX4_leadAround 51 = .ok (.if_icmp .gt 35, 3) := by decide +kernel
theorem dX4_leadAround_54 : decode cX4_leadAround 54 = .ok (.iload 6, 2) := by decide +kernel
theorem dX4_leadAround_56 : decode cX4_leadAround 56 = .ok (.bipush 12, 2) := by decide +kernel
theorem dX4_leadAround_58 : decode cX4_leadAround 58 = .ok (.if_icmp .ge 28, 3) := by decide +kernel
theorem dX4_leadAround_61 : decode cX4_leadAround 61 = .ok (.aload_n 0, 1) := by decide +kernel
theorem dX4_leadAround_62 : decode cX4_leadAround 62 = .ok (.aload_n 1, 1) := by decide +kernel
theorem dX4_leadAround_63 : decode cX4_leadAround 63 = .ok (.bipush 12, 2) := by decide +kernel
theorem dX4_leadAround_65 : decode cX4_leadAround 65 = .ok (.iload 5, 2) := by decide +kernel
theorem dX4_leadAround_67 : decode cX4_leadAround 67 = .ok (.imul, 1) := by decide +kernel
theorem dX4_leadAround_68 : decode cX4_leadAround 68 = .ok (.iload 6, 2) := by decide +kernel
theorem dX4_leadAround_70 : decode cX4_leadAround 70 = .ok (.iadd, 1) := by decide +kernel
theorem dX4_leadAround_71 : decode cX4_leadAround 71 = .ok (.aload_n 0, 1) := by decide +kernel
theorem dX4_leadAround_72 : decode cX4_leadAround 72 = .ok (.getfield 9, 3) := by decide +kernel
theorem dX4_leadAround_75 : decode cX4_leadAround 75 = .ok (.iload_n 2, 1) := by decide +kernel
theorem dX4_leadAround_76 : decode cX4_leadAround 76 = .ok (.iaload, 1) := by decide +kernel
theorem dX4_leadAround_77 : decode cX4_leadAround 77 = .ok (.invokevirtual 48, 3) := by decide +kernel
theorem dX4_leadAround_80 : decode cX4_leadAround 80 = .ok (.iinc 6 1, 3) := by decide +kernel
theorem dX4_leadAround_83 : decode cX4_leadAround 83 = .ok (.goto (-37), 3) := by decide +kernel
theorem dX4_leadAround_86 : decode cX4_leadAround 86 = .ok (.iinc 5 1, 3) := by decide +kernel
theorem dX4_leadAround_89 : decode cX4_leadAround 89 = .ok (.goto (-68), 3) := by decide +kernel
theorem dX4_leadAround_92 : decode cX4_leadAround 92 = .ok (.return_, 1) := by decide +kernel
theorem dX4_lead_0 : decode cX4_lead 0 = .ok (.aload_n 0, 1) := by decide +kernel
theorem dX4_lead_1 : decode cX4_lead 1 = .ok (.getfield 9, 3) := by decide +kernel
theorem dX4_lead_4 : decode cX4_lead 4 = .ok (.iload_n 2, 1) := by decide +kernel
theorem dX4_lead_5 : decode cX4_lead 5 = .ok (.iaload, 1) := by decide +kernel
theorem dX4_lead_6 : decode cX4_lead 6 = .ok (.iconst (-1), 1) := by decide +kernel
theorem dX4_lead_7 : decode cX4_lead 7 = .ok (.if_icmp .eq 4, 3) := by decide +kernel
theorem dX4_lead_10 : decode cX4_lead 10 = .ok (.return_, 1) := by decide +kernel
theorem dX4_lead_11 : decode cX4_lead 11 = .ok (.aload_n 1, 1) := by decide +kernel
theorem dX4_lead_12 : decode cX4_lead 12 = .ok (.iload_n 2, 1) := by decide +kernel
theorem dX4_lead_13 : decode cX4_lead 13 = .ok (.invokevirtual 31, 3) := by decide +kernel
theorem dX4_lead_16 : decode cX4_lead 16 = .ok (.ifCond .eq 14, 3) := by decide +kernel
theorem dX4_lead_19 : decode cX4_lead 19 = .ok (.aload_n 0, 1) := by decide +kernel
theorem dX4_lead_20 : decode cX4_lead 20 = .ok (.iload_n 2, 1) := by decide +kernel
theorem dX4_lead_21 : decode cX4_lead 21 = .ok (.iload_n 3, 1) := by decide +kernel
theorem dX4_lead_22 : decode cX4_lead 22 = .ok (.iconst 1, 1) := by decide +kernel
theorem dX4_lead_23 : decode cX4_lead 23 = .ok (.iadd, 1) := by decide +kernel
theorem dX4_lead_24 : decode cX4_lead 24 = .ok (.invokevirtual 40, 3) := by decide +kernel
theorem dX4_lead_27 : decode cX4_lead 27 = .ok (.goto 9, 3) := by decide +kernel
theorem dX4_lead_30 : decode cX4_lead 30 = .ok (.aload_n 0, 1) := by decide +kernel
theorem dX4_lead_31 : decode cX4_lead 31 = .ok (.iload_n 2, 1) := by decide +kernel
theorem dX4_lead_32 : decode cX4_lead 32 = .ok (.iload_n 3, 1) := by decide +kernel
theorem dX4_lead_33 : decode cX4_lead 33 = .ok (.invokevirtual 64, 3) := by decide +kernel
theorem dX4_lead_36 : decode cX4_lead 36 = .ok (.return_, 1) := by decide +kernel
theorem dX4_putLast_0 : decode cX4_putLast 0 = .ok (.aload_n 0, 1) := by decide +kernel
theorem dX4_putLast_1 : decode cX4_putLast 1 = .ok (.getfield 28, 3) := by decide +kernel
theorem dX4_putLast_4 : decode cX4_putLast 4 = .ok (.aload_n 0, 1) := by decide +kernel
theorem dX4_putLast_5 : decode cX4_putLast 5 = .ok (.getfield 15, 3) := by decide +kernel
theorem dX4_putLast_8 : decode cX4_putLast 8 = .ok (.arraylength, 1) := by decide +kernel
theorem dX4_putLast_9 : decode cX4_putLast 9 = .ok (.if_icmp .ge 30, 3) := by decide +kernel
theorem dX4_putLast_12 : decode cX4_putLast 12 = .ok (.aload_n 0, 1) := by decide +kernel
theorem dX4_putLast_13 : decode cX4_putLast 13 = .ok (.getfield 9, 3) := by decide +kernel
theorem dX4_putLast_16 : decode cX4_putLast 16 = .ok (.iload_n 1, 1) := by decide +kernel
theorem dX4_putLast_17 : decode cX4_putLast 17 = .ok (.iload_n 2, 1) := by decide +kernel
theorem dX4_putLast_18 : decode cX4_putLast 18 = .ok (.iastore, 1) := by decide +kernel
theorem dX4_putLast_19 : decode cX4_putLast 19 = .ok (.aload_n 0, 1) := by decide +kernel
theorem dX4_putLast_20 : decode cX4_putLast 20 = .ok (.getfield 15, 3) := by decide +kernel
theorem dX4_putLast_23 : decode cX4_putLast 23 = .ok (.aload_n 0, 1) := by decide +kernel
theorem dX4_putLast_24 : decode cX4_putLast 24 = .ok (.getfield 28, 3) := by decide +kernel
theorem dX4_putLast_27 : decode cX4_putLast 27 = .ok (.iload_n 1, 1) := by decide +kernel
theorem dX4_putLast_28 : decode cX4_putLast 28 = .ok (.iastore, 1) := by decide +kernel
theorem dX4_putLast_29 : decode cX4_putLast 29 = .ok (.aload_n 0, 1) := by decide +kernel
theorem dX4_putLast_30 : decode cX4_putLast 30 = .ok (.dup, 1) := by decide +kernel
theorem dX4_putLast_31 : decode cX4_putLast 31 = .ok (.getfield 28, 3) := by decide +kernel
theorem dX4_putLast_34 : decode cX4_putLast 34 = .ok (.iconst 1, 1) := by decide +kernel
theorem dX4_putLast_35 : decode cX4_putLast 35 = .ok (.iadd, 1) := by decide +kernel
theorem dX4_putLast_36 : decode cX4_putLast 36 = .ok (.putfield 28, 3) := by decide +kernel
theorem dX4_putLast_39 : decode cX4_putLast 39 = .ok (.return_, 1) := by decide +kernel
theorem dX4_putFirst_0 : decode cX4_putFirst 0 = .ok (.aload_n 0, 1) := by decide +kernel
theorem dX4_putFirst_1 : decode cX4_putFirst 1 = .ok (.getfield 24, 3) := by decide +kernel
theorem dX4_putFirst_4 : decode cX4_putFirst 4 = .ok (.ifCond .le 30, 3) := by decide +kernel
theorem dX4_putFirst_7 : decode cX4_putFirst 7 = .ok (.aload_n 0, 1) := by decide +kernel
theorem dX4_putFirst_8 : decode cX4_putFirst 8 = .ok (.getfield 9, 3) := by decide +kernel
theorem dX4_putFirst_11 : decode cX4_putFirst 11 = .ok (.iload_n 1, 1) := by decide +kernel
theorem dX4_putFirst_12 : decode cX4_putFirst 12 = .ok (.iload_n 2, 1) := by decide +kernel
theorem dX4_putFirst_13 : decode cX4_putFirst 13 = .ok (.iastore, 1) := by decide +kernel
theorem dX4_putFirst_14 : decode cX4_putFirst 14 = .ok (.aload_n 0, 1) := by decide +kernel
theorem dX4_putFirst_15 : decode cX4_putFirst 15 = .ok (.dup, 1) := by decide +kernel
theorem dX4_putFirst_16 : decode cX4_putFirst 16 = .ok (.getfield 24, 3) := by decide +kernel
theorem dX4_putFirst_19 : decode cX4_putFirst 19 = .ok (.iconst 1, 1) := by decide +kernel
theorem dX4_putFirst_20 : decode cX4_putFirst 20 = .ok (.isub, 1) := by decide +kernel
theorem dX4_putFirst_21 : decode cX4_putFirst 21 = .ok (.putfield 24, 3) := by decide +kernel
theorem dX4_putFirst_24 : decode cX4_putFirst 24 = .ok (.aload_n 0, 1) := by decide +kernel
theorem dX4_putFirst_25 : decode cX4_putFirst 25 = .ok (.getfield 15, 3) := by decide +kernel
theorem dX4_putFirst_28 : decode cX4_putFirst 28 = .ok (.aload_n 0, 1) := by decide +kernel
theorem dX4_putFirst_29 : decode cX4_putFirst 29 = .ok (.getfield 24, 3) := by decide +kernel
theorem dX4_putFirst_32 : decode cX4_putFirst 32 = .ok (.iload_n 1, 1) := by decide +kernel
theorem dX4_putFirst_33 : decode cX4_putFirst 33 = .ok (.iastore, 1) := by decide +kernel
theorem dX4_putFirst_34 : decode cX4_putFirst 34 = .ok (.return_, 1) := by decide +kernel
theorem dJ9_abs_0f7a4_0 : decode cJ9_abs_0f7a4 0 = .ok (.iload_n 0, 1) := by decide +kernel
theorem dJ9_abs_0f7a4_1 : decode cJ9_abs_0f7a4 1 = .ok (.ifCond .ge 8, 3) := by decide +kernel
theorem dJ9_abs_0f7a4_4 : decode cJ9_abs_0f7a4 4 = .ok (.iload_n 0, 1) := by decide +kernel
theorem dJ9_abs_0f7a4_5 : decode cJ9_abs_0f7a4 5 = .ok (.ineg, 1) := by decide +kernel
theorem dJ9_abs_0f7a4_6 : decode cJ9_abs_0f7a4 6 = .ok (.goto 4, 3) := by decide +kernel
theorem dJ9_abs_0f7a4_9 : decode cJ9_abs_0f7a4 9 = .ok (.iload_n 0, 1) := by decide +kernel
theorem dJ9_abs_0f7a4_10 : decode cJ9_abs_0f7a4 10 = .ok (.ireturn, 1) := by decide +kernel
theorem dJ9_max_7cf53_0 : decode cJ9_max_7cf53 0 = .ok (.iload_n 0, 1) := by decide +kernel
theorem dJ9_max_7cf53_1 : decode cJ9_max_7cf53 1 = .ok (.iload_n 1, 1) := by decide +kernel
theorem dJ9_max_7cf53_2 : decode cJ9_max_7cf53 2 = .ok (.if_icmp .lt 7, 3) := by decide +kernel
theorem dJ9_max_7cf53_5 : decode cJ9_max_7cf53 5 = .ok (.iload_n 0, 1) := by decide +kernel
theorem dJ9_max_7cf53_6 : decode cJ9_max_7cf53 6 = .ok (.goto 4, 3) := by decide +kernel
theorem dJ9_max_7cf53_9 : decode cJ9_max_7cf53 9 = .ok (.iload_n 1, 1) := by decide +kernel
theorem dJ9_max_7cf53_10 : decode cJ9_max_7cf53 10 = .ok (.ireturn, 1) := by decide +kernel
theorem dJ9_min_7cf53_0 : decode cJ9_min_7cf53 0 = .ok (.iload_n 0, 1) := by decide +kernel
theorem dJ9_min_7cf53_1 : decode cJ9_min_7cf53 1 = .ok (.iload_n 1, 1) := by decide +kernel
theorem dJ9_min_7cf53_2 : decode cJ9_min_7cf53 2 = .ok (.if_icmp .gt 7, 3) := by decide +kernel
theorem dJ9_min_7cf53_5 : decode cJ9_min_7cf53 5 = .ok (.iload_n 0, 1) := by decide +kernel
theorem dJ9_min_7cf53_6 : decode cJ9_min_7cf53 6 = .ok (.goto 4, 3) := by decide +kernel
theorem dJ9_min_7cf53_9 : decode cJ9_min_7cf53 9 = .ok (.iload_n 1, 1) := by decide +kernel
theorem dJ9_min_7cf53_10 : decode cJ9_min_7cf53 10 = .ok (.ireturn, 1) := by decide +kernel
theorem dJ7_fill_53178_0 : decode cJ7_fill_53178 0 = .ok (.iconst 0, 1) := by decide +kernel
theorem dJ7_fill_53178_1 : decode cJ7_fill_53178 1 = .ok (.istore_n 2, 1) := by decide +kernel
theorem dJ7_fill_53178_2 : decode cJ7_fill_53178 2 = .ok (.aload_n 0, 1) := by decide +kernel
theorem dJ7_fill_53178_3 : decode cJ7_fill_53178 3 = .ok (.arraylength, 1) := by decide +kernel
theorem dJ7_fill_53178_4 : decode cJ7_fill_53178 4 = .ok (.istore_n 3, 1) := by decide +kernel
theorem dJ7_fill_53178_5 : decode cJ7_fill_53178 5 = .ok (.iload_n 2, 1) := by decide +kernel
theorem dJ7_fill_53178_6 : decode cJ7_fill_53178 6 = .ok (.iload_n 3, 1) := by decide +kernel
theorem dJ7_fill_53178_7 : decode cJ7_fill_53178 7 = .ok (.if_icmp .ge 13, 3) := by decide +kernel
theorem dJ7_fill_53178_10 : decode cJ7_fill_53178 10 = .ok (.aload_n 0, 1) := by decide +kernel
theorem dJ7_fill_53178_11 : decode cJ7_fill_53178 11 = .ok (.iload_n 2, 1) := by decide +kernel
theorem dJ7_fill_53178_12 : decode cJ7_fill_53178 12 = .ok (.iload_n 1, 1) := by decide +kernel
theorem dJ7_fill_53178_13 : decode cJ7_fill_53178 13 = .ok (.iastore, 1) := by decide +kernel
theorem dJ7_fill_53178_14 : decode cJ7_fill_53178 14 = .ok (.iinc 2 1, 3) := by decide +kernel
theorem dJ7_fill_53178_17 : decode cJ7_fill_53178 17 = .ok (.goto (-12), 3) := by decide +kernel
theorem dJ7_fill_53178_20 : decode cJ7_fill_53178 20 = .ok (.return_, 1) := by decide +kernel
