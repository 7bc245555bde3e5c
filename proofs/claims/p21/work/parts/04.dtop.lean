theorem dX5_init_0 : decode cX5_init 0 = .ok (.aload_n 0, 1) := by decide +kernel
theorem dX5_init_1 : decode cX5_init 1 = .ok (.invokespecial 3, 3) := by decide +kernel
theorem dX5_init_4 : decode cX5_init 4 = .ok (.aload_n 0, 1) := by decide +kernel
theorem dX5_init_5 : decode cX5_init 5 = .ok (.new 9, 3) := by decide +kernel
theorem dX5_init_8 : decode cX5_init 8 = .ok (.dup, 1) := by decide +kernel
theorem dX5_init_9 : decode cX5_init 9 = .ok (.invokespecial 11, 3) := by decide +kernel
theorem dX5_init_12 : decode cX5_init 12 = .ok (.putfield 12, 3) := by decide +kernel
theorem dX5_init_15 : decode cX5_init 15 = .ok (.aload_n 0, 1) := by decide +kernel
theorem dX5_init_16 : decode cX5_init 16 = .ok (.new 9, 3) := by decide +kernel
theorem dX5_init_19 : decode cX5_init 19 = .ok (.dup, 1) := by decide +kernel
theorem dX5_init_20 : decode cX5_init 20 = .ok (.invokespecial 11, 3) := by decide +kernel
theorem dX5_init_23 : decode cX5_init 23 = .ok (.putfield 16, 3) := by decide +kernel
theorem dX5_init_26 : decode cX5_init 26 = .ok (.aload_n 0, 1) := by decide +kernel
theorem dX5_init_27 : decode cX5_init 27 = .ok (.new 19, 3) := by decide +kernel
theorem dX5_init_30 : decode cX5_init 30 = .ok (.dup, 1) := by decide +kernel
theorem dX5_init_31 : decode cX5_init 31 = .ok (.invokespecial 21, 3) := by decide +kernel
theorem dX5_init_34 : decode cX5_init 34 = .ok (.putfield 22, 3) := by decide +kernel
theorem dX5_init_37 : decode cX5_init 37 = .ok (.return_, 1) := by decide +kernel
theorem dX5_house_0 : decode cX5_house 0 = .ok (.iload_n 1, 1) := by decide +kernel
theorem dX5_house_1 : decode cX5_house 1 = .ok (.iload_n 2, 1) := by decide +kernel
theorem dX5_house_2 : decode cX5_house 2 = .ok (.invokestatic 26, 3) := by decide +kernel
theorem dX5_house_5 : decode cX5_house 5 = .ok (.istore_n 3, 1) := by decide +kernel
theorem dX5_house_6 : decode cX5_house 6 = .ok (.aload_n 0, 1) := by decide +kernel
theorem dX5_house_7 : decode cX5_house 7 = .ok (.getfield 12, 3) := by decide +kernel
theorem dX5_house_10 : decode cX5_house 10 = .ok (.getfield 30, 3) := by decide +kernel
theorem dX5_house_13 : decode cX5_house 13 = .ok (.iload_n 3, 1) := by decide +kernel
theorem dX5_house_14 : decode cX5_house 14 = .ok (.invokevirtual 34, 3) := by decide +kernel
theorem dX5_house_17 : decode cX5_house 17 = .ok (.istore 4, 2) := by decide +kernel
theorem dX5_house_19 : decode cX5_house 19 = .ok (.iload 4, 2) := by decide +kernel
theorem dX5_house_21 : decode cX5_house 21 = .ok (.ifCond .gt 14, 3) := by decide +kernel
theorem dX5_house_24 : decode cX5_house 24 = .ok (.aload_n 0, 1) := by decide +kernel
theorem dX5_house_25 : decode cX5_house 25 = .ok (.getfield 12, 3) := by decide +kernel
theorem dX5_house_28 : decode cX5_house 28 = .ok (.iload_n 3, 1) := by decide +kernel
theorem dX5_house_29 : decode cX5_house 29 = .ok (.invokevirtual 40, 3) := by decide +kernel
theorem dX5_house_32 : decode cX5_house 32 = .ok (.ifCond .eq 13, 3) := by decide +kernel
theorem dX5_house_35 : decode cX5_house 35 = .ok (.new 44, 3) := by decide +kernel
theorem dX5_house_38 : decode cX5_house 38 = .ok (.dup, 1) := by decide +kernel
theorem dX5_house_39 : decode cX5_house 39 = .ok (.ldc 46, 2) := by decide +kernel
theorem dX5_house_41 : decode cX5_house 41 = .ok (.invokespecial 48, 3) := by decide +kernel
theorem dX5_house_44 : decode cX5_house 44 = .ok (.athrow, 1) := by decide +kernel
theorem dX5_house_45 : decode cX5_house 45 = .ok (.iload 4, 2) := by decide +kernel
theorem dX5_house_47 : decode cX5_house 47 = .ok (.iconst (-1), 1) := by decide +kernel
theorem dX5_house_48 : decode cX5_house 48 = .ok (.if_icmp .eq 7, 3) := by decide +kernel
theorem dX5_house_51 : decode cX5_house 51 = .ok (.iconst 1, 1) := by decide +kernel
theorem dX5_house_52 : decode cX5_house 52 = .ok (.goto 4, 3) := by decide +kernel
theorem dX5_house_55 : decode cX5_house 55 = .ok (.iconst 0, 1) := by decide +kernel
theorem dX5_house_56 : decode cX5_house 56 = .ok (.istore 5, 2) := by decide +kernel
theorem dX5_house_58 : decode cX5_house 58 = .ok (.aload_n 0, 1) := by decide +kernel
theorem dX5_house_59 : decode cX5_house 59 = .ok (.getfield 12, 3) := by decide +kernel
theorem dX5_house_62 : decode cX5_house 62 = .ok (.getfield 30, 3) := by decide +kernel
theorem dX5_house_65 : decode cX5_house 65 = .ok (.iload_n 3, 1) := by decide +kernel
theorem dX5_house_66 : decode cX5_house 66 = .ok (.iload 5, 2) := by decide +kernel
theorem dX5_house_68 : decode cX5_house 68 = .ok (.ifCond .eq 7, 3) := by decide +kernel
theorem dX5_house_71 : decode cX5_house 71 = .ok (.iconst (-1), 1) := by decide +kernel
theorem dX5_house_72 : decode cX5_house 72 = .ok (.goto 4, 3) := by decide +kernel
theorem dX5_house_75 : decode cX5_house 75 = .ok (.iconst 0, 1) := by decide +kernel
theorem dX5_house_76 : decode cX5_house 76 = .ok (.invokevirtual 51, 3) := by decide +kernel
theorem dX5_house_79 : decode cX5_house 79 = .ok (.iload 5, 2) := by decide +kernel
theorem dX5_house_81 : decode cX5_house 81 = .ok (.ireturn, 1) := by decide +kernel
theorem dX5_block_0 : decode cX5_block 0 = .ok (.iload_n 1, 1) := by decide +kernel
theorem dX5_block_1 : decode cX5_block 1 = .ok (.iload_n 2, 1) := by decide +kernel
theorem dX5_block_2 : decode cX5_block 2 = .ok (.invokestatic 26, 3) := by decide +kernel
theorem dX5_block_5 : decode cX5_block 5 = .ok (.istore 4, 2) := by decide +kernel
theorem dX5_block_7 : decode cX5_block 7 = .ok (.iload_n 3, 1) := by decide +kernel
theorem dX5_block_8 : decode cX5_block 8 = .ok (.ifCond .lt 8, 3) := by decide +kernel
theorem dX5_block_11 : decode cX5_block 11 = .ok (.iload_n 3, 1) := by decide +kernel
theorem dX5_block_12 : decode cX5_block 12 = .ok (.iconst 3, 1) := by decide +kernel
theorem dX5_block_13 : decode cX5_block 13 = .ok (.if_icmp .le 13, 3) := by decide +kernel
theorem dX5_block_16 : decode cX5_block 16 = .ok (.new 55, 3) := by decide +kernel
theorem dX5_block_19 : decode cX5_block 19 = .ok (.dup, 1) := by decide +kernel
theorem dX5_block_20 : decode cX5_block 20 = .ok (.ldc 57, 2) := by decide +kernel
theorem dX5_block_22 : decode cX5_block 22 = .ok (.invokespecial 59, 3) := by decide +kernel
theorem dX5_block_25 : decode cX5_block 25 = .ok (.athrow, 1) := by decide +kernel
theorem dX5_block_26 : decode cX5_block 26 = .ok (.aload_n 0, 1) := by decide +kernel
theorem dX5_block_27 : decode cX5_block 27 = .ok (.getfield 12, 3) := by decide +kernel
theorem dX5_block_30 : decode cX5_block 30 = .ok (.getfield 30, 3) := by decide +kernel
theorem dX5_block_33 : decode cX5_block 33 = .ok (.iload 4, 2) := by decide +kernel
theorem dX5_block_35 : decode cX5_block 35 = .ok (.invokevirtual 34, 3) := by decide +kernel
theorem dX5_block_38 : decode cX5_block 38 = .ok (.istore 5, 2) := by decide +kernel
theorem dX5_block_40 : decode cX5_block 40 = .ok (.iload 5, 2) := by decide +kernel
theorem dX5_block_42 : decode cX5_block 42 = .ok (.iconst (-1), 1) := by decide +kernel
theorem dX5_block_43 : decode cX5_block 43 = .ok (.if_icmp .eq 15, 3) := by decide +kernel
theorem dX5_block_46 : decode cX5_block 46 = .ok (.aload_n 0, 1) := by decide +kernel
theorem dX5_block_47 : decode cX5_block 47 = .ok (.getfield 12, 3) := by decide +kernel
theorem dX5_block_50 : decode cX5_block 50 = .ok (.iload 4, 2) := by decide +kernel
theorem dX5_block_52 : decode cX5_block 52 = .ok (.invokevirtual 40, 3) := by decide +kernel
theorem dX5_block_55 : decode cX5_block 55 = .ok (.ifCond .eq 13, 3) := by decide +kernel
theorem dX5_block_58 : decode cX5_block 58 = .ok (.new 44, 3) := by decide +kernel
theorem dX5_block_61 : decode cX5_block 61 = .ok (.dup, 1) := by decide +kernel
theorem dX5_block_62 : decode cX5_block 62 = .ok (.ldc 60, 2) := by decide +kernel
theorem dX5_block_64 : decode cX5_block 64 = .ok (.invokespecial 48, 3) := by decide +kernel
theorem dX5_block_67 : decode cX5_block 67 = .ok (.athrow, 1) := by decide +kernel
theorem dX5_block_68 : decode cX5_block 68 = .ok (.aload_n 0, 1) := by decide +kernel
theorem dX5_block_69 : decode cX5_block 69 = .ok (.getfield 12, 3) := by decide +kernel
theorem dX5_block_72 : decode cX5_block 72 = .ok (.getfield 30, 3) := by decide +kernel
theorem dX5_block_75 : decode cX5_block 75 = .ok (.iload 4, 2) := by decide +kernel
theorem dX5_block_77 : decode cX5_block 77 = .ok (.iload_n 3, 1) := by decide +kernel
theorem dX5_block_78 : decode cX5_block 78 = .ok (.invokevirtual 51, 3) := by decide +kernel
theorem dX5_block_81 : decode cX5_block 81 = .ok (.iload 5, 2) := by decide +kernel
theorem dX5_block_83 : decode cX5_block 83 = .ok (.ireturn, 1) := by decide +kernel
theorem dX5_cell_0 : decode cX5_cell 0 = .ok (.aload_n 0, 1) := by decide +kernel
theorem dX5_cell_1 : decode cX5_cell 1 = .ok (.getfield 12, 3) := by decide +kernel
theorem dX5_cell_4 : decode cX5_cell 4 = .ok (.getfield 30, 3) := by decide +kernel
theorem dX5_cell_7 : decode cX5_cell 7 = .ok (.iload_n 1, 1) := by decide +kernel
theorem dX5_cell_8 : decode cX5_cell 8 = .ok (.iload_n 2, 1) := by decide +kernel
theorem dX5_cell_9 : decode cX5_cell 9 = .ok (.invokestatic 26, 3) := by decide +kernel
theorem dX5_cell_12 : decode cX5_cell 12 = .ok (.invokevirtual 34, 3) := by decide +kernel
theorem dX5_cell_15 : decode cX5_cell 15 = .ok (.ireturn, 1) := by decide +kernel
theorem dX5_gather_0 : decode cX5_gather 0 = .ok (.iload_n 1, 1) := by decide +kernel
theorem dX5_gather_1 : decode cX5_gather 1 = .ok (.iload_n 2, 1) := by decide +kernel
theorem dX5_gather_2 : decode cX5_gather 2 = .ok (.invokestatic 26, 3) := by decide +kernel
theorem dX5_gather_5 : decode cX5_gather 5 = .ok (.istore 4, 2) := by decide +kernel
theorem dX5_gather_7 : decode cX5_gather 7 = .ok (.iload_n 3, 1) := by decide +kernel
theorem dX5_gather_8 : decode cX5_gather 8 = .ok (.iconst 1, 1) := by decide +kernel
theorem dX5_gather_9 : decode cX5_gather 9 = .ok (.if_icmp .lt 9, 3) := by decide +kernel
theorem dX5_gather_12 : decode cX5_gather 12 = .ok (.iload_n 3, 1) := by decide +kernel
theorem dX5_gather_13 : decode cX5_gather 13 = .ok (.bipush 9, 2) := by decide +kernel
theorem dX5_gather_15 : decode cX5_gather 15 = .ok (.if_icmp .le 13, 3) := by decide +kernel
theorem dX5_gather_18 : decode cX5_gather 18 = .ok (.new 55, 3) := by decide +kernel
theorem dX5_gather_21 : decode cX5_gather 21 = .ok (.dup, 1) := by decide +kernel
theorem dX5_gather_22 : decode cX5_gather 22 = .ok (.ldc 62, 2) := by decide +kernel
theorem dX5_gather_24 : decode cX5_gather 24 = .ok (.invokespecial 59, 3) := by decide +kernel
theorem dX5_gather_27 : decode cX5_gather 27 = .ok (.athrow, 1) := by decide +kernel
theorem dX5_gather_28 : decode cX5_gather 28 = .ok (.aload_n 0, 1) := by decide +kernel
theorem dX5_gather_29 : decode cX5_gather 29 = .ok (.getfield 12, 3) := by decide +kernel
theorem dX5_gather_32 : decode cX5_gather 32 = .ok (.getfield 64, 3) := by decide +kernel
theorem dX5_gather_35 : decode cX5_gather 35 = .ok (.bipush 6, 2) := by decide +kernel
theorem dX5_gather_37 : decode cX5_gather 37 = .ok (.if_icmp .ge 18, 3) := by decide +kernel
theorem dX5_gather_40 : decode cX5_gather 40 = .ok (.aload_n 0, 1) := by decide +kernel
theorem dX5_gather_41 : decode cX5_gather 41 = .ok (.getfield 12, 3) := by decide +kernel
theorem dX5_gather_44 : decode cX5_gather 44 = .ok (.getfield 30, 3) := by decide +kernel
theorem dX5_gather_47 : decode cX5_gather 47 = .ok (.iload 4, 2) := by decide +kernel
theorem dX5_gather_49 : decode cX5_gather 49 = .ok (.invokevirtual 68, 3) := by decide +kernel
theorem dX5_gather_52 : decode cX5_gather 52 = .ok (.ifCond .ne 13, 3) := by decide +kernel
theorem dX5_gather_55 : decode cX5_gather 55 = .ok (.new 44, 3) := by decide +kernel
theorem dX5_gather_58 : decode cX5_gather 58 = .ok (.dup, 1) := by decide +kernel
theorem dX5_gather_59 : decode cX5_gather 59 = .ok (.ldc 71, 2) := by decide +kernel
theorem dX5_gather_61 : decode cX5_gather 61 = .ok (.invokespecial 48, 3) := by decide +kernel
theorem dX5_gather_64 : decode cX5_gather 64 = .ok (.athrow, 1) := by decide +kernel
theorem dX5_gather_65 : decode cX5_gather 65 = .ok (.aload_n 0, 1) := by decide +kernel
theorem dX5_gather_66 : decode cX5_gather 66 = .ok (.getfield 12, 3) := by decide +kernel
theorem dX5_gather_69 : decode cX5_gather 69 = .ok (.iload 4, 2) := by decide +kernel
theorem dX5_gather_71 : decode cX5_gather 71 = .ok (.iload_n 3, 1) := by decide +kernel
theorem dX5_gather_72 : decode cX5_gather 72 = .ok (.invokevirtual 73, 3) := by decide +kernel
theorem dX5_gather_75 : decode cX5_gather 75 = .ok (.ireturn, 1) := by decide +kernel
theorem dX5_order_0 : decode cX5_order 0 = .ok (.aload_n 0, 1) := by decide +kernel
theorem dX5_order_1 : decode cX5_order 1 = .ok (.iload_n 1, 1) := by decide +kernel
theorem dX5_order_2 : decode cX5_order 2 = .ok (.invokevirtual 76, 3) := by decide +kernel
theorem dX5_order_5 : decode cX5_order 5 = .ok (.iload_n 2, 1) := by decide +kernel
theorem dX5_order_6 : decode cX5_order 6 = .ok (.ifCond .lt 9, 3) := by decide +kernel
theorem dX5_order_9 : decode cX5_order 9 = .ok (.iload_n 2, 1) := by decide +kernel
theorem dX5_order_10 : decode cX5_order 10 = .ok (.bipush 12, 2) := by decide +kernel
theorem dX5_order_12 : decode cX5_order 12 = .ok (.if_icmp .lt 13, 3) := by decide +kernel
theorem dX5_order_15 : decode cX5_order 15 = .ok (.new 55, 3) := by decide +kernel
theorem dX5_order_18 : decode cX5_order 18 = .ok (.dup, 1) := by decide +kernel
theorem dX5_order_19 : decode cX5_order 19 = .ok (.ldc 80, 2) := by decide +kernel
theorem dX5_order_21 : decode cX5_order 21 = .ok (.invokespecial 59, 3) := by decide +kernel
theorem dX5_order_24 : decode cX5_order 24 = .ok (.athrow, 1) := by decide +kernel
theorem dX5_order_25 : decode cX5_order 25 = .ok (.aload_n 0, 1) := by decide +kernel
theorem dX5_order_26 : decode cX5_order 26 = .ok (.getfield 12, 3) := by decide +kernel
theorem dX5_order_29 : decode cX5_order 29 = .ok (.getfield 82, 3) := by decide +kernel
theorem dX5_order_32 : decode cX5_order 32 = .ok (.iload_n 1, 1) := by decide +kernel
theorem dX5_order_33 : decode cX5_order 33 = .ok (.aaload, 1) := by decide +kernel
theorem dX5_order_34 : decode cX5_order 34 = .ok (.astore_n 3, 1) := by decide +kernel
theorem dX5_order_35 : decode cX5_order 35 = .ok (.aload_n 3, 1) := by decide +kernel
theorem dX5_order_36 : decode cX5_order 36 = .ok (.invokevirtual 86, 3) := by decide +kernel
theorem dX5_order_39 : decode cX5_order 39 = .ok (.ifCond .ne 12, 3) := by decide +kernel
theorem dX5_order_42 : decode cX5_order 42 = .ok (.aload_n 3, 1) := by decide +kernel
theorem dX5_order_43 : decode cX5_order 43 = .ok (.getfield 92, 3) := by decide +kernel
theorem dX5_order_46 : decode cX5_order 46 = .ok (.bipush 24, 2) := by decide +kernel
theorem dX5_order_48 : decode cX5_order 48 = .ok (.if_icmp .lt 13, 3) := by decide +kernel
theorem dX5_order_51 : decode cX5_order 51 = .ok (.new 44, 3) := by decide +kernel
theorem dX5_order_54 : decode cX5_order 54 = .ok (.dup, 1) := by decide +kernel
theorem dX5_order_55 : decode cX5_order 55 = .ok (.ldc 95, 2) := by decide +kernel
theorem dX5_order_57 : decode cX5_order 57 = .ok (.invokespecial 48, 3) := by decide +kernel
theorem dX5_order_60 : decode cX5_order 60 = .ok (.athrow, 1) := by decide +kernel
theorem dX5_order_61 : decode cX5_order 61 = .ok (.aload_n 3, 1) := by decide +kernel
theorem dX5_order_62 : decode cX5_order 62 = .ok (.iload_n 2, 1) := by decide +kernel
theorem dX5_order_63 : decode cX5_order 63 = .ok (.invokevirtual 97, 3) := by decide +kernel
theorem dX5_order_66 : decode cX5_order 66 = .ok (.aload_n 3, 1) := by decide +kernel
theorem dX5_order_67 : decode cX5_order 67 = .ok (.getfield 92, 3) := by decide +kernel
theorem dX5_order_70 : decode cX5_order 70 = .ok (.ireturn, 1) := by decide +kernel
theorem dX5_torch_0 : decode cX5_torch 0 = .ok (.aload_n 0, 1) := by decide +kernel
theorem dX5_torch_1 : decode cX5_torch 1 = .ok (.iload_n 1, 1) := by decide +kernel
theorem dX5_torch_2 : decode cX5_torch 2 = .ok (.invokevirtual 76, 3) := by decide +kernel
theorem dX5_torch_5 : decode cX5_torch 5 = .ok (.aload_n 0, 1) := by decide +kernel
theorem dX5_torch_6 : decode cX5_torch 6 = .ok (.getfield 12, 3) := by decide +kernel
theorem dX5_torch_9 : decode cX5_torch 9 = .ok (.getfield 82, 3) := by decide +kernel
theorem dX5_torch_12 : decode cX5_torch 12 = .ok (.iload_n 1, 1) := by decide +kernel
theorem dX5_torch_13 : decode cX5_torch 13 = .ok (.aaload, 1) := by decide +kernel
theorem dX5_torch_14 : decode cX5_torch 14 = .ok (.astore_n 2, 1) := by decide +kernel
theorem dX5_torch_15 : decode cX5_torch 15 = .ok (.aload_n 2, 1) := by decide +kernel
theorem dX5_torch_16 : decode cX5_torch 16 = .ok (.invokevirtual 86, 3) := by decide +kernel
theorem dX5_torch_19 : decode cX5_torch 19 = .ok (.ifCond .eq 13, 3) := by decide +kernel
theorem dX5_torch_22 : decode cX5_torch 22 = .ok (.new 44, 3) := by decide +kernel
theorem dX5_torch_25 : decode cX5_torch 25 = .ok (.dup, 1) := by decide +kernel
theorem dX5_torch_26 : decode cX5_torch 26 = .ok (.ldc 100, 2) := by decide +kernel
theorem dX5_torch_28 : decode cX5_torch 28 = .ok (.invokespecial 48, 3) := by decide +kernel
theorem dX5_torch_31 : decode cX5_torch 31 = .ok (.athrow, 1) := by decide +kernel
theorem dX5_torch_32 : decode cX5_torch 32 = .ok (.aload_n 2, 1) := by decide +kernel
theorem dX5_torch_33 : decode cX5_torch 33 = .ok (.aload_n 2, 1) := by decide +kernel
theorem dX5_torch_34 : decode cX5_torch 34 = .ok (.getfield 102, 3) := by decide +kernel
theorem dX5_torch_37 : decode cX5_torch 37 = .ok (.ifCond .ne 7, 3) := by decide +kernel
theorem dX5_torch_40 : decode cX5_torch 40 = .ok (.iconst 1, 1) := by decide +kernel
theorem dX5_torch_41 : decode cX5_torch 41 = .ok (.goto 4, 3) := by decide +kernel
theorem dX5_torch_44 : decode cX5_torch 44 = .ok (.iconst 0, 1) := by decide +kernel
theorem dX5_torch_45 : decode cX5_torch 45 = .ok (.putfield 102, 3) := by decide +kernel
theorem dX5_torch_48 : decode cX5_torch 48 = .ok (.aload_n 2, 1) := by decide +kernel
theorem dX5_torch_49 : decode cX5_torch 49 = .ok (.getfield 102, 3) := by decide +kernel
theorem dX5_torch_52 : decode cX5_torch 52 = .ok (.ireturn, 1) := by decide +kernel
theorem dX5_patrol_0 : decode cX5_patrol 0 = .ok (.iload_n 1, 1) := by decide +kernel
theorem dX5_patrol_1 : decode cX5_patrol 1 = .ok (.iload_n 2, 1) := by decide +kernel
theorem dX5_patrol_2 : decode cX5_patrol 2 = .ok (.invokestatic 26, 3) := by decide +kernel
theorem dX5_patrol_5 : decode cX5_patrol 5 = .ok (.istore 5, 2) := by decide +kernel
theorem dX5_patrol_7 : decode cX5_patrol 7 = .ok (.iload_n 3, 1) := by decide +kernel
theorem dX5_patrol_8 : decode cX5_patrol 8 = .ok (.iconst 1, 1) := by decide +kernel
theorem dX5_patrol_9 : decode cX5_patrol 9 = .ok (.if_icmp .lt 24, 3) := by decide +kernel
theorem dX5_patrol_12 : decode cX5_patrol 12 = .ok (.iload_n 3, 1) := by decide +kernel
theorem dX5_patrol_13 : decode cX5_patrol 13 = .ok (.bipush 12, 2) := by decide +kernel
theorem dX5_patrol_15 : decode cX5_patrol 15 = .ok (.if_icmp .gt 18, 3) := by decide +kernel
theorem dX5_patrol_18 : decode cX5_patrol 18 = .ok (.iload 4, 2) := by decide +kernel
theorem dX5_patrol_20 : decode cX5_patrol 20 = .ok (.ifCond .lt 13, 3) := by decide +kernel
theorem dX5_patrol_23 : decode cX5_patrol 23 = .ok (.iload 4, 2) := by decide +kernel
theorem dX5_patrol_25 : decode cX5_patrol 25 = .ok (.iconst 1, 1) := by decide +kernel
theorem dX5_patrol_26 : decode cX5_patrol 26 = .ok (.iconst 2, 1) := by decide +kernel
theorem dX5_patrol_27 : decode cX5_patrol 27 = .ok (.iload_n 3, 1) := by decide +kernel
theorem dX5_patrol_28 : decode cX5_patrol 28 = .ok (.imul, 1) := by decide +kernel
theorem dX5_patrol_29 : decode cX5_patrol 29 = .ok (.ishl, 1) := by decide +kernel
theorem dX5_patrol_30 : decode cX5_patrol 30 = .ok (.if_icmp .lt 13, 3) := by decide +kernel
theorem dX5_patrol_33 : decode cX5_patrol 33 = .ok (.new 55, 3) := by decide +kernel
theorem dX5_patrol_36 : decode cX5_patrol 36 = .ok (.dup, 1) := by decide +kernel
theorem dX5_patrol_37 : decode cX5_patrol 37 = .ok (.ldc 106, 2) := by decide +kernel
theorem dX5_patrol_39 : decode cX5_patrol 39 = .ok (.invokespecial 59, 3) := by decide +kernel
theorem dX5_patrol_42 : decode cX5_patrol 42 = .ok (.athrow, 1) := by decide +kernel
theorem dX5_patrol_43 : decode cX5_patrol 43 = .ok (.aload_n 0, 1) := by decide +kernel
theorem dX5_patrol_44 : decode cX5_patrol 44 = .ok (.getfield 12, 3) := by decide +kernel
theorem dX5_patrol_47 : decode cX5_patrol 47 = .ok (.getfield 108, 3) := by decide +kernel
theorem dX5_patrol_50 : decode cX5_patrol 50 = .ok (.iconst 3, 1) := by decide +kernel
theorem dX5_patrol_51 : decode cX5_patrol 51 = .ok (.if_icmp .ge 18, 3) := by decide +kernel
theorem dX5_patrol_54 : decode cX5_patrol 54 = .ok (.aload_n 0, 1) := by decide +kernel
theorem dX5_patrol_55 : decode cX5_patrol 55 = .ok (.getfield 12, 3) := by decide +kernel
theorem dX5_patrol_58 : decode cX5_patrol 58 = .ok (.getfield 30, 3) := by decide +kernel
theorem dX5_patrol_61 : decode cX5_patrol 61 = .ok (.iload 5, 2) := by decide +kernel
theorem dX5_patrol_63 : decode cX5_patrol 63 = .ok (.invokevirtual 68, 3) := by decide +kernel
theorem dX5_patrol_66 : decode cX5_patrol 66 = .ok (.ifCond .ne 13, 3) := by decide +kernel
theorem dX5_patrol_69 : decode cX5_patrol 69 = .ok (.new 44, 3) := by decide +kernel
theorem dX5_patrol_72 : decode cX5_patrol 72 = .ok (.dup, 1) := by decide +kernel
theorem dX5_patrol_73 : decode cX5_patrol 73 = .ok (.ldc 111, 2) := by decide +kernel
theorem dX5_patrol_75 : decode cX5_patrol 75 = .ok (.invokespecial 48, 3) := by decide +kernel
theorem dX5_patrol_78 : decode cX5_patrol 78 = .ok (.athrow, 1) := by decide +kernel
theorem dX5_patrol_79 : decode cX5_patrol 79 = .ok (.aload_n 0, 1) := by decide +kernel
theorem dX5_patrol_80 : decode cX5_patrol 80 = .ok (.getfield 12, 3) := by decide +kernel
theorem dX5_patrol_83 : decode cX5_patrol 83 = .ok (.iload 5, 2) := by decide +kernel
theorem dX5_patrol_85 : decode cX5_patrol 85 = .ok (.iload_n 3, 1) := by decide +kernel
theorem dX5_patrol_86 : decode cX5_patrol 86 = .ok (.iload 4, 2) := by decide +kernel
theorem dX5_patrol_88 : decode cX5_patrol 88 = .ok (.invokevirtual 113, 3) := by decide +kernel
theorem dX5_patrol_91 : decode cX5_patrol 91 = .ok (.ireturn, 1) := by decide +kernel
theorem dX5_crowd_0 : decode cX5_crowd 0 = .ok (.aload_n 0, 1) := by decide +kernel
theorem dX5_crowd_1 : decode cX5_crowd 1 = .ok (.iload_n 1, 1) := by decide +kernel
theorem dX5_crowd_2 : decode cX5_crowd 2 = .ok (.invokevirtual 76, 3) := by decide +kernel
theorem dX5_crowd_5 : decode cX5_crowd 5 = .ok (.iload_n 2, 1) := by decide +kernel
theorem dX5_crowd_6 : decode cX5_crowd 6 = .ok (.bipush 8, 2) := by decide +kernel
theorem dX5_crowd_8 : decode cX5_crowd 8 = .ok (.invokestatic 117, 3) := by decide +kernel
theorem dX5_crowd_11 : decode cX5_crowd 11 = .ok (.aload_n 0, 1) := by decide +kernel
theorem dX5_crowd_12 : decode cX5_crowd 12 = .ok (.getfield 12, 3) := by decide +kernel
theorem dX5_crowd_15 : decode cX5_crowd 15 = .ok (.aload_n 0, 1) := by decide +kernel
theorem dX5_crowd_16 : decode cX5_crowd 16 = .ok (.getfield 12, 3) := by decide +kernel
theorem dX5_crowd_19 : decode cX5_crowd 19 = .ok (.getfield 82, 3) := by decide +kernel
theorem dX5_crowd_22 : decode cX5_crowd 22 = .ok (.iload_n 1, 1) := by decide +kernel
theorem dX5_crowd_23 : decode cX5_crowd 23 = .ok (.aaload, 1) := by decide +kernel
theorem dX5_crowd_24 : decode cX5_crowd 24 = .ok (.iload_n 2, 1) := by decide +kernel
theorem dX5_crowd_25 : decode cX5_crowd 25 = .ok (.invokevirtual 120, 3) := by decide +kernel
theorem dX5_crowd_28 : decode cX5_crowd 28 = .ok (.ireturn, 1) := by decide +kernel
theorem dX5_guard_0 : decode cX5_guard 0 = .ok (.aload_n 0, 1) := by decide +kernel
theorem dX5_guard_1 : decode cX5_guard 1 = .ok (.iload_n 1, 1) := by decide +kernel
theorem dX5_guard_2 : decode cX5_guard 2 = .ok (.invokevirtual 124, 3) := by decide +kernel
theorem dX5_guard_5 : decode cX5_guard 5 = .ok (.iload_n 2, 1) := by decide +kernel
theorem dX5_guard_6 : decode cX5_guard 6 = .ok (.iconst 4, 1) := by decide +kernel
theorem dX5_guard_7 : decode cX5_guard 7 = .ok (.invokestatic 117, 3) := by decide +kernel
theorem dX5_guard_10 : decode cX5_guard 10 = .ok (.aload_n 0, 1) := by decide +kernel
theorem dX5_guard_11 : decode cX5_guard 11 = .ok (.getfield 12, 3) := by decide +kernel
theorem dX5_guard_14 : decode cX5_guard 14 = .ok (.aload_n 0, 1) := by decide +kernel
theorem dX5_guard_15 : decode cX5_guard 15 = .ok (.getfield 12, 3) := by decide +kernel
theorem dX5_guard_18 : decode cX5_guard 18 = .ok (.getfield 127, 3) := by decide +kernel
theorem dX5_guard_21 : decode cX5_guard 21 = .ok (.iload_n 1, 1) := by decide +kernel
theorem dX5_guard_22 : decode cX5_guard 22 = .ok (.aaload, 1) := by decide +kernel
theorem dX5_guard_23 : decode cX5_guard 23 = .ok (.iload_n 2, 1) := by decide +kernel
theorem dX5_guard_24 : decode cX5_guard 24 = .ok (.invokevirtual 131, 3) := by decide +kernel
theorem dX5_guard_27 : decode cX5_guard 27 = .ok (.ireturn, 1) := by decide +kernel
theorem dX5_sees_0 : decode cX5_sees 0 = .ok (.aload_n 0, 1) := by decide +kernel
theorem dX5_sees_1 : decode cX5_sees 1 = .ok (.iload_n 1, 1) := by decide +kernel
theorem dX5_sees_2 : decode cX5_sees 2 = .ok (.invokevirtual 124, 3) := by decide +kernel
theorem dX5_sees_5 : decode cX5_sees 5 = .ok (.aload_n 0, 1) := by decide +kernel
theorem dX5_sees_6 : decode cX5_sees 6 = .ok (.iload_n 2, 1) := by decide +kernel
theorem dX5_sees_7 : decode cX5_sees 7 = .ok (.invokevirtual 76, 3) := by decide +kernel
theorem dX5_sees_10 : decode cX5_sees 10 = .ok (.aload_n 0, 1) := by decide +kernel
theorem dX5_sees_11 : decode cX5_sees 11 = .ok (.getfield 12, 3) := by decide +kernel
theorem dX5_sees_14 : decode cX5_sees 14 = .ok (.aload_n 0, 1) := by decide +kernel
theorem dX5_sees_15 : decode cX5_sees 15 = .ok (.getfield 12, 3) := by decide +kernel
theorem dX5_sees_18 : decode cX5_sees 18 = .ok (.getfield 127, 3) := by decide +kernel
theorem dX5_sees_21 : decode cX5_sees 21 = .ok (.iload_n 1, 1) := by decide +kernel
theorem dX5_sees_22 : decode cX5_sees 22 = .ok (.aaload, 1) := by decide +kernel
theorem dX5_sees_23 : decode cX5_sees 23 = .ok (.aload_n 0, 1) := by decide +kernel
theorem dX5_sees_24 : decode cX5_sees 24 = .ok (.getfield 12, 3) := by decide +kernel
theorem dX5_sees_27 : decode cX5_sees 27 = .ok (.getfield 82, 3) := by decide +kernel
theorem dX5_sees_30 : decode cX5_sees 30 = .ok (.iload_n 2, 1) := by decide +kernel
theorem dX5_sees_31 : decode cX5_sees 31 = .ok (.aaload, 1) := by decide +kernel
theorem dX5_sees_32 : decode cX5_sees 32 = .ok (.invokevirtual 135, 3) := by decide +kernel
theorem dX5_sees_35 : decode cX5_sees 35 = .ok (.ireturn, 1) := by decide +kernel
theorem dX5_count_0 : decode cX5_count 0 = .ok (.iload_n 1, 1) := by decide +kernel
theorem dX5_count_1 : decode cX5_count 1 = .ok (.bipush 8, 2) := by decide +kernel
theorem dX5_count_3 : decode cX5_count 3 = .ok (.invokestatic 117, 3) := by decide +kernel
theorem dX5_count_6 : decode cX5_count 6 = .ok (.aload_n 0, 1) := by decide +kernel
theorem dX5_count_7 : decode cX5_count 7 = .ok (.getfield 12, 3) := by decide +kernel
theorem dX5_count_10 : decode cX5_count 10 = .ok (.iload_n 1, 1) := by decide +kernel
theorem dX5_count_11 : decode cX5_count 11 = .ok (.invokevirtual 139, 3) := by decide +kernel
theorem dX5_count_14 : decode cX5_count 14 = .ok (.ireturn, 1) := by decide +kernel
theorem dX5_way_0 : decode cX5_way 0 = .ok (.aload_n 0, 1) := by decide +kernel
theorem dX5_way_1 : decode cX5_way 1 = .ok (.getfield 22, 3) := by decide +kernel
theorem dX5_way_4 : decode cX5_way 4 = .ok (.aload_n 0, 1) := by decide +kernel
theorem dX5_way_5 : decode cX5_way 5 = .ok (.getfield 12, 3) := by decide +kernel
theorem dX5_way_8 : decode cX5_way 8 = .ok (.getfield 30, 3) := by decide +kernel
theorem dX5_way_11 : decode cX5_way 11 = .ok (.iload_n 1, 1) := by decide +kernel
theorem dX5_way_12 : decode cX5_way 12 = .ok (.iload_n 2, 1) := by decide +kernel
theorem dX5_way_13 : decode cX5_way 13 = .ok (.invokestatic 26, 3) := by decide +kernel
theorem dX5_way_16 : decode cX5_way 16 = .ok (.iload_n 3, 1) := by decide +kernel
theorem dX5_way_17 : decode cX5_way 17 = .ok (.iload 4, 2) := by decide +kernel
theorem dX5_way_19 : decode cX5_way 19 = .ok (.invokestatic 26, 3) := by decide +kernel
theorem dX5_way_22 : decode cX5_way 22 = .ok (.invokevirtual 142, 3) := by decide +kernel
theorem dX5_way_25 : decode cX5_way 25 = .ok (.ireturn, 1) := by decide +kernel
theorem dX5_shuts_0 : decode cX5_shuts 0 = .ok (.aload_n 0, 1) := by decide +kernel
theorem dX5_shuts_1 : decode cX5_shuts 1 = .ok (.getfield 22, 3) := by decide +kernel
theorem dX5_shuts_4 : decode cX5_shuts 4 = .ok (.aload_n 0, 1) := by decide +kernel
theorem dX5_shuts_5 : decode cX5_shuts 5 = .ok (.getfield 12, 3) := by decide +kernel
theorem dX5_shuts_8 : decode cX5_shuts 8 = .ok (.getfield 30, 3) := by decide +kernel
theorem dX5_shuts_11 : decode cX5_shuts 11 = .ok (.invokevirtual 146, 3) := by decide +kernel
theorem dX5_shuts_14 : decode cX5_shuts 14 = .ok (.ireturn, 1) := by decide +kernel
theorem dX5_pass_0 : decode cX5_pass 0 = .ok (.iload_n 1, 1) := by decide +kernel
theorem dX5_pass_1 : decode cX5_pass 1 = .ok (.invokestatic 150, 3) := by decide +kernel
theorem dX5_pass_4 : decode cX5_pass 4 = .ok (.aload_n 0, 1) := by decide +kernel
theorem dX5_pass_5 : decode cX5_pass 5 = .ok (.getfield 12, 3) := by decide +kernel
theorem dX5_pass_8 : decode cX5_pass 8 = .ok (.invokevirtual 153, 3) := by decide +kernel
theorem dX5_pass_11 : decode cX5_pass 11 = .ok (.istore_n 2, 1) := by decide +kernel
theorem dX5_pass_12 : decode cX5_pass 12 = .ok (.aload_n 0, 1) := by decide +kernel
theorem dX5_pass_13 : decode cX5_pass 13 = .ok (.getfield 12, 3) := by decide +kernel
theorem dX5_pass_16 : decode cX5_pass 16 = .ok (.iload_n 1, 1) := by decide +kernel
theorem dX5_pass_17 : decode cX5_pass 17 = .ok (.invokevirtual 157, 3) := by decide +kernel
theorem dX5_pass_20 : decode cX5_pass 20 = .ok (.iload_n 2, 1) := by decide +kernel
theorem dX5_pass_21 : decode cX5_pass 21 = .ok (.aload_n 0, 1) := by decide +kernel
theorem dX5_pass_22 : decode cX5_pass 22 = .ok (.getfield 12, 3) := by decide +kernel
theorem dX5_pass_25 : decode cX5_pass 25 = .ok (.invokevirtual 153, 3) := by decide +kernel
theorem dX5_pass_28 : decode cX5_pass 28 = .ok (.isub, 1) := by decide +kernel
theorem dX5_pass_29 : decode cX5_pass 29 = .ok (.ireturn, 1) := by decide +kernel
theorem dX5_foresee_0 : decode cX5_foresee 0 = .ok (.iload_n 1, 1) := by decide +kernel
theorem dX5_foresee_1 : decode cX5_foresee 1 = .ok (.invokestatic 150, 3) := by decide +kernel
theorem dX5_foresee_4 : decode cX5_foresee 4 = .ok (.iload_n 2, 1) := by decide +kernel
theorem dX5_foresee_5 : decode cX5_foresee 5 = .ok (.iconst 3, 1) := by decide +kernel
theorem dX5_foresee_6 : decode cX5_foresee 6 = .ok (.invokestatic 117, 3) := by decide +kernel
theorem dX5_foresee_9 : decode cX5_foresee 9 = .ok (.aload_n 0, 1) := by decide +kernel
theorem dX5_foresee_10 : decode cX5_foresee 10 = .ok (.getfield 16, 3) := by decide +kernel
theorem dX5_foresee_13 : decode cX5_foresee 13 = .ok (.aload_n 0, 1) := by decide +kernel
theorem dX5_foresee_14 : decode cX5_foresee 14 = .ok (.getfield 12, 3) := by decide +kernel
theorem dX5_foresee_17 : decode cX5_foresee 17 = .ok (.invokevirtual 160, 3) := by decide +kernel
theorem dX5_foresee_20 : decode cX5_foresee 20 = .ok (.aload_n 0, 1) := by decide +kernel
theorem dX5_foresee_21 : decode cX5_foresee 21 = .ok (.getfield 16, 3) := by decide +kernel
theorem dX5_foresee_24 : decode cX5_foresee 24 = .ok (.iload_n 1, 1) := by decide +kernel
theorem dX5_foresee_25 : decode cX5_foresee 25 = .ok (.invokevirtual 157, 3) := by decide +kernel
theorem dX5_foresee_28 : decode cX5_foresee 28 = .ok (.iload_n 2, 1) := by decide +kernel
theorem dX5_foresee_29 : decode cX5_foresee 29 = .ok (.lookupswitch 46 #[(0, 27), (1, 35)], 27) := by decide +kernel
theorem dX5_foresee_56 : decode cX5_foresee 56 = .ok (.aload_n 0, 1) := by decide +kernel
theorem dX5_foresee_57 : decode cX5_foresee 57 = .ok (.getfield 16, 3) := by decide +kernel
theorem dX5_foresee_60 : decode cX5_foresee 60 = .ok (.invokevirtual 153, 3) := by decide +kernel
theorem dX5_foresee_63 : decode cX5_foresee 63 = .ok (.ireturn, 1) := by decide +kernel
theorem dX5_foresee_64 : decode cX5_foresee 64 = .ok (.aload_n 0, 1) := by decide +kernel
theorem dX5_foresee_65 : decode cX5_foresee 65 = .ok (.getfield 16, 3) := by decide +kernel
theorem dX5_foresee_68 : decode cX5_foresee 68 = .ok (.getfield 30, 3) := by decide +kernel
theorem dX5_foresee_71 : decode cX5_foresee 71 = .ok (.invokevirtual 164, 3) := by decide +kernel
theorem dX5_foresee_74 : decode cX5_foresee 74 = .ok (.ireturn, 1) := by decide +kernel
theorem dX5_foresee_75 : decode cX5_foresee 75 = .ok (.aload_n 0, 1) := by decide +kernel
theorem dX5_foresee_76 : decode cX5_foresee 76 = .ok (.getfield 22, 3) := by decide +kernel
theorem dX5_foresee_79 : decode cX5_foresee 79 = .ok (.aload_n 0, 1) := by decide +kernel
theorem dX5_foresee_80 : decode cX5_foresee 80 = .ok (.getfield 16, 3) := by decide +kernel
theorem dX5_foresee_83 : decode cX5_foresee 83 = .ok (.getfield 30, 3) := by decide +kernel
theorem dX5_foresee_86 : decode cX5_foresee 86 = .ok (.invokevirtual 146, 3) := by decide +kernel
theorem dX5_foresee_89 : decode cX5_foresee 89 = .ok (.ireturn, 1) := by decide +kernel
theorem dX5_advise_0 : decode cX5_advise 0 = .ok (.aload_n 0, 1) := by decide +kernel
theorem dX5_advise_1 : decode cX5_advise 1 = .ok (.iload_n 1, 1) := by decide +kernel
theorem dX5_advise_2 : decode cX5_advise 2 = .ok (.invokevirtual 76, 3) := by decide +kernel
theorem dX5_advise_5 : decode cX5_advise 5 = .ok (.aload_n 0, 1) := by decide +kernel
theorem dX5_advise_6 : decode cX5_advise 6 = .ok (.getfield 12, 3) := by decide +kernel
theorem dX5_advise_9 : decode cX5_advise 9 = .ok (.getfield 82, 3) := by decide +kernel
theorem dX5_advise_12 : decode cX5_advise 12 = .ok (.iload_n 1, 1) := by decide +kernel
theorem dX5_advise_13 : decode cX5_advise 13 = .ok (.aaload, 1) := by decide +kernel
theorem dX5_advise_14 : decode cX5_advise 14 = .ok (.invokevirtual 86, 3) := by decide +kernel
theorem dX5_advise_17 : decode cX5_advise 17 = .ok (.ifCond .eq 5, 3) := by decide +kernel
theorem dX5_advise_20 : decode cX5_advise 20 = .ok (.iconst (-1), 1) := by decide +kernel
theorem dX5_advise_21 : decode cX5_advise 21 = .ok (.ireturn, 1) := by decide +kernel
theorem dX5_advise_22 : decode cX5_advise 22 = .ok (.iconst (-1), 1) := by decide +kernel
theorem dX5_advise_23 : decode cX5_advise 23 = .ok (.istore_n 2, 1) := by decide +kernel
theorem dX5_advise_24 : decode cX5_advise 24 = .ok (.bipush 108, 2) := by decide +kernel
theorem dX5_advise_26 : decode cX5_advise 26 = .ok (.istore_n 3, 1) := by decide +kernel
theorem dX5_advise_27 : decode cX5_advise 27 = .ok (.iconst 0, 1) := by decide +kernel
theorem dX5_advise_28 : decode cX5_advise 28 = .ok (.istore 4, 2) := by decide +kernel
theorem dX5_advise_30 : decode cX5_advise 30 = .ok (.iload 4, 2) := by decide +kernel
theorem dX5_advise_32 : decode cX5_advise 32 = .ok (.bipush 12, 2) := by decide +kernel
theorem dX5_advise_34 : decode cX5_advise 34 = .ok (.if_icmp .ge 30, 3) := by decide +kernel
theorem dX5_advise_37 : decode cX5_advise 37 = .ok (.aload_n 0, 1) := by decide +kernel
theorem dX5_advise_38 : decode cX5_advise 38 = .ok (.iload_n 1, 1) := by decide +kernel
theorem dX5_advise_39 : decode cX5_advise 39 = .ok (.iload 4, 2) := by decide +kernel
theorem dX5_advise_41 : decode cX5_advise 41 = .ok (.invokevirtual 167, 3) := by decide +kernel
theorem dX5_advise_44 : decode cX5_advise 44 = .ok (.istore 5, 2) := by decide +kernel
theorem dX5_advise_46 : decode cX5_advise 46 = .ok (.iload 5, 2) := by decide +kernel
theorem dX5_advise_48 : decode cX5_advise 48 = .ok (.iload_n 3, 1) := by decide +kernel
theorem dX5_advise_49 : decode cX5_advise 49 = .ok (.if_icmp .ge 9, 3) := by decide +kernel
theorem dX5_advise_52 : decode cX5_advise 52 = .ok (.iload 5, 2) := by decide +kernel
theorem dX5_advise_54 : decode cX5_advise 54 = .ok (.istore_n 3, 1) := by decide +kernel
theorem dX5_advise_55 : decode cX5_advise 55 = .ok (.iload 4, 2) := by decide +kernel
theorem dX5_advise_57 : decode cX5_advise 57 = .ok (.istore_n 2, 1) := by decide +kernel
theorem dX5_advise_58 : decode cX5_advise 58 = .ok (.iinc 4 1, 3) := by decide +kernel
theorem dX5_advise_61 : decode cX5_advise 61 = .ok (.goto (-31), 3) := by decide +kernel
theorem dX5_advise_64 : decode cX5_advise 64 = .ok (.iload_n 2, 1) := by decide +kernel
theorem dX5_advise_65 : decode cX5_advise 65 = .ok (.ireturn, 1) := by decide +kernel
theorem dX5_digest_0 : decode cX5_digest 0 = .ok (.ldc2_w 173, 3) := by decide +kernel
theorem dX5_digest_3 : decode cX5_digest 3 = .ok (.lstore_n 1, 1) := by decide +kernel
theorem dX5_digest_4 : decode cX5_digest 4 = .ok (.iconst 0, 1) := by decide +kernel
theorem dX5_digest_5 : decode cX5_digest 5 = .ok (.istore_n 3, 1) := by decide +kernel
theorem dX5_digest_6 : decode cX5_digest 6 = .ok (.iload_n 3, 1) := by decide +kernel
theorem dX5_digest_7 : decode cX5_digest 7 = .ok (.bipush 8, 2) := by decide +kernel
theorem dX5_digest_9 : decode cX5_digest 9 = .ok (.if_icmp .ge 25, 3) := by decide +kernel
theorem dX5_digest_12 : decode cX5_digest 12 = .ok (.lload_n 1, 1) := by decide +kernel
theorem dX5_digest_13 : decode cX5_digest 13 = .ok (.ldc2_w 175, 3) := by decide +kernel
theorem dX5_digest_16 : decode cX5_digest 16 = .ok (.lmul, 1) := by decide +kernel
theorem dX5_digest_17 : decode cX5_digest 17 = .ok (.aload_n 0, 1) := by decide +kernel
theorem dX5_digest_18 : decode cX5_digest 18 = .ok (.getfield 12, 3) := by decide +kernel
theorem dX5_digest_21 : decode cX5_digest 21 = .ok (.iload_n 3, 1) := by decide +kernel
theorem dX5_digest_22 : decode cX5_digest 22 = .ok (.invokevirtual 139, 3) := by decide +kernel
theorem dX5_digest_25 : decode cX5_digest 25 = .ok (.i2l, 1) := by decide +kernel
theorem dX5_digest_26 : decode cX5_digest 26 = .ok (.ladd, 1) := by decide +kernel
theorem dX5_digest_27 : decode cX5_digest 27 = .ok (.lstore_n 1, 1) := by decide +kernel
theorem dX5_digest_28 : decode cX5_digest 28 = .ok (.iinc 3 1, 3) := by decide +kernel
theorem dX5_digest_31 : decode cX5_digest 31 = .ok (.goto (-25), 3) := by decide +kernel
theorem dX5_digest_34 : decode cX5_digest 34 = .ok (.aload_n 0, 1) := by decide +kernel
theorem dX5_digest_35 : decode cX5_digest 35 = .ok (.getfield 12, 3) := by decide +kernel
theorem dX5_digest_38 : decode cX5_digest 38 = .ok (.getfield 30, 3) := by decide +kernel
theorem dX5_digest_41 : decode cX5_digest 41 = .ok (.lload_n 1, 1) := by decide +kernel
theorem dX5_digest_42 : decode cX5_digest 42 = .ok (.invokevirtual 177, 3) := by decide +kernel
theorem dX5_digest_45 : decode cX5_digest 45 = .ok (.lstore_n 1, 1) := by decide +kernel
theorem dX5_digest_46 : decode cX5_digest 46 = .ok (.iconst 0, 1) := by decide +kernel
theorem dX5_digest_47 : decode cX5_digest 47 = .ok (.istore_n 3, 1) := by decide +kernel
theorem dX5_digest_48 : decode cX5_digest 48 = .ok (.iload_n 3, 1) := by decide +kernel
theorem dX5_digest_49 : decode cX5_digest 49 = .ok (.aload_n 0, 1) := by decide +kernel
theorem dX5_digest_50 : decode cX5_digest 50 = .ok (.getfield 12, 3) := by decide +kernel
theorem dX5_digest_53 : decode cX5_digest 53 = .ok (.getfield 64, 3) := by decide +kernel
theorem dX5_digest_56 : decode cX5_digest 56 = .ok (.if_icmp .ge 27, 3) := by decide +kernel
theorem dX5_digest_59 : decode cX5_digest 59 = .ok (.aload_n 0, 1) := by decide +kernel
theorem dX5_digest_60 : decode cX5_digest 60 = .ok (.getfield 12, 3) := by decide +kernel
theorem dX5_digest_63 : decode cX5_digest 63 = .ok (.lload_n 1, 1) := by decide +kernel
theorem dX5_digest_64 : decode cX5_digest 64 = .ok (.aload_n 0, 1) := by decide +kernel
theorem dX5_digest_65 : decode cX5_digest 65 = .ok (.getfield 12, 3) := by decide +kernel
theorem dX5_digest_68 : decode cX5_digest 68 = .ok (.getfield 82, 3) := by decide +kernel
theorem dX5_digest_71 : decode cX5_digest 71 = .ok (.iload_n 3, 1) := by decide +kernel
theorem dX5_digest_72 : decode cX5_digest 72 = .ok (.aaload, 1) := by decide +kernel
theorem dX5_digest_73 : decode cX5_digest 73 = .ok (.invokevirtual 181, 3) := by decide +kernel
theorem dX5_digest_76 : decode cX5_digest 76 = .ok (.lstore_n 1, 1) := by decide +kernel
theorem dX5_digest_77 : decode cX5_digest 77 = .ok (.iinc 3 1, 3) := by decide +kernel
theorem dX5_digest_80 : decode cX5_digest 80 = .ok (.goto (-32), 3) := by decide +kernel
theorem dX5_digest_83 : decode cX5_digest 83 = .ok (.iconst 0, 1) := by decide +kernel
theorem dX5_digest_84 : decode cX5_digest 84 = .ok (.istore_n 3, 1) := by decide +kernel
theorem dX5_digest_85 : decode cX5_digest 85 = .ok (.iload_n 3, 1) := by decide +kernel
theorem dX5_digest_86 : decode cX5_digest 86 = .ok (.aload_n 0, 1) := by decide +kernel
theorem dX5_digest_87 : decode cX5_digest 87 = .ok (.getfield 12, 3) := by decide +kernel
theorem dX5_digest_90 : decode cX5_digest 90 = .ok (.getfield 108, 3) := by decide +kernel
theorem dX5_digest_93 : decode cX5_digest 93 = .ok (.if_icmp .ge 27, 3) := by decide +kernel
theorem dX5_digest_96 : decode cX5_digest 96 = .ok (.aload_n 0, 1) := by decide +kernel
theorem dX5_digest_97 : decode cX5_digest 97 = .ok (.getfield 12, 3) := by decide +kernel
theorem dX5_digest_100 : decode cX5_digest 100 = .ok (.lload_n 1, 1) := by decide +kernel
theorem dX5_digest_101 : decode cX5_digest 101 = .ok (.aload_n 0, 1) := by decide +kernel
theorem dX5_digest_102 : decode cX5_digest 102 = .ok (.getfield 12, 3) := by decide +kernel
theorem dX5_digest_105 : decode cX5_digest 105 = .ok (.getfield 127, 3) := by decide +kernel
theorem dX5_digest_108 : decode cX5_digest 108 = .ok (.iload_n 3, 1) := by decide +kernel
theorem dX5_digest_109 : decode cX5_digest 109 = .ok (.aaload, 1) := by decide +kernel
theorem dX5_digest_110 : decode cX5_digest 110 = .ok (.invokevirtual 185, 3) := by decide +kernel
theorem dX5_digest_113 : decode cX5_digest 113 = .ok (.lstore_n 1, 1) := by decide +kernel
theorem dX5_digest_114 : decode cX5_digest 114 = .ok (.iinc 3 1, 3) := by decide +kernel
theorem dX5_digest_117 : decode cX5_digest 117 = .ok (.goto (-32), 3) := by decide +kernel
theorem dX5_digest_120 : decode cX5_digest 120 = .ok (.lload_n 1, 1) := by decide +kernel
theorem dX5_digest_121 : decode cX5_digest 121 = .ok (.lreturn, 1) := by decide +kernel
theorem dX5_shutsBehind_0 : decode cX5_shutsBehind 0 = .ok (.aload_n 0, 1) := by decide +kernel
theorem dX5_shutsBehind_1 : decode cX5_shutsBehind 1 = .ok (.getfield 16, 3) := by decide +kernel
theorem dX5_shutsBehind_4 : decode cX5_shutsBehind 4 = .ok (.aload_n 0, 1) := by decide +kernel
theorem dX5_shutsBehind_5 : decode cX5_shutsBehind 5 = .ok (.getfield 12, 3) := by decide +kernel
theorem dX5_shutsBehind_8 : decode cX5_shutsBehind 8 = .ok (.invokevirtual 160, 3) := by decide +kernel
theorem dX5_shutsBehind_11 : decode cX5_shutsBehind 11 = .ok (.aload_n 0, 1) := by decide +kernel
theorem dX5_shutsBehind_12 : decode cX5_shutsBehind 12 = .ok (.getfield 16, 3) := by decide +kernel
theorem dX5_shutsBehind_15 : decode cX5_shutsBehind 15 = .ok (.getfield 82, 3) := by decide +kernel
theorem dX5_shutsBehind_18 : decode cX5_shutsBehind 18 = .ok (.iload_n 1, 1) := by decide +kernel
theorem dX5_shutsBehind_19 : decode cX5_shutsBehind 19 = .ok (.aaload, 1) := by decide +kernel
theorem dX5_shutsBehind_20 : decode cX5_shutsBehind 20 = .ok (.iconst 0, 1) := by decide +kernel
theorem dX5_shutsBehind_21 : decode cX5_shutsBehind 21 = .ok (.putfield 92, 3) := by decide +kernel
theorem dX5_shutsBehind_24 : decode cX5_shutsBehind 24 = .ok (.aload_n 0, 1) := by decide +kernel
theorem dX5_shutsBehind_25 : decode cX5_shutsBehind 25 = .ok (.getfield 16, 3) := by decide +kernel
theorem dX5_shutsBehind_28 : decode cX5_shutsBehind 28 = .ok (.getfield 82, 3) := by decide +kernel
theorem dX5_shutsBehind_31 : decode cX5_shutsBehind 31 = .ok (.iload_n 1, 1) := by decide +kernel
theorem dX5_shutsBehind_32 : decode cX5_shutsBehind 32 = .ok (.aaload, 1) := by decide +kernel
theorem dX5_shutsBehind_33 : decode cX5_shutsBehind 33 = .ok (.iload_n 2, 1) := by decide +kernel
theorem dX5_shutsBehind_34 : decode cX5_shutsBehind 34 = .ok (.invokevirtual 97, 3) := by decide +kernel
theorem dX5_shutsBehind_37 : decode cX5_shutsBehind 37 = .ok (.aload_n 0, 1) := by decide +kernel
theorem dX5_shutsBehind_38 : decode cX5_shutsBehind 38 = .ok (.getfield 16, 3) := by decide +kernel
theorem dX5_shutsBehind_41 : decode cX5_shutsBehind 41 = .ok (.iconst 1, 1) := by decide +kernel
theorem dX5_shutsBehind_42 : decode cX5_shutsBehind 42 = .ok (.invokevirtual 157, 3) := by decide +kernel
theorem dX5_shutsBehind_45 : decode cX5_shutsBehind 45 = .ok (.aload_n 0, 1) := by decide +kernel
theorem dX5_shutsBehind_46 : decode cX5_shutsBehind 46 = .ok (.getfield 22, 3) := by decide +kernel
theorem dX5_shutsBehind_49 : decode cX5_shutsBehind 49 = .ok (.aload_n 0, 1) := by decide +kernel
theorem dX5_shutsBehind_50 : decode cX5_shutsBehind 50 = .ok (.getfield 16, 3) := by decide +kernel
theorem dX5_shutsBehind_53 : decode cX5_shutsBehind 53 = .ok (.getfield 30, 3) := by decide +kernel
theorem dX5_shutsBehind_56 : decode cX5_shutsBehind 56 = .ok (.invokevirtual 146, 3) := by decide +kernel
theorem dX5_shutsBehind_59 : decode cX5_shutsBehind 59 = .ok (.ireturn, 1) := by decide +kernel
theorem dX5_placeOf_0 : decode cX5_placeOf 0 = .ok (.iload_n 0, 1) := by decide +kernel
theorem dX5_placeOf_1 : decode cX5_placeOf 1 = .ok (.ifCond .lt 19, 3) := by decide +kernel
theorem dX5_placeOf_4 : decode cX5_placeOf 4 = .ok (.iload_n 0, 1) := by decide +kernel
theorem dX5_placeOf_5 : decode cX5_placeOf 5 = .ok (.bipush 12, 2) := by decide +kernel
theorem dX5_placeOf_7 : decode cX5_placeOf 7 = .ok (.if_icmp .ge 13, 3) := by decide +kernel
theorem dX5_placeOf_10 : decode cX5_placeOf 10 = .ok (.iload_n 1, 1) := by decide +kernel
theorem dX5_placeOf_11 : decode cX5_placeOf 11 = .ok (.ifCond .lt 9, 3) := by decide +kernel
theorem dX5_placeOf_14 : decode cX5_placeOf 14 = .ok (.iload_n 1, 1) := by decide +kernel
theorem dX5_placeOf_15 : decode cX5_placeOf 15 = .ok (.bipush 9, 2) := by decide +kernel
theorem dX5_placeOf_17 : decode cX5_placeOf 17 = .ok (.if_icmp .lt 13, 3) := by decide +kernel
theorem dX5_placeOf_20 : decode cX5_placeOf 20 = .ok (.new 189, 3) := by decide +kernel
theorem dX5_placeOf_23 : decode cX5_placeOf 23 = .ok (.dup, 1) := by decide +kernel
theorem dX5_placeOf_24 : decode cX5_placeOf 24 = .ok (.ldc 191, 2) := by decide +kernel
theorem dX5_placeOf_26 : decode cX5_placeOf 26 = .ok (.invokespecial 193, 3) := by decide +kernel
theorem dX5_placeOf_29 : decode cX5_placeOf 29 = .ok (.athrow, 1) := by decide +kernel
theorem dX5_placeOf_30 : decode cX5_placeOf 30 = .ok (.bipush 12, 2) := by decide +kernel
theorem dX5_placeOf_32 : decode cX5_placeOf 32 = .ok (.iload_n 1, 1) := by decide +kernel
theorem dX5_placeOf_33 : decode cX5_placeOf 33 = .ok (.imul, 1) := by decide +kernel
theorem dX5_placeOf_34 : decode cX5_placeOf 34 = .ok (.iload_n 0, 1) := by decide +kernel
theorem dX5_placeOf_35 : decode cX5_placeOf 35 = .ok (.iadd, 1) := by decide +kernel
theorem dX5_placeOf_36 : decode cX5_placeOf 36 = .ok (.ireturn, 1) := by decide +kernel
theorem dX5_needCrowd_0 : decode cX5_needCrowd 0 = .ok (.iload_n 1, 1) := by decide +kernel
theorem dX5_needCrowd_1 : decode cX5_needCrowd 1 = .ok (.ifCond .lt 14, 3) := by decide +kernel
theorem dX5_needCrowd_4 : decode cX5_needCrowd 4 = .ok (.iload_n 1, 1) := by decide +kernel
theorem dX5_needCrowd_5 : decode cX5_needCrowd 5 = .ok (.aload_n 0, 1) := by decide +kernel
theorem dX5_needCrowd_6 : decode cX5_needCrowd 6 = .ok (.getfield 12, 3) := by decide +kernel
theorem dX5_needCrowd_9 : decode cX5_needCrowd 9 = .ok (.getfield 64, 3) := by decide +kernel
theorem dX5_needCrowd_12 : decode cX5_needCrowd 12 = .ok (.if_icmp .lt 13, 3) := by decide +kernel
theorem dX5_needCrowd_15 : decode cX5_needCrowd 15 = .ok (.new 189, 3) := by decide +kernel
theorem dX5_needCrowd_18 : decode cX5_needCrowd 18 = .ok (.dup, 1) := by decide +kernel
theorem dX5_needCrowd_19 : decode cX5_needCrowd 19 = .ok (.ldc 194, 2) := by decide +kernel
theorem dX5_needCrowd_21 : decode cX5_needCrowd 21 = .ok (.invokespecial 193, 3) := by decide +kernel
theorem dX5_needCrowd_24 : decode cX5_needCrowd 24 = .ok (.athrow, 1) := by decide +kernel
theorem dX5_needCrowd_25 : decode cX5_needCrowd 25 = .ok (.return_, 1) := by decide +kernel
theorem dX5_needPatrol_0 : decode cX5_needPatrol 0 = .ok (.iload_n 1, 1) := by decide +kernel
theorem dX5_needPatrol_1 : decode cX5_needPatrol 1 = .ok (.ifCond .lt 14, 3) := by decide +kernel
theorem dX5_needPatrol_4 : decode cX5_needPatrol 4 = .ok (.iload_n 1, 1) := by decide +kernel
theorem dX5_needPatrol_5 : decode cX5_needPatrol 5 = .ok (.aload_n 0, 1) := by decide +kernel
theorem dX5_needPatrol_6 : decode cX5_needPatrol 6 = .ok (.getfield 12, 3) := by decide +kernel
theorem dX5_needPatrol_9 : decode cX5_needPatrol 9 = .ok (.getfield 108, 3) := by decide +kernel
theorem dX5_needPatrol_12 : decode cX5_needPatrol 12 = .ok (.if_icmp .lt 13, 3) := by decide +kernel
theorem dX5_needPatrol_15 : decode cX5_needPatrol 15 = .ok (.new 189, 3) := by decide +kernel
theorem dX5_needPatrol_18 : decode cX5_needPatrol 18 = .ok (.dup, 1) := by decide +kernel
theorem dX5_needPatrol_19 : decode cX5_needPatrol 19 = .ok (.ldc 196, 2) := by decide +kernel
theorem dX5_needPatrol_21 : decode cX5_needPatrol 21 = .ok (.invokespecial 193, 3) := by decide +kernel
theorem dX5_needPatrol_24 : decode cX5_needPatrol 24 = .ok (.athrow, 1) := by decide +kernel
theorem dX5_needPatrol_25 : decode cX5_needPatrol 25 = .ok (.return_, 1) := by decide +kernel
theorem dX5_needWhat_0 : decode cX5_needWhat 0 = .ok (.iload_n 0, 1) := by decide +kernel
theorem dX5_needWhat_1 : decode cX5_needWhat 1 = .ok (.ifCond .lt 8, 3) := by decide +kernel
theorem dX5_needWhat_4 : decode cX5_needWhat 4 = .ok (.iload_n 0, 1) := by decide +kernel
theorem dX5_needWhat_5 : decode cX5_needWhat 5 = .ok (.iload_n 1, 1) := by decide +kernel
theorem dX5_needWhat_6 : decode cX5_needWhat 6 = .ok (.if_icmp .lt 13, 3) := by decide +kernel
theorem dX5_needWhat_9 : decode cX5_needWhat 9 = .ok (.new 189, 3) := by decide +kernel
theorem dX5_needWhat_12 : decode cX5_needWhat 12 = .ok (.dup, 1) := by decide +kernel
theorem dX5_needWhat_13 : decode cX5_needWhat 13 = .ok (.ldc 198, 2) := by decide +kernel
theorem dX5_needWhat_15 : decode cX5_needWhat 15 = .ok (.invokespecial 193, 3) := by decide +kernel
theorem dX5_needWhat_18 : decode cX5_needWhat 18 = .ok (.athrow, 1) := by decide +kernel
theorem dX5_needWhat_19 : decode cX5_needWhat 19 = .ok (.return_, 1) := by decide +kernel
theorem dX5_needSteps_0 : decode cX5_needSteps 0 = .ok (.iload_n 0, 1) := by decide +kernel
theorem dX5_needSteps_1 : decode cX5_needSteps 1 = .ok (.iconst 1, 1) := by decide +kernel
theorem dX5_needSteps_2 : decode cX5_needSteps 2 = .ok (.if_icmp .lt 9, 3) := by decide +kernel
theorem dX5_needSteps_5 : decode cX5_needSteps 5 = .ok (.iload_n 0, 1) := by decide +kernel
theorem dX5_needSteps_6 : decode cX5_needSteps 6 = .ok (.bipush 60, 2) := by decide +kernel
theorem dX5_needSteps_8 : decode cX5_needSteps 8 = .ok (.if_icmp .le 13, 3) := by decide +kernel
theorem dX5_needSteps_11 : decode cX5_needSteps 11 = .ok (.new 55, 3) := by decide +kernel
theorem dX5_needSteps_14 : decode cX5_needSteps 14 = .ok (.dup, 1) := by decide +kernel
theorem dX5_needSteps_15 : decode cX5_needSteps 15 = .ok (.ldc 200, 2) := by decide +kernel
theorem dX5_needSteps_17 : decode cX5_needSteps 17 = .ok (.invokespecial 59, 3) := by decide +kernel
theorem dX5_needSteps_20 : decode cX5_needSteps 20 = .ok (.athrow, 1) := by decide +kernel
theorem dX5_needSteps_21 : decode cX5_needSteps 21 = .ok (.return_, 1) := by decide +kernel
