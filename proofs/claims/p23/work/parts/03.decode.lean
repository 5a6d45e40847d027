theorem dX0_init_0 : decode cX0_init 0 = .ok (.aload_n 0, 1) := by decide +kernel
theorem dX0_init_1 : decode cX0_init 1 = .ok (.invokespecial 3, 3) := by decide +kernel
theorem dX0_init_4 : decode cX0_init 4 = .ok (.aload_n 0, 1) := by decide +kernel
theorem dX0_init_5 : decode cX0_init 5 = .ok (.iconst 5, 1) := by decide +kernel
theorem dX0_init_6 : decode cX0_init 6 = .ok (.anewarray 9, 3) := by decide +kernel
theorem dX0_init_9 : decode cX0_init 9 = .ok (.putfield 11, 3) := by decide +kernel
theorem dX0_init_12 : decode cX0_init 12 = .ok (.iconst 0, 1) := by decide +kernel
theorem dX0_init_13 : decode cX0_init 13 = .ok (.istore_n 1, 1) := by decide +kernel
theorem dX0_init_14 : decode cX0_init 14 = .ok (.iload_n 1, 1) := by decide +kernel
theorem dX0_init_15 : decode cX0_init 15 = .ok (.iconst 5, 1) := by decide +kernel
theorem dX0_init_16 : decode cX0_init 16 = .ok (.if_icmp .ge 22, 3) := by decide +kernel
theorem dX0_init_19 : decode cX0_init 19 = .ok (.aload_n 0, 1) := by decide +kernel
theorem dX0_init_20 : decode cX0_init 20 = .ok (.getfield 11, 3) := by decide +kernel
theorem dX0_init_23 : decode cX0_init 23 = .ok (.iload_n 1, 1) := by decide +kernel
theorem dX0_init_24 : decode cX0_init 24 = .ok (.new 9, 3) := by decide +kernel
theorem dX0_init_27 : decode cX0_init 27 = .ok (.dup, 1) := by decide +kernel
theorem dX0_init_28 : decode cX0_init 28 = .ok (.invokespecial 17, 3) := by decide +kernel
theorem dX0_init_31 : decode cX0_init 31 = .ok (.aastore, 1) := by decide +kernel
theorem dX0_init_32 : decode cX0_init 32 = .ok (.iinc 1 1, 3) := by decide +kernel
theorem dX0_init_35 : decode cX0_init 35 = .ok (.goto (-21), 3) := by decide +kernel
theorem dX0_init_38 : decode cX0_init 38 = .ok (.return_, 1) := by decide +kernel
theorem dX0_record_0 : decode cX0_record 0 = .ok (.aload_n 0, 1) := by decide +kernel
theorem dX0_record_1 : decode cX0_record 1 = .ok (.getfield 11, 3) := by decide +kernel
theorem dX0_record_4 : decode cX0_record 4 = .ok (.aload_n 0, 1) := by decide +kernel
theorem dX0_record_5 : decode cX0_record 5 = .ok (.getfield 18, 3) := by decide +kernel
theorem dX0_record_8 : decode cX0_record 8 = .ok (.aload_n 0, 1) := by decide +kernel
theorem dX0_record_9 : decode cX0_record 9 = .ok (.getfield 22, 3) := by decide +kernel
theorem dX0_record_12 : decode cX0_record 12 = .ok (.iadd, 1) := by decide +kernel
theorem dX0_record_13 : decode cX0_record 13 = .ok (.iconst 5, 1) := by decide +kernel
theorem dX0_record_14 : decode cX0_record 14 = .ok (.irem, 1) := by decide +kernel
theorem dX0_record_15 : decode cX0_record 15 = .ok (.aaload, 1) := by decide +kernel
theorem dX0_record_16 : decode cX0_record 16 = .ok (.aload_n 1, 1) := by decide +kernel
theorem dX0_record_17 : decode cX0_record 17 = .ok (.invokevirtual 25, 3) := by decide +kernel
theorem dX0_record_20 : decode cX0_record 20 = .ok (.aload_n 0, 1) := by decide +kernel
theorem dX0_record_21 : decode cX0_record 21 = .ok (.getfield 22, 3) := by decide +kernel
theorem dX0_record_24 : decode cX0_record 24 = .ok (.iconst 5, 1) := by decide +kernel
theorem dX0_record_25 : decode cX0_record 25 = .ok (.if_icmp .ge 16, 3) := by decide +kernel
theorem dX0_record_28 : decode cX0_record 28 = .ok (.aload_n 0, 1) := by decide +kernel
theorem dX0_record_29 : decode cX0_record 29 = .ok (.dup, 1) := by decide +kernel
theorem dX0_record_30 : decode cX0_record 30 = .ok (.getfield 22, 3) := by decide +kernel
theorem dX0_record_33 : decode cX0_record 33 = .ok (.iconst 1, 1) := by decide +kernel
theorem dX0_record_34 : decode cX0_record 34 = .ok (.iadd, 1) := by decide +kernel
theorem dX0_record_35 : decode cX0_record 35 = .ok (.putfield 22, 3) := by decide +kernel
theorem dX0_record_38 : decode cX0_record 38 = .ok (.goto 15, 3) := by decide +kernel
theorem dX0_record_41 : decode cX0_record 41 = .ok (.aload_n 0, 1) := by decide +kernel
theorem dX0_record_42 : decode cX0_record 42 = .ok (.aload_n 0, 1) := by decide +kernel
theorem dX0_record_43 : decode cX0_record 43 = .ok (.getfield 18, 3) := by decide +kernel
theorem dX0_record_46 : decode cX0_record 46 = .ok (.iconst 1, 1) := by decide +kernel
theorem dX0_record_47 : decode cX0_record 47 = .ok (.iadd, 1) := by decide +kernel
theorem dX0_record_48 : decode cX0_record 48 = .ok (.iconst 5, 1) := by decide +kernel
theorem dX0_record_49 : decode cX0_record 49 = .ok (.irem, 1) := by decide +kernel
theorem dX0_record_50 : decode cX0_record 50 = .ok (.putfield 18, 3) := by decide +kernel
theorem dX0_record_53 : decode cX0_record 53 = .ok (.return_, 1) := by decide +kernel
theorem dX0_restoreLatest_0 : decode cX0_restoreLatest 0 = .ok (.aload_n 0, 1) := by decide +kernel
theorem dX0_restoreLatest_1 : decode cX0_restoreLatest 1 = .ok (.getfield 22, 3) := by decide +kernel
theorem dX0_restoreLatest_4 : decode cX0_restoreLatest 4 = .ok (.ifCond .le 33, 3) := by decide +kernel
theorem dX0_restoreLatest_7 : decode cX0_restoreLatest 7 = .ok (.aload_n 0, 1) := by decide +kernel
theorem dX0_restoreLatest_8 : decode cX0_restoreLatest 8 = .ok (.dup, 1) := by decide +kernel
theorem dX0_restoreLatest_9 : decode cX0_restoreLatest 9 = .ok (.getfield 22, 3) := by decide +kernel
theorem dX0_restoreLatest_12 : decode cX0_restoreLatest 12 = .ok (.iconst 1, 1) := by decide +kernel
theorem dX0_restoreLatest_13 : decode cX0_restoreLatest 13 = .ok (.isub, 1) := by decide +kernel
theorem dX0_restoreLatest_14 : decode cX0_restoreLatest 14 = .ok (.putfield 22, 3) := by decide +kernel
theorem dX0_restoreLatest_17 : decode cX0_restoreLatest 17 = .ok (.aload_n 1, 1) := by decide +kernel
theorem dX0_restoreLatest_18 : decode cX0_restoreLatest 18 = .ok (.aload_n 0, 1) := by decide +kernel
theorem dX0_restoreLatest_19 : decode cX0_restoreLatest 19 = .ok (.getfield 11, 3) := by decide +kernel
theorem dX0_restoreLatest_22 : decode cX0_restoreLatest 22 = .ok (.aload_n 0, 1) := by decide +kernel
theorem dX0_restoreLatest_23 : decode cX0_restoreLatest 23 = .ok (.getfield 18, 3) := by decide +kernel
theorem dX0_restoreLatest_26 : decode cX0_restoreLatest 26 = .ok (.aload_n 0, 1) := by decide +kernel
theorem dX0_restoreLatest_27 : decode cX0_restoreLatest 27 = .ok (.getfield 22, 3) := by decide +kernel
theorem dX0_restoreLatest_30 : decode cX0_restoreLatest 30 = .ok (.iadd, 1) := by decide +kernel
theorem dX0_restoreLatest_31 : decode cX0_restoreLatest 31 = .ok (.iconst 5, 1) := by decide +kernel
theorem dX0_restoreLatest_32 : decode cX0_restoreLatest 32 = .ok (.irem, 1) := by decide +kernel
theorem dX0_restoreLatest_33 : decode cX0_restoreLatest 33 = .ok (.aaload, 1) := by decide +kernel
theorem dX0_restoreLatest_34 : decode cX0_restoreLatest 34 = .ok (.invokevirtual 25, 3) := by decide +kernel
theorem dX0_restoreLatest_37 : decode cX0_restoreLatest 37 = .ok (.return_, 1) := by decide +kernel
theorem dX1_init_0 : decode cX1_init 0 = .ok (.aload_n 0, 1) := by decide +kernel
theorem dX1_init_1 : decode cX1_init 1 = .ok (.invokespecial 1, 3) := by decide +kernel
theorem dX1_init_4 : decode cX1_init 4 = .ok (.return_, 1) := by decide +kernel
theorem dX2_init_0 : decode cX2_init 0 = .ok (.aload_n 0, 1) := by decide +kernel
theorem dX2_init_1 : decode cX2_init 1 = .ok (.invokespecial 3, 3) := by decide +kernel
theorem dX2_init_4 : decode cX2_init 4 = .ok (.aload_n 0, 1) := by decide +kernel
theorem dX2_init_5 : decode cX2_init 5 = .ok (.bipush 100, 2) := by decide +kernel
theorem dX2_init_7 : decode cX2_init 7 = .ok (.newarray .int, 2) := by decide +kernel
theorem dX2_init_9 : decode cX2_init 9 = .ok (.putfield 9, 3) := by decide +kernel
theorem dX2_init_12 : decode cX2_init 12 = .ok (.aload_n 0, 1) := by decide +kernel
theorem dX2_init_13 : decode cX2_init 13 = .ok (.bipush 14, 2) := by decide +kernel
theorem dX2_init_15 : decode cX2_init 15 = .ok (.anewarray 15, 3) := by decide +kernel
theorem dX2_init_18 : decode cX2_init 18 = .ok (.putfield 17, 3) := by decide +kernel
theorem dX2_init_21 : decode cX2_init 21 = .ok (.aload_n 0, 1) := by decide +kernel
theorem dX2_init_22 : decode cX2_init 22 = .ok (.iconst (-1), 1) := by decide +kernel
theorem dX2_init_23 : decode cX2_init 23 = .ok (.putfield 21, 3) := by decide +kernel
theorem dX2_init_26 : decode cX2_init 26 = .ok (.aload_n 0, 1) := by decide +kernel
theorem dX2_init_27 : decode cX2_init 27 = .ok (.iconst 5, 1) := by decide +kernel
theorem dX2_init_28 : decode cX2_init 28 = .ok (.newarray .int, 2) := by decide +kernel
theorem dX2_init_30 : decode cX2_init 30 = .ok (.putfield 25, 3) := by decide +kernel
theorem dX2_init_33 : decode cX2_init 33 = .ok (.iconst 0, 1) := by decide +kernel
theorem dX2_init_34 : decode cX2_init 34 = .ok (.istore_n 1, 1) := by decide +kernel
theorem dX2_init_35 : decode cX2_init 35 = .ok (.iload_n 1, 1) := by decide +kernel
theorem dX2_init_36 : decode cX2_init 36 = .ok (.bipush 14, 2) := by decide +kernel
theorem dX2_init_38 : decode cX2_init 38 = .ok (.if_icmp .ge 22, 3) := by decide +kernel
theorem dX2_init_41 : decode cX2_init 41 = .ok (.aload_n 0, 1) := by decide +kernel
theorem dX2_init_42 : decode cX2_init 42 = .ok (.getfield 17, 3) := by decide +kernel
theorem dX2_init_45 : decode cX2_init 45 = .ok (.iload_n 1, 1) := by decide +kernel
theorem dX2_init_46 : decode cX2_init 46 = .ok (.new 15, 3) := by decide +kernel
theorem dX2_init_49 : decode cX2_init 49 = .ok (.dup, 1) := by decide +kernel
theorem dX2_init_50 : decode cX2_init 50 = .ok (.invokespecial 28, 3) := by decide +kernel
theorem dX2_init_53 : decode cX2_init 53 = .ok (.aastore, 1) := by decide +kernel
theorem dX2_init_54 : decode cX2_init 54 = .ok (.iinc 1 1, 3) := by decide +kernel
theorem dX2_init_57 : decode cX2_init 57 = .ok (.goto (-22), 3) := by decide +kernel
theorem dX2_init_60 : decode cX2_init 60 = .ok (.aload_n 0, 1) := by decide +kernel
theorem dX2_init_61 : decode cX2_init 61 = .ok (.getfield 25, 3) := by decide +kernel
theorem dX2_init_64 : decode cX2_init 64 = .ok (.iconst 0, 1) := by decide +kernel
theorem dX2_init_65 : decode cX2_init 65 = .ok (.iconst 1, 1) := by decide +kernel
theorem dX2_init_66 : decode cX2_init 66 = .ok (.iastore, 1) := by decide +kernel
theorem dX2_init_67 : decode cX2_init 67 = .ok (.return_, 1) := by decide +kernel
theorem dX2_readText_0 : decode cX2_readText 0 = .ok (.aload_n 0, 1) := by decide +kernel
theorem dX2_readText_1 : decode cX2_readText 1 = .ok (.iconst 0, 1) := by decide +kernel
theorem dX2_readText_2 : decode cX2_readText 2 = .ok (.putfield 29, 3) := by decide +kernel
theorem dX2_readText_5 : decode cX2_readText 5 = .ok (.aload_n 0, 1) := by decide +kernel
theorem dX2_readText_6 : decode cX2_readText 6 = .ok (.iconst 0, 1) := by decide +kernel
theorem dX2_readText_7 : decode cX2_readText 7 = .ok (.putfield 32, 3) := by decide +kernel
theorem dX2_readText_10 : decode cX2_readText 10 = .ok (.aload_n 0, 1) := by decide +kernel
theorem dX2_readText_11 : decode cX2_readText 11 = .ok (.iconst 0, 1) := by decide +kernel
theorem dX2_readText_12 : decode cX2_readText 12 = .ok (.putfield 35, 3) := by decide +kernel
theorem dX2_readText_15 : decode cX2_readText 15 = .ok (.aload_n 0, 1) := by decide +kernel
theorem dX2_readText_16 : decode cX2_readText 16 = .ok (.iconst (-1), 1) := by decide +kernel
theorem dX2_readText_17 : decode cX2_readText 17 = .ok (.putfield 21, 3) := by decide +kernel
theorem dX2_readText_20 : decode cX2_readText 20 = .ok (.iconst 0, 1) := by decide +kernel
theorem dX2_readText_21 : decode cX2_readText 21 = .ok (.istore_n 1, 1) := by decide +kernel
theorem dX2_readText_22 : decode cX2_readText 22 = .ok (.iload_n 1, 1) := by decide +kernel
theorem dX2_readText_23 : decode cX2_readText 23 = .ok (.bipush 100, 2) := by decide +kernel
theorem dX2_readText_25 : decode cX2_readText 25 = .ok (.if_icmp .ge 31, 3) := by decide +kernel
theorem dX2_readText_28 : decode cX2_readText 28 = .ok (.aload_n 0, 1) := by decide +kernel
theorem dX2_readText_29 : decode cX2_readText 29 = .ok (.getfield 29, 3) := by decide +kernel
theorem dX2_readText_32 : decode cX2_readText 32 = .ok (.aload_n 0, 1) := by decide +kernel
theorem dX2_readText_33 : decode cX2_readText 33 = .ok (.getfield 38, 3) := by decide +kernel
theorem dX2_readText_36 : decode cX2_readText 36 = .ok (.if_icmp .ge 20, 3) := by decide +kernel
theorem dX2_readText_39 : decode cX2_readText 39 = .ok (.aload_n 0, 1) := by decide +kernel
theorem dX2_readText_40 : decode cX2_readText 40 = .ok (.invokevirtual 41, 3) := by decide +kernel
theorem dX2_readText_43 : decode cX2_readText 43 = .ok (.ifCond .ne 13, 3) := by decide +kernel
theorem dX2_readText_46 : decode cX2_readText 46 = .ok (.aload_n 0, 1) := by decide +kernel
theorem dX2_readText_47 : decode cX2_readText 47 = .ok (.invokevirtual 45, 3) := by decide +kernel
theorem dX2_readText_50 : decode cX2_readText 50 = .ok (.iinc 1 1, 3) := by decide +kernel
theorem dX2_readText_53 : decode cX2_readText 53 = .ok (.goto (-31), 3) := by decide +kernel
theorem dX2_readText_56 : decode cX2_readText 56 = .ok (.aload_n 0, 1) := by decide +kernel
theorem dX2_readText_57 : decode cX2_readText 57 = .ok (.getfield 32, 3) := by decide +kernel
theorem dX2_readText_60 : decode cX2_readText 60 = .ok (.ifCond .le 11, 3) := by decide +kernel
theorem dX2_readText_63 : decode cX2_readText 63 = .ok (.aload_n 0, 1) := by decide +kernel
theorem dX2_readText_64 : decode cX2_readText 64 = .ok (.aload_n 0, 1) := by decide +kernel
theorem dX2_readText_65 : decode cX2_readText 65 = .ok (.getfield 29, 3) := by decide +kernel
theorem dX2_readText_68 : decode cX2_readText 68 = .ok (.invokevirtual 48, 3) := by decide +kernel
theorem dX2_readText_71 : decode cX2_readText 71 = .ok (.aload_n 0, 1) := by decide +kernel
theorem dX2_readText_72 : decode cX2_readText 72 = .ok (.invokevirtual 41, 3) := by decide +kernel
theorem dX2_readText_75 : decode cX2_readText 75 = .ok (.ifCond .ne 7, 3) := by decide +kernel
theorem dX2_readText_78 : decode cX2_readText 78 = .ok (.iconst 1, 1) := by decide +kernel
theorem dX2_readText_79 : decode cX2_readText 79 = .ok (.goto 4, 3) := by decide +kernel
theorem dX2_readText_82 : decode cX2_readText 82 = .ok (.iconst 0, 1) := by decide +kernel
theorem dX2_readText_83 : decode cX2_readText 83 = .ok (.ireturn, 1) := by decide +kernel
theorem dX2_readPiece_0 : decode cX2_readPiece 0 = .ok (.aload_n 0, 1) := by decide +kernel
theorem dX2_readPiece_1 : decode cX2_readPiece 1 = .ok (.invokevirtual 52, 3) := by decide +kernel
theorem dX2_readPiece_4 : decode cX2_readPiece 4 = .ok (.bipush 41, 2) := by decide +kernel
theorem dX2_readPiece_6 : decode cX2_readPiece 6 = .ok (.if_icmp .ne 10, 3) := by decide +kernel
theorem dX2_readPiece_9 : decode cX2_readPiece 9 = .ok (.aload_n 0, 1) := by decide +kernel
theorem dX2_readPiece_10 : decode cX2_readPiece 10 = .ok (.invokevirtual 56, 3) := by decide +kernel
theorem dX2_readPiece_13 : decode cX2_readPiece 13 = .ok (.goto 56, 3) := by decide +kernel
theorem dX2_readPiece_16 : decode cX2_readPiece 16 = .ok (.aload_n 0, 1) := by decide +kernel
theorem dX2_readPiece_17 : decode cX2_readPiece 17 = .ok (.invokevirtual 52, 3) := by decide +kernel
theorem dX2_readPiece_20 : decode cX2_readPiece 20 = .ok (.bipush 40, 2) := by decide +kernel
theorem dX2_readPiece_22 : decode cX2_readPiece 22 = .ok (.if_icmp .ne 11, 3) := by decide +kernel
theorem dX2_readPiece_25 : decode cX2_readPiece 25 = .ok (.aload_n 0, 1) := by decide +kernel
theorem dX2_readPiece_26 : decode cX2_readPiece 26 = .ok (.iconst 1, 1) := by decide +kernel
theorem dX2_readPiece_27 : decode cX2_readPiece 27 = .ok (.invokevirtual 59, 3) := by decide +kernel
theorem dX2_readPiece_30 : decode cX2_readPiece 30 = .ok (.goto 39, 3) := by decide +kernel
theorem dX2_readPiece_33 : decode cX2_readPiece 33 = .ok (.aload_n 0, 1) := by decide +kernel
theorem dX2_readPiece_34 : decode cX2_readPiece 34 = .ok (.invokevirtual 52, 3) := by decide +kernel
theorem dX2_readPiece_37 : decode cX2_readPiece 37 = .ok (.invokestatic 62, 3) := by decide +kernel
theorem dX2_readPiece_40 : decode cX2_readPiece 40 = .ok (.ifCond .eq 25, 3) := by decide +kernel
theorem dX2_readPiece_43 : decode cX2_readPiece 43 = .ok (.aload_n 0, 1) := by decide +kernel
theorem dX2_readPiece_44 : decode cX2_readPiece 44 = .ok (.iconst 2, 1) := by decide +kernel
theorem dX2_readPiece_45 : decode cX2_readPiece 45 = .ok (.bipush 9, 2) := by decide +kernel
theorem dX2_readPiece_47 : decode cX2_readPiece 47 = .ok (.invokevirtual 66, 3) := by decide +kernel
theorem dX2_readPiece_50 : decode cX2_readPiece 50 = .ok (.istore_n 1, 1) := by decide +kernel
theorem dX2_readPiece_51 : decode cX2_readPiece 51 = .ok (.aload_n 0, 1) := by decide +kernel
theorem dX2_readPiece_52 : decode cX2_readPiece 52 = .ok (.bipush 42, 2) := by decide +kernel
theorem dX2_readPiece_54 : decode cX2_readPiece 54 = .ok (.invokevirtual 70, 3) := by decide +kernel
theorem dX2_readPiece_57 : decode cX2_readPiece 57 = .ok (.aload_n 0, 1) := by decide +kernel
theorem dX2_readPiece_58 : decode cX2_readPiece 58 = .ok (.iload_n 1, 1) := by decide +kernel
theorem dX2_readPiece_59 : decode cX2_readPiece 59 = .ok (.invokevirtual 59, 3) := by decide +kernel
theorem dX2_readPiece_62 : decode cX2_readPiece 62 = .ok (.goto 7, 3) := by decide +kernel
theorem dX2_readPiece_65 : decode cX2_readPiece 65 = .ok (.aload_n 0, 1) := by decide +kernel
theorem dX2_readPiece_66 : decode cX2_readPiece 66 = .ok (.invokevirtual 74, 3) := by decide +kernel
theorem dX2_readPiece_69 : decode cX2_readPiece 69 = .ok (.return_, 1) := by decide +kernel
theorem dX2_openGroup_0 : decode cX2_openGroup 0 = .ok (.aload_n 0, 1) := by decide +kernel
theorem dX2_openGroup_1 : decode cX2_openGroup 1 = .ok (.getfield 32, 3) := by decide +kernel
theorem dX2_openGroup_4 : decode cX2_openGroup 4 = .ok (.iconst 4, 1) := by decide +kernel
theorem dX2_openGroup_5 : decode cX2_openGroup 5 = .ok (.if_icmp .lt 11, 3) := by decide +kernel
theorem dX2_openGroup_8 : decode cX2_openGroup 8 = .ok (.aload_n 0, 1) := by decide +kernel
theorem dX2_openGroup_9 : decode cX2_openGroup 9 = .ok (.aload_n 0, 1) := by decide +kernel
theorem dX2_openGroup_10 : decode cX2_openGroup 10 = .ok (.getfield 29, 3) := by decide +kernel
theorem dX2_openGroup_13 : decode cX2_openGroup 13 = .ok (.invokevirtual 48, 3) := by decide +kernel
theorem dX2_openGroup_16 : decode cX2_openGroup 16 = .ok (.aload_n 0, 1) := by decide +kernel
theorem dX2_openGroup_17 : decode cX2_openGroup 17 = .ok (.bipush 40, 2) := by decide +kernel
theorem dX2_openGroup_19 : decode cX2_openGroup 19 = .ok (.invokevirtual 70, 3) := by decide +kernel
theorem dX2_openGroup_22 : decode cX2_openGroup 22 = .ok (.aload_n 0, 1) := by decide +kernel
theorem dX2_openGroup_23 : decode cX2_openGroup 23 = .ok (.invokevirtual 41, 3) := by decide +kernel
theorem dX2_openGroup_26 : decode cX2_openGroup 26 = .ok (.ifCond .ne 35, 3) := by decide +kernel
theorem dX2_openGroup_29 : decode cX2_openGroup 29 = .ok (.aload_n 0, 1) := by decide +kernel
theorem dX2_openGroup_30 : decode cX2_openGroup 30 = .ok (.getfield 25, 3) := by decide +kernel
theorem dX2_openGroup_33 : decode cX2_openGroup 33 = .ok (.aload_n 0, 1) := by decide +kernel
theorem dX2_openGroup_34 : decode cX2_openGroup 34 = .ok (.getfield 32, 3) := by decide +kernel
theorem dX2_openGroup_37 : decode cX2_openGroup 37 = .ok (.iconst 1, 1) := by decide +kernel
theorem dX2_openGroup_38 : decode cX2_openGroup 38 = .ok (.iadd, 1) := by decide +kernel
theorem dX2_openGroup_39 : decode cX2_openGroup 39 = .ok (.aload_n 0, 1) := by decide +kernel
theorem dX2_openGroup_40 : decode cX2_openGroup 40 = .ok (.getfield 25, 3) := by decide +kernel
theorem dX2_openGroup_43 : decode cX2_openGroup 43 = .ok (.aload_n 0, 1) := by decide +kernel
theorem dX2_openGroup_44 : decode cX2_openGroup 44 = .ok (.getfield 32, 3) := by decide +kernel
theorem dX2_openGroup_47 : decode cX2_openGroup 47 = .ok (.iaload, 1) := by decide +kernel
theorem dX2_openGroup_48 : decode cX2_openGroup 48 = .ok (.iload_n 1, 1) := by decide +kernel
theorem dX2_openGroup_49 : decode cX2_openGroup 49 = .ok (.imul, 1) := by decide +kernel
theorem dX2_openGroup_50 : decode cX2_openGroup 50 = .ok (.iastore, 1) := by decide +kernel
theorem dX2_openGroup_51 : decode cX2_openGroup 51 = .ok (.aload_n 0, 1) := by decide +kernel
theorem dX2_openGroup_52 : decode cX2_openGroup 52 = .ok (.dup, 1) := by decide +kernel
theorem dX2_openGroup_53 : decode cX2_openGroup 53 = .ok (.getfield 32, 3) := by decide +kernel
theorem dX2_openGroup_56 : decode cX2_openGroup 56 = .ok (.iconst 1, 1) := by decide +kernel
theorem dX2_openGroup_57 : decode cX2_openGroup 57 = .ok (.iadd, 1) := by decide +kernel
theorem dX2_openGroup_58 : decode cX2_openGroup 58 = .ok (.putfield 32, 3) := by decide +kernel
theorem dX2_openGroup_61 : decode cX2_openGroup 61 = .ok (.return_, 1) := by decide +kernel
theorem dX2_closeGroup_0 : decode cX2_closeGroup 0 = .ok (.aload_n 0, 1) := by decide +kernel
theorem dX2_closeGroup_1 : decode cX2_closeGroup 1 = .ok (.getfield 32, 3) := by decide +kernel
theorem dX2_closeGroup_4 : decode cX2_closeGroup 4 = .ok (.ifCond .le 22, 3) := by decide +kernel
theorem dX2_closeGroup_7 : decode cX2_closeGroup 7 = .ok (.aload_n 0, 1) := by decide +kernel
theorem dX2_closeGroup_8 : decode cX2_closeGroup 8 = .ok (.bipush 41, 2) := by decide +kernel
theorem dX2_closeGroup_10 : decode cX2_closeGroup 10 = .ok (.invokevirtual 70, 3) := by decide +kernel
theorem dX2_closeGroup_13 : decode cX2_closeGroup 13 = .ok (.aload_n 0, 1) := by decide +kernel
theorem dX2_closeGroup_14 : decode cX2_closeGroup 14 = .ok (.dup, 1) := by decide +kernel
theorem dX2_closeGroup_15 : decode cX2_closeGroup 15 = .ok (.getfield 32, 3) := by decide +kernel
theorem dX2_closeGroup_18 : decode cX2_closeGroup 18 = .ok (.iconst 1, 1) := by decide +kernel
theorem dX2_closeGroup_19 : decode cX2_closeGroup 19 = .ok (.isub, 1) := by decide +kernel
theorem dX2_closeGroup_20 : decode cX2_closeGroup 20 = .ok (.putfield 32, 3) := by decide +kernel
theorem dX2_closeGroup_23 : decode cX2_closeGroup 23 = .ok (.goto 11, 3) := by decide +kernel
theorem dX2_closeGroup_26 : decode cX2_closeGroup 26 = .ok (.aload_n 0, 1) := by decide +kernel
theorem dX2_closeGroup_27 : decode cX2_closeGroup 27 = .ok (.aload_n 0, 1) := by decide +kernel
theorem dX2_closeGroup_28 : decode cX2_closeGroup 28 = .ok (.getfield 29, 3) := by decide +kernel
theorem dX2_closeGroup_31 : decode cX2_closeGroup 31 = .ok (.invokevirtual 48, 3) := by decide +kernel
theorem dX2_closeGroup_34 : decode cX2_closeGroup 34 = .ok (.return_, 1) := by decide +kernel
theorem dX2_readBids_0 : decode cX2_readBids 0 = .ok (.aload_n 0, 1) := by decide +kernel
theorem dX2_readBids_1 : decode cX2_readBids 1 = .ok (.getfield 29, 3) := by decide +kernel
theorem dX2_readBids_4 : decode cX2_readBids 4 = .ok (.istore_n 1, 1) := by decide +kernel
theorem dX2_readBids_5 : decode cX2_readBids 5 = .ok (.aload_n 0, 1) := by decide +kernel
theorem dX2_readBids_6 : decode cX2_readBids 6 = .ok (.bipush 113, 2) := by decide +kernel
theorem dX2_readBids_8 : decode cX2_readBids 8 = .ok (.invokevirtual 77, 3) := by decide +kernel
theorem dX2_readBids_11 : decode cX2_readBids 11 = .ok (.istore_n 2, 1) := by decide +kernel
theorem dX2_readBids_12 : decode cX2_readBids 12 = .ok (.iload_n 2, 1) := by decide +kernel
theorem dX2_readBids_13 : decode cX2_readBids 13 = .ok (.ifCond .ne 9, 3) := by decide +kernel
theorem dX2_readBids_16 : decode cX2_readBids 16 = .ok (.aload_n 0, 1) := by decide +kernel
theorem dX2_readBids_17 : decode cX2_readBids 17 = .ok (.bipush 110, 2) := by decide +kernel
theorem dX2_readBids_19 : decode cX2_readBids 19 = .ok (.invokevirtual 70, 3) := by decide +kernel
theorem dX2_readBids_22 : decode cX2_readBids 22 = .ok (.aload_n 0, 1) := by decide +kernel
theorem dX2_readBids_23 : decode cX2_readBids 23 = .ok (.invokevirtual 81, 3) := by decide +kernel
theorem dX2_readBids_26 : decode cX2_readBids 26 = .ok (.istore_n 3, 1) := by decide +kernel
theorem dX2_readBids_27 : decode cX2_readBids 27 = .ok (.aload_n 0, 1) := by decide +kernel
theorem dX2_readBids_28 : decode cX2_readBids 28 = .ok (.bipush 58, 2) := by decide +kernel
theorem dX2_readBids_30 : decode cX2_readBids 30 = .ok (.invokevirtual 70, 3) := by decide +kernel
theorem dX2_readBids_33 : decode cX2_readBids 33 = .ok (.aload_n 0, 1) := by decide +kernel
theorem dX2_readBids_34 : decode cX2_readBids 34 = .ok (.iconst 0, 1) := by decide +kernel
theorem dX2_readBids_35 : decode cX2_readBids 35 = .ok (.bipush 23, 2) := by decide +kernel
theorem dX2_readBids_37 : decode cX2_readBids 37 = .ok (.invokevirtual 66, 3) := by decide +kernel
theorem dX2_readBids_40 : decode cX2_readBids 40 = .ok (.istore 4, 2) := by decide +kernel
theorem dX2_readBids_42 : decode cX2_readBids 42 = .ok (.aload_n 0, 1) := by decide +kernel
theorem dX2_readBids_43 : decode cX2_readBids 43 = .ok (.bipush 45, 2) := by decide +kernel
theorem dX2_readBids_45 : decode cX2_readBids 45 = .ok (.invokevirtual 77, 3) := by decide +kernel
theorem dX2_readBids_48 : decode cX2_readBids 48 = .ok (.ifCond .eq 14, 3) := by decide +kernel
theorem dX2_readBids_51 : decode cX2_readBids 51 = .ok (.aload_n 0, 1) := by decide +kernel
theorem dX2_readBids_52 : decode cX2_readBids 52 = .ok (.iload 4, 2) := by decide +kernel
theorem dX2_readBids_54 : decode cX2_readBids 54 = .ok (.bipush 23, 2) := by decide +kernel
theorem dX2_readBids_56 : decode cX2_readBids 56 = .ok (.invokevirtual 66, 3) := by decide +kernel
theorem dX2_readBids_59 : decode cX2_readBids 59 = .ok (.goto 5, 3) := by decide +kernel
theorem dX2_readBids_62 : decode cX2_readBids 62 = .ok (.iload 4, 2) := by decide +kernel
theorem dX2_readBids_64 : decode cX2_readBids 64 = .ok (.istore 5, 2) := by decide +kernel
theorem dX2_readBids_66 : decode cX2_readBids 66 = .ok (.aload_n 0, 1) := by decide +kernel
theorem dX2_readBids_67 : decode cX2_readBids 67 = .ok (.bipush 61, 2) := by decide +kernel
theorem dX2_readBids_69 : decode cX2_readBids 69 = .ok (.invokevirtual 70, 3) := by decide +kernel
theorem dX2_readBids_72 : decode cX2_readBids 72 = .ok (.aload_n 0, 1) := by decide +kernel
theorem dX2_readBids_73 : decode cX2_readBids 73 = .ok (.iconst 1, 1) := by decide +kernel
theorem dX2_readBids_74 : decode cX2_readBids 74 = .ok (.sipush 999, 3) := by decide +kernel
theorem dX2_readBids_77 : decode cX2_readBids 77 = .ok (.invokevirtual 66, 3) := by decide +kernel
theorem dX2_readBids_80 : decode cX2_readBids 80 = .ok (.istore 6, 2) := by decide +kernel
theorem dX2_readBids_82 : decode cX2_readBids 82 = .ok (.aload_n 0, 1) := by decide +kernel
theorem dX2_readBids_83 : decode cX2_readBids 83 = .ok (.bipush 59, 2) := by decide +kernel
theorem dX2_readBids_85 : decode cX2_readBids 85 = .ok (.invokevirtual 70, 3) := by decide +kernel
theorem dX2_readBids_88 : decode cX2_readBids 88 = .ok (.aload_n 0, 1) := by decide +kernel
theorem dX2_readBids_89 : decode cX2_readBids 89 = .ok (.invokevirtual 41, 3) := by decide +kernel
theorem dX2_readBids_92 : decode cX2_readBids 92 = .ok (.ifCond .ne 99, 3) := by decide +kernel
theorem dX2_readBids_95 : decode cX2_readBids 95 = .ok (.aload_n 0, 1) := by decide +kernel
theorem dX2_readBids_96 : decode cX2_readBids 96 = .ok (.getfield 35, 3) := by decide +kernel
theorem dX2_readBids_99 : decode cX2_readBids 99 = .ok (.bipush 14, 2) := by decide +kernel
theorem dX2_readBids_101 : decode cX2_readBids 101 = .ok (.if_icmp .ge 90, 3) := by decide +kernel
theorem dX2_readBids_104 : decode cX2_readBids 104 = .ok (.aload_n 0, 1) := by decide +kernel
theorem dX2_readBids_105 : decode cX2_readBids 105 = .ok (.getfield 17, 3) := by decide +kernel
theorem dX2_readBids_108 : decode cX2_readBids 108 = .ok (.aload_n 0, 1) := by decide +kernel
theorem dX2_readBids_109 : decode cX2_readBids 109 = .ok (.getfield 35, 3) := by decide +kernel
theorem dX2_readBids_112 : decode cX2_readBids 112 = .ok (.aaload, 1) := by decide +kernel
theorem dX2_readBids_113 : decode cX2_readBids 113 = .ok (.astore 7, 2) := by decide +kernel
theorem dX2_readBids_115 : decode cX2_readBids 115 = .ok (.aload 7, 2) := by decide +kernel
theorem dX2_readBids_117 : decode cX2_readBids 117 = .ok (.iload_n 1, 1) := by decide +kernel
theorem dX2_readBids_118 : decode cX2_readBids 118 = .ok (.putfield 84, 3) := by decide +kernel
theorem dX2_readBids_121 : decode cX2_readBids 121 = .ok (.aload 7, 2) := by decide +kernel
theorem dX2_readBids_123 : decode cX2_readBids 123 = .ok (.aload_n 0, 1) := by decide +kernel
theorem dX2_readBids_124 : decode cX2_readBids 124 = .ok (.getfield 32, 3) := by decide +kernel
theorem dX2_readBids_127 : decode cX2_readBids 127 = .ok (.putfield 87, 3) := by decide +kernel
theorem dX2_readBids_130 : decode cX2_readBids 130 = .ok (.aload 7, 2) := by decide +kernel
theorem dX2_readBids_132 : decode cX2_readBids 132 = .ok (.iload_n 2, 1) := by decide +kernel
theorem dX2_readBids_133 : decode cX2_readBids 133 = .ok (.ifCond .eq 7, 3) := by decide +kernel
theorem dX2_readBids_136 : decode cX2_readBids 136 = .ok (.iconst 0, 1) := by decide +kernel
theorem dX2_readBids_137 : decode cX2_readBids 137 = .ok (.goto 4, 3) := by decide +kernel
theorem dX2_readBids_140 : decode cX2_readBids 140 = .ok (.iconst 1, 1) := by decide +kernel
theorem dX2_readBids_141 : decode cX2_readBids 141 = .ok (.putfield 88, 3) := by decide +kernel
theorem dX2_readBids_144 : decode cX2_readBids 144 = .ok (.aload 7, 2) := by decide +kernel
theorem dX2_readBids_146 : decode cX2_readBids 146 = .ok (.iload_n 3, 1) := by decide +kernel
theorem dX2_readBids_147 : decode cX2_readBids 147 = .ok (.putfield 91, 3) := by decide +kernel
theorem dX2_readBids_150 : decode cX2_readBids 150 = .ok (.aload 7, 2) := by decide +kernel
theorem dX2_readBids_152 : decode cX2_readBids 152 = .ok (.iload 4, 2) := by decide +kernel
theorem dX2_readBids_154 : decode cX2_readBids 154 = .ok (.putfield 94, 3) := by decide +kernel
theorem dX2_readBids_157 : decode cX2_readBids 157 = .ok (.aload 7, 2) := by decide +kernel
theorem dX2_readBids_159 : decode cX2_readBids 159 = .ok (.iload 5, 2) := by decide +kernel
theorem dX2_readBids_161 : decode cX2_readBids 161 = .ok (.putfield 97, 3) := by decide +kernel
theorem dX2_readBids_164 : decode cX2_readBids 164 = .ok (.aload 7, 2) := by decide +kernel
theorem dX2_readBids_166 : decode cX2_readBids 166 = .ok (.iload 6, 2) := by decide +kernel
theorem dX2_readBids_168 : decode cX2_readBids 168 = .ok (.aload_n 0, 1) := by decide +kernel
theorem dX2_readBids_169 : decode cX2_readBids 169 = .ok (.getfield 25, 3) := by decide +kernel
theorem dX2_readBids_172 : decode cX2_readBids 172 = .ok (.aload_n 0, 1) := by decide +kernel
theorem dX2_readBids_173 : decode cX2_readBids 173 = .ok (.getfield 32, 3) := by decide +kernel
theorem dX2_readBids_176 : decode cX2_readBids 176 = .ok (.iaload, 1) := by decide +kernel
theorem dX2_readBids_177 : decode cX2_readBids 177 = .ok (.imul, 1) := by decide +kernel
theorem dX2_readBids_178 : decode cX2_readBids 178 = .ok (.putfield 100, 3) := by decide +kernel
theorem dX2_readBids_181 : decode cX2_readBids 181 = .ok (.aload_n 0, 1) := by decide +kernel
theorem dX2_readBids_182 : decode cX2_readBids 182 = .ok (.dup, 1) := by decide +kernel
theorem dX2_readBids_183 : decode cX2_readBids 183 = .ok (.getfield 35, 3) := by decide +kernel
theorem dX2_readBids_186 : decode cX2_readBids 186 = .ok (.iconst 1, 1) := by decide +kernel
theorem dX2_readBids_187 : decode cX2_readBids 187 = .ok (.iadd, 1) := by decide +kernel
theorem dX2_readBids_188 : decode cX2_readBids 188 = .ok (.putfield 35, 3) := by decide +kernel
theorem dX2_readBids_191 : decode cX2_readBids 191 = .ok (.return_, 1) := by decide +kernel
theorem dX2_takeStreet_0 : decode cX2_takeStreet 0 = .ok (.aload_n 0, 1) := by decide +kernel
theorem dX2_takeStreet_1 : decode cX2_takeStreet 1 = .ok (.invokevirtual 52, 3) := by decide +kernel
theorem dX2_takeStreet_4 : decode cX2_takeStreet 4 = .ok (.bipush 48, 2) := by decide +kernel
theorem dX2_takeStreet_6 : decode cX2_takeStreet 6 = .ok (.isub, 1) := by decide +kernel
theorem dX2_takeStreet_7 : decode cX2_takeStreet 7 = .ok (.istore_n 1, 1) := by decide +kernel
theorem dX2_takeStreet_8 : decode cX2_takeStreet 8 = .ok (.iload_n 1, 1) := by decide +kernel
theorem dX2_takeStreet_9 : decode cX2_takeStreet 9 = .ok (.invokestatic 103, 3) := by decide +kernel
theorem dX2_takeStreet_12 : decode cX2_takeStreet 12 = .ok (.ifCond .ne 11, 3) := by decide +kernel
theorem dX2_takeStreet_15 : decode cX2_takeStreet 15 = .ok (.aload_n 0, 1) := by decide +kernel
theorem dX2_takeStreet_16 : decode cX2_takeStreet 16 = .ok (.aload_n 0, 1) := by decide +kernel
theorem dX2_takeStreet_17 : decode cX2_takeStreet 17 = .ok (.getfield 29, 3) := by decide +kernel
theorem dX2_takeStreet_20 : decode cX2_takeStreet 20 = .ok (.invokevirtual 48, 3) := by decide +kernel
theorem dX2_takeStreet_23 : decode cX2_takeStreet 23 = .ok (.aload_n 0, 1) := by decide +kernel
theorem dX2_takeStreet_24 : decode cX2_takeStreet 24 = .ok (.invokevirtual 106, 3) := by decide +kernel
theorem dX2_takeStreet_27 : decode cX2_takeStreet 27 = .ok (.iload_n 1, 1) := by decide +kernel
theorem dX2_takeStreet_28 : decode cX2_takeStreet 28 = .ok (.ireturn, 1) := by decide +kernel
theorem dX2_takeNumber_0 : decode cX2_takeNumber 0 = .ok (.aload_n 0, 1) := by decide +kernel
theorem dX2_takeNumber_1 : decode cX2_takeNumber 1 = .ok (.getfield 29, 3) := by decide +kernel
theorem dX2_takeNumber_4 : decode cX2_takeNumber 4 = .ok (.istore_n 3, 1) := by decide +kernel
theorem dX2_takeNumber_5 : decode cX2_takeNumber 5 = .ok (.iconst 0, 1) := by decide +kernel
theorem dX2_takeNumber_6 : decode cX2_takeNumber 6 = .ok (.istore 4, 2) := by decide +kernel
theorem dX2_takeNumber_8 : decode cX2_takeNumber 8 = .ok (.iconst 1, 1) := by decide +kernel
theorem dX2_takeNumber_9 : decode cX2_takeNumber 9 = .ok (.istore 5, 2) := by decide +kernel
theorem dX2_takeNumber_11 : decode cX2_takeNumber 11 = .ok (.iconst 0, 1) := by decide +kernel
theorem dX2_takeNumber_12 : decode cX2_takeNumber 12 = .ok (.istore 6, 2) := by decide +kernel
theorem dX2_takeNumber_14 : decode cX2_takeNumber 14 = .ok (.iload 6, 2) := by decide +kernel
theorem dX2_takeNumber_16 : decode cX2_takeNumber 16 = .ok (.iconst 3, 1) := by decide +kernel
theorem dX2_takeNumber_17 : decode cX2_takeNumber 17 = .ok (.if_icmp .ge 55, 3) := by decide +kernel
theorem dX2_takeNumber_20 : decode cX2_takeNumber 20 = .ok (.iload 5, 2) := by decide +kernel
theorem dX2_takeNumber_22 : decode cX2_takeNumber 22 = .ok (.ifCond .eq 50, 3) := by decide +kernel
theorem dX2_takeNumber_25 : decode cX2_takeNumber 25 = .ok (.aload_n 0, 1) := by decide +kernel
theorem dX2_takeNumber_26 : decode cX2_takeNumber 26 = .ok (.invokevirtual 52, 3) := by decide +kernel
theorem dX2_takeNumber_29 : decode cX2_takeNumber 29 = .ok (.invokestatic 62, 3) := by decide +kernel
theorem dX2_takeNumber_32 : decode cX2_takeNumber 32 = .ok (.ifCond .eq 40, 3) := by decide +kernel
theorem dX2_takeNumber_35 : decode cX2_takeNumber 35 = .ok (.iload 4, 2) := by decide +kernel
theorem dX2_takeNumber_37 : decode cX2_takeNumber 37 = .ok (.bipush 10, 2) := by decide +kernel
theorem dX2_takeNumber_39 : decode cX2_takeNumber 39 = .ok (.imul, 1) := by decide +kernel
theorem dX2_takeNumber_40 : decode cX2_takeNumber 40 = .ok (.aload_n 0, 1) := by decide +kernel
theorem dX2_takeNumber_41 : decode cX2_takeNumber 41 = .ok (.invokevirtual 52, 3) := by decide +kernel
theorem dX2_takeNumber_44 : decode cX2_takeNumber 44 = .ok (.iadd, 1) := by decide +kernel
theorem dX2_takeNumber_45 : decode cX2_takeNumber 45 = .ok (.bipush 48, 2) := by decide +kernel
theorem dX2_takeNumber_47 : decode cX2_takeNumber 47 = .ok (.isub, 1) := by decide +kernel
theorem dX2_takeNumber_48 : decode cX2_takeNumber 48 = .ok (.istore 4, 2) := by decide +kernel
theorem dX2_takeNumber_50 : decode cX2_takeNumber 50 = .ok (.aload_n 0, 1) := by decide +kernel
theorem dX2_takeNumber_51 : decode cX2_takeNumber 51 = .ok (.invokevirtual 106, 3) := by decide +kernel
theorem dX2_takeNumber_54 : decode cX2_takeNumber 54 = .ok (.iload 4, 2) := by decide +kernel
theorem dX2_takeNumber_56 : decode cX2_takeNumber 56 = .ok (.ifCond .le 7, 3) := by decide +kernel
theorem dX2_takeNumber_59 : decode cX2_takeNumber 59 = .ok (.iconst 1, 1) := by decide +kernel
theorem dX2_takeNumber_60 : decode cX2_takeNumber 60 = .ok (.goto 4, 3) := by decide +kernel
theorem dX2_takeNumber_63 : decode cX2_takeNumber 63 = .ok (.iconst 0, 1) := by decide +kernel
theorem dX2_takeNumber_64 : decode cX2_takeNumber 64 = .ok (.istore 5, 2) := by decide +kernel
theorem dX2_takeNumber_66 : decode cX2_takeNumber 66 = .ok (.iinc 6 1, 3) := by decide +kernel
theorem dX2_takeNumber_69 : decode cX2_takeNumber 69 = .ok (.goto (-55), 3) := by decide +kernel
theorem dX2_takeNumber_72 : decode cX2_takeNumber 72 = .ok (.aload_n 0, 1) := by decide +kernel
theorem dX2_takeNumber_73 : decode cX2_takeNumber 73 = .ok (.getfield 29, 3) := by decide +kernel
theorem dX2_takeNumber_76 : decode cX2_takeNumber 76 = .ok (.iload_n 3, 1) := by decide +kernel
theorem dX2_takeNumber_77 : decode cX2_takeNumber 77 = .ok (.if_icmp .ne 7, 3) := by decide +kernel
theorem dX2_takeNumber_80 : decode cX2_takeNumber 80 = .ok (.iconst 1, 1) := by decide +kernel
theorem dX2_takeNumber_81 : decode cX2_takeNumber 81 = .ok (.goto 4, 3) := by decide +kernel
theorem dX2_takeNumber_84 : decode cX2_takeNumber 84 = .ok (.iconst 0, 1) := by decide +kernel
theorem dX2_takeNumber_85 : decode cX2_takeNumber 85 = .ok (.istore 6, 2) := by decide +kernel
theorem dX2_takeNumber_87 : decode cX2_takeNumber 87 = .ok (.aload_n 0, 1) := by decide +kernel
theorem dX2_takeNumber_88 : decode cX2_takeNumber 88 = .ok (.invokevirtual 52, 3) := by decide +kernel
theorem dX2_takeNumber_91 : decode cX2_takeNumber 91 = .ok (.invokestatic 62, 3) := by decide +kernel
theorem dX2_takeNumber_94 : decode cX2_takeNumber 94 = .ok (.istore 7, 2) := by decide +kernel
theorem dX2_takeNumber_96 : decode cX2_takeNumber 96 = .ok (.iload 6, 2) := by decide +kernel
theorem dX2_takeNumber_98 : decode cX2_takeNumber 98 = .ok (.ifCond .ne 8, 3) := by decide +kernel
theorem dX2_takeNumber_101 : decode cX2_takeNumber 101 = .ok (.iload 7, 2) := by decide +kernel
theorem dX2_takeNumber_103 : decode cX2_takeNumber 103 = .ok (.ifCond .eq 11, 3) := by decide +kernel
theorem dX2_takeNumber_106 : decode cX2_takeNumber 106 = .ok (.aload_n 0, 1) := by decide +kernel
theorem dX2_takeNumber_107 : decode cX2_takeNumber 107 = .ok (.aload_n 0, 1) := by decide +kernel
theorem dX2_takeNumber_108 : decode cX2_takeNumber 108 = .ok (.getfield 29, 3) := by decide +kernel
theorem dX2_takeNumber_111 : decode cX2_takeNumber 111 = .ok (.invokevirtual 48, 3) := by decide +kernel
theorem dX2_takeNumber_114 : decode cX2_takeNumber 114 = .ok (.iload 4, 2) := by decide +kernel
theorem dX2_takeNumber_116 : decode cX2_takeNumber 116 = .ok (.iload_n 1, 1) := by decide +kernel
theorem dX2_takeNumber_117 : decode cX2_takeNumber 117 = .ok (.iload_n 2, 1) := by decide +kernel
theorem dX2_takeNumber_118 : decode cX2_takeNumber 118 = .ok (.invokestatic 109, 3) := by decide +kernel
theorem dX2_takeNumber_121 : decode cX2_takeNumber 121 = .ok (.ifCond .ne 8, 3) := by decide +kernel
theorem dX2_takeNumber_124 : decode cX2_takeNumber 124 = .ok (.aload_n 0, 1) := by decide +kernel
theorem dX2_takeNumber_125 : decode cX2_takeNumber 125 = .ok (.iload_n 3, 1) := by decide +kernel
theorem dX2_takeNumber_126 : decode cX2_takeNumber 126 = .ok (.invokevirtual 48, 3) := by decide +kernel
theorem dX2_takeNumber_129 : decode cX2_takeNumber 129 = .ok (.iload 4, 2) := by decide +kernel
theorem dX2_takeNumber_131 : decode cX2_takeNumber 131 = .ok (.ireturn, 1) := by decide +kernel
theorem dX2_take_0 : decode cX2_take 0 = .ok (.aload_n 0, 1) := by decide +kernel
theorem dX2_take_1 : decode cX2_take 1 = .ok (.iload_n 1, 1) := by decide +kernel
theorem dX2_take_2 : decode cX2_take 2 = .ok (.invokevirtual 77, 3) := by decide +kernel
theorem dX2_take_5 : decode cX2_take 5 = .ok (.ifCond .ne 11, 3) := by decide +kernel
theorem dX2_take_8 : decode cX2_take 8 = .ok (.aload_n 0, 1) := by decide +kernel
theorem dX2_take_9 : decode cX2_take 9 = .ok (.aload_n 0, 1) := by decide +kernel
theorem dX2_take_10 : decode cX2_take 10 = .ok (.getfield 29, 3) := by decide +kernel
theorem dX2_take_13 : decode cX2_take 13 = .ok (.invokevirtual 48, 3) := by decide +kernel
theorem dX2_take_16 : decode cX2_take 16 = .ok (.return_, 1) := by decide +kernel
theorem dX2_takeIf_0 : decode cX2_takeIf 0 = .ok (.aload_n 0, 1) := by decide +kernel
theorem dX2_takeIf_1 : decode cX2_takeIf 1 = .ok (.invokevirtual 41, 3) := by decide +kernel
theorem dX2_takeIf_4 : decode cX2_takeIf 4 = .ok (.ifCond .ne 15, 3) := by decide +kernel
theorem dX2_takeIf_7 : decode cX2_takeIf 7 = .ok (.aload_n 0, 1) := by decide +kernel
theorem dX2_takeIf_8 : decode cX2_takeIf 8 = .ok (.invokevirtual 52, 3) := by decide +kernel
theorem dX2_takeIf_11 : decode cX2_takeIf 11 = .ok (.iload_n 1, 1) := by decide +kernel
theorem dX2_takeIf_12 : decode cX2_takeIf 12 = .ok (.if_icmp .ne 7, 3) := by decide +kernel
theorem dX2_takeIf_15 : decode cX2_takeIf 15 = .ok (.iconst 1, 1) := by decide +kernel
theorem dX2_takeIf_16 : decode cX2_takeIf 16 = .ok (.goto 4, 3) := by decide +kernel
theorem dX2_takeIf_19 : decode cX2_takeIf 19 = .ok (.iconst 0, 1) := by decide +kernel
theorem dX2_takeIf_20 : decode cX2_takeIf 20 = .ok (.istore_n 2, 1) := by decide +kernel
theorem dX2_takeIf_21 : decode cX2_takeIf 21 = .ok (.iload_n 2, 1) := by decide +kernel
theorem dX2_takeIf_22 : decode cX2_takeIf 22 = .ok (.ifCond .eq 13, 3) := by decide +kernel
theorem dX2_takeIf_25 : decode cX2_takeIf 25 = .ok (.aload_n 0, 1) := by decide +kernel
theorem dX2_takeIf_26 : decode cX2_takeIf 26 = .ok (.dup, 1) := by decide +kernel
theorem dX2_takeIf_27 : decode cX2_takeIf 27 = .ok (.getfield 29, 3) := by decide +kernel
theorem dX2_takeIf_30 : decode cX2_takeIf 30 = .ok (.iconst 1, 1) := by decide +kernel
theorem dX2_takeIf_31 : decode cX2_takeIf 31 = .ok (.iadd, 1) := by decide +kernel
theorem dX2_takeIf_32 : decode cX2_takeIf 32 = .ok (.putfield 29, 3) := by decide +kernel
theorem dX2_takeIf_35 : decode cX2_takeIf 35 = .ok (.iload_n 2, 1) := by decide +kernel
theorem dX2_takeIf_36 : decode cX2_takeIf 36 = .ok (.ireturn, 1) := by decide +kernel
theorem dX2_skip_0 : decode cX2_skip 0 = .ok (.aload_n 0, 1) := by decide +kernel
theorem dX2_skip_1 : decode cX2_skip 1 = .ok (.invokevirtual 41, 3) := by decide +kernel
theorem dX2_skip_4 : decode cX2_skip 4 = .ok (.ifCond .ne 13, 3) := by decide +kernel
theorem dX2_skip_7 : decode cX2_skip 7 = .ok (.aload_n 0, 1) := by decide +kernel
theorem dX2_skip_8 : decode cX2_skip 8 = .ok (.dup, 1) := by decide +kernel
theorem dX2_skip_9 : decode cX2_skip 9 = .ok (.getfield 29, 3) := by decide +kernel
theorem dX2_skip_12 : decode cX2_skip 12 = .ok (.iconst 1, 1) := by decide +kernel
theorem dX2_skip_13 : decode cX2_skip 13 = .ok (.iadd, 1) := by decide +kernel
theorem dX2_skip_14 : decode cX2_skip 14 = .ok (.putfield 29, 3) := by decide +kernel
theorem dX2_skip_17 : decode cX2_skip 17 = .ok (.return_, 1) := by decide +kernel
theorem dX2_sign_0 : decode cX2_sign 0 = .ok (.aload_n 0, 1) := by decide +kernel
theorem dX2_sign_1 : decode cX2_sign 1 = .ok (.getfield 29, 3) := by decide +kernel
theorem dX2_sign_4 : decode cX2_sign 4 = .ok (.aload_n 0, 1) := by decide +kernel
theorem dX2_sign_5 : decode cX2_sign 5 = .ok (.getfield 38, 3) := by decide +kernel
theorem dX2_sign_8 : decode cX2_sign 8 = .ok (.if_icmp .ge 15, 3) := by decide +kernel
theorem dX2_sign_11 : decode cX2_sign 11 = .ok (.aload_n 0, 1) := by decide +kernel
theorem dX2_sign_12 : decode cX2_sign 12 = .ok (.getfield 9, 3) := by decide +kernel
theorem dX2_sign_15 : decode cX2_sign 15 = .ok (.aload_n 0, 1) := by decide +kernel
theorem dX2_sign_16 : decode cX2_sign 16 = .ok (.getfield 29, 3) := by decide +kernel
theorem dX2_sign_19 : decode cX2_sign 19 = .ok (.iaload, 1) := by decide +kernel
theorem dX2_sign_20 : decode cX2_sign 20 = .ok (.goto 4, 3) := by decide +kernel
theorem dX2_sign_23 : decode cX2_sign 23 = .ok (.iconst 0, 1) := by decide +kernel
theorem dX2_sign_24 : decode cX2_sign 24 = .ok (.ireturn, 1) := by decide +kernel
theorem dX2_isDigit_0 : decode cX2_isDigit 0 = .ok (.iload_n 0, 1) := by decide +kernel
theorem dX2_isDigit_1 : decode cX2_isDigit 1 = .ok (.bipush 48, 2) := by decide +kernel
theorem dX2_isDigit_3 : decode cX2_isDigit 3 = .ok (.bipush 57, 2) := by decide +kernel
theorem dX2_isDigit_5 : decode cX2_isDigit 5 = .ok (.invokestatic 109, 3) := by decide +kernel
theorem dX2_isDigit_8 : decode cX2_isDigit 8 = .ok (.ireturn, 1) := by decide +kernel
theorem dX2_failAt_0 : decode cX2_failAt 0 = .ok (.aload_n 0, 1) := by decide +kernel
theorem dX2_failAt_1 : decode cX2_failAt 1 = .ok (.invokevirtual 41, 3) := by decide +kernel
theorem dX2_failAt_4 : decode cX2_failAt 4 = .ok (.ifCond .ne 8, 3) := by decide +kernel
theorem dX2_failAt_7 : decode cX2_failAt 7 = .ok (.aload_n 0, 1) := by decide +kernel
theorem dX2_failAt_8 : decode cX2_failAt 8 = .ok (.iload_n 1, 1) := by decide +kernel
theorem dX2_failAt_9 : decode cX2_failAt 9 = .ok (.putfield 21, 3) := by decide +kernel
theorem dX2_failAt_12 : decode cX2_failAt 12 = .ok (.return_, 1) := by decide +kernel
theorem dX2_hasFailed_0 : decode cX2_hasFailed 0 = .ok (.aload_n 0, 1) := by decide +kernel
theorem dX2_hasFailed_1 : decode cX2_hasFailed 1 = .ok (.getfield 21, 3) := by decide +kernel
theorem dX2_hasFailed_4 : decode cX2_hasFailed 4 = .ok (.iconst (-1), 1) := by decide +kernel
theorem dX2_hasFailed_5 : decode cX2_hasFailed 5 = .ok (.if_icmp .eq 7, 3) := by decide +kernel
theorem dX2_hasFailed_8 : decode cX2_hasFailed 8 = .ok (.iconst 1, 1) := by decide +kernel
theorem dX2_hasFailed_9 : decode cX2_hasFailed 9 = .ok (.goto 4, 3) := by decide +kernel
theorem dX2_hasFailed_12 : decode cX2_hasFailed 12 = .ok (.iconst 0, 1) := by decide +kernel
theorem dX2_hasFailed_13 : decode cX2_hasFailed 13 = .ok (.ireturn, 1) := by decide +kernel
theorem dX3_init_0 : decode cX3_init 0 = .ok (.aload_n 0, 1) := by decide +kernel
theorem dX3_init_1 : decode cX3_init 1 = .ok (.invokespecial 3, 3) := by decide +kernel
theorem dX3_init_4 : decode cX3_init 4 = .ok (.aload_n 0, 1) := by decide +kernel
theorem dX3_init_5 : decode cX3_init 5 = .ok (.bipush 20, 2) := by decide +kernel
theorem dX3_init_7 : decode cX3_init 7 = .ok (.putfield 9, 3) := by decide +kernel
theorem dX3_init_10 : decode cX3_init 10 = .ok (.aload_n 0, 1) := by decide +kernel
theorem dX3_init_11 : decode cX3_init 11 = .ok (.bipush 12, 2) := by decide +kernel
theorem dX3_init_13 : decode cX3_init 13 = .ok (.newarray .int, 2) := by decide +kernel
theorem dX3_init_15 : decode cX3_init 15 = .ok (.putfield 15, 3) := by decide +kernel
theorem dX3_init_18 : decode cX3_init 18 = .ok (.aload_n 0, 1) := by decide +kernel
theorem dX3_init_19 : decode cX3_init 19 = .ok (.bipush 12, 2) := by decide +kernel
theorem dX3_init_21 : decode cX3_init 21 = .ok (.newarray .int, 2) := by decide +kernel
theorem dX3_init_23 : decode cX3_init 23 = .ok (.putfield 19, 3) := by decide +kernel
theorem dX3_init_26 : decode cX3_init 26 = .ok (.aload_n 0, 1) := by decide +kernel
theorem dX3_init_27 : decode cX3_init 27 = .ok (.bipush 12, 2) := by decide +kernel
theorem dX3_init_29 : decode cX3_init 29 = .ok (.newarray .int, 2) := by decide +kernel
theorem dX3_init_31 : decode cX3_init 31 = .ok (.putfield 22, 3) := by decide +kernel
theorem dX3_init_34 : decode cX3_init 34 = .ok (.aload_n 0, 1) := by decide +kernel
theorem dX3_init_35 : decode cX3_init 35 = .ok (.bipush 12, 2) := by decide +kernel
theorem dX3_init_37 : decode cX3_init 37 = .ok (.newarray .int, 2) := by decide +kernel
theorem dX3_init_39 : decode cX3_init 39 = .ok (.putfield 25, 3) := by decide +kernel
theorem dX3_init_42 : decode cX3_init 42 = .ok (.aload_n 0, 1) := by decide +kernel
theorem dX3_init_43 : decode cX3_init 43 = .ok (.bipush 12, 2) := by decide +kernel
theorem dX3_init_45 : decode cX3_init 45 = .ok (.newarray .int, 2) := by decide +kernel
theorem dX3_init_47 : decode cX3_init 47 = .ok (.putfield 28, 3) := by decide +kernel
theorem dX3_init_50 : decode cX3_init 50 = .ok (.aload_n 0, 1) := by decide +kernel
theorem dX3_init_51 : decode cX3_init 51 = .ok (.bipush 12, 2) := by decide +kernel
theorem dX3_init_53 : decode cX3_init 53 = .ok (.newarray .int, 2) := by decide +kernel
theorem dX3_init_55 : decode cX3_init 55 = .ok (.putfield 31, 3) := by decide +kernel
theorem dX3_init_58 : decode cX3_init 58 = .ok (.aload_n 0, 1) := by decide +kernel
theorem dX3_init_59 : decode cX3_init 59 = .ok (.bipush 12, 2) := by decide +kernel
theorem dX3_init_61 : decode cX3_init 61 = .ok (.newarray .int, 2) := by decide +kernel
theorem dX3_init_63 : decode cX3_init 63 = .ok (.putfield 34, 3) := by decide +kernel
theorem dX3_init_66 : decode cX3_init 66 = .ok (.aload_n 0, 1) := by decide +kernel
theorem dX3_init_67 : decode cX3_init 67 = .ok (.bipush 12, 2) := by decide +kernel
theorem dX3_init_69 : decode cX3_init 69 = .ok (.newarray .int, 2) := by decide +kernel
theorem dX3_init_71 : decode cX3_init 71 = .ok (.putfield 37, 3) := by decide +kernel
theorem dX3_init_74 : decode cX3_init 74 = .ok (.aload_n 0, 1) := by decide +kernel
theorem dX3_init_75 : decode cX3_init 75 = .ok (.sipush 1152, 3) := by decide +kernel
theorem dX3_init_78 : decode cX3_init 78 = .ok (.newarray .int, 2) := by decide +kernel
theorem dX3_init_80 : decode cX3_init 80 = .ok (.putfield 40, 3) := by decide +kernel
theorem dX3_init_83 : decode cX3_init 83 = .ok (.aload_n 0, 1) := by decide +kernel
theorem dX3_init_84 : decode cX3_init 84 = .ok (.bipush 96, 2) := by decide +kernel
theorem dX3_init_86 : decode cX3_init 86 = .ok (.newarray .int, 2) := by decide +kernel
theorem dX3_init_88 : decode cX3_init 88 = .ok (.putfield 43, 3) := by decide +kernel
theorem dX3_init_91 : decode cX3_init 91 = .ok (.aload_n 0, 1) := by decide +kernel
theorem dX3_init_92 : decode cX3_init 92 = .ok (.bipush 96, 2) := by decide +kernel
theorem dX3_init_94 : decode cX3_init 94 = .ok (.newarray .int, 2) := by decide +kernel
theorem dX3_init_96 : decode cX3_init 96 = .ok (.putfield 46, 3) := by decide +kernel
theorem dX3_init_99 : decode cX3_init 99 = .ok (.aload_n 0, 1) := by decide +kernel
theorem dX3_init_100 : decode cX3_init 100 = .ok (.bipush 96, 2) := by decide +kernel
theorem dX3_init_102 : decode cX3_init 102 = .ok (.newarray .int, 2) := by decide +kernel
theorem dX3_init_104 : decode cX3_init 104 = .ok (.putfield 49, 3) := by decide +kernel
theorem dX3_init_107 : decode cX3_init 107 = .ok (.aload_n 0, 1) := by decide +kernel
theorem dX3_init_108 : decode cX3_init 108 = .ok (.bipush 96, 2) := by decide +kernel
theorem dX3_init_110 : decode cX3_init 110 = .ok (.newarray .int, 2) := by decide +kernel
theorem dX3_init_112 : decode cX3_init 112 = .ok (.putfield 52, 3) := by decide +kernel
theorem dX3_init_115 : decode cX3_init 115 = .ok (.aload_n 0, 1) := by decide +kernel
theorem dX3_init_116 : decode cX3_init 116 = .ok (.bipush 96, 2) := by decide +kernel
theorem dX3_init_118 : decode cX3_init 118 = .ok (.newarray .int, 2) := by decide +kernel
theorem dX3_init_120 : decode cX3_init 120 = .ok (.putfield 55, 3) := by decide +kernel
theorem dX3_init_123 : decode cX3_init 123 = .ok (.aload_n 0, 1) := by decide +kernel
theorem dX3_init_124 : decode cX3_init 124 = .ok (.iconst 4, 1) := by decide +kernel
theorem dX3_init_125 : decode cX3_init 125 = .ok (.newarray .int, 2) := by decide +kernel
theorem dX3_init_127 : decode cX3_init 127 = .ok (.putfield 58, 3) := by decide +kernel
theorem dX3_init_130 : decode cX3_init 130 = .ok (.return_, 1) := by decide +kernel
theorem dX3_copyFrom_0 : decode cX3_copyFrom 0 = .ok (.aload_n 0, 1) := by decide +kernel
theorem dX3_copyFrom_1 : decode cX3_copyFrom 1 = .ok (.aload_n 1, 1) := by decide +kernel
theorem dX3_copyFrom_2 : decode cX3_copyFrom 2 = .ok (.getfield 61, 3) := by decide +kernel
theorem dX3_copyFrom_5 : decode cX3_copyFrom 5 = .ok (.putfield 61, 3) := by decide +kernel
theorem dX3_copyFrom_8 : decode cX3_copyFrom 8 = .ok (.aload_n 0, 1) := by decide +kernel
theorem dX3_copyFrom_9 : decode cX3_copyFrom 9 = .ok (.aload_n 1, 1) := by decide +kernel
theorem dX3_copyFrom_10 : decode cX3_copyFrom 10 = .ok (.getfield 9, 3) := by decide +kernel
theorem dX3_copyFrom_13 : decode cX3_copyFrom 13 = .ok (.putfield 9, 3) := by decide +kernel
theorem dX3_copyFrom_16 : decode cX3_copyFrom 16 = .ok (.aload_n 0, 1) := by decide +kernel
theorem dX3_copyFrom_17 : decode cX3_copyFrom 17 = .ok (.aload_n 1, 1) := by decide +kernel
theorem dX3_copyFrom_18 : decode cX3_copyFrom 18 = .ok (.getfield 64, 3) := by decide +kernel
theorem dX3_copyFrom_21 : decode cX3_copyFrom 21 = .ok (.putfield 64, 3) := by decide +kernel
theorem dX3_copyFrom_24 : decode cX3_copyFrom 24 = .ok (.aload_n 0, 1) := by decide +kernel
theorem dX3_copyFrom_25 : decode cX3_copyFrom 25 = .ok (.aload_n 1, 1) := by decide +kernel
theorem dX3_copyFrom_26 : decode cX3_copyFrom 26 = .ok (.getfield 67, 3) := by decide +kernel
theorem dX3_copyFrom_29 : decode cX3_copyFrom 29 = .ok (.putfield 67, 3) := by decide +kernel
theorem dX3_copyFrom_32 : decode cX3_copyFrom 32 = .ok (.aload_n 1, 1) := by decide +kernel
theorem dX3_copyFrom_33 : decode cX3_copyFrom 33 = .ok (.getfield 15, 3) := by decide +kernel
theorem dX3_copyFrom_36 : decode cX3_copyFrom 36 = .ok (.iconst 0, 1) := by decide +kernel
theorem dX3_copyFrom_37 : decode cX3_copyFrom 37 = .ok (.aload_n 0, 1) := by decide +kernel
theorem dX3_copyFrom_38 : decode cX3_copyFrom 38 = .ok (.getfield 15, 3) := by decide +kernel
theorem dX3_copyFrom_41 : decode cX3_copyFrom 41 = .ok (.iconst 0, 1) := by decide +kernel
theorem dX3_copyFrom_42 : decode cX3_copyFrom 42 = .ok (.bipush 12, 2) := by decide +kernel
theorem dX3_copyFrom_44 : decode cX3_copyFrom 44 = .ok (.invokestatic 70, 3) := by decide +kernel
theorem dX3_copyFrom_47 : decode cX3_copyFrom 47 = .ok (.aload_n 1, 1) := by decide +kernel
theorem dX3_copyFrom_48 : decode cX3_copyFrom 48 = .ok (.getfield 19, 3) := by decide +kernel
theorem dX3_copyFrom_51 : decode cX3_copyFrom 51 = .ok (.iconst 0, 1) := by decide +kernel
theorem dX3_copyFrom_52 : decode cX3_copyFrom 52 = .ok (.aload_n 0, 1) := by decide +kernel
theorem dX3_copyFrom_53 : decode cX3_copyFrom 53 = .ok (.getfield 19, 3) := by decide +kernel
theorem dX3_copyFrom_56 : decode cX3_copyFrom 56 = .ok (.iconst 0, 1) := by decide +kernel
theorem dX3_copyFrom_57 : decode cX3_copyFrom 57 = .ok (.bipush 12, 2) := by decide +kernel
theorem dX3_copyFrom_59 : decode cX3_copyFrom 59 = .ok (.invokestatic 70, 3) := by decide +kernel
theorem dX3_copyFrom_62 : decode cX3_copyFrom 62 = .ok (.aload_n 1, 1) := by decide +kernel
theorem dX3_copyFrom_63 : decode cX3_copyFrom 63 = .ok (.getfield 22, 3) := by decide +kernel
theorem dX3_copyFrom_66 : decode cX3_copyFrom 66 = .ok (.iconst 0, 1) := by decide +kernel
theorem dX3_copyFrom_67 : decode cX3_copyFrom 67 = .ok (.aload_n 0, 1) := by decide +kernel
theorem dX3_copyFrom_68 : decode cX3_copyFrom 68 = .ok (.getfield 22, 3) := by decide +kernel
theorem dX3_copyFrom_71 : decode cX3_copyFrom 71 = .ok (.iconst 0, 1) := by decide +kernel
theorem dX3_copyFrom_72 : decode cX3_copyFrom 72 = .ok (.bipush 12, 2) := by decide +kernel
theorem dX3_copyFrom_74 : decode cX3_copyFrom 74 = .ok (.invokestatic 70, 3) := by decide +kernel
theorem dX3_copyFrom_77 : decode cX3_copyFrom 77 = .ok (.aload_n 1, 1) := by decide +kernel
theorem dX3_copyFrom_78 : decode cX3_copyFrom 78 = .ok (.getfield 25, 3) := by decide +kernel
theorem dX3_copyFrom_81 : decode cX3_copyFrom 81 = .ok (.iconst 0, 1) := by decide +kernel
theorem dX3_copyFrom_82 : decode cX3_copyFrom 82 = .ok (.aload_n 0, 1) := by decide +kernel
theorem dX3_copyFrom_83 : decode cX3_copyFrom 83 = .ok (.getfield 25, 3) := by decide +kernel
theorem dX3_copyFrom_86 : decode cX3_copyFrom 86 = .ok (.iconst 0, 1) := by decide +kernel
theorem dX3_copyFrom_87 : decode cX3_copyFrom 87 = .ok (.bipush 12, 2) := by decide +kernel
theorem dX3_copyFrom_89 : decode cX3_copyFrom 89 = .ok (.invokestatic 70, 3) := by decide +kernel
theorem dX3_copyFrom_92 : decode cX3_copyFrom 92 = .ok (.aload_n 1, 1) := by decide +kernel
theorem dX3_copyFrom_93 : decode cX3_copyFrom 93 = .ok (.getfield 28, 3) := by decide +kernel
theorem dX3_copyFrom_96 : decode cX3_copyFrom 96 = .ok (.iconst 0, 1) := by decide +kernel
theorem dX3_copyFrom_97 : decode cX3_copyFrom 97 = .ok (.aload_n 0, 1) := by decide +kernel
theorem dX3_copyFrom_98 : decode cX3_copyFrom 98 = .ok (.getfield 28, 3) := by decide +kernel
theorem dX3_copyFrom_101 : decode cX3_copyFrom 101 = .ok (.iconst 0, 1) := by decide +kernel
theorem dX3_copyFrom_102 : decode cX3_copyFrom 102 = .ok (.bipush 12, 2) := by decide +kernel
theorem dX3_copyFrom_104 : decode cX3_copyFrom 104 = .ok (.invokestatic 70, 3) := by decide +kernel
theorem dX3_copyFrom_107 : decode cX3_copyFrom 107 = .ok (.aload_n 1, 1) := by decide +kernel
theorem dX3_copyFrom_108 : decode cX3_copyFrom 108 = .ok (.getfield 31, 3) := by decide +kernel
theorem dX3_copyFrom_111 : decode cX3_copyFrom 111 = .ok (.iconst 0, 1) := by decide +kernel
theorem dX3_copyFrom_112 : decode cX3_copyFrom 112 = .ok (.aload_n 0, 1) := by decide +kernel
theorem dX3_copyFrom_113 : decode cX3_copyFrom 113 = .ok (.getfield 31, 3) := by decide +kernel
theorem dX3_copyFrom_116 : decode cX3_copyFrom 116 = .ok (.iconst 0, 1) := by decide +kernel
theorem dX3_copyFrom_117 : decode cX3_copyFrom 117 = .ok (.bipush 12, 2) := by decide +kernel
theorem dX3_copyFrom_119 : decode cX3_copyFrom 119 = .ok (.invokestatic 70, 3) := by decide +kernel
theorem dX3_copyFrom_122 : decode cX3_copyFrom 122 = .ok (.aload_n 1, 1) := by decide +kernel
theorem dX3_copyFrom_123 : decode cX3_copyFrom 123 = .ok (.getfield 34, 3) := by decide +kernel
theorem dX3_copyFrom_126 : decode cX3_copyFrom 126 = .ok (.iconst 0, 1) := by decide +kernel
theorem dX3_copyFrom_127 : decode cX3_copyFrom 127 = .ok (.aload_n 0, 1) := by decide +kernel
theorem dX3_copyFrom_128 : decode cX3_copyFrom 128 = .ok (.getfield 34, 3) := by decide +kernel
theorem dX3_copyFrom_131 : decode cX3_copyFrom 131 = .ok (.iconst 0, 1) := by decide +kernel
theorem dX3_copyFrom_132 : decode cX3_copyFrom 132 = .ok (.bipush 12, 2) := by decide +kernel
theorem dX3_copyFrom_134 : decode cX3_copyFrom 134 = .ok (.invokestatic 70, 3) := by decide +kernel
theorem dX3_copyFrom_137 : decode cX3_copyFrom 137 = .ok (.aload_n 1, 1) := by decide +kernel
theorem dX3_copyFrom_138 : decode cX3_copyFrom 138 = .ok (.getfield 37, 3) := by decide +kernel
theorem dX3_copyFrom_141 : decode cX3_copyFrom 141 = .ok (.iconst 0, 1) := by decide +kernel
theorem dX3_copyFrom_142 : decode cX3_copyFrom 142 = .ok (.aload_n 0, 1) := by decide +kernel
theorem dX3_copyFrom_143 : decode cX3_copyFrom 143 = .ok (.getfield 37, 3) := by decide +kernel
theorem dX3_copyFrom_146 : decode cX3_copyFrom 146 = .ok (.iconst 0, 1) := by decide +kernel
theorem dX3_copyFrom_147 : decode cX3_copyFrom 147 = .ok (.bipush 12, 2) := by decide +kernel
theorem dX3_copyFrom_149 : decode cX3_copyFrom 149 = .ok (.invokestatic 70, 3) := by decide +kernel
theorem dX3_copyFrom_152 : decode cX3_copyFrom 152 = .ok (.aload_n 1, 1) := by decide +kernel
theorem dX3_copyFrom_153 : decode cX3_copyFrom 153 = .ok (.getfield 40, 3) := by decide +kernel
theorem dX3_copyFrom_156 : decode cX3_copyFrom 156 = .ok (.iconst 0, 1) := by decide +kernel
theorem dX3_copyFrom_157 : decode cX3_copyFrom 157 = .ok (.aload_n 0, 1) := by decide +kernel
theorem dX3_copyFrom_158 : decode cX3_copyFrom 158 = .ok (.getfield 40, 3) := by decide +kernel
theorem dX3_copyFrom_161 : decode cX3_copyFrom 161 = .ok (.iconst 0, 1) := by decide +kernel
theorem dX3_copyFrom_162 : decode cX3_copyFrom 162 = .ok (.sipush 1152, 3) := by decide +kernel
theorem dX3_copyFrom_165 : decode cX3_copyFrom 165 = .ok (.invokestatic 70, 3) := by decide +kernel
theorem dX3_copyFrom_168 : decode cX3_copyFrom 168 = .ok (.aload_n 1, 1) := by decide +kernel
theorem dX3_copyFrom_169 : decode cX3_copyFrom 169 = .ok (.getfield 43, 3) := by decide +kernel
theorem dX3_copyFrom_172 : decode cX3_copyFrom 172 = .ok (.iconst 0, 1) := by decide +kernel
theorem dX3_copyFrom_173 : decode cX3_copyFrom 173 = .ok (.aload_n 0, 1) := by decide +kernel
theorem dX3_copyFrom_174 : decode cX3_copyFrom 174 = .ok (.getfield 43, 3) := by decide +kernel
theorem dX3_copyFrom_177 : decode cX3_copyFrom 177 = .ok (.iconst 0, 1) := by decide +kernel
theorem dX3_copyFrom_178 : decode cX3_copyFrom 178 = .ok (.bipush 96, 2) := by decide +kernel
theorem dX3_copyFrom_180 : decode cX3_copyFrom 180 = .ok (.invokestatic 70, 3) := by decide +kernel
theorem dX3_copyFrom_183 : decode cX3_copyFrom 183 = .ok (.aload_n 1, 1) := by decide +kernel
theorem dX3_copyFrom_184 : decode cX3_copyFrom 184 = .ok (.getfield 46, 3) := by decide +kernel
theorem dX3_copyFrom_187 : decode cX3_copyFrom 187 = .ok (.iconst 0, 1) := by decide +kernel
theorem dX3_copyFrom_188 : decode cX3_copyFrom 188 = .ok (.aload_n 0, 1) := by decide +kernel
theorem dX3_copyFrom_189 : decode cX3_copyFrom 189 = .ok (.getfield 46, 3) := by decide +kernel
theorem dX3_copyFrom_192 : decode cX3_copyFrom 192 = .ok (.iconst 0, 1) := by decide +kernel
theorem dX3_copyFrom_193 : decode cX3_copyFrom 193 = .ok (.bipush 96, 2) := by decide +kernel
theorem dX3_copyFrom_195 : decode cX3_copyFrom 195 = .ok (.invokestatic 70, 3) := by decide +kernel
theorem dX3_copyFrom_198 : decode cX3_copyFrom 198 = .ok (.aload_n 1, 1) := by decide +kernel
theorem dX3_copyFrom_199 : decode cX3_copyFrom 199 = .ok (.getfield 49, 3) := by decide +kernel
theorem dX3_copyFrom_202 : decode cX3_copyFrom 202 = .ok (.iconst 0, 1) := by decide +kernel
theorem dX3_copyFrom_203 : decode cX3_copyFrom 203 = .ok (.aload_n 0, 1) := by decide +kernel
theorem dX3_copyFrom_204 : decode cX3_copyFrom 204 = .ok (.getfield 49, 3) := by decide +kernel
theorem dX3_copyFrom_207 : decode cX3_copyFrom 207 = .ok (.iconst 0, 1) := by decide +kernel
theorem dX3_copyFrom_208 : decode cX3_copyFrom 208 = .ok (.bipush 96, 2) := by decide +kernel
theorem dX3_copyFrom_210 : decode cX3_copyFrom 210 = .ok (.invokestatic 70, 3) := by decide +kernel
theorem dX3_copyFrom_213 : decode cX3_copyFrom 213 = .ok (.aload_n 1, 1) := by decide +kernel
theorem dX3_copyFrom_214 : decode cX3_copyFrom 214 = .ok (.getfield 52, 3) := by decide +kernel
theorem dX3_copyFrom_217 : decode cX3_copyFrom 217 = .ok (.iconst 0, 1) := by decide +kernel
theorem dX3_copyFrom_218 : decode cX3_copyFrom 218 = .ok (.aload_n 0, 1) := by decide +kernel
theorem dX3_copyFrom_219 : decode cX3_copyFrom 219 = .ok (.getfield 52, 3) := by decide +kernel
theorem dX3_copyFrom_222 : decode cX3_copyFrom 222 = .ok (.iconst 0, 1) := by decide +kernel
theorem dX3_copyFrom_223 : decode cX3_copyFrom 223 = .ok (.bipush 96, 2) := by decide +kernel
theorem dX3_copyFrom_225 : decode cX3_copyFrom 225 = .ok (.invokestatic 70, 3) := by decide +kernel
theorem dX3_copyFrom_228 : decode cX3_copyFrom 228 = .ok (.aload_n 1, 1) := by decide +kernel
theorem dX3_copyFrom_229 : decode cX3_copyFrom 229 = .ok (.getfield 55, 3) := by decide +kernel
theorem dX3_copyFrom_232 : decode cX3_copyFrom 232 = .ok (.iconst 0, 1) := by decide +kernel
theorem dX3_copyFrom_233 : decode cX3_copyFrom 233 = .ok (.aload_n 0, 1) := by decide +kernel
theorem dX3_copyFrom_234 : decode cX3_copyFrom 234 = .ok (.getfield 55, 3) := by decide +kernel
theorem dX3_copyFrom_237 : decode cX3_copyFrom 237 = .ok (.iconst 0, 1) := by decide +kernel
theorem dX3_copyFrom_238 : decode cX3_copyFrom 238 = .ok (.bipush 96, 2) := by decide +kernel
theorem dX3_copyFrom_240 : decode cX3_copyFrom 240 = .ok (.invokestatic 70, 3) := by decide +kernel
theorem dX3_copyFrom_243 : decode cX3_copyFrom 243 = .ok (.aload_n 1, 1) := by decide +kernel
theorem dX3_copyFrom_244 : decode cX3_copyFrom 244 = .ok (.getfield 58, 3) := by decide +kernel
theorem dX3_copyFrom_247 : decode cX3_copyFrom 247 = .ok (.iconst 0, 1) := by decide +kernel
theorem dX3_copyFrom_248 : decode cX3_copyFrom 248 = .ok (.aload_n 0, 1) := by decide +kernel
theorem dX3_copyFrom_249 : decode cX3_copyFrom 249 = .ok (.getfield 58, 3) := by decide +kernel
theorem dX3_copyFrom_252 : decode cX3_copyFrom 252 = .ok (.iconst 0, 1) := by decide +kernel
theorem dX3_copyFrom_253 : decode cX3_copyFrom 253 = .ok (.iconst 4, 1) := by decide +kernel
theorem dX3_copyFrom_254 : decode cX3_copyFrom 254 = .ok (.invokestatic 70, 3) := by decide +kernel
theorem dX3_copyFrom_257 : decode cX3_copyFrom 257 = .ok (.return_, 1) := by decide +kernel
theorem dX3_markedBid_0 : decode cX3_markedBid 0 = .ok (.aload_n 0, 1) := by decide +kernel
theorem dX3_markedBid_1 : decode cX3_markedBid 1 = .ok (.getfield 40, 3) := by decide +kernel
theorem dX3_markedBid_4 : decode cX3_markedBid 4 = .ok (.iload_n 1, 1) := by decide +kernel
theorem dX3_markedBid_5 : decode cX3_markedBid 5 = .ok (.bipush 96, 2) := by decide +kernel
theorem dX3_markedBid_7 : decode cX3_markedBid 7 = .ok (.imul, 1) := by decide +kernel
theorem dX3_markedBid_8 : decode cX3_markedBid 8 = .ok (.iload_n 2, 1) := by decide +kernel
theorem dX3_markedBid_9 : decode cX3_markedBid 9 = .ok (.iadd, 1) := by decide +kernel
theorem dX3_markedBid_10 : decode cX3_markedBid 10 = .ok (.iaload, 1) := by decide +kernel
theorem dX3_markedBid_11 : decode cX3_markedBid 11 = .ok (.ireturn, 1) := by decide +kernel
theorem dX3_bidFor_0 : decode cX3_bidFor 0 = .ok (.aload_n 0, 1) := by decide +kernel
theorem dX3_bidFor_1 : decode cX3_bidFor 1 = .ok (.getfield 40, 3) := by decide +kernel
theorem dX3_bidFor_4 : decode cX3_bidFor 4 = .ok (.iload_n 1, 1) := by decide +kernel
theorem dX3_bidFor_5 : decode cX3_bidFor 5 = .ok (.bipush 96, 2) := by decide +kernel
theorem dX3_bidFor_7 : decode cX3_bidFor 7 = .ok (.imul, 1) := by decide +kernel
theorem dX3_bidFor_8 : decode cX3_bidFor 8 = .ok (.iload_n 2, 1) := by decide +kernel
theorem dX3_bidFor_9 : decode cX3_bidFor 9 = .ok (.iadd, 1) := by decide +kernel
theorem dX3_bidFor_10 : decode cX3_bidFor 10 = .ok (.iaload, 1) := by decide +kernel
theorem dX3_bidFor_11 : decode cX3_bidFor 11 = .ok (.istore 4, 2) := by decide +kernel
theorem dX3_bidFor_13 : decode cX3_bidFor 13 = .ok (.iload 4, 2) := by decide +kernel
theorem dX3_bidFor_15 : decode cX3_bidFor 15 = .ok (.sipush 1000, 3) := by decide +kernel
theorem dX3_bidFor_18 : decode cX3_bidFor 18 = .ok (.if_icmp .le 7, 3) := by decide +kernel
theorem dX3_bidFor_21 : decode cX3_bidFor 21 = .ok (.iconst 1, 1) := by decide +kernel
theorem dX3_bidFor_22 : decode cX3_bidFor 22 = .ok (.goto 4, 3) := by decide +kernel
theorem dX3_bidFor_25 : decode cX3_bidFor 25 = .ok (.iconst 0, 1) := by decide +kernel
theorem dX3_bidFor_26 : decode cX3_bidFor 26 = .ok (.istore 5, 2) := by decide +kernel
theorem dX3_bidFor_28 : decode cX3_bidFor 28 = .ok (.iload_n 3, 1) := by decide +kernel
theorem dX3_bidFor_29 : decode cX3_bidFor 29 = .ok (.iconst 1, 1) := by decide +kernel
theorem dX3_bidFor_30 : decode cX3_bidFor 30 = .ok (.if_icmp .ne 19, 3) := by decide +kernel
theorem dX3_bidFor_33 : decode cX3_bidFor 33 = .ok (.iload 5, 2) := by decide +kernel
theorem dX3_bidFor_35 : decode cX3_bidFor 35 = .ok (.ifCond .eq 12, 3) := by decide +kernel
theorem dX3_bidFor_38 : decode cX3_bidFor 38 = .ok (.iload 4, 2) := by decide +kernel
theorem dX3_bidFor_40 : decode cX3_bidFor 40 = .ok (.sipush 1000, 3) := by decide +kernel
theorem dX3_bidFor_43 : decode cX3_bidFor 43 = .ok (.isub, 1) := by decide +kernel
theorem dX3_bidFor_44 : decode cX3_bidFor 44 = .ok (.goto 4, 3) := by decide +kernel
theorem dX3_bidFor_47 : decode cX3_bidFor 47 = .ok (.iconst 0, 1) := by decide +kernel
theorem dX3_bidFor_48 : decode cX3_bidFor 48 = .ok (.ireturn, 1) := by decide +kernel
theorem dX3_bidFor_49 : decode cX3_bidFor 49 = .ok (.iload 5, 2) := by decide +kernel
theorem dX3_bidFor_51 : decode cX3_bidFor 51 = .ok (.ifCond .eq 7, 3) := by decide +kernel
theorem dX3_bidFor_54 : decode cX3_bidFor 54 = .ok (.iconst 0, 1) := by decide +kernel
theorem dX3_bidFor_55 : decode cX3_bidFor 55 = .ok (.goto 5, 3) := by decide +kernel
theorem dX3_bidFor_58 : decode cX3_bidFor 58 = .ok (.iload 4, 2) := by decide +kernel
theorem dX3_bidFor_60 : decode cX3_bidFor 60 = .ok (.ireturn, 1) := by decide +kernel
theorem dX3_bidAmount_0 : decode cX3_bidAmount 0 = .ok (.aload_n 0, 1) := by decide +kernel
theorem dX3_bidAmount_1 : decode cX3_bidAmount 1 = .ok (.iload_n 1, 1) := by decide +kernel
theorem dX3_bidAmount_2 : decode cX3_bidAmount 2 = .ok (.iload_n 2, 1) := by decide +kernel
theorem dX3_bidAmount_3 : decode cX3_bidAmount 3 = .ok (.iconst 0, 1) := by decide +kernel
theorem dX3_bidAmount_4 : decode cX3_bidAmount 4 = .ok (.invokevirtual 76, 3) := by decide +kernel
theorem dX3_bidAmount_7 : decode cX3_bidAmount 7 = .ok (.aload_n 0, 1) := by decide +kernel
theorem dX3_bidAmount_8 : decode cX3_bidAmount 8 = .ok (.iload_n 1, 1) := by decide +kernel
theorem dX3_bidAmount_9 : decode cX3_bidAmount 9 = .ok (.iload_n 2, 1) := by decide +kernel
theorem dX3_bidAmount_10 : decode cX3_bidAmount 10 = .ok (.iconst 1, 1) := by decide +kernel
theorem dX3_bidAmount_11 : decode cX3_bidAmount 11 = .ok (.invokevirtual 76, 3) := by decide +kernel
theorem dX3_bidAmount_14 : decode cX3_bidAmount 14 = .ok (.iadd, 1) := by decide +kernel
theorem dX3_bidAmount_15 : decode cX3_bidAmount 15 = .ok (.ireturn, 1) := by decide +kernel
theorem dX3_freeMoney_0 : decode cX3_freeMoney 0 = .ok (.aload_n 0, 1) := by decide +kernel
theorem dX3_freeMoney_1 : decode cX3_freeMoney 1 = .ok (.getfield 15, 3) := by decide +kernel
theorem dX3_freeMoney_4 : decode cX3_freeMoney 4 = .ok (.iload_n 1, 1) := by decide +kernel
theorem dX3_freeMoney_5 : decode cX3_freeMoney 5 = .ok (.iaload, 1) := by decide +kernel
theorem dX3_freeMoney_6 : decode cX3_freeMoney 6 = .ok (.aload_n 0, 1) := by decide +kernel
theorem dX3_freeMoney_7 : decode cX3_freeMoney 7 = .ok (.getfield 19, 3) := by decide +kernel
theorem dX3_freeMoney_10 : decode cX3_freeMoney 10 = .ok (.iload_n 1, 1) := by decide +kernel
theorem dX3_freeMoney_11 : decode cX3_freeMoney 11 = .ok (.iaload, 1) := by decide +kernel
theorem dX3_freeMoney_12 : decode cX3_freeMoney 12 = .ok (.isub, 1) := by decide +kernel
theorem dX3_freeMoney_13 : decode cX3_freeMoney 13 = .ok (.ireturn, 1) := by decide +kernel
theorem dX3_bidError_0 : decode cX3_bidError 0 = .ok (.iload_n 3, 1) := by decide +kernel
theorem dX3_bidError_1 : decode cX3_bidError 1 = .ok (.iconst 0, 1) := by decide +kernel
theorem dX3_bidError_2 : decode cX3_bidError 2 = .ok (.sipush 999, 3) := by decide +kernel
theorem dX3_bidError_5 : decode cX3_bidError 5 = .ok (.invokestatic 80, 3) := by decide +kernel
theorem dX3_bidError_8 : decode cX3_bidError 8 = .ok (.ifCond .ne 5, 3) := by decide +kernel
theorem dX3_bidError_11 : decode cX3_bidError 11 = .ok (.iconst (-1), 1) := by decide +kernel
theorem dX3_bidError_12 : decode cX3_bidError 12 = .ok (.ireturn, 1) := by decide +kernel
theorem dX3_bidError_13 : decode cX3_bidError 13 = .ok (.aload_n 0, 1) := by decide +kernel
theorem dX3_bidError_14 : decode cX3_bidError 14 = .ok (.iload_n 1, 1) := by decide +kernel
theorem dX3_bidError_15 : decode cX3_bidError 15 = .ok (.invokevirtual 84, 3) := by decide +kernel
theorem dX3_bidError_18 : decode cX3_bidError 18 = .ok (.aload_n 0, 1) := by decide +kernel
theorem dX3_bidError_19 : decode cX3_bidError 19 = .ok (.iload_n 1, 1) := by decide +kernel
theorem dX3_bidError_20 : decode cX3_bidError 20 = .ok (.iload_n 2, 1) := by decide +kernel
theorem dX3_bidError_21 : decode cX3_bidError 21 = .ok (.invokevirtual 88, 3) := by decide +kernel
theorem dX3_bidError_24 : decode cX3_bidError 24 = .ok (.iadd, 1) := by decide +kernel
theorem dX3_bidError_25 : decode cX3_bidError 25 = .ok (.iload_n 3, 1) := by decide +kernel
theorem dX3_bidError_26 : decode cX3_bidError 26 = .ok (.if_icmp .ge 7, 3) := by decide +kernel
theorem dX3_bidError_29 : decode cX3_bidError 29 = .ok (.iconst 1, 1) := by decide +kernel
theorem dX3_bidError_30 : decode cX3_bidError 30 = .ok (.goto 4, 3) := by decide +kernel
theorem dX3_bidError_33 : decode cX3_bidError 33 = .ok (.iconst 0, 1) := by decide +kernel
theorem dX3_bidError_34 : decode cX3_bidError 34 = .ok (.istore 4, 2) := by decide +kernel
theorem dX3_bidError_36 : decode cX3_bidError 36 = .ok (.aload_n 0, 1) := by decide +kernel
theorem dX3_bidError_37 : decode cX3_bidError 37 = .ok (.getfield 22, 3) := by decide +kernel
theorem dX3_bidError_40 : decode cX3_bidError 40 = .ok (.iload_n 1, 1) := by decide +kernel
theorem dX3_bidError_41 : decode cX3_bidError 41 = .ok (.iaload, 1) := by decide +kernel
theorem dX3_bidError_42 : decode cX3_bidError 42 = .ok (.ifCond .gt 8, 3) := by decide +kernel
theorem dX3_bidError_45 : decode cX3_bidError 45 = .ok (.iload 4, 2) := by decide +kernel
theorem dX3_bidError_47 : decode cX3_bidError 47 = .ok (.ifCond .eq 8, 3) := by decide +kernel
theorem dX3_bidError_50 : decode cX3_bidError 50 = .ok (.bipush (-2), 2) := by decide +kernel
theorem dX3_bidError_52 : decode cX3_bidError 52 = .ok (.goto 4, 3) := by decide +kernel
theorem dX3_bidError_55 : decode cX3_bidError 55 = .ok (.iconst 0, 1) := by decide +kernel
theorem dX3_bidError_56 : decode cX3_bidError 56 = .ok (.ireturn, 1) := by decide +kernel
theorem dX3_placeBid_0 : decode cX3_placeBid 0 = .ok (.aload_n 0, 1) := by decide +kernel
theorem dX3_placeBid_1 : decode cX3_placeBid 1 = .ok (.getfield 19, 3) := by decide +kernel
theorem dX3_placeBid_4 : decode cX3_placeBid 4 = .ok (.iload_n 1, 1) := by decide +kernel
theorem dX3_placeBid_5 : decode cX3_placeBid 5 = .ok (.dup2, 1) := by decide +kernel
theorem dX3_placeBid_6 : decode cX3_placeBid 6 = .ok (.iaload, 1) := by decide +kernel
theorem dX3_placeBid_7 : decode cX3_placeBid 7 = .ok (.iload 4, 2) := by decide +kernel
theorem dX3_placeBid_9 : decode cX3_placeBid 9 = .ok (.aload_n 0, 1) := by decide +kernel
theorem dX3_placeBid_10 : decode cX3_placeBid 10 = .ok (.iload_n 1, 1) := by decide +kernel
theorem dX3_placeBid_11 : decode cX3_placeBid 11 = .ok (.iload_n 2, 1) := by decide +kernel
theorem dX3_placeBid_12 : decode cX3_placeBid 12 = .ok (.invokevirtual 88, 3) := by decide +kernel
theorem dX3_placeBid_15 : decode cX3_placeBid 15 = .ok (.isub, 1) := by decide +kernel
theorem dX3_placeBid_16 : decode cX3_placeBid 16 = .ok (.iadd, 1) := by decide +kernel
theorem dX3_placeBid_17 : decode cX3_placeBid 17 = .ok (.iastore, 1) := by decide +kernel
theorem dX3_placeBid_18 : decode cX3_placeBid 18 = .ok (.iload_n 3, 1) := by decide +kernel
theorem dX3_placeBid_19 : decode cX3_placeBid 19 = .ok (.iconst 1, 1) := by decide +kernel
theorem dX3_placeBid_20 : decode cX3_placeBid 20 = .ok (.if_icmp .ne 12, 3) := by decide +kernel
theorem dX3_placeBid_23 : decode cX3_placeBid 23 = .ok (.iload 4, 2) := by decide +kernel
theorem dX3_placeBid_25 : decode cX3_placeBid 25 = .ok (.ifCond .le 7, 3) := by decide +kernel
theorem dX3_placeBid_28 : decode cX3_placeBid 28 = .ok (.iconst 1, 1) := by decide +kernel
theorem dX3_placeBid_29 : decode cX3_placeBid 29 = .ok (.goto 4, 3) := by decide +kernel
theorem dX3_placeBid_32 : decode cX3_placeBid 32 = .ok (.iconst 0, 1) := by decide +kernel
theorem dX3_placeBid_33 : decode cX3_placeBid 33 = .ok (.istore 5, 2) := by decide +kernel
theorem dX3_placeBid_35 : decode cX3_placeBid 35 = .ok (.aload_n 0, 1) := by decide +kernel
theorem dX3_placeBid_36 : decode cX3_placeBid 36 = .ok (.getfield 40, 3) := by decide +kernel
theorem dX3_placeBid_39 : decode cX3_placeBid 39 = .ok (.iload_n 1, 1) := by decide +kernel
theorem dX3_placeBid_40 : decode cX3_placeBid 40 = .ok (.bipush 96, 2) := by decide +kernel
theorem dX3_placeBid_42 : decode cX3_placeBid 42 = .ok (.imul, 1) := by decide +kernel
theorem dX3_placeBid_43 : decode cX3_placeBid 43 = .ok (.iload_n 2, 1) := by decide +kernel
theorem dX3_placeBid_44 : decode cX3_placeBid 44 = .ok (.iadd, 1) := by decide +kernel
theorem dX3_placeBid_45 : decode cX3_placeBid 45 = .ok (.iload 5, 2) := by decide +kernel
theorem dX3_placeBid_47 : decode cX3_placeBid 47 = .ok (.ifCond .eq 12, 3) := by decide +kernel
theorem dX3_placeBid_50 : decode cX3_placeBid 50 = .ok (.sipush 1000, 3) := by decide +kernel
theorem dX3_placeBid_53 : decode cX3_placeBid 53 = .ok (.iload 4, 2) := by decide +kernel
theorem dX3_placeBid_55 : decode cX3_placeBid 55 = .ok (.iadd, 1) := by decide +kernel
theorem dX3_placeBid_56 : decode cX3_placeBid 56 = .ok (.goto 5, 3) := by decide +kernel
theorem dX3_placeBid_59 : decode cX3_placeBid 59 = .ok (.iload 4, 2) := by decide +kernel
theorem dX3_placeBid_61 : decode cX3_placeBid 61 = .ok (.iastore, 1) := by decide +kernel
theorem dX3_placeBid_62 : decode cX3_placeBid 62 = .ok (.aload_n 0, 1) := by decide +kernel
theorem dX3_placeBid_63 : decode cX3_placeBid 63 = .ok (.iload_n 1, 1) := by decide +kernel
theorem dX3_placeBid_64 : decode cX3_placeBid 64 = .ok (.invokevirtual 84, 3) := by decide +kernel
theorem dX3_placeBid_67 : decode cX3_placeBid 67 = .ok (.ireturn, 1) := by decide +kernel
theorem dX3_bidsBy_0 : decode cX3_bidsBy 0 = .ok (.iconst 0, 1) := by decide +kernel
theorem dX3_bidsBy_1 : decode cX3_bidsBy 1 = .ok (.istore_n 2, 1) := by decide +kernel
theorem dX3_bidsBy_2 : decode cX3_bidsBy 2 = .ok (.iconst 0, 1) := by decide +kernel
theorem dX3_bidsBy_3 : decode cX3_bidsBy 3 = .ok (.istore_n 3, 1) := by decide +kernel
theorem dX3_bidsBy_4 : decode cX3_bidsBy 4 = .ok (.iload_n 3, 1) := by decide +kernel
theorem dX3_bidsBy_5 : decode cX3_bidsBy 5 = .ok (.bipush 96, 2) := by decide +kernel
theorem dX3_bidsBy_7 : decode cX3_bidsBy 7 = .ok (.if_icmp .ge 26, 3) := by decide +kernel
theorem dX3_bidsBy_10 : decode cX3_bidsBy 10 = .ok (.iload_n 2, 1) := by decide +kernel
theorem dX3_bidsBy_11 : decode cX3_bidsBy 11 = .ok (.aload_n 0, 1) := by decide +kernel
theorem dX3_bidsBy_12 : decode cX3_bidsBy 12 = .ok (.iload_n 1, 1) := by decide +kernel
theorem dX3_bidsBy_13 : decode cX3_bidsBy 13 = .ok (.iload_n 3, 1) := by decide +kernel
theorem dX3_bidsBy_14 : decode cX3_bidsBy 14 = .ok (.invokevirtual 92, 3) := by decide +kernel
theorem dX3_bidsBy_17 : decode cX3_bidsBy 17 = .ok (.ifCond .ne 7, 3) := by decide +kernel
theorem dX3_bidsBy_20 : decode cX3_bidsBy 20 = .ok (.iconst 0, 1) := by decide +kernel
theorem dX3_bidsBy_21 : decode cX3_bidsBy 21 = .ok (.goto 4, 3) := by decide +kernel
theorem dX3_bidsBy_24 : decode cX3_bidsBy 24 = .ok (.iconst 1, 1) := by decide +kernel
theorem dX3_bidsBy_25 : decode cX3_bidsBy 25 = .ok (.iadd, 1) := by decide +kernel
theorem dX3_bidsBy_26 : decode cX3_bidsBy 26 = .ok (.istore_n 2, 1) := by decide +kernel
theorem dX3_bidsBy_27 : decode cX3_bidsBy 27 = .ok (.iinc 3 1, 3) := by decide +kernel
theorem dX3_bidsBy_30 : decode cX3_bidsBy 30 = .ok (.goto (-26), 3) := by decide +kernel
theorem dX3_bidsBy_33 : decode cX3_bidsBy 33 = .ok (.iload_n 2, 1) := by decide +kernel
theorem dX3_bidsBy_34 : decode cX3_bidsBy 34 = .ok (.ireturn, 1) := by decide +kernel
theorem dX3_bidsFor_0 : decode cX3_bidsFor 0 = .ok (.iconst 0, 1) := by decide +kernel
theorem dX3_bidsFor_1 : decode cX3_bidsFor 1 = .ok (.istore_n 2, 1) := by decide +kernel
theorem dX3_bidsFor_2 : decode cX3_bidsFor 2 = .ok (.iconst 0, 1) := by decide +kernel
theorem dX3_bidsFor_3 : decode cX3_bidsFor 3 = .ok (.istore_n 3, 1) := by decide +kernel
theorem dX3_bidsFor_4 : decode cX3_bidsFor 4 = .ok (.iload_n 3, 1) := by decide +kernel
theorem dX3_bidsFor_5 : decode cX3_bidsFor 5 = .ok (.aload_n 0, 1) := by decide +kernel
theorem dX3_bidsFor_6 : decode cX3_bidsFor 6 = .ok (.getfield 67, 3) := by decide +kernel
theorem dX3_bidsFor_9 : decode cX3_bidsFor 9 = .ok (.if_icmp .ge 26, 3) := by decide +kernel
theorem dX3_bidsFor_12 : decode cX3_bidsFor 12 = .ok (.iload_n 2, 1) := by decide +kernel
theorem dX3_bidsFor_13 : decode cX3_bidsFor 13 = .ok (.aload_n 0, 1) := by decide +kernel
theorem dX3_bidsFor_14 : decode cX3_bidsFor 14 = .ok (.iload_n 3, 1) := by decide +kernel
theorem dX3_bidsFor_15 : decode cX3_bidsFor 15 = .ok (.iload_n 1, 1) := by decide +kernel
theorem dX3_bidsFor_16 : decode cX3_bidsFor 16 = .ok (.invokevirtual 92, 3) := by decide +kernel
theorem dX3_bidsFor_19 : decode cX3_bidsFor 19 = .ok (.ifCond .ne 7, 3) := by decide +kernel
theorem dX3_bidsFor_22 : decode cX3_bidsFor 22 = .ok (.iconst 0, 1) := by decide +kernel
theorem dX3_bidsFor_23 : decode cX3_bidsFor 23 = .ok (.goto 4, 3) := by decide +kernel
theorem dX3_bidsFor_26 : decode cX3_bidsFor 26 = .ok (.iconst 1, 1) := by decide +kernel
theorem dX3_bidsFor_27 : decode cX3_bidsFor 27 = .ok (.iadd, 1) := by decide +kernel
theorem dX3_bidsFor_28 : decode cX3_bidsFor 28 = .ok (.istore_n 2, 1) := by decide +kernel
theorem dX3_bidsFor_29 : decode cX3_bidsFor 29 = .ok (.iinc 3 1, 3) := by decide +kernel
theorem dX3_bidsFor_32 : decode cX3_bidsFor 32 = .ok (.goto (-28), 3) := by decide +kernel
theorem dX3_bidsFor_35 : decode cX3_bidsFor 35 = .ok (.iload_n 2, 1) := by decide +kernel
theorem dX3_bidsFor_36 : decode cX3_bidsFor 36 = .ok (.ireturn, 1) := by decide +kernel
theorem dX3_sumOfBids_0 : decode cX3_sumOfBids 0 = .ok (.iconst 0, 1) := by decide +kernel
theorem dX3_sumOfBids_1 : decode cX3_sumOfBids 1 = .ok (.istore_n 3, 1) := by decide +kernel
theorem dX3_sumOfBids_2 : decode cX3_sumOfBids 2 = .ok (.iconst 0, 1) := by decide +kernel
theorem dX3_sumOfBids_3 : decode cX3_sumOfBids 3 = .ok (.istore 4, 2) := by decide +kernel
theorem dX3_sumOfBids_5 : decode cX3_sumOfBids 5 = .ok (.iload 4, 2) := by decide +kernel
theorem dX3_sumOfBids_7 : decode cX3_sumOfBids 7 = .ok (.aload_n 0, 1) := by decide +kernel
theorem dX3_sumOfBids_8 : decode cX3_sumOfBids 8 = .ok (.getfield 67, 3) := by decide +kernel
theorem dX3_sumOfBids_11 : decode cX3_sumOfBids 11 = .ok (.if_icmp .ge 20, 3) := by decide +kernel
theorem dX3_sumOfBids_14 : decode cX3_sumOfBids 14 = .ok (.iload_n 3, 1) := by decide +kernel
theorem dX3_sumOfBids_15 : decode cX3_sumOfBids 15 = .ok (.aload_n 0, 1) := by decide +kernel
theorem dX3_sumOfBids_16 : decode cX3_sumOfBids 16 = .ok (.iload 4, 2) := by decide +kernel
theorem dX3_sumOfBids_18 : decode cX3_sumOfBids 18 = .ok (.iload_n 1, 1) := by decide +kernel
theorem dX3_sumOfBids_19 : decode cX3_sumOfBids 19 = .ok (.iload_n 2, 1) := by decide +kernel
theorem dX3_sumOfBids_20 : decode cX3_sumOfBids 20 = .ok (.invokevirtual 76, 3) := by decide +kernel
theorem dX3_sumOfBids_23 : decode cX3_sumOfBids 23 = .ok (.iadd, 1) := by decide +kernel
theorem dX3_sumOfBids_24 : decode cX3_sumOfBids 24 = .ok (.istore_n 3, 1) := by decide +kernel
theorem dX3_sumOfBids_25 : decode cX3_sumOfBids 25 = .ok (.iinc 4 1, 3) := by decide +kernel
theorem dX3_sumOfBids_28 : decode cX3_sumOfBids 28 = .ok (.goto (-23), 3) := by decide +kernel
theorem dX3_sumOfBids_31 : decode cX3_sumOfBids 31 = .ok (.iload_n 3, 1) := by decide +kernel
theorem dX3_sumOfBids_32 : decode cX3_sumOfBids 32 = .ok (.ireturn, 1) := by decide +kernel
theorem dX3_receive_0 : decode cX3_receive 0 = .ok (.aload_n 0, 1) := by decide +kernel
theorem dX3_receive_1 : decode cX3_receive 1 = .ok (.getfield 22, 3) := by decide +kernel
theorem dX3_receive_4 : decode cX3_receive 4 = .ok (.iload_n 1, 1) := by decide +kernel
theorem dX3_receive_5 : decode cX3_receive 5 = .ok (.iaload, 1) := by decide +kernel
theorem dX3_receive_6 : decode cX3_receive 6 = .ok (.iload_n 2, 1) := by decide +kernel
theorem dX3_receive_7 : decode cX3_receive 7 = .ok (.invokestatic 95, 3) := by decide +kernel
theorem dX3_receive_10 : decode cX3_receive 10 = .ok (.istore_n 3, 1) := by decide +kernel
theorem dX3_receive_11 : decode cX3_receive 11 = .ok (.aload_n 0, 1) := by decide +kernel
theorem dX3_receive_12 : decode cX3_receive 12 = .ok (.getfield 22, 3) := by decide +kernel
theorem dX3_receive_15 : decode cX3_receive 15 = .ok (.iload_n 1, 1) := by decide +kernel
theorem dX3_receive_16 : decode cX3_receive 16 = .ok (.dup2, 1) := by decide +kernel
theorem dX3_receive_17 : decode cX3_receive 17 = .ok (.iaload, 1) := by decide +kernel
theorem dX3_receive_18 : decode cX3_receive 18 = .ok (.iload_n 3, 1) := by decide +kernel
theorem dX3_receive_19 : decode cX3_receive 19 = .ok (.isub, 1) := by decide +kernel
theorem dX3_receive_20 : decode cX3_receive 20 = .ok (.iastore, 1) := by decide +kernel
theorem dX3_receive_21 : decode cX3_receive 21 = .ok (.aload_n 0, 1) := by decide +kernel
theorem dX3_receive_22 : decode cX3_receive 22 = .ok (.getfield 58, 3) := by decide +kernel
theorem dX3_receive_25 : decode cX3_receive 25 = .ok (.aload_n 0, 1) := by decide +kernel
theorem dX3_receive_26 : decode cX3_receive 26 = .ok (.getfield 25, 3) := by decide +kernel
theorem dX3_receive_29 : decode cX3_receive 29 = .ok (.iload_n 1, 1) := by decide +kernel
theorem dX3_receive_30 : decode cX3_receive 30 = .ok (.iaload, 1) := by decide +kernel
theorem dX3_receive_31 : decode cX3_receive 31 = .ok (.dup2, 1) := by decide +kernel
theorem dX3_receive_32 : decode cX3_receive 32 = .ok (.iaload, 1) := by decide +kernel
theorem dX3_receive_33 : decode cX3_receive 33 = .ok (.iload_n 3, 1) := by decide +kernel
theorem dX3_receive_34 : decode cX3_receive 34 = .ok (.iadd, 1) := by decide +kernel
theorem dX3_receive_35 : decode cX3_receive 35 = .ok (.iastore, 1) := by decide +kernel
theorem dX3_receive_36 : decode cX3_receive 36 = .ok (.aload_n 0, 1) := by decide +kernel
theorem dX3_receive_37 : decode cX3_receive 37 = .ok (.getfield 15, 3) := by decide +kernel
theorem dX3_receive_40 : decode cX3_receive 40 = .ok (.iload_n 1, 1) := by decide +kernel
theorem dX3_receive_41 : decode cX3_receive 41 = .ok (.dup2, 1) := by decide +kernel
theorem dX3_receive_42 : decode cX3_receive 42 = .ok (.iaload, 1) := by decide +kernel
theorem dX3_receive_43 : decode cX3_receive 43 = .ok (.iload_n 2, 1) := by decide +kernel
theorem dX3_receive_44 : decode cX3_receive 44 = .ok (.iload_n 3, 1) := by decide +kernel
theorem dX3_receive_45 : decode cX3_receive 45 = .ok (.isub, 1) := by decide +kernel
theorem dX3_receive_46 : decode cX3_receive 46 = .ok (.iadd, 1) := by decide +kernel
theorem dX3_receive_47 : decode cX3_receive 47 = .ok (.iastore, 1) := by decide +kernel
theorem dX3_receive_48 : decode cX3_receive 48 = .ok (.return_, 1) := by decide +kernel
theorem dX3_canBePaid_0 : decode cX3_canBePaid 0 = .ok (.iload_n 2, 1) := by decide +kernel
theorem dX3_canBePaid_1 : decode cX3_canBePaid 1 = .ok (.ifCond .ge 24, 3) := by decide +kernel
theorem dX3_canBePaid_4 : decode cX3_canBePaid 4 = .ok (.aload_n 0, 1) := by decide +kernel
theorem dX3_canBePaid_5 : decode cX3_canBePaid 5 = .ok (.getfield 22, 3) := by decide +kernel
theorem dX3_canBePaid_8 : decode cX3_canBePaid 8 = .ok (.iload_n 1, 1) := by decide +kernel
theorem dX3_canBePaid_9 : decode cX3_canBePaid 9 = .ok (.iaload, 1) := by decide +kernel
theorem dX3_canBePaid_10 : decode cX3_canBePaid 10 = .ok (.ifCond .gt 13, 3) := by decide +kernel
theorem dX3_canBePaid_13 : decode cX3_canBePaid 13 = .ok (.iload_n 2, 1) := by decide +kernel
theorem dX3_canBePaid_14 : decode cX3_canBePaid 14 = .ok (.ineg, 1) := by decide +kernel
theorem dX3_canBePaid_15 : decode cX3_canBePaid 15 = .ok (.aload_n 0, 1) := by decide +kernel
theorem dX3_canBePaid_16 : decode cX3_canBePaid 16 = .ok (.iload_n 1, 1) := by decide +kernel
theorem dX3_canBePaid_17 : decode cX3_canBePaid 17 = .ok (.invokevirtual 84, 3) := by decide +kernel
theorem dX3_canBePaid_20 : decode cX3_canBePaid 20 = .ok (.if_icmp .le 5, 3) := by decide +kernel
theorem dX3_canBePaid_23 : decode cX3_canBePaid 23 = .ok (.iconst 0, 1) := by decide +kernel
theorem dX3_canBePaid_24 : decode cX3_canBePaid 24 = .ok (.ireturn, 1) := by decide +kernel
theorem dX3_canBePaid_25 : decode cX3_canBePaid 25 = .ok (.iload_n 2, 1) := by decide +kernel
theorem dX3_canBePaid_26 : decode cX3_canBePaid 26 = .ok (.ifCond .le 16, 3) := by decide +kernel
theorem dX3_canBePaid_29 : decode cX3_canBePaid 29 = .ok (.aload_n 0, 1) := by decide +kernel
theorem dX3_canBePaid_30 : decode cX3_canBePaid 30 = .ok (.getfield 22, 3) := by decide +kernel
theorem dX3_canBePaid_33 : decode cX3_canBePaid 33 = .ok (.iload_n 1, 1) := by decide +kernel
theorem dX3_canBePaid_34 : decode cX3_canBePaid 34 = .ok (.iaload, 1) := by decide +kernel
theorem dX3_canBePaid_35 : decode cX3_canBePaid 35 = .ok (.iload_n 2, 1) := by decide +kernel
theorem dX3_canBePaid_36 : decode cX3_canBePaid 36 = .ok (.invokestatic 95, 3) := by decide +kernel
theorem dX3_canBePaid_39 : decode cX3_canBePaid 39 = .ok (.goto 4, 3) := by decide +kernel
theorem dX3_canBePaid_42 : decode cX3_canBePaid 42 = .ok (.iconst 0, 1) := by decide +kernel
theorem dX3_canBePaid_43 : decode cX3_canBePaid 43 = .ok (.istore_n 3, 1) := by decide +kernel
theorem dX3_canBePaid_44 : decode cX3_canBePaid 44 = .ok (.aload_n 0, 1) := by decide +kernel
theorem dX3_canBePaid_45 : decode cX3_canBePaid 45 = .ok (.getfield 15, 3) := by decide +kernel
theorem dX3_canBePaid_48 : decode cX3_canBePaid 48 = .ok (.iload_n 1, 1) := by decide +kernel
theorem dX3_canBePaid_49 : decode cX3_canBePaid 49 = .ok (.iaload, 1) := by decide +kernel
theorem dX3_canBePaid_50 : decode cX3_canBePaid 50 = .ok (.iload_n 2, 1) := by decide +kernel
theorem dX3_canBePaid_51 : decode cX3_canBePaid 51 = .ok (.iadd, 1) := by decide +kernel
theorem dX3_canBePaid_52 : decode cX3_canBePaid 52 = .ok (.iload_n 3, 1) := by decide +kernel
theorem dX3_canBePaid_53 : decode cX3_canBePaid 53 = .ok (.isub, 1) := by decide +kernel
theorem dX3_canBePaid_54 : decode cX3_canBePaid 54 = .ok (.ldc 100, 2) := by decide +kernel
theorem dX3_canBePaid_56 : decode cX3_canBePaid 56 = .ok (.if_icmp .gt 7, 3) := by decide +kernel
theorem dX3_canBePaid_59 : decode cX3_canBePaid 59 = .ok (.iconst 1, 1) := by decide +kernel
theorem dX3_canBePaid_60 : decode cX3_canBePaid 60 = .ok (.goto 4, 3) := by decide +kernel
theorem dX3_canBePaid_63 : decode cX3_canBePaid 63 = .ok (.iconst 0, 1) := by decide +kernel
theorem dX3_canBePaid_64 : decode cX3_canBePaid 64 = .ok (.ireturn, 1) := by decide +kernel
theorem dX3_allMoney_0 : decode cX3_allMoney 0 = .ok (.iconst 0, 1) := by decide +kernel
theorem dX3_allMoney_1 : decode cX3_allMoney 1 = .ok (.istore_n 1, 1) := by decide +kernel
theorem dX3_allMoney_2 : decode cX3_allMoney 2 = .ok (.iconst 0, 1) := by decide +kernel
theorem dX3_allMoney_3 : decode cX3_allMoney 3 = .ok (.istore_n 2, 1) := by decide +kernel
theorem dX3_allMoney_4 : decode cX3_allMoney 4 = .ok (.iload_n 2, 1) := by decide +kernel
theorem dX3_allMoney_5 : decode cX3_allMoney 5 = .ok (.aload_n 0, 1) := by decide +kernel
theorem dX3_allMoney_6 : decode cX3_allMoney 6 = .ok (.getfield 67, 3) := by decide +kernel
theorem dX3_allMoney_9 : decode cX3_allMoney 9 = .ok (.if_icmp .ge 18, 3) := by decide +kernel
theorem dX3_allMoney_12 : decode cX3_allMoney 12 = .ok (.iload_n 1, 1) := by decide +kernel
theorem dX3_allMoney_13 : decode cX3_allMoney 13 = .ok (.aload_n 0, 1) := by decide +kernel
theorem dX3_allMoney_14 : decode cX3_allMoney 14 = .ok (.getfield 15, 3) := by decide +kernel
theorem dX3_allMoney_17 : decode cX3_allMoney 17 = .ok (.iload_n 2, 1) := by decide +kernel
theorem dX3_allMoney_18 : decode cX3_allMoney 18 = .ok (.iaload, 1) := by decide +kernel
theorem dX3_allMoney_19 : decode cX3_allMoney 19 = .ok (.iadd, 1) := by decide +kernel
theorem dX3_allMoney_20 : decode cX3_allMoney 20 = .ok (.istore_n 1, 1) := by decide +kernel
theorem dX3_allMoney_21 : decode cX3_allMoney 21 = .ok (.iinc 2 1, 3) := by decide +kernel
theorem dX3_allMoney_24 : decode cX3_allMoney 24 = .ok (.goto (-20), 3) := by decide +kernel
theorem dX3_allMoney_27 : decode cX3_allMoney 27 = .ok (.iconst 0, 1) := by decide +kernel
theorem dX3_allMoney_28 : decode cX3_allMoney 28 = .ok (.istore_n 2, 1) := by decide +kernel
theorem dX3_allMoney_29 : decode cX3_allMoney 29 = .ok (.iload_n 2, 1) := by decide +kernel
theorem dX3_allMoney_30 : decode cX3_allMoney 30 = .ok (.iconst 4, 1) := by decide +kernel
theorem dX3_allMoney_31 : decode cX3_allMoney 31 = .ok (.if_icmp .ge 18, 3) := by decide +kernel
theorem dX3_allMoney_34 : decode cX3_allMoney 34 = .ok (.iload_n 1, 1) := by decide +kernel
theorem dX3_allMoney_35 : decode cX3_allMoney 35 = .ok (.aload_n 0, 1) := by decide +kernel
theorem dX3_allMoney_36 : decode cX3_allMoney 36 = .ok (.getfield 58, 3) := by decide +kernel
theorem dX3_allMoney_39 : decode cX3_allMoney 39 = .ok (.iload_n 2, 1) := by decide +kernel
theorem dX3_allMoney_40 : decode cX3_allMoney 40 = .ok (.iaload, 1) := by decide +kernel
theorem dX3_allMoney_41 : decode cX3_allMoney 41 = .ok (.iadd, 1) := by decide +kernel
theorem dX3_allMoney_42 : decode cX3_allMoney 42 = .ok (.istore_n 1, 1) := by decide +kernel
theorem dX3_allMoney_43 : decode cX3_allMoney 43 = .ok (.iinc 2 1, 3) := by decide +kernel
theorem dX3_allMoney_46 : decode cX3_allMoney 46 = .ok (.goto (-17), 3) := by decide +kernel
theorem dX3_allMoney_49 : decode cX3_allMoney 49 = .ok (.iload_n 1, 1) := by decide +kernel
theorem dX3_allMoney_50 : decode cX3_allMoney 50 = .ok (.ireturn, 1) := by decide +kernel
theorem dX3_allDebts_0 : decode cX3_allDebts 0 = .ok (.iconst 0, 1) := by decide +kernel
theorem dX3_allDebts_1 : decode cX3_allDebts 1 = .ok (.istore_n 1, 1) := by decide +kernel
theorem dX3_allDebts_2 : decode cX3_allDebts 2 = .ok (.iconst 0, 1) := by decide +kernel
theorem dX3_allDebts_3 : decode cX3_allDebts 3 = .ok (.istore_n 2, 1) := by decide +kernel
theorem dX3_allDebts_4 : decode cX3_allDebts 4 = .ok (.iload_n 2, 1) := by decide +kernel
theorem dX3_allDebts_5 : decode cX3_allDebts 5 = .ok (.aload_n 0, 1) := by decide +kernel
theorem dX3_allDebts_6 : decode cX3_allDebts 6 = .ok (.getfield 67, 3) := by decide +kernel
theorem dX3_allDebts_9 : decode cX3_allDebts 9 = .ok (.if_icmp .ge 18, 3) := by decide +kernel
theorem dX3_allDebts_12 : decode cX3_allDebts 12 = .ok (.iload_n 1, 1) := by decide +kernel
theorem dX3_allDebts_13 : decode cX3_allDebts 13 = .ok (.aload_n 0, 1) := by decide +kernel
theorem dX3_allDebts_14 : decode cX3_allDebts 14 = .ok (.getfield 22, 3) := by decide +kernel
theorem dX3_allDebts_17 : decode cX3_allDebts 17 = .ok (.iload_n 2, 1) := by decide +kernel
theorem dX3_allDebts_18 : decode cX3_allDebts 18 = .ok (.iaload, 1) := by decide +kernel
theorem dX3_allDebts_19 : decode cX3_allDebts 19 = .ok (.iadd, 1) := by decide +kernel
theorem dX3_allDebts_20 : decode cX3_allDebts 20 = .ok (.istore_n 1, 1) := by decide +kernel
theorem dX3_allDebts_21 : decode cX3_allDebts 21 = .ok (.iinc 2 1, 3) := by decide +kernel
theorem dX3_allDebts_24 : decode cX3_allDebts 24 = .ok (.goto (-20), 3) := by decide +kernel
theorem dX3_allDebts_27 : decode cX3_allDebts 27 = .ok (.iload_n 1, 1) := by decide +kernel
theorem dX3_allDebts_28 : decode cX3_allDebts 28 = .ok (.ireturn, 1) := by decide +kernel
theorem dX3_allBids_0 : decode cX3_allBids 0 = .ok (.iconst 0, 1) := by decide +kernel
theorem dX3_allBids_1 : decode cX3_allBids 1 = .ok (.istore_n 1, 1) := by decide +kernel
theorem dX3_allBids_2 : decode cX3_allBids 2 = .ok (.iconst 0, 1) := by decide +kernel
theorem dX3_allBids_3 : decode cX3_allBids 3 = .ok (.istore_n 2, 1) := by decide +kernel
theorem dX3_allBids_4 : decode cX3_allBids 4 = .ok (.iload_n 2, 1) := by decide +kernel
theorem dX3_allBids_5 : decode cX3_allBids 5 = .ok (.aload_n 0, 1) := by decide +kernel
theorem dX3_allBids_6 : decode cX3_allBids 6 = .ok (.getfield 67, 3) := by decide +kernel
theorem dX3_allBids_9 : decode cX3_allBids 9 = .ok (.if_icmp .ge 17, 3) := by decide +kernel
theorem dX3_allBids_12 : decode cX3_allBids 12 = .ok (.iload_n 1, 1) := by decide +kernel
theorem dX3_allBids_13 : decode cX3_allBids 13 = .ok (.aload_n 0, 1) := by decide +kernel
theorem dX3_allBids_14 : decode cX3_allBids 14 = .ok (.iload_n 2, 1) := by decide +kernel
theorem dX3_allBids_15 : decode cX3_allBids 15 = .ok (.invokevirtual 101, 3) := by decide +kernel
theorem dX3_allBids_18 : decode cX3_allBids 18 = .ok (.iadd, 1) := by decide +kernel
theorem dX3_allBids_19 : decode cX3_allBids 19 = .ok (.istore_n 1, 1) := by decide +kernel
theorem dX3_allBids_20 : decode cX3_allBids 20 = .ok (.iinc 2 1, 3) := by decide +kernel
theorem dX3_allBids_23 : decode cX3_allBids 23 = .ok (.goto (-19), 3) := by decide +kernel
theorem dX3_allBids_26 : decode cX3_allBids 26 = .ok (.iload_n 1, 1) := by decide +kernel
theorem dX3_allBids_27 : decode cX3_allBids 27 = .ok (.ireturn, 1) := by decide +kernel
theorem dX3_strength_0 : decode cX3_strength 0 = .ok (.aload_n 0, 1) := by decide +kernel
theorem dX3_strength_1 : decode cX3_strength 1 = .ok (.iload_n 1, 1) := by decide +kernel
theorem dX3_strength_2 : decode cX3_strength 2 = .ok (.iload_n 2, 1) := by decide +kernel
theorem dX3_strength_3 : decode cX3_strength 3 = .ok (.invokevirtual 104, 3) := by decide +kernel
theorem dX3_strength_6 : decode cX3_strength 6 = .ok (.iload_n 2, 1) := by decide +kernel
theorem dX3_strength_7 : decode cX3_strength 7 = .ok (.ifCond .ne 12, 3) := by decide +kernel
theorem dX3_strength_10 : decode cX3_strength 10 = .ok (.aload_n 0, 1) := by decide +kernel
theorem dX3_strength_11 : decode cX3_strength 11 = .ok (.getfield 46, 3) := by decide +kernel
theorem dX3_strength_14 : decode cX3_strength 14 = .ok (.iload_n 1, 1) := by decide +kernel
theorem dX3_strength_15 : decode cX3_strength 15 = .ok (.iaload, 1) := by decide +kernel
theorem dX3_strength_16 : decode cX3_strength 16 = .ok (.goto 4, 3) := by decide +kernel
theorem dX3_strength_19 : decode cX3_strength 19 = .ok (.iconst 0, 1) := by decide +kernel
theorem dX3_strength_20 : decode cX3_strength 20 = .ok (.iadd, 1) := by decide +kernel
theorem dX3_strength_21 : decode cX3_strength 21 = .ok (.ireturn, 1) := by decide +kernel
theorem dX3_ownerThen_0 : decode cX3_ownerThen 0 = .ok (.aload_n 0, 1) := by decide +kernel
theorem dX3_ownerThen_1 : decode cX3_ownerThen 1 = .ok (.iload_n 1, 1) := by decide +kernel
theorem dX3_ownerThen_2 : decode cX3_ownerThen 2 = .ok (.invokevirtual 107, 3) := by decide +kernel
theorem dX3_ownerThen_5 : decode cX3_ownerThen 5 = .ok (.ifCond .ne 10, 3) := by decide +kernel
theorem dX3_ownerThen_8 : decode cX3_ownerThen 8 = .ok (.aload_n 0, 1) := by decide +kernel
theorem dX3_ownerThen_9 : decode cX3_ownerThen 9 = .ok (.getfield 43, 3) := by decide +kernel
theorem dX3_ownerThen_12 : decode cX3_ownerThen 12 = .ok (.iload_n 1, 1) := by decide +kernel
theorem dX3_ownerThen_13 : decode cX3_ownerThen 13 = .ok (.iaload, 1) := by decide +kernel
theorem dX3_ownerThen_14 : decode cX3_ownerThen 14 = .ok (.ireturn, 1) := by decide +kernel
theorem dX3_ownerThen_15 : decode cX3_ownerThen 15 = .ok (.aload_n 0, 1) := by decide +kernel
theorem dX3_ownerThen_16 : decode cX3_ownerThen 16 = .ok (.iload_n 1, 1) := by decide +kernel
theorem dX3_ownerThen_17 : decode cX3_ownerThen 17 = .ok (.iconst 0, 1) := by decide +kernel
theorem dX3_ownerThen_18 : decode cX3_ownerThen 18 = .ok (.invokevirtual 110, 3) := by decide +kernel
theorem dX3_ownerThen_21 : decode cX3_ownerThen 21 = .ok (.istore_n 2, 1) := by decide +kernel
theorem dX3_ownerThen_22 : decode cX3_ownerThen 22 = .ok (.aload_n 0, 1) := by decide +kernel
theorem dX3_ownerThen_23 : decode cX3_ownerThen 23 = .ok (.iload_n 1, 1) := by decide +kernel
theorem dX3_ownerThen_24 : decode cX3_ownerThen 24 = .ok (.iconst 1, 1) := by decide +kernel
theorem dX3_ownerThen_25 : decode cX3_ownerThen 25 = .ok (.invokevirtual 110, 3) := by decide +kernel
theorem dX3_ownerThen_28 : decode cX3_ownerThen 28 = .ok (.istore_n 3, 1) := by decide +kernel
theorem dX3_ownerThen_29 : decode cX3_ownerThen 29 = .ok (.iload_n 2, 1) := by decide +kernel
theorem dX3_ownerThen_30 : decode cX3_ownerThen 30 = .ok (.iload_n 3, 1) := by decide +kernel
theorem dX3_ownerThen_31 : decode cX3_ownerThen 31 = .ok (.if_icmp .ne 10, 3) := by decide +kernel
theorem dX3_ownerThen_34 : decode cX3_ownerThen 34 = .ok (.aload_n 0, 1) := by decide +kernel
theorem dX3_ownerThen_35 : decode cX3_ownerThen 35 = .ok (.getfield 49, 3) := by decide +kernel
theorem dX3_ownerThen_38 : decode cX3_ownerThen 38 = .ok (.iload_n 1, 1) := by decide +kernel
theorem dX3_ownerThen_39 : decode cX3_ownerThen 39 = .ok (.iaload, 1) := by decide +kernel
theorem dX3_ownerThen_40 : decode cX3_ownerThen 40 = .ok (.ireturn, 1) := by decide +kernel
theorem dX3_ownerThen_41 : decode cX3_ownerThen 41 = .ok (.iload_n 2, 1) := by decide +kernel
theorem dX3_ownerThen_42 : decode cX3_ownerThen 42 = .ok (.iload_n 3, 1) := by decide +kernel
theorem dX3_ownerThen_43 : decode cX3_ownerThen 43 = .ok (.if_icmp .le 7, 3) := by decide +kernel
theorem dX3_ownerThen_46 : decode cX3_ownerThen 46 = .ok (.iconst 0, 1) := by decide +kernel
theorem dX3_ownerThen_47 : decode cX3_ownerThen 47 = .ok (.goto 4, 3) := by decide +kernel
theorem dX3_ownerThen_50 : decode cX3_ownerThen 50 = .ok (.iconst 1, 1) := by decide +kernel
theorem dX3_ownerThen_51 : decode cX3_ownerThen 51 = .ok (.ireturn, 1) := by decide +kernel
theorem dX3_missingFor_0 : decode cX3_missingFor 0 = .ok (.aload_n 0, 1) := by decide +kernel
theorem dX3_missingFor_1 : decode cX3_missingFor 1 = .ok (.iload_n 1, 1) := by decide +kernel
theorem dX3_missingFor_2 : decode cX3_missingFor 2 = .ok (.invokevirtual 113, 3) := by decide +kernel
theorem dX3_missingFor_5 : decode cX3_missingFor 5 = .ok (.iload_n 2, 1) := by decide +kernel
theorem dX3_missingFor_6 : decode cX3_missingFor 6 = .ok (.if_icmp .ne 5, 3) := by decide +kernel
theorem dX3_missingFor_9 : decode cX3_missingFor 9 = .ok (.iconst 0, 1) := by decide +kernel
theorem dX3_missingFor_10 : decode cX3_missingFor 10 = .ok (.ireturn, 1) := by decide +kernel
theorem dX3_missingFor_11 : decode cX3_missingFor 11 = .ok (.aload_n 0, 1) := by decide +kernel
theorem dX3_missingFor_12 : decode cX3_missingFor 12 = .ok (.iload_n 1, 1) := by decide +kernel
theorem dX3_missingFor_13 : decode cX3_missingFor 13 = .ok (.iload_n 2, 1) := by decide +kernel
theorem dX3_missingFor_14 : decode cX3_missingFor 14 = .ok (.invokestatic 116, 3) := by decide +kernel
theorem dX3_missingFor_17 : decode cX3_missingFor 17 = .ok (.invokevirtual 110, 3) := by decide +kernel
theorem dX3_missingFor_20 : decode cX3_missingFor 20 = .ok (.aload_n 0, 1) := by decide +kernel
theorem dX3_missingFor_21 : decode cX3_missingFor 21 = .ok (.iload_n 1, 1) := by decide +kernel
theorem dX3_missingFor_22 : decode cX3_missingFor 22 = .ok (.iload_n 2, 1) := by decide +kernel
theorem dX3_missingFor_23 : decode cX3_missingFor 23 = .ok (.invokevirtual 110, 3) := by decide +kernel
theorem dX3_missingFor_26 : decode cX3_missingFor 26 = .ok (.isub, 1) := by decide +kernel
theorem dX3_missingFor_27 : decode cX3_missingFor 27 = .ok (.istore_n 3, 1) := by decide +kernel
theorem dX3_missingFor_28 : decode cX3_missingFor 28 = .ok (.aload_n 0, 1) := by decide +kernel
theorem dX3_missingFor_29 : decode cX3_missingFor 29 = .ok (.getfield 49, 3) := by decide +kernel
theorem dX3_missingFor_32 : decode cX3_missingFor 32 = .ok (.iload_n 1, 1) := by decide +kernel
theorem dX3_missingFor_33 : decode cX3_missingFor 33 = .ok (.iaload, 1) := by decide +kernel
theorem dX3_missingFor_34 : decode cX3_missingFor 34 = .ok (.iload_n 2, 1) := by decide +kernel
theorem dX3_missingFor_35 : decode cX3_missingFor 35 = .ok (.if_icmp .ne 7, 3) := by decide +kernel
theorem dX3_missingFor_38 : decode cX3_missingFor 38 = .ok (.iload_n 3, 1) := by decide +kernel
theorem dX3_missingFor_39 : decode cX3_missingFor 39 = .ok (.goto 6, 3) := by decide +kernel
theorem dX3_missingFor_42 : decode cX3_missingFor 42 = .ok (.iload_n 3, 1) := by decide +kernel
theorem dX3_missingFor_43 : decode cX3_missingFor 43 = .ok (.iconst 1, 1) := by decide +kernel
theorem dX3_missingFor_44 : decode cX3_missingFor 44 = .ok (.iadd, 1) := by decide +kernel
theorem dX3_missingFor_45 : decode cX3_missingFor 45 = .ok (.istore 4, 2) := by decide +kernel
theorem dX3_missingFor_47 : decode cX3_missingFor 47 = .ok (.iconst 1, 1) := by decide +kernel
theorem dX3_missingFor_48 : decode cX3_missingFor 48 = .ok (.iload 4, 2) := by decide +kernel
theorem dX3_missingFor_50 : decode cX3_missingFor 50 = .ok (.invokestatic 119, 3) := by decide +kernel
theorem dX3_missingFor_53 : decode cX3_missingFor 53 = .ok (.ireturn, 1) := by decide +kernel
theorem dX3_settleDay_0 : decode cX3_settleDay 0 = .ok (.iconst 0, 1) := by decide +kernel
theorem dX3_settleDay_1 : decode cX3_settleDay 1 = .ok (.istore_n 1, 1) := by decide +kernel
theorem dX3_settleDay_2 : decode cX3_settleDay 2 = .ok (.iload_n 1, 1) := by decide +kernel
theorem dX3_settleDay_3 : decode cX3_settleDay 3 = .ok (.bipush 96, 2) := by decide +kernel
theorem dX3_settleDay_5 : decode cX3_settleDay 5 = .ok (.if_icmp .ge 42, 3) := by decide +kernel
theorem dX3_settleDay_8 : decode cX3_settleDay 8 = .ok (.aload_n 0, 1) := by decide +kernel
theorem dX3_settleDay_9 : decode cX3_settleDay 9 = .ok (.iload_n 1, 1) := by decide +kernel
theorem dX3_settleDay_10 : decode cX3_settleDay 10 = .ok (.invokevirtual 107, 3) := by decide +kernel
theorem dX3_settleDay_13 : decode cX3_settleDay 13 = .ok (.ifCond .ne 23, 3) := by decide +kernel
theorem dX3_settleDay_16 : decode cX3_settleDay 16 = .ok (.aload_n 0, 1) := by decide +kernel
theorem dX3_settleDay_17 : decode cX3_settleDay 17 = .ok (.getfield 46, 3) := by decide +kernel
theorem dX3_settleDay_20 : decode cX3_settleDay 20 = .ok (.iload_n 1, 1) := by decide +kernel
theorem dX3_settleDay_21 : decode cX3_settleDay 21 = .ok (.dup2, 1) := by decide +kernel
theorem dX3_settleDay_22 : decode cX3_settleDay 22 = .ok (.iaload, 1) := by decide +kernel
theorem dX3_settleDay_23 : decode cX3_settleDay 23 = .ok (.iconst 2, 1) := by decide +kernel
theorem dX3_settleDay_24 : decode cX3_settleDay 24 = .ok (.idiv, 1) := by decide +kernel
theorem dX3_settleDay_25 : decode cX3_settleDay 25 = .ok (.iastore, 1) := by decide +kernel
theorem dX3_settleDay_26 : decode cX3_settleDay 26 = .ok (.aload_n 0, 1) := by decide +kernel
theorem dX3_settleDay_27 : decode cX3_settleDay 27 = .ok (.getfield 55, 3) := by decide +kernel
theorem dX3_settleDay_30 : decode cX3_settleDay 30 = .ok (.iload_n 1, 1) := by decide +kernel
theorem dX3_settleDay_31 : decode cX3_settleDay 31 = .ok (.iconst 0, 1) := by decide +kernel
theorem dX3_settleDay_32 : decode cX3_settleDay 32 = .ok (.iastore, 1) := by decide +kernel
theorem dX3_settleDay_33 : decode cX3_settleDay 33 = .ok (.goto 8, 3) := by decide +kernel
theorem dX3_settleDay_36 : decode cX3_settleDay 36 = .ok (.aload_n 0, 1) := by decide +kernel
theorem dX3_settleDay_37 : decode cX3_settleDay 37 = .ok (.iload_n 1, 1) := by decide +kernel
theorem dX3_settleDay_38 : decode cX3_settleDay 38 = .ok (.invokevirtual 122, 3) := by decide +kernel
theorem dX3_settleDay_41 : decode cX3_settleDay 41 = .ok (.iinc 1 1, 3) := by decide +kernel
theorem dX3_settleDay_44 : decode cX3_settleDay 44 = .ok (.goto (-42), 3) := by decide +kernel
theorem dX3_settleDay_47 : decode cX3_settleDay 47 = .ok (.aload_n 0, 1) := by decide +kernel
theorem dX3_settleDay_48 : decode cX3_settleDay 48 = .ok (.getfield 40, 3) := by decide +kernel
theorem dX3_settleDay_51 : decode cX3_settleDay 51 = .ok (.iconst 0, 1) := by decide +kernel
theorem dX3_settleDay_52 : decode cX3_settleDay 52 = .ok (.invokestatic 126, 3) := by decide +kernel
theorem dX3_settleDay_55 : decode cX3_settleDay 55 = .ok (.aload_n 0, 1) := by decide +kernel
theorem dX3_settleDay_56 : decode cX3_settleDay 56 = .ok (.getfield 19, 3) := by decide +kernel
theorem dX3_settleDay_59 : decode cX3_settleDay 59 = .ok (.iconst 0, 1) := by decide +kernel
theorem dX3_settleDay_60 : decode cX3_settleDay 60 = .ok (.invokestatic 126, 3) := by decide +kernel
theorem dX3_settleDay_63 : decode cX3_settleDay 63 = .ok (.aload_n 0, 1) := by decide +kernel
theorem dX3_settleDay_64 : decode cX3_settleDay 64 = .ok (.dup, 1) := by decide +kernel
theorem dX3_settleDay_65 : decode cX3_settleDay 65 = .ok (.getfield 61, 3) := by decide +kernel
theorem dX3_settleDay_68 : decode cX3_settleDay 68 = .ok (.iconst 1, 1) := by decide +kernel
theorem dX3_settleDay_69 : decode cX3_settleDay 69 = .ok (.iadd, 1) := by decide +kernel
theorem dX3_settleDay_70 : decode cX3_settleDay 70 = .ok (.putfield 61, 3) := by decide +kernel
theorem dX3_settleDay_73 : decode cX3_settleDay 73 = .ok (.return_, 1) := by decide +kernel
theorem dX3_settleBids_0 : decode cX3_settleBids 0 = .ok (.aload_n 0, 1) := by decide +kernel
theorem dX3_settleBids_1 : decode cX3_settleBids 1 = .ok (.iload_n 1, 1) := by decide +kernel
theorem dX3_settleBids_2 : decode cX3_settleBids 2 = .ok (.invokevirtual 113, 3) := by decide +kernel
theorem dX3_settleBids_5 : decode cX3_settleBids 5 = .ok (.istore_n 2, 1) := by decide +kernel
theorem dX3_settleBids_6 : decode cX3_settleBids 6 = .ok (.iload_n 2, 1) := by decide +kernel
theorem dX3_settleBids_7 : decode cX3_settleBids 7 = .ok (.iconst 1, 1) := by decide +kernel
theorem dX3_settleBids_8 : decode cX3_settleBids 8 = .ok (.if_icmp .ne 14, 3) := by decide +kernel
theorem dX3_settleBids_11 : decode cX3_settleBids 11 = .ok (.aload_n 0, 1) := by decide +kernel
theorem dX3_settleBids_12 : decode cX3_settleBids 12 = .ok (.iload_n 1, 1) := by decide +kernel
theorem dX3_settleBids_13 : decode cX3_settleBids 13 = .ok (.iconst 0, 1) := by decide +kernel
theorem dX3_settleBids_14 : decode cX3_settleBids 14 = .ok (.invokevirtual 110, 3) := by decide +kernel
theorem dX3_settleBids_17 : decode cX3_settleBids 17 = .ok (.iconst 2, 1) := by decide +kernel
theorem dX3_settleBids_18 : decode cX3_settleBids 18 = .ok (.idiv, 1) := by decide +kernel
theorem dX3_settleBids_19 : decode cX3_settleBids 19 = .ok (.goto 4, 3) := by decide +kernel
theorem dX3_settleBids_22 : decode cX3_settleBids 22 = .ok (.iconst 0, 1) := by decide +kernel
theorem dX3_settleBids_23 : decode cX3_settleBids 23 = .ok (.istore_n 3, 1) := by decide +kernel
theorem dX3_settleBids_24 : decode cX3_settleBids 24 = .ok (.aload_n 0, 1) := by decide +kernel
theorem dX3_settleBids_25 : decode cX3_settleBids 25 = .ok (.iload_n 1, 1) := by decide +kernel
theorem dX3_settleBids_26 : decode cX3_settleBids 26 = .ok (.iload_n 2, 1) := by decide +kernel
theorem dX3_settleBids_27 : decode cX3_settleBids 27 = .ok (.invokevirtual 132, 3) := by decide +kernel
theorem dX3_settleBids_30 : decode cX3_settleBids 30 = .ok (.istore 4, 2) := by decide +kernel
theorem dX3_settleBids_32 : decode cX3_settleBids 32 = .ok (.aload_n 0, 1) := by decide +kernel
theorem dX3_settleBids_33 : decode cX3_settleBids 33 = .ok (.iload_n 1, 1) := by decide +kernel
theorem dX3_settleBids_34 : decode cX3_settleBids 34 = .ok (.iload_n 2, 1) := by decide +kernel
theorem dX3_settleBids_35 : decode cX3_settleBids 35 = .ok (.invokestatic 116, 3) := by decide +kernel
theorem dX3_settleBids_38 : decode cX3_settleBids 38 = .ok (.iload 4, 2) := by decide +kernel
theorem dX3_settleBids_40 : decode cX3_settleBids 40 = .ok (.invokevirtual 135, 3) := by decide +kernel
theorem dX3_settleBids_43 : decode cX3_settleBids 43 = .ok (.istore 5, 2) := by decide +kernel
theorem dX3_settleBids_45 : decode cX3_settleBids 45 = .ok (.aload_n 0, 1) := by decide +kernel
theorem dX3_settleBids_46 : decode cX3_settleBids 46 = .ok (.getfield 58, 3) := by decide +kernel
theorem dX3_settleBids_49 : decode cX3_settleBids 49 = .ok (.iload_n 1, 1) := by decide +kernel
theorem dX3_settleBids_50 : decode cX3_settleBids 50 = .ok (.bipush 24, 2) := by decide +kernel
theorem dX3_settleBids_52 : decode cX3_settleBids 52 = .ok (.idiv, 1) := by decide +kernel
theorem dX3_settleBids_53 : decode cX3_settleBids 53 = .ok (.dup2, 1) := by decide +kernel
theorem dX3_settleBids_54 : decode cX3_settleBids 54 = .ok (.iaload, 1) := by decide +kernel
theorem dX3_settleBids_55 : decode cX3_settleBids 55 = .ok (.iload 4, 2) := by decide +kernel
theorem dX3_settleBids_57 : decode cX3_settleBids 57 = .ok (.iload 5, 2) := by decide +kernel
theorem dX3_settleBids_59 : decode cX3_settleBids 59 = .ok (.isub, 1) := by decide +kernel
theorem dX3_settleBids_60 : decode cX3_settleBids 60 = .ok (.iadd, 1) := by decide +kernel
theorem dX3_settleBids_61 : decode cX3_settleBids 61 = .ok (.iastore, 1) := by decide +kernel
theorem dX3_settleBids_62 : decode cX3_settleBids 62 = .ok (.aload_n 0, 1) := by decide +kernel
theorem dX3_settleBids_63 : decode cX3_settleBids 63 = .ok (.getfield 43, 3) := by decide +kernel
theorem dX3_settleBids_66 : decode cX3_settleBids 66 = .ok (.iload_n 1, 1) := by decide +kernel
theorem dX3_settleBids_67 : decode cX3_settleBids 67 = .ok (.iload_n 2, 1) := by decide +kernel
theorem dX3_settleBids_68 : decode cX3_settleBids 68 = .ok (.iastore, 1) := by decide +kernel
theorem dX3_settleBids_69 : decode cX3_settleBids 69 = .ok (.aload_n 0, 1) := by decide +kernel
theorem dX3_settleBids_70 : decode cX3_settleBids 70 = .ok (.getfield 46, 3) := by decide +kernel
theorem dX3_settleBids_73 : decode cX3_settleBids 73 = .ok (.iload_n 1, 1) := by decide +kernel
theorem dX3_settleBids_74 : decode cX3_settleBids 74 = .ok (.iload_n 3, 1) := by decide +kernel
theorem dX3_settleBids_75 : decode cX3_settleBids 75 = .ok (.iastore, 1) := by decide +kernel
theorem dX3_settleBids_76 : decode cX3_settleBids 76 = .ok (.aload_n 0, 1) := by decide +kernel
theorem dX3_settleBids_77 : decode cX3_settleBids 77 = .ok (.getfield 49, 3) := by decide +kernel
theorem dX3_settleBids_80 : decode cX3_settleBids 80 = .ok (.iload_n 1, 1) := by decide +kernel
theorem dX3_settleBids_81 : decode cX3_settleBids 81 = .ok (.iload_n 2, 1) := by decide +kernel
theorem dX3_settleBids_82 : decode cX3_settleBids 82 = .ok (.invokestatic 116, 3) := by decide +kernel
theorem dX3_settleBids_85 : decode cX3_settleBids 85 = .ok (.iastore, 1) := by decide +kernel
theorem dX3_settleBids_86 : decode cX3_settleBids 86 = .ok (.aload_n 0, 1) := by decide +kernel
theorem dX3_settleBids_87 : decode cX3_settleBids 87 = .ok (.getfield 52, 3) := by decide +kernel
theorem dX3_settleBids_90 : decode cX3_settleBids 90 = .ok (.iload_n 1, 1) := by decide +kernel
theorem dX3_settleBids_91 : decode cX3_settleBids 91 = .ok (.iload_n 2, 1) := by decide +kernel
theorem dX3_settleBids_92 : decode cX3_settleBids 92 = .ok (.ifCond .ne 11, 3) := by decide +kernel
theorem dX3_settleBids_95 : decode cX3_settleBids 95 = .ok (.aload_n 0, 1) := by decide +kernel
theorem dX3_settleBids_96 : decode cX3_settleBids 96 = .ok (.iload_n 1, 1) := by decide +kernel
theorem dX3_settleBids_97 : decode cX3_settleBids 97 = .ok (.invokevirtual 138, 3) := by decide +kernel
theorem dX3_settleBids_100 : decode cX3_settleBids 100 = .ok (.goto 4, 3) := by decide +kernel
theorem dX3_settleBids_103 : decode cX3_settleBids 103 = .ok (.iconst 0, 1) := by decide +kernel
theorem dX3_settleBids_104 : decode cX3_settleBids 104 = .ok (.iastore, 1) := by decide +kernel
theorem dX3_settleBids_105 : decode cX3_settleBids 105 = .ok (.aload_n 0, 1) := by decide +kernel
theorem dX3_settleBids_106 : decode cX3_settleBids 106 = .ok (.getfield 55, 3) := by decide +kernel
theorem dX3_settleBids_109 : decode cX3_settleBids 109 = .ok (.iload_n 1, 1) := by decide +kernel
theorem dX3_settleBids_110 : decode cX3_settleBids 110 = .ok (.iload 4, 2) := by decide +kernel
theorem dX3_settleBids_112 : decode cX3_settleBids 112 = .ok (.iastore, 1) := by decide +kernel
theorem dX3_settleBids_113 : decode cX3_settleBids 113 = .ok (.return_, 1) := by decide +kernel
theorem dX3_collectFrom_0 : decode cX3_collectFrom 0 = .ok (.iconst 0, 1) := by decide +kernel
theorem dX3_collectFrom_1 : decode cX3_collectFrom 1 = .ok (.istore_n 3, 1) := by decide +kernel
theorem dX3_collectFrom_2 : decode cX3_collectFrom 2 = .ok (.iconst 0, 1) := by decide +kernel
theorem dX3_collectFrom_3 : decode cX3_collectFrom 3 = .ok (.istore 4, 2) := by decide +kernel
theorem dX3_collectFrom_5 : decode cX3_collectFrom 5 = .ok (.iload 4, 2) := by decide +kernel
theorem dX3_collectFrom_7 : decode cX3_collectFrom 7 = .ok (.aload_n 0, 1) := by decide +kernel
theorem dX3_collectFrom_8 : decode cX3_collectFrom 8 = .ok (.getfield 67, 3) := by decide +kernel
theorem dX3_collectFrom_11 : decode cX3_collectFrom 11 = .ok (.if_icmp .ge 64, 3) := by decide +kernel
theorem dX3_collectFrom_14 : decode cX3_collectFrom 14 = .ok (.aload_n 0, 1) := by decide +kernel
theorem dX3_collectFrom_15 : decode cX3_collectFrom 15 = .ok (.iload 4, 2) := by decide +kernel
theorem dX3_collectFrom_17 : decode cX3_collectFrom 17 = .ok (.iload_n 1, 1) := by decide +kernel
theorem dX3_collectFrom_18 : decode cX3_collectFrom 18 = .ok (.iload_n 2, 1) := by decide +kernel
theorem dX3_collectFrom_19 : decode cX3_collectFrom 19 = .ok (.invokevirtual 76, 3) := by decide +kernel
theorem dX3_collectFrom_22 : decode cX3_collectFrom 22 = .ok (.istore 5, 2) := by decide +kernel
theorem dX3_collectFrom_24 : decode cX3_collectFrom 24 = .ok (.iload 5, 2) := by decide +kernel
theorem dX3_collectFrom_26 : decode cX3_collectFrom 26 = .ok (.ifCond .le 43, 3) := by decide +kernel
theorem dX3_collectFrom_29 : decode cX3_collectFrom 29 = .ok (.aload_n 0, 1) := by decide +kernel
theorem dX3_collectFrom_30 : decode cX3_collectFrom 30 = .ok (.getfield 15, 3) := by decide +kernel
theorem dX3_collectFrom_33 : decode cX3_collectFrom 33 = .ok (.iload 4, 2) := by decide +kernel
theorem dX3_collectFrom_35 : decode cX3_collectFrom 35 = .ok (.dup2, 1) := by decide +kernel
theorem dX3_collectFrom_36 : decode cX3_collectFrom 36 = .ok (.iaload, 1) := by decide +kernel
theorem dX3_collectFrom_37 : decode cX3_collectFrom 37 = .ok (.iload 5, 2) := by decide +kernel
theorem dX3_collectFrom_39 : decode cX3_collectFrom 39 = .ok (.isub, 1) := by decide +kernel
theorem dX3_collectFrom_40 : decode cX3_collectFrom 40 = .ok (.iastore, 1) := by decide +kernel
theorem dX3_collectFrom_41 : decode cX3_collectFrom 41 = .ok (.aload_n 0, 1) := by decide +kernel
theorem dX3_collectFrom_42 : decode cX3_collectFrom 42 = .ok (.getfield 28, 3) := by decide +kernel
theorem dX3_collectFrom_45 : decode cX3_collectFrom 45 = .ok (.iload 4, 2) := by decide +kernel
theorem dX3_collectFrom_47 : decode cX3_collectFrom 47 = .ok (.dup2, 1) := by decide +kernel
theorem dX3_collectFrom_48 : decode cX3_collectFrom 48 = .ok (.iaload, 1) := by decide +kernel
theorem dX3_collectFrom_49 : decode cX3_collectFrom 49 = .ok (.iconst 1, 1) := by decide +kernel
theorem dX3_collectFrom_50 : decode cX3_collectFrom 50 = .ok (.iadd, 1) := by decide +kernel
theorem dX3_collectFrom_51 : decode cX3_collectFrom 51 = .ok (.iastore, 1) := by decide +kernel
theorem dX3_collectFrom_52 : decode cX3_collectFrom 52 = .ok (.aload_n 0, 1) := by decide +kernel
theorem dX3_collectFrom_53 : decode cX3_collectFrom 53 = .ok (.getfield 31, 3) := by decide +kernel
theorem dX3_collectFrom_56 : decode cX3_collectFrom 56 = .ok (.iload 4, 2) := by decide +kernel
theorem dX3_collectFrom_58 : decode cX3_collectFrom 58 = .ok (.dup2, 1) := by decide +kernel
theorem dX3_collectFrom_59 : decode cX3_collectFrom 59 = .ok (.iaload, 1) := by decide +kernel
theorem dX3_collectFrom_60 : decode cX3_collectFrom 60 = .ok (.iload 5, 2) := by decide +kernel
theorem dX3_collectFrom_62 : decode cX3_collectFrom 62 = .ok (.iadd, 1) := by decide +kernel
theorem dX3_collectFrom_63 : decode cX3_collectFrom 63 = .ok (.iastore, 1) := by decide +kernel
theorem dX3_collectFrom_64 : decode cX3_collectFrom 64 = .ok (.iload_n 3, 1) := by decide +kernel
theorem dX3_collectFrom_65 : decode cX3_collectFrom 65 = .ok (.iload 5, 2) := by decide +kernel
theorem dX3_collectFrom_67 : decode cX3_collectFrom 67 = .ok (.iadd, 1) := by decide +kernel
theorem dX3_collectFrom_68 : decode cX3_collectFrom 68 = .ok (.istore_n 3, 1) := by decide +kernel
theorem dX3_collectFrom_69 : decode cX3_collectFrom 69 = .ok (.iinc 4 1, 3) := by decide +kernel
theorem dX3_collectFrom_72 : decode cX3_collectFrom 72 = .ok (.goto (-67), 3) := by decide +kernel
theorem dX3_collectFrom_75 : decode cX3_collectFrom 75 = .ok (.iload_n 3, 1) := by decide +kernel
theorem dX3_collectFrom_76 : decode cX3_collectFrom 76 = .ok (.ireturn, 1) := by decide +kernel
theorem dX3_shareOut_0 : decode cX3_shareOut 0 = .ok (.aload_n 0, 1) := by decide +kernel
theorem dX3_shareOut_1 : decode cX3_shareOut 1 = .ok (.iload_n 1, 1) := by decide +kernel
theorem dX3_shareOut_2 : decode cX3_shareOut 2 = .ok (.iload_n 2, 1) := by decide +kernel
theorem dX3_shareOut_3 : decode cX3_shareOut 3 = .ok (.invokevirtual 104, 3) := by decide +kernel
theorem dX3_shareOut_6 : decode cX3_shareOut 6 = .ok (.istore 4, 2) := by decide +kernel
theorem dX3_shareOut_8 : decode cX3_shareOut 8 = .ok (.iload 4, 2) := by decide +kernel
theorem dX3_shareOut_10 : decode cX3_shareOut 10 = .ok (.ifCond .gt 5, 3) := by decide +kernel
theorem dX3_shareOut_13 : decode cX3_shareOut 13 = .ok (.iconst 0, 1) := by decide +kernel
theorem dX3_shareOut_14 : decode cX3_shareOut 14 = .ok (.ireturn, 1) := by decide +kernel
theorem dX3_shareOut_15 : decode cX3_shareOut 15 = .ok (.iconst 0, 1) := by decide +kernel
theorem dX3_shareOut_16 : decode cX3_shareOut 16 = .ok (.istore 5, 2) := by decide +kernel
theorem dX3_shareOut_18 : decode cX3_shareOut 18 = .ok (.iconst 0, 1) := by decide +kernel
theorem dX3_shareOut_19 : decode cX3_shareOut 19 = .ok (.istore 6, 2) := by decide +kernel
theorem dX3_shareOut_21 : decode cX3_shareOut 21 = .ok (.iload 6, 2) := by decide +kernel
theorem dX3_shareOut_23 : decode cX3_shareOut 23 = .ok (.aload_n 0, 1) := by decide +kernel
theorem dX3_shareOut_24 : decode cX3_shareOut 24 = .ok (.getfield 67, 3) := by decide +kernel
theorem dX3_shareOut_27 : decode cX3_shareOut 27 = .ok (.if_icmp .ge 51, 3) := by decide +kernel
theorem dX3_shareOut_30 : decode cX3_shareOut 30 = .ok (.iload_n 3, 1) := by decide +kernel
theorem dX3_shareOut_31 : decode cX3_shareOut 31 = .ok (.aload_n 0, 1) := by decide +kernel
theorem dX3_shareOut_32 : decode cX3_shareOut 32 = .ok (.iload 6, 2) := by decide +kernel
theorem dX3_shareOut_34 : decode cX3_shareOut 34 = .ok (.iload_n 1, 1) := by decide +kernel
theorem dX3_shareOut_35 : decode cX3_shareOut 35 = .ok (.iload_n 2, 1) := by decide +kernel
theorem dX3_shareOut_36 : decode cX3_shareOut 36 = .ok (.invokevirtual 76, 3) := by decide +kernel
theorem dX3_shareOut_39 : decode cX3_shareOut 39 = .ok (.imul, 1) := by decide +kernel
theorem dX3_shareOut_40 : decode cX3_shareOut 40 = .ok (.iload 4, 2) := by decide +kernel
theorem dX3_shareOut_42 : decode cX3_shareOut 42 = .ok (.idiv, 1) := by decide +kernel
theorem dX3_shareOut_43 : decode cX3_shareOut 43 = .ok (.istore 7, 2) := by decide +kernel
theorem dX3_shareOut_45 : decode cX3_shareOut 45 = .ok (.aload_n 0, 1) := by decide +kernel
theorem dX3_shareOut_46 : decode cX3_shareOut 46 = .ok (.iload 6, 2) := by decide +kernel
theorem dX3_shareOut_48 : decode cX3_shareOut 48 = .ok (.iload 7, 2) := by decide +kernel
theorem dX3_shareOut_50 : decode cX3_shareOut 50 = .ok (.invokevirtual 141, 3) := by decide +kernel
theorem dX3_shareOut_53 : decode cX3_shareOut 53 = .ok (.aload_n 0, 1) := by decide +kernel
theorem dX3_shareOut_54 : decode cX3_shareOut 54 = .ok (.getfield 34, 3) := by decide +kernel
theorem dX3_shareOut_57 : decode cX3_shareOut 57 = .ok (.iload 6, 2) := by decide +kernel
theorem dX3_shareOut_59 : decode cX3_shareOut 59 = .ok (.dup2, 1) := by decide +kernel
theorem dX3_shareOut_60 : decode cX3_shareOut 60 = .ok (.iaload, 1) := by decide +kernel
theorem dX3_shareOut_61 : decode cX3_shareOut 61 = .ok (.iload 7, 2) := by decide +kernel
theorem dX3_shareOut_63 : decode cX3_shareOut 63 = .ok (.iadd, 1) := by decide +kernel
theorem dX3_shareOut_64 : decode cX3_shareOut 64 = .ok (.iastore, 1) := by decide +kernel
theorem dX3_shareOut_65 : decode cX3_shareOut 65 = .ok (.iload 5, 2) := by decide +kernel
theorem dX3_shareOut_67 : decode cX3_shareOut 67 = .ok (.iload 7, 2) := by decide +kernel
theorem dX3_shareOut_69 : decode cX3_shareOut 69 = .ok (.iadd, 1) := by decide +kernel
theorem dX3_shareOut_70 : decode cX3_shareOut 70 = .ok (.istore 5, 2) := by decide +kernel
theorem dX3_shareOut_72 : decode cX3_shareOut 72 = .ok (.iinc 6 1, 3) := by decide +kernel
theorem dX3_shareOut_75 : decode cX3_shareOut 75 = .ok (.goto (-54), 3) := by decide +kernel
theorem dX3_shareOut_78 : decode cX3_shareOut 78 = .ok (.iload 5, 2) := by decide +kernel
theorem dX3_shareOut_80 : decode cX3_shareOut 80 = .ok (.ireturn, 1) := by decide +kernel
theorem dX3_biddersForQuiet_0 : decode cX3_biddersForQuiet 0 = .ok (.iconst 0, 1) := by decide +kernel
theorem dX3_biddersForQuiet_1 : decode cX3_biddersForQuiet 1 = .ok (.istore_n 2, 1) := by decide +kernel
theorem dX3_biddersForQuiet_2 : decode cX3_biddersForQuiet 2 = .ok (.iconst 0, 1) := by decide +kernel
theorem dX3_biddersForQuiet_3 : decode cX3_biddersForQuiet 3 = .ok (.istore_n 3, 1) := by decide +kernel
theorem dX3_biddersForQuiet_4 : decode cX3_biddersForQuiet 4 = .ok (.iload_n 3, 1) := by decide +kernel
theorem dX3_biddersForQuiet_5 : decode cX3_biddersForQuiet 5 = .ok (.aload_n 0, 1) := by decide +kernel
theorem dX3_biddersForQuiet_6 : decode cX3_biddersForQuiet 6 = .ok (.getfield 67, 3) := by decide +kernel
theorem dX3_biddersForQuiet_9 : decode cX3_biddersForQuiet 9 = .ok (.if_icmp .ge 25, 3) := by decide +kernel
theorem dX3_biddersForQuiet_12 : decode cX3_biddersForQuiet 12 = .ok (.aload_n 0, 1) := by decide +kernel
theorem dX3_biddersForQuiet_13 : decode cX3_biddersForQuiet 13 = .ok (.iload_n 3, 1) := by decide +kernel
theorem dX3_biddersForQuiet_14 : decode cX3_biddersForQuiet 14 = .ok (.iload_n 1, 1) := by decide +kernel
theorem dX3_biddersForQuiet_15 : decode cX3_biddersForQuiet 15 = .ok (.iconst 0, 1) := by decide +kernel
theorem dX3_biddersForQuiet_16 : decode cX3_biddersForQuiet 16 = .ok (.invokevirtual 76, 3) := by decide +kernel
theorem dX3_biddersForQuiet_19 : decode cX3_biddersForQuiet 19 = .ok (.ifCond .le 9, 3) := by decide +kernel
theorem dX3_biddersForQuiet_22 : decode cX3_biddersForQuiet 22 = .ok (.iload_n 2, 1) := by decide +kernel
theorem dX3_biddersForQuiet_23 : decode cX3_biddersForQuiet 23 = .ok (.iconst 1, 1) := by decide +kernel
theorem dX3_biddersForQuiet_24 : decode cX3_biddersForQuiet 24 = .ok (.iload_n 3, 1) := by decide +kernel
theorem dX3_biddersForQuiet_25 : decode cX3_biddersForQuiet 25 = .ok (.ishl, 1) := by decide +kernel
theorem dX3_biddersForQuiet_26 : decode cX3_biddersForQuiet 26 = .ok (.ior, 1) := by decide +kernel
theorem dX3_biddersForQuiet_27 : decode cX3_biddersForQuiet 27 = .ok (.istore_n 2, 1) := by decide +kernel
theorem dX3_biddersForQuiet_28 : decode cX3_biddersForQuiet 28 = .ok (.iinc 3 1, 3) := by decide +kernel
theorem dX3_biddersForQuiet_31 : decode cX3_biddersForQuiet 31 = .ok (.goto (-27), 3) := by decide +kernel
theorem dX3_biddersForQuiet_34 : decode cX3_biddersForQuiet 34 = .ok (.iload_n 2, 1) := by decide +kernel
theorem dX3_biddersForQuiet_35 : decode cX3_biddersForQuiet 35 = .ok (.ireturn, 1) := by decide +kernel
theorem dX3_noteBreach_0 : decode cX3_noteBreach 0 = .ok (.iload_n 2, 1) := by decide +kernel
theorem dX3_noteBreach_1 : decode cX3_noteBreach 1 = .ok (.bipush 24, 2) := by decide +kernel
theorem dX3_noteBreach_3 : decode cX3_noteBreach 3 = .ok (.idiv, 1) := by decide +kernel
theorem dX3_noteBreach_4 : decode cX3_noteBreach 4 = .ok (.istore_n 3, 1) := by decide +kernel
theorem dX3_noteBreach_5 : decode cX3_noteBreach 5 = .ok (.aload_n 0, 1) := by decide +kernel
theorem dX3_noteBreach_6 : decode cX3_noteBreach 6 = .ok (.dup, 1) := by decide +kernel
theorem dX3_noteBreach_7 : decode cX3_noteBreach 7 = .ok (.getfield 64, 3) := by decide +kernel
theorem dX3_noteBreach_10 : decode cX3_noteBreach 10 = .ok (.iconst 1, 1) := by decide +kernel
theorem dX3_noteBreach_11 : decode cX3_noteBreach 11 = .ok (.iadd, 1) := by decide +kernel
theorem dX3_noteBreach_12 : decode cX3_noteBreach 12 = .ok (.putfield 64, 3) := by decide +kernel
theorem dX3_noteBreach_15 : decode cX3_noteBreach 15 = .ok (.aload_n 0, 1) := by decide +kernel
theorem dX3_noteBreach_16 : decode cX3_noteBreach 16 = .ok (.getfield 37, 3) := by decide +kernel
theorem dX3_noteBreach_19 : decode cX3_noteBreach 19 = .ok (.iload_n 1, 1) := by decide +kernel
theorem dX3_noteBreach_20 : decode cX3_noteBreach 20 = .ok (.dup2, 1) := by decide +kernel
theorem dX3_noteBreach_21 : decode cX3_noteBreach 21 = .ok (.iaload, 1) := by decide +kernel
theorem dX3_noteBreach_22 : decode cX3_noteBreach 22 = .ok (.iconst 1, 1) := by decide +kernel
theorem dX3_noteBreach_23 : decode cX3_noteBreach 23 = .ok (.iadd, 1) := by decide +kernel
theorem dX3_noteBreach_24 : decode cX3_noteBreach 24 = .ok (.iastore, 1) := by decide +kernel
theorem dX3_noteBreach_25 : decode cX3_noteBreach 25 = .ok (.aload_n 0, 1) := by decide +kernel
theorem dX3_noteBreach_26 : decode cX3_noteBreach 26 = .ok (.getfield 25, 3) := by decide +kernel
theorem dX3_noteBreach_29 : decode cX3_noteBreach 29 = .ok (.iload_n 1, 1) := by decide +kernel
theorem dX3_noteBreach_30 : decode cX3_noteBreach 30 = .ok (.iload_n 3, 1) := by decide +kernel
theorem dX3_noteBreach_31 : decode cX3_noteBreach 31 = .ok (.iastore, 1) := by decide +kernel
theorem dX3_noteBreach_32 : decode cX3_noteBreach 32 = .ok (.aload_n 0, 1) := by decide +kernel
theorem dX3_noteBreach_33 : decode cX3_noteBreach 33 = .ok (.getfield 9, 3) := by decide +kernel
theorem dX3_noteBreach_36 : decode cX3_noteBreach 36 = .ok (.aload_n 0, 1) := by decide +kernel
theorem dX3_noteBreach_37 : decode cX3_noteBreach 37 = .ok (.iload_n 1, 1) := by decide +kernel
theorem dX3_noteBreach_38 : decode cX3_noteBreach 38 = .ok (.invokevirtual 84, 3) := by decide +kernel
theorem dX3_noteBreach_41 : decode cX3_noteBreach 41 = .ok (.invokestatic 95, 3) := by decide +kernel
theorem dX3_noteBreach_44 : decode cX3_noteBreach 44 = .ok (.istore 4, 2) := by decide +kernel
theorem dX3_noteBreach_46 : decode cX3_noteBreach 46 = .ok (.aload_n 0, 1) := by decide +kernel
theorem dX3_noteBreach_47 : decode cX3_noteBreach 47 = .ok (.getfield 15, 3) := by decide +kernel
theorem dX3_noteBreach_50 : decode cX3_noteBreach 50 = .ok (.iload_n 1, 1) := by decide +kernel
theorem dX3_noteBreach_51 : decode cX3_noteBreach 51 = .ok (.dup2, 1) := by decide +kernel
theorem dX3_noteBreach_52 : decode cX3_noteBreach 52 = .ok (.iaload, 1) := by decide +kernel
theorem dX3_noteBreach_53 : decode cX3_noteBreach 53 = .ok (.iload 4, 2) := by decide +kernel
theorem dX3_noteBreach_55 : decode cX3_noteBreach 55 = .ok (.isub, 1) := by decide +kernel
theorem dX3_noteBreach_56 : decode cX3_noteBreach 56 = .ok (.iastore, 1) := by decide +kernel
theorem dX3_noteBreach_57 : decode cX3_noteBreach 57 = .ok (.aload_n 0, 1) := by decide +kernel
theorem dX3_noteBreach_58 : decode cX3_noteBreach 58 = .ok (.getfield 22, 3) := by decide +kernel
theorem dX3_noteBreach_61 : decode cX3_noteBreach 61 = .ok (.iload_n 1, 1) := by decide +kernel
theorem dX3_noteBreach_62 : decode cX3_noteBreach 62 = .ok (.dup2, 1) := by decide +kernel
theorem dX3_noteBreach_63 : decode cX3_noteBreach 63 = .ok (.iaload, 1) := by decide +kernel
theorem dX3_noteBreach_64 : decode cX3_noteBreach 64 = .ok (.aload_n 0, 1) := by decide +kernel
theorem dX3_noteBreach_65 : decode cX3_noteBreach 65 = .ok (.getfield 9, 3) := by decide +kernel
theorem dX3_noteBreach_68 : decode cX3_noteBreach 68 = .ok (.iload 4, 2) := by decide +kernel
theorem dX3_noteBreach_70 : decode cX3_noteBreach 70 = .ok (.isub, 1) := by decide +kernel
theorem dX3_noteBreach_71 : decode cX3_noteBreach 71 = .ok (.iadd, 1) := by decide +kernel
theorem dX3_noteBreach_72 : decode cX3_noteBreach 72 = .ok (.iastore, 1) := by decide +kernel
theorem dX3_noteBreach_73 : decode cX3_noteBreach 73 = .ok (.aload_n 0, 1) := by decide +kernel
theorem dX3_noteBreach_74 : decode cX3_noteBreach 74 = .ok (.iload_n 2, 1) := by decide +kernel
theorem dX3_noteBreach_75 : decode cX3_noteBreach 75 = .ok (.iload 4, 2) := by decide +kernel
theorem dX3_noteBreach_77 : decode cX3_noteBreach 77 = .ok (.invokevirtual 145, 3) := by decide +kernel
theorem dX3_noteBreach_80 : decode cX3_noteBreach 80 = .ok (.istore 5, 2) := by decide +kernel
theorem dX3_noteBreach_82 : decode cX3_noteBreach 82 = .ok (.aload_n 0, 1) := by decide +kernel
theorem dX3_noteBreach_83 : decode cX3_noteBreach 83 = .ok (.getfield 58, 3) := by decide +kernel
theorem dX3_noteBreach_86 : decode cX3_noteBreach 86 = .ok (.iload_n 3, 1) := by decide +kernel
theorem dX3_noteBreach_87 : decode cX3_noteBreach 87 = .ok (.dup2, 1) := by decide +kernel
theorem dX3_noteBreach_88 : decode cX3_noteBreach 88 = .ok (.iaload, 1) := by decide +kernel
theorem dX3_noteBreach_89 : decode cX3_noteBreach 89 = .ok (.iload 4, 2) := by decide +kernel
theorem dX3_noteBreach_91 : decode cX3_noteBreach 91 = .ok (.iload 5, 2) := by decide +kernel
theorem dX3_noteBreach_93 : decode cX3_noteBreach 93 = .ok (.isub, 1) := by decide +kernel
theorem dX3_noteBreach_94 : decode cX3_noteBreach 94 = .ok (.iadd, 1) := by decide +kernel
theorem dX3_noteBreach_95 : decode cX3_noteBreach 95 = .ok (.iastore, 1) := by decide +kernel
theorem dX3_noteBreach_96 : decode cX3_noteBreach 96 = .ok (.iload 4, 2) := by decide +kernel
theorem dX3_noteBreach_98 : decode cX3_noteBreach 98 = .ok (.ireturn, 1) := by decide +kernel
theorem dX3_shareFine_0 : decode cX3_shareFine 0 = .ok (.aload_n 0, 1) := by decide +kernel
theorem dX3_shareFine_1 : decode cX3_shareFine 1 = .ok (.getfield 52, 3) := by decide +kernel
theorem dX3_shareFine_4 : decode cX3_shareFine 4 = .ok (.iload_n 1, 1) := by decide +kernel
theorem dX3_shareFine_5 : decode cX3_shareFine 5 = .ok (.iaload, 1) := by decide +kernel
theorem dX3_shareFine_6 : decode cX3_shareFine 6 = .ok (.invokestatic 148, 3) := by decide +kernel
theorem dX3_shareFine_9 : decode cX3_shareFine 9 = .ok (.istore_n 3, 1) := by decide +kernel
theorem dX3_shareFine_10 : decode cX3_shareFine 10 = .ok (.iload_n 3, 1) := by decide +kernel
theorem dX3_shareFine_11 : decode cX3_shareFine 11 = .ok (.ifCond .gt 5, 3) := by decide +kernel
theorem dX3_shareFine_14 : decode cX3_shareFine 14 = .ok (.iconst 0, 1) := by decide +kernel
theorem dX3_shareFine_15 : decode cX3_shareFine 15 = .ok (.ireturn, 1) := by decide +kernel
theorem dX3_shareFine_16 : decode cX3_shareFine 16 = .ok (.iload_n 2, 1) := by decide +kernel
theorem dX3_shareFine_17 : decode cX3_shareFine 17 = .ok (.iload_n 3, 1) := by decide +kernel
theorem dX3_shareFine_18 : decode cX3_shareFine 18 = .ok (.idiv, 1) := by decide +kernel
theorem dX3_shareFine_19 : decode cX3_shareFine 19 = .ok (.istore 4, 2) := by decide +kernel
theorem dX3_shareFine_21 : decode cX3_shareFine 21 = .ok (.iconst 0, 1) := by decide +kernel
theorem dX3_shareFine_22 : decode cX3_shareFine 22 = .ok (.istore 5, 2) := by decide +kernel
theorem dX3_shareFine_24 : decode cX3_shareFine 24 = .ok (.iload 5, 2) := by decide +kernel
theorem dX3_shareFine_26 : decode cX3_shareFine 26 = .ok (.aload_n 0, 1) := by decide +kernel
theorem dX3_shareFine_27 : decode cX3_shareFine 27 = .ok (.getfield 67, 3) := by decide +kernel
theorem dX3_shareFine_30 : decode cX3_shareFine 30 = .ok (.if_icmp .ge 32, 3) := by decide +kernel
theorem dX3_shareFine_33 : decode cX3_shareFine 33 = .ok (.aload_n 0, 1) := by decide +kernel
theorem dX3_shareFine_34 : decode cX3_shareFine 34 = .ok (.getfield 52, 3) := by decide +kernel
theorem dX3_shareFine_37 : decode cX3_shareFine 37 = .ok (.iload_n 1, 1) := by decide +kernel
theorem dX3_shareFine_38 : decode cX3_shareFine 38 = .ok (.iaload, 1) := by decide +kernel
theorem dX3_shareFine_39 : decode cX3_shareFine 39 = .ok (.iload 5, 2) := by decide +kernel
theorem dX3_shareFine_41 : decode cX3_shareFine 41 = .ok (.ishr, 1) := by decide +kernel
theorem dX3_shareFine_42 : decode cX3_shareFine 42 = .ok (.iconst 1, 1) := by decide +kernel
theorem dX3_shareFine_43 : decode cX3_shareFine 43 = .ok (.iand, 1) := by decide +kernel
theorem dX3_shareFine_44 : decode cX3_shareFine 44 = .ok (.iconst 1, 1) := by decide +kernel
theorem dX3_shareFine_45 : decode cX3_shareFine 45 = .ok (.if_icmp .ne 11, 3) := by decide +kernel
theorem dX3_shareFine_48 : decode cX3_shareFine 48 = .ok (.aload_n 0, 1) := by decide +kernel
theorem dX3_shareFine_49 : decode cX3_shareFine 49 = .ok (.iload 5, 2) := by decide +kernel
theorem dX3_shareFine_51 : decode cX3_shareFine 51 = .ok (.iload 4, 2) := by decide +kernel
theorem dX3_shareFine_53 : decode cX3_shareFine 53 = .ok (.invokevirtual 141, 3) := by decide +kernel
theorem dX3_shareFine_56 : decode cX3_shareFine 56 = .ok (.iinc 5 1, 3) := by decide +kernel
theorem dX3_shareFine_59 : decode cX3_shareFine 59 = .ok (.goto (-35), 3) := by decide +kernel
theorem dX3_shareFine_62 : decode cX3_shareFine 62 = .ok (.iload 4, 2) := by decide +kernel
theorem dX3_shareFine_64 : decode cX3_shareFine 64 = .ok (.iload_n 3, 1) := by decide +kernel
theorem dX3_shareFine_65 : decode cX3_shareFine 65 = .ok (.imul, 1) := by decide +kernel
theorem dX3_shareFine_66 : decode cX3_shareFine 66 = .ok (.ireturn, 1) := by decide +kernel
theorem dX3_noisySlots_0 : decode cX3_noisySlots 0 = .ok (.iconst 0, 1) := by decide +kernel
theorem dX3_noisySlots_1 : decode cX3_noisySlots 1 = .ok (.istore_n 1, 1) := by decide +kernel
theorem dX3_noisySlots_2 : decode cX3_noisySlots 2 = .ok (.iconst 0, 1) := by decide +kernel
theorem dX3_noisySlots_3 : decode cX3_noisySlots 3 = .ok (.istore_n 2, 1) := by decide +kernel
theorem dX3_noisySlots_4 : decode cX3_noisySlots 4 = .ok (.iload_n 2, 1) := by decide +kernel
theorem dX3_noisySlots_5 : decode cX3_noisySlots 5 = .ok (.iconst 4, 1) := by decide +kernel
theorem dX3_noisySlots_6 : decode cX3_noisySlots 6 = .ok (.if_icmp .ge 20, 3) := by decide +kernel
theorem dX3_noisySlots_9 : decode cX3_noisySlots 9 = .ok (.iload_n 1, 1) := by decide +kernel
theorem dX3_noisySlots_10 : decode cX3_noisySlots 10 = .ok (.bipush 24, 2) := by decide +kernel
theorem dX3_noisySlots_12 : decode cX3_noisySlots 12 = .ok (.aload_n 0, 1) := by decide +kernel
theorem dX3_noisySlots_13 : decode cX3_noisySlots 13 = .ok (.iload_n 2, 1) := by decide +kernel
theorem dX3_noisySlots_14 : decode cX3_noisySlots 14 = .ok (.invokevirtual 153, 3) := by decide +kernel
theorem dX3_noisySlots_17 : decode cX3_noisySlots 17 = .ok (.isub, 1) := by decide +kernel
theorem dX3_noisySlots_18 : decode cX3_noisySlots 18 = .ok (.iadd, 1) := by decide +kernel
theorem dX3_noisySlots_19 : decode cX3_noisySlots 19 = .ok (.istore_n 1, 1) := by decide +kernel
theorem dX3_noisySlots_20 : decode cX3_noisySlots 20 = .ok (.iinc 2 1, 3) := by decide +kernel
theorem dX3_noisySlots_23 : decode cX3_noisySlots 23 = .ok (.goto (-19), 3) := by decide +kernel
theorem dX3_noisySlots_26 : decode cX3_noisySlots 26 = .ok (.iload_n 1, 1) := by decide +kernel
theorem dX3_noisySlots_27 : decode cX3_noisySlots 27 = .ok (.ireturn, 1) := by decide +kernel
theorem dX3_quietHours_0 : decode cX3_quietHours 0 = .ok (.iconst 0, 1) := by decide +kernel
theorem dX3_quietHours_1 : decode cX3_quietHours 1 = .ok (.istore_n 2, 1) := by decide +kernel
theorem dX3_quietHours_2 : decode cX3_quietHours 2 = .ok (.iconst 0, 1) := by decide +kernel
theorem dX3_quietHours_3 : decode cX3_quietHours 3 = .ok (.istore_n 3, 1) := by decide +kernel
theorem dX3_quietHours_4 : decode cX3_quietHours 4 = .ok (.iload_n 3, 1) := by decide +kernel
theorem dX3_quietHours_5 : decode cX3_quietHours 5 = .ok (.bipush 24, 2) := by decide +kernel
theorem dX3_quietHours_7 : decode cX3_quietHours 7 = .ok (.if_icmp .ge 30, 3) := by decide +kernel
theorem dX3_quietHours_10 : decode cX3_quietHours 10 = .ok (.iload_n 2, 1) := by decide +kernel
theorem dX3_quietHours_11 : decode cX3_quietHours 11 = .ok (.aload_n 0, 1) := by decide +kernel
theorem dX3_quietHours_12 : decode cX3_quietHours 12 = .ok (.getfield 43, 3) := by decide +kernel
theorem dX3_quietHours_15 : decode cX3_quietHours 15 = .ok (.iload_n 1, 1) := by decide +kernel
theorem dX3_quietHours_16 : decode cX3_quietHours 16 = .ok (.iload_n 3, 1) := by decide +kernel
theorem dX3_quietHours_17 : decode cX3_quietHours 17 = .ok (.invokestatic 156, 3) := by decide +kernel
theorem dX3_quietHours_20 : decode cX3_quietHours 20 = .ok (.iaload, 1) := by decide +kernel
theorem dX3_quietHours_21 : decode cX3_quietHours 21 = .ok (.ifCond .ne 7, 3) := by decide +kernel
theorem dX3_quietHours_24 : decode cX3_quietHours 24 = .ok (.iconst 1, 1) := by decide +kernel
theorem dX3_quietHours_25 : decode cX3_quietHours 25 = .ok (.goto 4, 3) := by decide +kernel
theorem dX3_quietHours_28 : decode cX3_quietHours 28 = .ok (.iconst 0, 1) := by decide +kernel
theorem dX3_quietHours_29 : decode cX3_quietHours 29 = .ok (.iadd, 1) := by decide +kernel
theorem dX3_quietHours_30 : decode cX3_quietHours 30 = .ok (.istore_n 2, 1) := by decide +kernel
theorem dX3_quietHours_31 : decode cX3_quietHours 31 = .ok (.iinc 3 1, 3) := by decide +kernel
theorem dX3_quietHours_34 : decode cX3_quietHours 34 = .ok (.goto (-30), 3) := by decide +kernel
theorem dX3_quietHours_37 : decode cX3_quietHours 37 = .ok (.iload_n 2, 1) := by decide +kernel
theorem dX3_quietHours_38 : decode cX3_quietHours 38 = .ok (.ireturn, 1) := by decide +kernel
theorem dX3_longestQuiet_0 : decode cX3_longestQuiet 0 = .ok (.iconst 0, 1) := by decide +kernel
theorem dX3_longestQuiet_1 : decode cX3_longestQuiet 1 = .ok (.istore_n 2, 1) := by decide +kernel
theorem dX3_longestQuiet_2 : decode cX3_longestQuiet 2 = .ok (.iconst 0, 1) := by decide +kernel
theorem dX3_longestQuiet_3 : decode cX3_longestQuiet 3 = .ok (.istore_n 3, 1) := by decide +kernel
theorem dX3_longestQuiet_4 : decode cX3_longestQuiet 4 = .ok (.iload_n 3, 1) := by decide +kernel
theorem dX3_longestQuiet_5 : decode cX3_longestQuiet 5 = .ok (.bipush 24, 2) := by decide +kernel
theorem dX3_longestQuiet_7 : decode cX3_longestQuiet 7 = .ok (.if_icmp .ge 20, 3) := by decide +kernel
theorem dX3_longestQuiet_10 : decode cX3_longestQuiet 10 = .ok (.iload_n 2, 1) := by decide +kernel
theorem dX3_longestQuiet_11 : decode cX3_longestQuiet 11 = .ok (.aload_n 0, 1) := by decide +kernel
theorem dX3_longestQuiet_12 : decode cX3_longestQuiet 12 = .ok (.iload_n 1, 1) := by decide +kernel
theorem dX3_longestQuiet_13 : decode cX3_longestQuiet 13 = .ok (.iload_n 3, 1) := by decide +kernel
theorem dX3_longestQuiet_14 : decode cX3_longestQuiet 14 = .ok (.invokevirtual 159, 3) := by decide +kernel
theorem dX3_longestQuiet_17 : decode cX3_longestQuiet 17 = .ok (.invokestatic 119, 3) := by decide +kernel
theorem dX3_longestQuiet_20 : decode cX3_longestQuiet 20 = .ok (.istore_n 2, 1) := by decide +kernel
theorem dX3_longestQuiet_21 : decode cX3_longestQuiet 21 = .ok (.iinc 3 1, 3) := by decide +kernel
theorem dX3_longestQuiet_24 : decode cX3_longestQuiet 24 = .ok (.goto (-20), 3) := by decide +kernel
theorem dX3_longestQuiet_27 : decode cX3_longestQuiet 27 = .ok (.iload_n 2, 1) := by decide +kernel
theorem dX3_longestQuiet_28 : decode cX3_longestQuiet 28 = .ok (.ireturn, 1) := by decide +kernel
theorem dX3_longestQuietStart_0 : decode cX3_longestQuietStart 0 = .ok (.bipush (-9), 2) := by decide +kernel
theorem dX3_longestQuietStart_2 : decode cX3_longestQuietStart 2 = .ok (.istore_n 2, 1) := by decide +kernel
theorem dX3_longestQuietStart_3 : decode cX3_longestQuietStart 3 = .ok (.iconst 0, 1) := by decide +kernel
theorem dX3_longestQuietStart_4 : decode cX3_longestQuietStart 4 = .ok (.istore_n 3, 1) := by decide +kernel
theorem dX3_longestQuietStart_5 : decode cX3_longestQuietStart 5 = .ok (.iconst 0, 1) := by decide +kernel
theorem dX3_longestQuietStart_6 : decode cX3_longestQuietStart 6 = .ok (.istore 4, 2) := by decide +kernel
theorem dX3_longestQuietStart_8 : decode cX3_longestQuietStart 8 = .ok (.iload 4, 2) := by decide +kernel
theorem dX3_longestQuietStart_10 : decode cX3_longestQuietStart 10 = .ok (.bipush 24, 2) := by decide +kernel
theorem dX3_longestQuietStart_12 : decode cX3_longestQuietStart 12 = .ok (.if_icmp .ge 30, 3) := by decide +kernel
theorem dX3_longestQuietStart_15 : decode cX3_longestQuietStart 15 = .ok (.aload_n 0, 1) := by decide +kernel
theorem dX3_longestQuietStart_16 : decode cX3_longestQuietStart 16 = .ok (.iload_n 1, 1) := by decide +kernel
theorem dX3_longestQuietStart_17 : decode cX3_longestQuietStart 17 = .ok (.iload 4, 2) := by decide +kernel
theorem dX3_longestQuietStart_19 : decode cX3_longestQuietStart 19 = .ok (.invokevirtual 159, 3) := by decide +kernel
theorem dX3_longestQuietStart_22 : decode cX3_longestQuietStart 22 = .ok (.istore 5, 2) := by decide +kernel
theorem dX3_longestQuietStart_24 : decode cX3_longestQuietStart 24 = .ok (.iload 5, 2) := by decide +kernel
theorem dX3_longestQuietStart_26 : decode cX3_longestQuietStart 26 = .ok (.iload_n 3, 1) := by decide +kernel
theorem dX3_longestQuietStart_27 : decode cX3_longestQuietStart 27 = .ok (.if_icmp .le 9, 3) := by decide +kernel
theorem dX3_longestQuietStart_30 : decode cX3_longestQuietStart 30 = .ok (.iload 5, 2) := by decide +kernel
theorem dX3_longestQuietStart_32 : decode cX3_longestQuietStart 32 = .ok (.istore_n 3, 1) := by decide +kernel
theorem dX3_longestQuietStart_33 : decode cX3_longestQuietStart 33 = .ok (.iload 4, 2) := by decide +kernel
theorem dX3_longestQuietStart_35 : decode cX3_longestQuietStart 35 = .ok (.istore_n 2, 1) := by decide +kernel
theorem dX3_longestQuietStart_36 : decode cX3_longestQuietStart 36 = .ok (.iinc 4 1, 3) := by decide +kernel
theorem dX3_longestQuietStart_39 : decode cX3_longestQuietStart 39 = .ok (.goto (-31), 3) := by decide +kernel
theorem dX3_longestQuietStart_42 : decode cX3_longestQuietStart 42 = .ok (.iload_n 2, 1) := by decide +kernel
theorem dX3_longestQuietStart_43 : decode cX3_longestQuietStart 43 = .ok (.ireturn, 1) := by decide +kernel
theorem dX3_quietFrom_0 : decode cX3_quietFrom 0 = .ok (.iload_n 2, 1) := by decide +kernel
theorem dX3_quietFrom_1 : decode cX3_quietFrom 1 = .ok (.istore_n 3, 1) := by decide +kernel
theorem dX3_quietFrom_2 : decode cX3_quietFrom 2 = .ok (.iload_n 3, 1) := by decide +kernel
theorem dX3_quietFrom_3 : decode cX3_quietFrom 3 = .ok (.bipush 24, 2) := by decide +kernel
theorem dX3_quietFrom_5 : decode cX3_quietFrom 5 = .ok (.if_icmp .ge 22, 3) := by decide +kernel
theorem dX3_quietFrom_8 : decode cX3_quietFrom 8 = .ok (.aload_n 0, 1) := by decide +kernel
theorem dX3_quietFrom_9 : decode cX3_quietFrom 9 = .ok (.getfield 43, 3) := by decide +kernel
theorem dX3_quietFrom_12 : decode cX3_quietFrom 12 = .ok (.iload_n 1, 1) := by decide +kernel
theorem dX3_quietFrom_13 : decode cX3_quietFrom 13 = .ok (.iload_n 3, 1) := by decide +kernel
theorem dX3_quietFrom_14 : decode cX3_quietFrom 14 = .ok (.invokestatic 156, 3) := by decide +kernel
theorem dX3_quietFrom_17 : decode cX3_quietFrom 17 = .ok (.iaload, 1) := by decide +kernel
theorem dX3_quietFrom_18 : decode cX3_quietFrom 18 = .ok (.ifCond .ne 9, 3) := by decide +kernel
theorem dX3_quietFrom_21 : decode cX3_quietFrom 21 = .ok (.iinc 3 1, 3) := by decide +kernel
theorem dX3_quietFrom_24 : decode cX3_quietFrom 24 = .ok (.goto (-22), 3) := by decide +kernel
theorem dX3_quietFrom_27 : decode cX3_quietFrom 27 = .ok (.iload_n 3, 1) := by decide +kernel
theorem dX3_quietFrom_28 : decode cX3_quietFrom 28 = .ok (.iload_n 2, 1) := by decide +kernel
theorem dX3_quietFrom_29 : decode cX3_quietFrom 29 = .ok (.isub, 1) := by decide +kernel
theorem dX3_quietFrom_30 : decode cX3_quietFrom 30 = .ok (.ireturn, 1) := by decide +kernel
theorem dX4_init_0 : decode cX4_init 0 = .ok (.aload_n 0, 1) := by decide +kernel
theorem dX4_init_1 : decode cX4_init 1 = .ok (.invokespecial 3, 3) := by decide +kernel
theorem dX4_init_4 : decode cX4_init 4 = .ok (.aload_n 0, 1) := by decide +kernel
theorem dX4_init_5 : decode cX4_init 5 = .ok (.new 9, 3) := by decide +kernel
theorem dX4_init_8 : decode cX4_init 8 = .ok (.dup, 1) := by decide +kernel
theorem dX4_init_9 : decode cX4_init 9 = .ok (.invokespecial 11, 3) := by decide +kernel
theorem dX4_init_12 : decode cX4_init 12 = .ok (.putfield 12, 3) := by decide +kernel
theorem dX4_init_15 : decode cX4_init 15 = .ok (.aload_n 0, 1) := by decide +kernel
theorem dX4_init_16 : decode cX4_init 16 = .ok (.new 9, 3) := by decide +kernel
theorem dX4_init_19 : decode cX4_init 19 = .ok (.dup, 1) := by decide +kernel
theorem dX4_init_20 : decode cX4_init 20 = .ok (.invokespecial 11, 3) := by decide +kernel
theorem dX4_init_23 : decode cX4_init 23 = .ok (.putfield 16, 3) := by decide +kernel
theorem dX4_init_26 : decode cX4_init 26 = .ok (.aload_n 0, 1) := by decide +kernel
theorem dX4_init_27 : decode cX4_init 27 = .ok (.new 19, 3) := by decide +kernel
theorem dX4_init_30 : decode cX4_init 30 = .ok (.dup, 1) := by decide +kernel
theorem dX4_init_31 : decode cX4_init 31 = .ok (.invokespecial 21, 3) := by decide +kernel
theorem dX4_init_34 : decode cX4_init 34 = .ok (.putfield 22, 3) := by decide +kernel
theorem dX4_init_37 : decode cX4_init 37 = .ok (.aload_n 0, 1) := by decide +kernel
theorem dX4_init_38 : decode cX4_init 38 = .ok (.new 26, 3) := by decide +kernel
theorem dX4_init_41 : decode cX4_init 41 = .ok (.dup, 1) := by decide +kernel
theorem dX4_init_42 : decode cX4_init 42 = .ok (.invokespecial 28, 3) := by decide +kernel
theorem dX4_init_45 : decode cX4_init 45 = .ok (.putfield 29, 3) := by decide +kernel
theorem dX4_init_48 : decode cX4_init 48 = .ok (.aload_n 0, 1) := by decide +kernel
theorem dX4_init_49 : decode cX4_init 49 = .ok (.iconst 5, 1) := by decide +kernel
theorem dX4_init_50 : decode cX4_init 50 = .ok (.newarray .int, 2) := by decide +kernel
theorem dX4_init_52 : decode cX4_init 52 = .ok (.putfield 33, 3) := by decide +kernel
theorem dX4_init_55 : decode cX4_init 55 = .ok (.return_, 1) := by decide +kernel
theorem dX4_join_0 : decode cX4_join 0 = .ok (.iload_n 1, 1) := by decide +kernel
theorem dX4_join_1 : decode cX4_join 1 = .ok (.iconst 0, 1) := by decide +kernel
theorem dX4_join_2 : decode cX4_join 2 = .ok (.ldc 37, 2) := by decide +kernel
theorem dX4_join_4 : decode cX4_join 4 = .ok (.invokestatic 38, 3) := by decide +kernel
theorem dX4_join_7 : decode cX4_join 7 = .ok (.ifCond .ne 5, 3) := by decide +kernel
theorem dX4_join_10 : decode cX4_join 10 = .ok (.iconst (-1), 1) := by decide +kernel
theorem dX4_join_11 : decode cX4_join 11 = .ok (.ireturn, 1) := by decide +kernel
theorem dX4_join_12 : decode cX4_join 12 = .ok (.aload_n 0, 1) := by decide +kernel
theorem dX4_join_13 : decode cX4_join 13 = .ok (.getfield 12, 3) := by decide +kernel
theorem dX4_join_16 : decode cX4_join 16 = .ok (.getfield 42, 3) := by decide +kernel
theorem dX4_join_19 : decode cX4_join 19 = .ok (.bipush 12, 2) := by decide +kernel
theorem dX4_join_21 : decode cX4_join 21 = .ok (.if_icmp .lt 6, 3) := by decide +kernel
theorem dX4_join_24 : decode cX4_join 24 = .ok (.bipush (-3), 2) := by decide +kernel
theorem dX4_join_26 : decode cX4_join 26 = .ok (.ireturn, 1) := by decide +kernel
theorem dX4_join_27 : decode cX4_join 27 = .ok (.aload_n 0, 1) := by decide +kernel
theorem dX4_join_28 : decode cX4_join 28 = .ok (.getfield 22, 3) := by decide +kernel
theorem dX4_join_31 : decode cX4_join 31 = .ok (.aload_n 0, 1) := by decide +kernel
theorem dX4_join_32 : decode cX4_join 32 = .ok (.getfield 12, 3) := by decide +kernel
theorem dX4_join_35 : decode cX4_join 35 = .ok (.invokevirtual 46, 3) := by decide +kernel
theorem dX4_join_38 : decode cX4_join 38 = .ok (.aload_n 0, 1) := by decide +kernel
theorem dX4_join_39 : decode cX4_join 39 = .ok (.getfield 12, 3) := by decide +kernel
theorem dX4_join_42 : decode cX4_join 42 = .ok (.getfield 50, 3) := by decide +kernel
theorem dX4_join_45 : decode cX4_join 45 = .ok (.aload_n 0, 1) := by decide +kernel
theorem dX4_join_46 : decode cX4_join 46 = .ok (.getfield 12, 3) := by decide +kernel
theorem dX4_join_49 : decode cX4_join 49 = .ok (.getfield 42, 3) := by decide +kernel
theorem dX4_join_52 : decode cX4_join 52 = .ok (.iload_n 1, 1) := by decide +kernel
theorem dX4_join_53 : decode cX4_join 53 = .ok (.iastore, 1) := by decide +kernel
theorem dX4_join_54 : decode cX4_join 54 = .ok (.aload_n 0, 1) := by decide +kernel
theorem dX4_join_55 : decode cX4_join 55 = .ok (.getfield 12, 3) := by decide +kernel
theorem dX4_join_58 : decode cX4_join 58 = .ok (.dup, 1) := by decide +kernel
theorem dX4_join_59 : decode cX4_join 59 = .ok (.getfield 42, 3) := by decide +kernel
theorem dX4_join_62 : decode cX4_join 62 = .ok (.iconst 1, 1) := by decide +kernel
theorem dX4_join_63 : decode cX4_join 63 = .ok (.iadd, 1) := by decide +kernel
theorem dX4_join_64 : decode cX4_join 64 = .ok (.putfield 42, 3) := by decide +kernel
theorem dX4_join_67 : decode cX4_join 67 = .ok (.aload_n 0, 1) := by decide +kernel
theorem dX4_join_68 : decode cX4_join 68 = .ok (.getfield 12, 3) := by decide +kernel
theorem dX4_join_71 : decode cX4_join 71 = .ok (.getfield 42, 3) := by decide +kernel
theorem dX4_join_74 : decode cX4_join 74 = .ok (.iconst 1, 1) := by decide +kernel
theorem dX4_join_75 : decode cX4_join 75 = .ok (.isub, 1) := by decide +kernel
theorem dX4_join_76 : decode cX4_join 76 = .ok (.ireturn, 1) := by decide +kernel
theorem dX4_pay_0 : decode cX4_pay 0 = .ok (.aload_n 0, 1) := by decide +kernel
theorem dX4_pay_1 : decode cX4_pay 1 = .ok (.iload_n 1, 1) := by decide +kernel
theorem dX4_pay_2 : decode cX4_pay 2 = .ok (.invokevirtual 53, 3) := by decide +kernel
theorem dX4_pay_5 : decode cX4_pay 5 = .ok (.ifCond .eq 14, 3) := by decide +kernel
theorem dX4_pay_8 : decode cX4_pay 8 = .ok (.iload_n 2, 1) := by decide +kernel
theorem dX4_pay_9 : decode cX4_pay 9 = .ok (.ldc 57, 2) := by decide +kernel
theorem dX4_pay_11 : decode cX4_pay 11 = .ok (.ldc 37, 2) := by decide +kernel
theorem dX4_pay_13 : decode cX4_pay 13 = .ok (.invokestatic 38, 3) := by decide +kernel
theorem dX4_pay_16 : decode cX4_pay 16 = .ok (.ifCond .ne 5, 3) := by decide +kernel
theorem dX4_pay_19 : decode cX4_pay 19 = .ok (.iconst (-1), 1) := by decide +kernel
theorem dX4_pay_20 : decode cX4_pay 20 = .ok (.ireturn, 1) := by decide +kernel
theorem dX4_pay_21 : decode cX4_pay 21 = .ok (.aload_n 0, 1) := by decide +kernel
theorem dX4_pay_22 : decode cX4_pay 22 = .ok (.getfield 12, 3) := by decide +kernel
theorem dX4_pay_25 : decode cX4_pay 25 = .ok (.iload_n 1, 1) := by decide +kernel
theorem dX4_pay_26 : decode cX4_pay 26 = .ok (.iload_n 2, 1) := by decide +kernel
theorem dX4_pay_27 : decode cX4_pay 27 = .ok (.invokevirtual 58, 3) := by decide +kernel
theorem dX4_pay_30 : decode cX4_pay 30 = .ok (.ifCond .ne 6, 3) := by decide +kernel
theorem dX4_pay_33 : decode cX4_pay 33 = .ok (.bipush (-2), 2) := by decide +kernel
theorem dX4_pay_35 : decode cX4_pay 35 = .ok (.ireturn, 1) := by decide +kernel
theorem dX4_pay_36 : decode cX4_pay 36 = .ok (.aload_n 0, 1) := by decide +kernel
theorem dX4_pay_37 : decode cX4_pay 37 = .ok (.getfield 22, 3) := by decide +kernel
theorem dX4_pay_40 : decode cX4_pay 40 = .ok (.aload_n 0, 1) := by decide +kernel
theorem dX4_pay_41 : decode cX4_pay 41 = .ok (.getfield 12, 3) := by decide +kernel
theorem dX4_pay_44 : decode cX4_pay 44 = .ok (.invokevirtual 46, 3) := by decide +kernel
theorem dX4_pay_47 : decode cX4_pay 47 = .ok (.iload_n 2, 1) := by decide +kernel
theorem dX4_pay_48 : decode cX4_pay 48 = .ok (.ifCond .ge 19, 3) := by decide +kernel
theorem dX4_pay_51 : decode cX4_pay 51 = .ok (.aload_n 0, 1) := by decide +kernel
theorem dX4_pay_52 : decode cX4_pay 52 = .ok (.getfield 12, 3) := by decide +kernel
theorem dX4_pay_55 : decode cX4_pay 55 = .ok (.getfield 50, 3) := by decide +kernel
theorem dX4_pay_58 : decode cX4_pay 58 = .ok (.iload_n 1, 1) := by decide +kernel
theorem dX4_pay_59 : decode cX4_pay 59 = .ok (.dup2, 1) := by decide +kernel
theorem dX4_pay_60 : decode cX4_pay 60 = .ok (.iaload, 1) := by decide +kernel
theorem dX4_pay_61 : decode cX4_pay 61 = .ok (.iload_n 2, 1) := by decide +kernel
theorem dX4_pay_62 : decode cX4_pay 62 = .ok (.iadd, 1) := by decide +kernel
theorem dX4_pay_63 : decode cX4_pay 63 = .ok (.iastore, 1) := by decide +kernel
theorem dX4_pay_64 : decode cX4_pay 64 = .ok (.goto 12, 3) := by decide +kernel
theorem dX4_pay_67 : decode cX4_pay 67 = .ok (.aload_n 0, 1) := by decide +kernel
theorem dX4_pay_68 : decode cX4_pay 68 = .ok (.getfield 12, 3) := by decide +kernel
theorem dX4_pay_71 : decode cX4_pay 71 = .ok (.iload_n 1, 1) := by decide +kernel
theorem dX4_pay_72 : decode cX4_pay 72 = .ok (.iload_n 2, 1) := by decide +kernel
theorem dX4_pay_73 : decode cX4_pay 73 = .ok (.invokevirtual 62, 3) := by decide +kernel
theorem dX4_pay_76 : decode cX4_pay 76 = .ok (.aload_n 0, 1) := by decide +kernel
theorem dX4_pay_77 : decode cX4_pay 77 = .ok (.getfield 12, 3) := by decide +kernel
theorem dX4_pay_80 : decode cX4_pay 80 = .ok (.getfield 50, 3) := by decide +kernel
theorem dX4_pay_83 : decode cX4_pay 83 = .ok (.iload_n 1, 1) := by decide +kernel
theorem dX4_pay_84 : decode cX4_pay 84 = .ok (.iaload, 1) := by decide +kernel
theorem dX4_pay_85 : decode cX4_pay 85 = .ok (.ireturn, 1) := by decide +kernel
theorem dX4_bid_0 : decode cX4_bid 0 = .ok (.aload_n 0, 1) := by decide +kernel
theorem dX4_bid_1 : decode cX4_bid 1 = .ok (.iload_n 1, 1) := by decide +kernel
theorem dX4_bid_2 : decode cX4_bid 2 = .ok (.invokevirtual 53, 3) := by decide +kernel
theorem dX4_bid_5 : decode cX4_bid 5 = .ok (.ifCond .eq 19, 3) := by decide +kernel
theorem dX4_bid_8 : decode cX4_bid 8 = .ok (.iload_n 2, 1) := by decide +kernel
theorem dX4_bid_9 : decode cX4_bid 9 = .ok (.iload_n 3, 1) := by decide +kernel
theorem dX4_bid_10 : decode cX4_bid 10 = .ok (.invokestatic 66, 3) := by decide +kernel
theorem dX4_bid_13 : decode cX4_bid 13 = .ok (.ifCond .eq 11, 3) := by decide +kernel
theorem dX4_bid_16 : decode cX4_bid 16 = .ok (.iload 4, 2) := by decide +kernel
theorem dX4_bid_18 : decode cX4_bid 18 = .ok (.invokestatic 69, 3) := by decide +kernel
theorem dX4_bid_21 : decode cX4_bid 21 = .ok (.ifCond .ne 5, 3) := by decide +kernel
theorem dX4_bid_24 : decode cX4_bid 24 = .ok (.iconst (-1), 1) := by decide +kernel
theorem dX4_bid_25 : decode cX4_bid 25 = .ok (.ireturn, 1) := by decide +kernel
theorem dX4_bid_26 : decode cX4_bid 26 = .ok (.iload_n 2, 1) := by decide +kernel
theorem dX4_bid_27 : decode cX4_bid 27 = .ok (.iload_n 3, 1) := by decide +kernel
theorem dX4_bid_28 : decode cX4_bid 28 = .ok (.invokestatic 72, 3) := by decide +kernel
theorem dX4_bid_31 : decode cX4_bid 31 = .ok (.istore 6, 2) := by decide +kernel
theorem dX4_bid_33 : decode cX4_bid 33 = .ok (.aload_n 0, 1) := by decide +kernel
theorem dX4_bid_34 : decode cX4_bid 34 = .ok (.getfield 12, 3) := by decide +kernel
theorem dX4_bid_37 : decode cX4_bid 37 = .ok (.iload_n 1, 1) := by decide +kernel
theorem dX4_bid_38 : decode cX4_bid 38 = .ok (.iload 6, 2) := by decide +kernel
theorem dX4_bid_40 : decode cX4_bid 40 = .ok (.iload 5, 2) := by decide +kernel
theorem dX4_bid_42 : decode cX4_bid 42 = .ok (.invokevirtual 76, 3) := by decide +kernel
theorem dX4_bid_45 : decode cX4_bid 45 = .ok (.istore 7, 2) := by decide +kernel
theorem dX4_bid_47 : decode cX4_bid 47 = .ok (.iload 7, 2) := by decide +kernel
theorem dX4_bid_49 : decode cX4_bid 49 = .ok (.ifCond .eq 6, 3) := by decide +kernel
theorem dX4_bid_52 : decode cX4_bid 52 = .ok (.iload 7, 2) := by decide +kernel
theorem dX4_bid_54 : decode cX4_bid 54 = .ok (.ireturn, 1) := by decide +kernel
theorem dX4_bid_55 : decode cX4_bid 55 = .ok (.aload_n 0, 1) := by decide +kernel
theorem dX4_bid_56 : decode cX4_bid 56 = .ok (.getfield 22, 3) := by decide +kernel
theorem dX4_bid_59 : decode cX4_bid 59 = .ok (.aload_n 0, 1) := by decide +kernel
theorem dX4_bid_60 : decode cX4_bid 60 = .ok (.getfield 12, 3) := by decide +kernel
theorem dX4_bid_63 : decode cX4_bid 63 = .ok (.invokevirtual 46, 3) := by decide +kernel
theorem dX4_bid_66 : decode cX4_bid 66 = .ok (.aload_n 0, 1) := by decide +kernel
theorem dX4_bid_67 : decode cX4_bid 67 = .ok (.getfield 12, 3) := by decide +kernel
theorem dX4_bid_70 : decode cX4_bid 70 = .ok (.iload_n 1, 1) := by decide +kernel
theorem dX4_bid_71 : decode cX4_bid 71 = .ok (.iload 6, 2) := by decide +kernel
theorem dX4_bid_73 : decode cX4_bid 73 = .ok (.iload 4, 2) := by decide +kernel
theorem dX4_bid_75 : decode cX4_bid 75 = .ok (.iload 5, 2) := by decide +kernel
theorem dX4_bid_77 : decode cX4_bid 77 = .ok (.invokevirtual 80, 3) := by decide +kernel
theorem dX4_bid_80 : decode cX4_bid 80 = .ok (.ireturn, 1) := by decide +kernel
theorem dX4_setFine_0 : decode cX4_setFine 0 = .ok (.iload_n 1, 1) := by decide +kernel
theorem dX4_setFine_1 : decode cX4_setFine 1 = .ok (.iconst 0, 1) := by decide +kernel
theorem dX4_setFine_2 : decode cX4_setFine 2 = .ok (.sipush 1000, 3) := by decide +kernel
theorem dX4_setFine_5 : decode cX4_setFine 5 = .ok (.invokestatic 38, 3) := by decide +kernel
theorem dX4_setFine_8 : decode cX4_setFine 8 = .ok (.ifCond .ne 5, 3) := by decide +kernel
theorem dX4_setFine_11 : decode cX4_setFine 11 = .ok (.iconst (-1), 1) := by decide +kernel
theorem dX4_setFine_12 : decode cX4_setFine 12 = .ok (.ireturn, 1) := by decide +kernel
theorem dX4_setFine_13 : decode cX4_setFine 13 = .ok (.aload_n 0, 1) := by decide +kernel
theorem dX4_setFine_14 : decode cX4_setFine 14 = .ok (.getfield 22, 3) := by decide +kernel
theorem dX4_setFine_17 : decode cX4_setFine 17 = .ok (.aload_n 0, 1) := by decide +kernel
theorem dX4_setFine_18 : decode cX4_setFine 18 = .ok (.getfield 12, 3) := by decide +kernel
theorem dX4_setFine_21 : decode cX4_setFine 21 = .ok (.invokevirtual 46, 3) := by decide +kernel
theorem dX4_setFine_24 : decode cX4_setFine 24 = .ok (.aload_n 0, 1) := by decide +kernel
theorem dX4_setFine_25 : decode cX4_setFine 25 = .ok (.getfield 12, 3) := by decide +kernel
theorem dX4_setFine_28 : decode cX4_setFine 28 = .ok (.getfield 84, 3) := by decide +kernel
theorem dX4_setFine_31 : decode cX4_setFine 31 = .ok (.istore_n 2, 1) := by decide +kernel
theorem dX4_setFine_32 : decode cX4_setFine 32 = .ok (.aload_n 0, 1) := by decide +kernel
theorem dX4_setFine_33 : decode cX4_setFine 33 = .ok (.getfield 12, 3) := by decide +kernel
theorem dX4_setFine_36 : decode cX4_setFine 36 = .ok (.iload_n 1, 1) := by decide +kernel
theorem dX4_setFine_37 : decode cX4_setFine 37 = .ok (.putfield 84, 3) := by decide +kernel
theorem dX4_setFine_40 : decode cX4_setFine 40 = .ok (.iload_n 2, 1) := by decide +kernel
theorem dX4_setFine_41 : decode cX4_setFine 41 = .ok (.ireturn, 1) := by decide +kernel
theorem dX4_settle_0 : decode cX4_settle 0 = .ok (.aload_n 0, 1) := by decide +kernel
theorem dX4_settle_1 : decode cX4_settle 1 = .ok (.getfield 12, 3) := by decide +kernel
theorem dX4_settle_4 : decode cX4_settle 4 = .ok (.getfield 87, 3) := by decide +kernel
theorem dX4_settle_7 : decode cX4_settle 7 = .ok (.sipush 999, 3) := by decide +kernel
theorem dX4_settle_10 : decode cX4_settle 10 = .ok (.if_icmp .lt 6, 3) := by decide +kernel
theorem dX4_settle_13 : decode cX4_settle 13 = .ok (.bipush (-2), 2) := by decide +kernel
theorem dX4_settle_15 : decode cX4_settle 15 = .ok (.ireturn, 1) := by decide +kernel
theorem dX4_settle_16 : decode cX4_settle 16 = .ok (.aload_n 0, 1) := by decide +kernel
theorem dX4_settle_17 : decode cX4_settle 17 = .ok (.getfield 22, 3) := by decide +kernel
theorem dX4_settle_20 : decode cX4_settle 20 = .ok (.aload_n 0, 1) := by decide +kernel
theorem dX4_settle_21 : decode cX4_settle 21 = .ok (.getfield 12, 3) := by decide +kernel
theorem dX4_settle_24 : decode cX4_settle 24 = .ok (.invokevirtual 46, 3) := by decide +kernel
theorem dX4_settle_27 : decode cX4_settle 27 = .ok (.aload_n 0, 1) := by decide +kernel
theorem dX4_settle_28 : decode cX4_settle 28 = .ok (.getfield 12, 3) := by decide +kernel
theorem dX4_settle_31 : decode cX4_settle 31 = .ok (.invokevirtual 90, 3) := by decide +kernel
theorem dX4_settle_34 : decode cX4_settle 34 = .ok (.aload_n 0, 1) := by decide +kernel
theorem dX4_settle_35 : decode cX4_settle 35 = .ok (.getfield 12, 3) := by decide +kernel
theorem dX4_settle_38 : decode cX4_settle 38 = .ok (.invokevirtual 93, 3) := by decide +kernel
theorem dX4_settle_41 : decode cX4_settle 41 = .ok (.ireturn, 1) := by decide +kernel
theorem dX4_breach_0 : decode cX4_breach 0 = .ok (.aload_n 0, 1) := by decide +kernel
theorem dX4_breach_1 : decode cX4_breach 1 = .ok (.iload_n 1, 1) := by decide +kernel
theorem dX4_breach_2 : decode cX4_breach 2 = .ok (.invokevirtual 53, 3) := by decide +kernel
theorem dX4_breach_5 : decode cX4_breach 5 = .ok (.ifCond .eq 11, 3) := by decide +kernel
theorem dX4_breach_8 : decode cX4_breach 8 = .ok (.iload_n 2, 1) := by decide +kernel
theorem dX4_breach_9 : decode cX4_breach 9 = .ok (.iload_n 3, 1) := by decide +kernel
theorem dX4_breach_10 : decode cX4_breach 10 = .ok (.invokestatic 66, 3) := by decide +kernel
theorem dX4_breach_13 : decode cX4_breach 13 = .ok (.ifCond .ne 5, 3) := by decide +kernel
theorem dX4_breach_16 : decode cX4_breach 16 = .ok (.iconst (-1), 1) := by decide +kernel
theorem dX4_breach_17 : decode cX4_breach 17 = .ok (.ireturn, 1) := by decide +kernel
theorem dX4_breach_18 : decode cX4_breach 18 = .ok (.iload_n 2, 1) := by decide +kernel
theorem dX4_breach_19 : decode cX4_breach 19 = .ok (.iload_n 3, 1) := by decide +kernel
theorem dX4_breach_20 : decode cX4_breach 20 = .ok (.invokestatic 72, 3) := by decide +kernel
theorem dX4_breach_23 : decode cX4_breach 23 = .ok (.istore 4, 2) := by decide +kernel
theorem dX4_breach_25 : decode cX4_breach 25 = .ok (.aload_n 0, 1) := by decide +kernel
theorem dX4_breach_26 : decode cX4_breach 26 = .ok (.getfield 12, 3) := by decide +kernel
theorem dX4_breach_29 : decode cX4_breach 29 = .ok (.getfield 97, 3) := by decide +kernel
theorem dX4_breach_32 : decode cX4_breach 32 = .ok (.iload 4, 2) := by decide +kernel
theorem dX4_breach_34 : decode cX4_breach 34 = .ok (.iaload, 1) := by decide +kernel
theorem dX4_breach_35 : decode cX4_breach 35 = .ok (.iconst 1, 1) := by decide +kernel
theorem dX4_breach_36 : decode cX4_breach 36 = .ok (.if_icmp .ne 6, 3) := by decide +kernel
theorem dX4_breach_39 : decode cX4_breach 39 = .ok (.bipush (-2), 2) := by decide +kernel
theorem dX4_breach_41 : decode cX4_breach 41 = .ok (.ireturn, 1) := by decide +kernel
theorem dX4_breach_42 : decode cX4_breach 42 = .ok (.aload_n 0, 1) := by decide +kernel
theorem dX4_breach_43 : decode cX4_breach 43 = .ok (.getfield 22, 3) := by decide +kernel
theorem dX4_breach_46 : decode cX4_breach 46 = .ok (.aload_n 0, 1) := by decide +kernel
theorem dX4_breach_47 : decode cX4_breach 47 = .ok (.getfield 12, 3) := by decide +kernel
theorem dX4_breach_50 : decode cX4_breach 50 = .ok (.invokevirtual 46, 3) := by decide +kernel
theorem dX4_breach_53 : decode cX4_breach 53 = .ok (.aload_n 0, 1) := by decide +kernel
theorem dX4_breach_54 : decode cX4_breach 54 = .ok (.getfield 12, 3) := by decide +kernel
theorem dX4_breach_57 : decode cX4_breach 57 = .ok (.iload_n 1, 1) := by decide +kernel
theorem dX4_breach_58 : decode cX4_breach 58 = .ok (.iload 4, 2) := by decide +kernel
theorem dX4_breach_60 : decode cX4_breach 60 = .ok (.invokevirtual 100, 3) := by decide +kernel
theorem dX4_breach_63 : decode cX4_breach 63 = .ok (.ireturn, 1) := by decide +kernel
theorem dX4_undo_0 : decode cX4_undo 0 = .ok (.aload_n 0, 1) := by decide +kernel
theorem dX4_undo_1 : decode cX4_undo 1 = .ok (.getfield 22, 3) := by decide +kernel
theorem dX4_undo_4 : decode cX4_undo 4 = .ok (.getfield 103, 3) := by decide +kernel
theorem dX4_undo_7 : decode cX4_undo 7 = .ok (.ifCond .ne 6, 3) := by decide +kernel
theorem dX4_undo_10 : decode cX4_undo 10 = .ok (.bipush (-2), 2) := by decide +kernel
theorem dX4_undo_12 : decode cX4_undo 12 = .ok (.ireturn, 1) := by decide +kernel
theorem dX4_undo_13 : decode cX4_undo 13 = .ok (.aload_n 0, 1) := by decide +kernel
theorem dX4_undo_14 : decode cX4_undo 14 = .ok (.getfield 22, 3) := by decide +kernel
theorem dX4_undo_17 : decode cX4_undo 17 = .ok (.aload_n 0, 1) := by decide +kernel
theorem dX4_undo_18 : decode cX4_undo 18 = .ok (.getfield 12, 3) := by decide +kernel
theorem dX4_undo_21 : decode cX4_undo 21 = .ok (.invokevirtual 106, 3) := by decide +kernel
theorem dX4_undo_24 : decode cX4_undo 24 = .ok (.aload_n 0, 1) := by decide +kernel
theorem dX4_undo_25 : decode cX4_undo 25 = .ok (.getfield 22, 3) := by decide +kernel
theorem dX4_undo_28 : decode cX4_undo 28 = .ok (.getfield 103, 3) := by decide +kernel
theorem dX4_undo_31 : decode cX4_undo 31 = .ok (.ireturn, 1) := by decide +kernel
theorem dX4_append_0 : decode cX4_append 0 = .ok (.iload_n 1, 1) := by decide +kernel
theorem dX4_append_1 : decode cX4_append 1 = .ok (.iconst 1, 1) := by decide +kernel
theorem dX4_append_2 : decode cX4_append 2 = .ok (.sipush 255, 3) := by decide +kernel
theorem dX4_append_5 : decode cX4_append 5 = .ok (.invokestatic 38, 3) := by decide +kernel
theorem dX4_append_8 : decode cX4_append 8 = .ok (.ifCond .ne 5, 3) := by decide +kernel
theorem dX4_append_11 : decode cX4_append 11 = .ok (.iconst (-1), 1) := by decide +kernel
theorem dX4_append_12 : decode cX4_append 12 = .ok (.ireturn, 1) := by decide +kernel
theorem dX4_append_13 : decode cX4_append 13 = .ok (.aload_n 0, 1) := by decide +kernel
theorem dX4_append_14 : decode cX4_append 14 = .ok (.getfield 29, 3) := by decide +kernel
theorem dX4_append_17 : decode cX4_append 17 = .ok (.getfield 109, 3) := by decide +kernel
theorem dX4_append_20 : decode cX4_append 20 = .ok (.bipush 100, 2) := by decide +kernel
theorem dX4_append_22 : decode cX4_append 22 = .ok (.if_icmp .lt 6, 3) := by decide +kernel
theorem dX4_append_25 : decode cX4_append 25 = .ok (.bipush (-3), 2) := by decide +kernel
theorem dX4_append_27 : decode cX4_append 27 = .ok (.ireturn, 1) := by decide +kernel
theorem dX4_append_28 : decode cX4_append 28 = .ok (.aload_n 0, 1) := by decide +kernel
theorem dX4_append_29 : decode cX4_append 29 = .ok (.getfield 29, 3) := by decide +kernel
theorem dX4_append_32 : decode cX4_append 32 = .ok (.getfield 112, 3) := by decide +kernel
theorem dX4_append_35 : decode cX4_append 35 = .ok (.aload_n 0, 1) := by decide +kernel
theorem dX4_append_36 : decode cX4_append 36 = .ok (.getfield 29, 3) := by decide +kernel
theorem dX4_append_39 : decode cX4_append 39 = .ok (.getfield 109, 3) := by decide +kernel
theorem dX4_append_42 : decode cX4_append 42 = .ok (.iload_n 1, 1) := by decide +kernel
theorem dX4_append_43 : decode cX4_append 43 = .ok (.iastore, 1) := by decide +kernel
theorem dX4_append_44 : decode cX4_append 44 = .ok (.aload_n 0, 1) := by decide +kernel
theorem dX4_append_45 : decode cX4_append 45 = .ok (.getfield 29, 3) := by decide +kernel
theorem dX4_append_48 : decode cX4_append 48 = .ok (.dup, 1) := by decide +kernel
theorem dX4_append_49 : decode cX4_append 49 = .ok (.getfield 109, 3) := by decide +kernel
theorem dX4_append_52 : decode cX4_append 52 = .ok (.iconst 1, 1) := by decide +kernel
theorem dX4_append_53 : decode cX4_append 53 = .ok (.iadd, 1) := by decide +kernel
theorem dX4_append_54 : decode cX4_append 54 = .ok (.putfield 109, 3) := by decide +kernel
theorem dX4_append_57 : decode cX4_append 57 = .ok (.aload_n 0, 1) := by decide +kernel
theorem dX4_append_58 : decode cX4_append 58 = .ok (.getfield 29, 3) := by decide +kernel
theorem dX4_append_61 : decode cX4_append 61 = .ok (.getfield 109, 3) := by decide +kernel
theorem dX4_append_64 : decode cX4_append 64 = .ok (.ireturn, 1) := by decide +kernel
theorem dX4_clearText_0 : decode cX4_clearText 0 = .ok (.aload_n 0, 1) := by decide +kernel
theorem dX4_clearText_1 : decode cX4_clearText 1 = .ok (.getfield 29, 3) := by decide +kernel
theorem dX4_clearText_4 : decode cX4_clearText 4 = .ok (.getfield 109, 3) := by decide +kernel
theorem dX4_clearText_7 : decode cX4_clearText 7 = .ok (.istore_n 1, 1) := by decide +kernel
theorem dX4_clearText_8 : decode cX4_clearText 8 = .ok (.aload_n 0, 1) := by decide +kernel
theorem dX4_clearText_9 : decode cX4_clearText 9 = .ok (.getfield 29, 3) := by decide +kernel
theorem dX4_clearText_12 : decode cX4_clearText 12 = .ok (.iconst 0, 1) := by decide +kernel
theorem dX4_clearText_13 : decode cX4_clearText 13 = .ok (.putfield 109, 3) := by decide +kernel
theorem dX4_clearText_16 : decode cX4_clearText 16 = .ok (.iload_n 1, 1) := by decide +kernel
theorem dX4_clearText_17 : decode cX4_clearText 17 = .ok (.ireturn, 1) := by decide +kernel
theorem dX4_run_0 : decode cX4_run 0 = .ok (.aload_n 0, 1) := by decide +kernel
theorem dX4_run_1 : decode cX4_run 1 = .ok (.iload_n 1, 1) := by decide +kernel
theorem dX4_run_2 : decode cX4_run 2 = .ok (.invokevirtual 53, 3) := by decide +kernel
theorem dX4_run_5 : decode cX4_run 5 = .ok (.ifCond .ne 5, 3) := by decide +kernel
theorem dX4_run_8 : decode cX4_run 8 = .ok (.iconst (-1), 1) := by decide +kernel
theorem dX4_run_9 : decode cX4_run 9 = .ok (.ireturn, 1) := by decide +kernel
theorem dX4_run_10 : decode cX4_run 10 = .ok (.aload_n 0, 1) := by decide +kernel
theorem dX4_run_11 : decode cX4_run 11 = .ok (.getfield 29, 3) := by decide +kernel
theorem dX4_run_14 : decode cX4_run 14 = .ok (.invokevirtual 115, 3) := by decide +kernel
theorem dX4_run_17 : decode cX4_run 17 = .ok (.ifCond .ne 26, 3) := by decide +kernel
theorem dX4_run_20 : decode cX4_run 20 = .ok (.aload_n 0, 1) := by decide +kernel
theorem dX4_run_21 : decode cX4_run 21 = .ok (.iconst 1, 1) := by decide +kernel
theorem dX4_run_22 : decode cX4_run 22 = .ok (.aload_n 0, 1) := by decide +kernel
theorem dX4_run_23 : decode cX4_run 23 = .ok (.getfield 29, 3) := by decide +kernel
theorem dX4_run_26 : decode cX4_run 26 = .ok (.getfield 119, 3) := by decide +kernel
theorem dX4_run_29 : decode cX4_run 29 = .ok (.aload_n 0, 1) := by decide +kernel
theorem dX4_run_30 : decode cX4_run 30 = .ok (.getfield 29, 3) := by decide +kernel
theorem dX4_run_33 : decode cX4_run 33 = .ok (.getfield 122, 3) := by decide +kernel
theorem dX4_run_36 : decode cX4_run 36 = .ok (.iconst 0, 1) := by decide +kernel
theorem dX4_run_37 : decode cX4_run 37 = .ok (.bipush (-9), 2) := by decide +kernel
theorem dX4_run_39 : decode cX4_run 39 = .ok (.invokevirtual 125, 3) := by decide +kernel
theorem dX4_run_42 : decode cX4_run 42 = .ok (.ireturn, 1) := by decide +kernel
theorem dX4_run_43 : decode cX4_run 43 = .ok (.aload_n 0, 1) := by decide +kernel
theorem dX4_run_44 : decode cX4_run 44 = .ok (.getfield 16, 3) := by decide +kernel
theorem dX4_run_47 : decode cX4_run 47 = .ok (.aload_n 0, 1) := by decide +kernel
theorem dX4_run_48 : decode cX4_run 48 = .ok (.getfield 12, 3) := by decide +kernel
theorem dX4_run_51 : decode cX4_run 51 = .ok (.invokevirtual 129, 3) := by decide +kernel
theorem dX4_run_54 : decode cX4_run 54 = .ok (.iconst 0, 1) := by decide +kernel
theorem dX4_run_55 : decode cX4_run 55 = .ok (.istore_n 2, 1) := by decide +kernel
theorem dX4_run_56 : decode cX4_run 56 = .ok (.iconst 0, 1) := by decide +kernel
theorem dX4_run_57 : decode cX4_run 57 = .ok (.istore_n 3, 1) := by decide +kernel
theorem dX4_run_58 : decode cX4_run 58 = .ok (.iload_n 3, 1) := by decide +kernel
theorem dX4_run_59 : decode cX4_run 59 = .ok (.aload_n 0, 1) := by decide +kernel
theorem dX4_run_60 : decode cX4_run 60 = .ok (.getfield 29, 3) := by decide +kernel
theorem dX4_run_63 : decode cX4_run 63 = .ok (.getfield 132, 3) := by decide +kernel
theorem dX4_run_66 : decode cX4_run 66 = .ok (.if_icmp .ge 131, 3) := by decide +kernel
theorem dX4_run_69 : decode cX4_run 69 = .ok (.aload_n 0, 1) := by decide +kernel
theorem dX4_run_70 : decode cX4_run 70 = .ok (.getfield 29, 3) := by decide +kernel
theorem dX4_run_73 : decode cX4_run 73 = .ok (.getfield 135, 3) := by decide +kernel
theorem dX4_run_76 : decode cX4_run 76 = .ok (.iload_n 3, 1) := by decide +kernel
theorem dX4_run_77 : decode cX4_run 77 = .ok (.aaload, 1) := by decide +kernel
theorem dX4_run_78 : decode cX4_run 78 = .ok (.astore 4, 2) := by decide +kernel
theorem dX4_run_80 : decode cX4_run 80 = .ok (.aload 4, 2) := by decide +kernel
theorem dX4_run_82 : decode cX4_run 82 = .ok (.getfield 139, 3) := by decide +kernel
theorem dX4_run_85 : decode cX4_run 85 = .ok (.istore 5, 2) := by decide +kernel
theorem dX4_run_87 : decode cX4_run 87 = .ok (.iload 5, 2) := by decide +kernel
theorem dX4_run_89 : decode cX4_run 89 = .ok (.aload 4, 2) := by decide +kernel
theorem dX4_run_91 : decode cX4_run 91 = .ok (.getfield 144, 3) := by decide +kernel
theorem dX4_run_94 : decode cX4_run 94 = .ok (.if_icmp .gt 97, 3) := by decide +kernel
theorem dX4_run_97 : decode cX4_run 97 = .ok (.aload 4, 2) := by decide +kernel
theorem dX4_run_99 : decode cX4_run 99 = .ok (.getfield 147, 3) := by decide +kernel
theorem dX4_run_102 : decode cX4_run 102 = .ok (.iload 5, 2) := by decide +kernel
theorem dX4_run_104 : decode cX4_run 104 = .ok (.invokestatic 72, 3) := by decide +kernel
theorem dX4_run_107 : decode cX4_run 107 = .ok (.istore 6, 2) := by decide +kernel
theorem dX4_run_109 : decode cX4_run 109 = .ok (.aload_n 0, 1) := by decide +kernel
theorem dX4_run_110 : decode cX4_run 110 = .ok (.getfield 12, 3) := by decide +kernel
theorem dX4_run_113 : decode cX4_run 113 = .ok (.iload_n 1, 1) := by decide +kernel
theorem dX4_run_114 : decode cX4_run 114 = .ok (.iload 6, 2) := by decide +kernel
theorem dX4_run_116 : decode cX4_run 116 = .ok (.aload 4, 2) := by decide +kernel
theorem dX4_run_118 : decode cX4_run 118 = .ok (.getfield 150, 3) := by decide +kernel
theorem dX4_run_121 : decode cX4_run 121 = .ok (.invokevirtual 76, 3) := by decide +kernel
theorem dX4_run_124 : decode cX4_run 124 = .ok (.istore 7, 2) := by decide +kernel
theorem dX4_run_126 : decode cX4_run 126 = .ok (.iload 7, 2) := by decide +kernel
theorem dX4_run_128 : decode cX4_run 128 = .ok (.ifCond .eq 33, 3) := by decide +kernel
theorem dX4_run_131 : decode cX4_run 131 = .ok (.aload_n 0, 1) := by decide +kernel
theorem dX4_run_132 : decode cX4_run 132 = .ok (.getfield 12, 3) := by decide +kernel
theorem dX4_run_135 : decode cX4_run 135 = .ok (.aload_n 0, 1) := by decide +kernel
theorem dX4_run_136 : decode cX4_run 136 = .ok (.getfield 16, 3) := by decide +kernel
theorem dX4_run_139 : decode cX4_run 139 = .ok (.invokevirtual 129, 3) := by decide +kernel
theorem dX4_run_142 : decode cX4_run 142 = .ok (.aload_n 0, 1) := by decide +kernel
theorem dX4_run_143 : decode cX4_run 143 = .ok (.iconst 2, 1) := by decide +kernel
theorem dX4_run_144 : decode cX4_run 144 = .ok (.aload 4, 2) := by decide +kernel
theorem dX4_run_146 : decode cX4_run 146 = .ok (.getfield 153, 3) := by decide +kernel
theorem dX4_run_149 : decode cX4_run 149 = .ok (.aload 4, 2) := by decide +kernel
theorem dX4_run_151 : decode cX4_run 151 = .ok (.getfield 156, 3) := by decide +kernel
theorem dX4_run_154 : decode cX4_run 154 = .ok (.iload_n 2, 1) := by decide +kernel
theorem dX4_run_155 : decode cX4_run 155 = .ok (.iload 7, 2) := by decide +kernel
theorem dX4_run_157 : decode cX4_run 157 = .ok (.invokevirtual 125, 3) := by decide +kernel
theorem dX4_run_160 : decode cX4_run 160 = .ok (.ireturn, 1) := by decide +kernel
theorem dX4_run_161 : decode cX4_run 161 = .ok (.aload_n 0, 1) := by decide +kernel
theorem dX4_run_162 : decode cX4_run 162 = .ok (.getfield 12, 3) := by decide +kernel
theorem dX4_run_165 : decode cX4_run 165 = .ok (.iload_n 1, 1) := by decide +kernel
theorem dX4_run_166 : decode cX4_run 166 = .ok (.iload 6, 2) := by decide +kernel
theorem dX4_run_168 : decode cX4_run 168 = .ok (.aload 4, 2) := by decide +kernel
theorem dX4_run_170 : decode cX4_run 170 = .ok (.getfield 157, 3) := by decide +kernel
theorem dX4_run_173 : decode cX4_run 173 = .ok (.aload 4, 2) := by decide +kernel
theorem dX4_run_175 : decode cX4_run 175 = .ok (.getfield 150, 3) := by decide +kernel
theorem dX4_run_178 : decode cX4_run 178 = .ok (.invokevirtual 80, 3) := by decide +kernel
theorem dX4_run_181 : decode cX4_run 181 = .ok (.pop, 1) := by decide +kernel
theorem dX4_run_182 : decode cX4_run 182 = .ok (.iinc 2 1, 3) := by decide +kernel
theorem dX4_run_185 : decode cX4_run 185 = .ok (.iinc 5 1, 3) := by decide +kernel
theorem dX4_run_188 : decode cX4_run 188 = .ok (.goto (-101), 3) := by decide +kernel
theorem dX4_run_191 : decode cX4_run 191 = .ok (.iinc 3 1, 3) := by decide +kernel
theorem dX4_run_194 : decode cX4_run 194 = .ok (.goto (-136), 3) := by decide +kernel
theorem dX4_run_197 : decode cX4_run 197 = .ok (.aload_n 0, 1) := by decide +kernel
theorem dX4_run_198 : decode cX4_run 198 = .ok (.getfield 22, 3) := by decide +kernel
theorem dX4_run_201 : decode cX4_run 201 = .ok (.aload_n 0, 1) := by decide +kernel
theorem dX4_run_202 : decode cX4_run 202 = .ok (.getfield 16, 3) := by decide +kernel
theorem dX4_run_205 : decode cX4_run 205 = .ok (.invokevirtual 46, 3) := by decide +kernel
theorem dX4_run_208 : decode cX4_run 208 = .ok (.iload_n 2, 1) := by decide +kernel
theorem dX4_run_209 : decode cX4_run 209 = .ok (.ireturn, 1) := by decide +kernel
theorem dX4_failure_0 : decode cX4_failure 0 = .ok (.iload_n 1, 1) := by decide +kernel
theorem dX4_failure_1 : decode cX4_failure 1 = .ok (.iconst 0, 1) := by decide +kernel
theorem dX4_failure_2 : decode cX4_failure 2 = .ok (.iconst 4, 1) := by decide +kernel
theorem dX4_failure_3 : decode cX4_failure 3 = .ok (.invokestatic 38, 3) := by decide +kernel
theorem dX4_failure_6 : decode cX4_failure 6 = .ok (.ifCond .ne 5, 3) := by decide +kernel
theorem dX4_failure_9 : decode cX4_failure 9 = .ok (.iconst (-1), 1) := by decide +kernel
theorem dX4_failure_10 : decode cX4_failure 10 = .ok (.ireturn, 1) := by decide +kernel
theorem dX4_failure_11 : decode cX4_failure 11 = .ok (.aload_n 0, 1) := by decide +kernel
theorem dX4_failure_12 : decode cX4_failure 12 = .ok (.getfield 33, 3) := by decide +kernel
theorem dX4_failure_15 : decode cX4_failure 15 = .ok (.iconst 0, 1) := by decide +kernel
theorem dX4_failure_16 : decode cX4_failure 16 = .ok (.iaload, 1) := by decide +kernel
theorem dX4_failure_17 : decode cX4_failure 17 = .ok (.ifCond .ne 7, 3) := by decide +kernel
theorem dX4_failure_20 : decode cX4_failure 20 = .ok (.iconst 1, 1) := by decide +kernel
theorem dX4_failure_21 : decode cX4_failure 21 = .ok (.goto 4, 3) := by decide +kernel
theorem dX4_failure_24 : decode cX4_failure 24 = .ok (.iconst 0, 1) := by decide +kernel
theorem dX4_failure_25 : decode cX4_failure 25 = .ok (.istore_n 2, 1) := by decide +kernel
theorem dX4_failure_26 : decode cX4_failure 26 = .ok (.iload_n 2, 1) := by decide +kernel
theorem dX4_failure_27 : decode cX4_failure 27 = .ok (.ifCond .eq 8, 3) := by decide +kernel
theorem dX4_failure_30 : decode cX4_failure 30 = .ok (.bipush (-9), 2) := by decide +kernel
theorem dX4_failure_32 : decode cX4_failure 32 = .ok (.goto 9, 3) := by decide +kernel
theorem dX4_failure_35 : decode cX4_failure 35 = .ok (.aload_n 0, 1) := by decide +kernel
theorem dX4_failure_36 : decode cX4_failure 36 = .ok (.getfield 33, 3) := by decide +kernel
theorem dX4_failure_39 : decode cX4_failure 39 = .ok (.iload_n 1, 1) := by decide +kernel
theorem dX4_failure_40 : decode cX4_failure 40 = .ok (.iaload, 1) := by decide +kernel
theorem dX4_failure_41 : decode cX4_failure 41 = .ok (.ireturn, 1) := by decide +kernel
theorem dX4_count_0 : decode cX4_count 0 = .ok (.iload_n 1, 1) := by decide +kernel
theorem dX4_count_1 : decode cX4_count 1 = .ok (.tableswitch 135 0 9 #[55, 63, 71, 79, 87, 95, 103, 111, 119, 127], 55) := by decide +kernel
theorem dX4_count_56 : decode cX4_count 56 = .ok (.aload_n 0, 1) := by decide +kernel
theorem dX4_count_57 : decode cX4_count 57 = .ok (.getfield 12, 3) := by decide +kernel
theorem dX4_count_60 : decode cX4_count 60 = .ok (.getfield 87, 3) := by decide +kernel
theorem dX4_count_63 : decode cX4_count 63 = .ok (.ireturn, 1) := by decide +kernel
theorem dX4_count_64 : decode cX4_count 64 = .ok (.aload_n 0, 1) := by decide +kernel
theorem dX4_count_65 : decode cX4_count 65 = .ok (.getfield 12, 3) := by decide +kernel
theorem dX4_count_68 : decode cX4_count 68 = .ok (.getfield 42, 3) := by decide +kernel
theorem dX4_count_71 : decode cX4_count 71 = .ok (.ireturn, 1) := by decide +kernel
theorem dX4_count_72 : decode cX4_count 72 = .ok (.aload_n 0, 1) := by decide +kernel
theorem dX4_count_73 : decode cX4_count 73 = .ok (.getfield 12, 3) := by decide +kernel
theorem dX4_count_76 : decode cX4_count 76 = .ok (.invokevirtual 160, 3) := by decide +kernel
theorem dX4_count_79 : decode cX4_count 79 = .ok (.ireturn, 1) := by decide +kernel
theorem dX4_count_80 : decode cX4_count 80 = .ok (.aload_n 0, 1) := by decide +kernel
theorem dX4_count_81 : decode cX4_count 81 = .ok (.getfield 12, 3) := by decide +kernel
theorem dX4_count_84 : decode cX4_count 84 = .ok (.invokevirtual 93, 3) := by decide +kernel
theorem dX4_count_87 : decode cX4_count 87 = .ok (.ireturn, 1) := by decide +kernel
theorem dX4_count_88 : decode cX4_count 88 = .ok (.aload_n 0, 1) := by decide +kernel
theorem dX4_count_89 : decode cX4_count 89 = .ok (.getfield 12, 3) := by decide +kernel
theorem dX4_count_92 : decode cX4_count 92 = .ok (.getfield 84, 3) := by decide +kernel
theorem dX4_count_95 : decode cX4_count 95 = .ok (.ireturn, 1) := by decide +kernel
theorem dX4_count_96 : decode cX4_count 96 = .ok (.aload_n 0, 1) := by decide +kernel
theorem dX4_count_97 : decode cX4_count 97 = .ok (.getfield 12, 3) := by decide +kernel
theorem dX4_count_100 : decode cX4_count 100 = .ok (.invokevirtual 163, 3) := by decide +kernel
theorem dX4_count_103 : decode cX4_count 103 = .ok (.ireturn, 1) := by decide +kernel
theorem dX4_count_104 : decode cX4_count 104 = .ok (.aload_n 0, 1) := by decide +kernel
theorem dX4_count_105 : decode cX4_count 105 = .ok (.getfield 12, 3) := by decide +kernel
theorem dX4_count_108 : decode cX4_count 108 = .ok (.invokevirtual 166, 3) := by decide +kernel
theorem dX4_count_111 : decode cX4_count 111 = .ok (.ireturn, 1) := by decide +kernel
theorem dX4_count_112 : decode cX4_count 112 = .ok (.aload_n 0, 1) := by decide +kernel
theorem dX4_count_113 : decode cX4_count 113 = .ok (.getfield 12, 3) := by decide +kernel
theorem dX4_count_116 : decode cX4_count 116 = .ok (.getfield 169, 3) := by decide +kernel
theorem dX4_count_119 : decode cX4_count 119 = .ok (.ireturn, 1) := by decide +kernel
theorem dX4_count_120 : decode cX4_count 120 = .ok (.aload_n 0, 1) := by decide +kernel
theorem dX4_count_121 : decode cX4_count 121 = .ok (.getfield 22, 3) := by decide +kernel
theorem dX4_count_124 : decode cX4_count 124 = .ok (.getfield 103, 3) := by decide +kernel
theorem dX4_count_127 : decode cX4_count 127 = .ok (.ireturn, 1) := by decide +kernel
theorem dX4_count_128 : decode cX4_count 128 = .ok (.aload_n 0, 1) := by decide +kernel
theorem dX4_count_129 : decode cX4_count 129 = .ok (.getfield 29, 3) := by decide +kernel
theorem dX4_count_132 : decode cX4_count 132 = .ok (.getfield 109, 3) := by decide +kernel
theorem dX4_count_135 : decode cX4_count 135 = .ok (.ireturn, 1) := by decide +kernel
theorem dX4_count_136 : decode cX4_count 136 = .ok (.iconst (-1), 1) := by decide +kernel
theorem dX4_count_137 : decode cX4_count 137 = .ok (.ireturn, 1) := by decide +kernel
theorem dX4_person_0 : decode cX4_person 0 = .ok (.aload_n 0, 1) := by decide +kernel
theorem dX4_person_1 : decode cX4_person 1 = .ok (.iload_n 1, 1) := by decide +kernel
theorem dX4_person_2 : decode cX4_person 2 = .ok (.invokevirtual 53, 3) := by decide +kernel
theorem dX4_person_5 : decode cX4_person 5 = .ok (.ifCond .ne 5, 3) := by decide +kernel
theorem dX4_person_8 : decode cX4_person 8 = .ok (.iconst (-1), 1) := by decide +kernel
theorem dX4_person_9 : decode cX4_person 9 = .ok (.ireturn, 1) := by decide +kernel
theorem dX4_person_10 : decode cX4_person 10 = .ok (.iload_n 2, 1) := by decide +kernel
theorem dX4_person_11 : decode cX4_person 11 = .ok (.tableswitch 123 0 7 #[45, 55, 64, 74, 83, 93, 103, 113], 45) := by decide +kernel
theorem dX4_person_56 : decode cX4_person 56 = .ok (.aload_n 0, 1) := by decide +kernel
theorem dX4_person_57 : decode cX4_person 57 = .ok (.getfield 12, 3) := by decide +kernel
theorem dX4_person_60 : decode cX4_person 60 = .ok (.getfield 50, 3) := by decide +kernel
theorem dX4_person_63 : decode cX4_person 63 = .ok (.iload_n 1, 1) := by decide +kernel
theorem dX4_person_64 : decode cX4_person 64 = .ok (.iaload, 1) := by decide +kernel
theorem dX4_person_65 : decode cX4_person 65 = .ok (.ireturn, 1) := by decide +kernel
theorem dX4_person_66 : decode cX4_person 66 = .ok (.aload_n 0, 1) := by decide +kernel
theorem dX4_person_67 : decode cX4_person 67 = .ok (.getfield 12, 3) := by decide +kernel
theorem dX4_person_70 : decode cX4_person 70 = .ok (.iload_n 1, 1) := by decide +kernel
theorem dX4_person_71 : decode cX4_person 71 = .ok (.invokevirtual 172, 3) := by decide +kernel
theorem dX4_person_74 : decode cX4_person 74 = .ok (.ireturn, 1) := by decide +kernel
theorem dX4_person_75 : decode cX4_person 75 = .ok (.aload_n 0, 1) := by decide +kernel
theorem dX4_person_76 : decode cX4_person 76 = .ok (.getfield 12, 3) := by decide +kernel
theorem dX4_person_79 : decode cX4_person 79 = .ok (.getfield 176, 3) := by decide +kernel
theorem dX4_person_82 : decode cX4_person 82 = .ok (.iload_n 1, 1) := by decide +kernel
theorem dX4_person_83 : decode cX4_person 83 = .ok (.iaload, 1) := by decide +kernel
theorem dX4_person_84 : decode cX4_person 84 = .ok (.ireturn, 1) := by decide +kernel
theorem dX4_person_85 : decode cX4_person 85 = .ok (.aload_n 0, 1) := by decide +kernel
theorem dX4_person_86 : decode cX4_person 86 = .ok (.getfield 12, 3) := by decide +kernel
theorem dX4_person_89 : decode cX4_person 89 = .ok (.iload_n 1, 1) := by decide +kernel
theorem dX4_person_90 : decode cX4_person 90 = .ok (.invokevirtual 179, 3) := by decide +kernel
theorem dX4_person_93 : decode cX4_person 93 = .ok (.ireturn, 1) := by decide +kernel
theorem dX4_person_94 : decode cX4_person 94 = .ok (.aload_n 0, 1) := by decide +kernel
theorem dX4_person_95 : decode cX4_person 95 = .ok (.getfield 12, 3) := by decide +kernel
theorem dX4_person_98 : decode cX4_person 98 = .ok (.getfield 182, 3) := by decide +kernel
theorem dX4_person_101 : decode cX4_person 101 = .ok (.iload_n 1, 1) := by decide +kernel
theorem dX4_person_102 : decode cX4_person 102 = .ok (.iaload, 1) := by decide +kernel
theorem dX4_person_103 : decode cX4_person 103 = .ok (.ireturn, 1) := by decide +kernel
theorem dX4_person_104 : decode cX4_person 104 = .ok (.aload_n 0, 1) := by decide +kernel
theorem dX4_person_105 : decode cX4_person 105 = .ok (.getfield 12, 3) := by decide +kernel
theorem dX4_person_108 : decode cX4_person 108 = .ok (.getfield 185, 3) := by decide +kernel
theorem dX4_person_111 : decode cX4_person 111 = .ok (.iload_n 1, 1) := by decide +kernel
theorem dX4_person_112 : decode cX4_person 112 = .ok (.iaload, 1) := by decide +kernel
theorem dX4_person_113 : decode cX4_person 113 = .ok (.ireturn, 1) := by decide +kernel
theorem dX4_person_114 : decode cX4_person 114 = .ok (.aload_n 0, 1) := by decide +kernel
theorem dX4_person_115 : decode cX4_person 115 = .ok (.getfield 12, 3) := by decide +kernel
theorem dX4_person_118 : decode cX4_person 118 = .ok (.getfield 188, 3) := by decide +kernel
theorem dX4_person_121 : decode cX4_person 121 = .ok (.iload_n 1, 1) := by decide +kernel
theorem dX4_person_122 : decode cX4_person 122 = .ok (.iaload, 1) := by decide +kernel
theorem dX4_person_123 : decode cX4_person 123 = .ok (.ireturn, 1) := by decide +kernel
theorem dX4_person_124 : decode cX4_person 124 = .ok (.aload_n 0, 1) := by decide +kernel
theorem dX4_person_125 : decode cX4_person 125 = .ok (.getfield 12, 3) := by decide +kernel
theorem dX4_person_128 : decode cX4_person 128 = .ok (.getfield 191, 3) := by decide +kernel
theorem dX4_person_131 : decode cX4_person 131 = .ok (.iload_n 1, 1) := by decide +kernel
theorem dX4_person_132 : decode cX4_person 132 = .ok (.iaload, 1) := by decide +kernel
theorem dX4_person_133 : decode cX4_person 133 = .ok (.ireturn, 1) := by decide +kernel
theorem dX4_person_134 : decode cX4_person 134 = .ok (.iconst (-1), 1) := by decide +kernel
theorem dX4_person_135 : decode cX4_person 135 = .ok (.ireturn, 1) := by decide +kernel
theorem dX4_slot_0 : decode cX4_slot 0 = .ok (.iload_n 1, 1) := by decide +kernel
theorem dX4_slot_1 : decode cX4_slot 1 = .ok (.iload_n 2, 1) := by decide +kernel
theorem dX4_slot_2 : decode cX4_slot 2 = .ok (.invokestatic 66, 3) := by decide +kernel
theorem dX4_slot_5 : decode cX4_slot 5 = .ok (.ifCond .ne 5, 3) := by decide +kernel
theorem dX4_slot_8 : decode cX4_slot 8 = .ok (.iconst (-1), 1) := by decide +kernel
theorem dX4_slot_9 : decode cX4_slot 9 = .ok (.ireturn, 1) := by decide +kernel
theorem dX4_slot_10 : decode cX4_slot 10 = .ok (.iload_n 1, 1) := by decide +kernel
theorem dX4_slot_11 : decode cX4_slot 11 = .ok (.iload_n 2, 1) := by decide +kernel
theorem dX4_slot_12 : decode cX4_slot 12 = .ok (.invokestatic 72, 3) := by decide +kernel
theorem dX4_slot_15 : decode cX4_slot 15 = .ok (.istore 4, 2) := by decide +kernel
theorem dX4_slot_17 : decode cX4_slot 17 = .ok (.iload_n 3, 1) := by decide +kernel
theorem dX4_slot_18 : decode cX4_slot 18 = .ok (.tableswitch 103 0 5 #[38, 49, 60, 71, 82, 92], 38) := by decide +kernel
theorem dX4_slot_56 : decode cX4_slot 56 = .ok (.aload_n 0, 1) := by decide +kernel
theorem dX4_slot_57 : decode cX4_slot 57 = .ok (.getfield 12, 3) := by decide +kernel
theorem dX4_slot_60 : decode cX4_slot 60 = .ok (.getfield 97, 3) := by decide +kernel
theorem dX4_slot_63 : decode cX4_slot 63 = .ok (.iload 4, 2) := by decide +kernel
theorem dX4_slot_65 : decode cX4_slot 65 = .ok (.iaload, 1) := by decide +kernel
theorem dX4_slot_66 : decode cX4_slot 66 = .ok (.ireturn, 1) := by decide +kernel
theorem dX4_slot_67 : decode cX4_slot 67 = .ok (.aload_n 0, 1) := by decide +kernel
theorem dX4_slot_68 : decode cX4_slot 68 = .ok (.getfield 12, 3) := by decide +kernel
theorem dX4_slot_71 : decode cX4_slot 71 = .ok (.iload 4, 2) := by decide +kernel
theorem dX4_slot_73 : decode cX4_slot 73 = .ok (.iconst 0, 1) := by decide +kernel
theorem dX4_slot_74 : decode cX4_slot 74 = .ok (.invokevirtual 194, 3) := by decide +kernel
theorem dX4_slot_77 : decode cX4_slot 77 = .ok (.ireturn, 1) := by decide +kernel
theorem dX4_slot_78 : decode cX4_slot 78 = .ok (.aload_n 0, 1) := by decide +kernel
theorem dX4_slot_79 : decode cX4_slot 79 = .ok (.getfield 12, 3) := by decide +kernel
theorem dX4_slot_82 : decode cX4_slot 82 = .ok (.iload 4, 2) := by decide +kernel
theorem dX4_slot_84 : decode cX4_slot 84 = .ok (.iconst 1, 1) := by decide +kernel
theorem dX4_slot_85 : decode cX4_slot 85 = .ok (.invokevirtual 194, 3) := by decide +kernel
theorem dX4_slot_88 : decode cX4_slot 88 = .ok (.ireturn, 1) := by decide +kernel
theorem dX4_slot_89 : decode cX4_slot 89 = .ok (.aload_n 0, 1) := by decide +kernel
theorem dX4_slot_90 : decode cX4_slot 90 = .ok (.getfield 12, 3) := by decide +kernel
theorem dX4_slot_93 : decode cX4_slot 93 = .ok (.getfield 197, 3) := by decide +kernel
theorem dX4_slot_96 : decode cX4_slot 96 = .ok (.iload 4, 2) := by decide +kernel
theorem dX4_slot_98 : decode cX4_slot 98 = .ok (.iaload, 1) := by decide +kernel
theorem dX4_slot_99 : decode cX4_slot 99 = .ok (.ireturn, 1) := by decide +kernel
theorem dX4_slot_100 : decode cX4_slot 100 = .ok (.aload_n 0, 1) := by decide +kernel
theorem dX4_slot_101 : decode cX4_slot 101 = .ok (.getfield 12, 3) := by decide +kernel
theorem dX4_slot_104 : decode cX4_slot 104 = .ok (.iload 4, 2) := by decide +kernel
theorem dX4_slot_106 : decode cX4_slot 106 = .ok (.invokevirtual 200, 3) := by decide +kernel
theorem dX4_slot_109 : decode cX4_slot 109 = .ok (.ireturn, 1) := by decide +kernel
theorem dX4_slot_110 : decode cX4_slot 110 = .ok (.aload_n 0, 1) := by decide +kernel
theorem dX4_slot_111 : decode cX4_slot 111 = .ok (.getfield 12, 3) := by decide +kernel
theorem dX4_slot_114 : decode cX4_slot 114 = .ok (.getfield 203, 3) := by decide +kernel
theorem dX4_slot_117 : decode cX4_slot 117 = .ok (.iload 4, 2) := by decide +kernel
theorem dX4_slot_119 : decode cX4_slot 119 = .ok (.iaload, 1) := by decide +kernel
theorem dX4_slot_120 : decode cX4_slot 120 = .ok (.ireturn, 1) := by decide +kernel
theorem dX4_slot_121 : decode cX4_slot 121 = .ok (.iconst (-1), 1) := by decide +kernel
theorem dX4_slot_122 : decode cX4_slot 122 = .ok (.ireturn, 1) := by decide +kernel
theorem dX4_bidOf_0 : decode cX4_bidOf 0 = .ok (.aload_n 0, 1) := by decide +kernel
theorem dX4_bidOf_1 : decode cX4_bidOf 1 = .ok (.iload_n 1, 1) := by decide +kernel
theorem dX4_bidOf_2 : decode cX4_bidOf 2 = .ok (.invokevirtual 53, 3) := by decide +kernel
theorem dX4_bidOf_5 : decode cX4_bidOf 5 = .ok (.ifCond .eq 11, 3) := by decide +kernel
theorem dX4_bidOf_8 : decode cX4_bidOf 8 = .ok (.iload_n 2, 1) := by decide +kernel
theorem dX4_bidOf_9 : decode cX4_bidOf 9 = .ok (.iload_n 3, 1) := by decide +kernel
theorem dX4_bidOf_10 : decode cX4_bidOf 10 = .ok (.invokestatic 66, 3) := by decide +kernel
theorem dX4_bidOf_13 : decode cX4_bidOf 13 = .ok (.ifCond .ne 5, 3) := by decide +kernel
theorem dX4_bidOf_16 : decode cX4_bidOf 16 = .ok (.iconst (-1), 1) := by decide +kernel
theorem dX4_bidOf_17 : decode cX4_bidOf 17 = .ok (.ireturn, 1) := by decide +kernel
theorem dX4_bidOf_18 : decode cX4_bidOf 18 = .ok (.aload_n 0, 1) := by decide +kernel
theorem dX4_bidOf_19 : decode cX4_bidOf 19 = .ok (.getfield 12, 3) := by decide +kernel
theorem dX4_bidOf_22 : decode cX4_bidOf 22 = .ok (.iload_n 1, 1) := by decide +kernel
theorem dX4_bidOf_23 : decode cX4_bidOf 23 = .ok (.iload_n 2, 1) := by decide +kernel
theorem dX4_bidOf_24 : decode cX4_bidOf 24 = .ok (.iload_n 3, 1) := by decide +kernel
theorem dX4_bidOf_25 : decode cX4_bidOf 25 = .ok (.invokestatic 72, 3) := by decide +kernel
theorem dX4_bidOf_28 : decode cX4_bidOf 28 = .ok (.invokevirtual 206, 3) := by decide +kernel
theorem dX4_bidOf_31 : decode cX4_bidOf 31 = .ok (.istore 4, 2) := by decide +kernel
theorem dX4_bidOf_33 : decode cX4_bidOf 33 = .ok (.iload 4, 2) := by decide +kernel
theorem dX4_bidOf_35 : decode cX4_bidOf 35 = .ok (.ifCond .ne 8, 3) := by decide +kernel
theorem dX4_bidOf_38 : decode cX4_bidOf 38 = .ok (.bipush (-9), 2) := by decide +kernel
theorem dX4_bidOf_40 : decode cX4_bidOf 40 = .ok (.goto 5, 3) := by decide +kernel
theorem dX4_bidOf_43 : decode cX4_bidOf 43 = .ok (.iload 4, 2) := by decide +kernel
theorem dX4_bidOf_45 : decode cX4_bidOf 45 = .ok (.ireturn, 1) := by decide +kernel
theorem dX4_fund_0 : decode cX4_fund 0 = .ok (.iload_n 1, 1) := by decide +kernel
theorem dX4_fund_1 : decode cX4_fund 1 = .ok (.invokestatic 209, 3) := by decide +kernel
theorem dX4_fund_4 : decode cX4_fund 4 = .ok (.ifCond .eq 15, 3) := by decide +kernel
theorem dX4_fund_7 : decode cX4_fund 7 = .ok (.aload_n 0, 1) := by decide +kernel
theorem dX4_fund_8 : decode cX4_fund 8 = .ok (.getfield 12, 3) := by decide +kernel
theorem dX4_fund_11 : decode cX4_fund 11 = .ok (.getfield 212, 3) := by decide +kernel
theorem dX4_fund_14 : decode cX4_fund 14 = .ok (.iload_n 1, 1) := by decide +kernel
theorem dX4_fund_15 : decode cX4_fund 15 = .ok (.iaload, 1) := by decide +kernel
theorem dX4_fund_16 : decode cX4_fund 16 = .ok (.goto 4, 3) := by decide +kernel
theorem dX4_fund_19 : decode cX4_fund 19 = .ok (.iconst (-1), 1) := by decide +kernel
theorem dX4_fund_20 : decode cX4_fund 20 = .ok (.ireturn, 1) := by decide +kernel
theorem dX4_winner_0 : decode cX4_winner 0 = .ok (.iload_n 1, 1) := by decide +kernel
theorem dX4_winner_1 : decode cX4_winner 1 = .ok (.iload_n 2, 1) := by decide +kernel
theorem dX4_winner_2 : decode cX4_winner 2 = .ok (.invokestatic 66, 3) := by decide +kernel
theorem dX4_winner_5 : decode cX4_winner 5 = .ok (.ifCond .eq 18, 3) := by decide +kernel
theorem dX4_winner_8 : decode cX4_winner 8 = .ok (.aload_n 0, 1) := by decide +kernel
theorem dX4_winner_9 : decode cX4_winner 9 = .ok (.getfield 12, 3) := by decide +kernel
theorem dX4_winner_12 : decode cX4_winner 12 = .ok (.iload_n 1, 1) := by decide +kernel
theorem dX4_winner_13 : decode cX4_winner 13 = .ok (.iload_n 2, 1) := by decide +kernel
theorem dX4_winner_14 : decode cX4_winner 14 = .ok (.invokestatic 72, 3) := by decide +kernel
theorem dX4_winner_17 : decode cX4_winner 17 = .ok (.invokevirtual 215, 3) := by decide +kernel
theorem dX4_winner_20 : decode cX4_winner 20 = .ok (.goto 4, 3) := by decide +kernel
theorem dX4_winner_23 : decode cX4_winner 23 = .ok (.iconst (-1), 1) := by decide +kernel
theorem dX4_winner_24 : decode cX4_winner 24 = .ok (.ireturn, 1) := by decide +kernel
theorem dX4_needed_0 : decode cX4_needed 0 = .ok (.iload_n 1, 1) := by decide +kernel
theorem dX4_needed_1 : decode cX4_needed 1 = .ok (.iload_n 2, 1) := by decide +kernel
theorem dX4_needed_2 : decode cX4_needed 2 = .ok (.invokestatic 66, 3) := by decide +kernel
theorem dX4_needed_5 : decode cX4_needed 5 = .ok (.ifCond .eq 10, 3) := by decide +kernel
theorem dX4_needed_8 : decode cX4_needed 8 = .ok (.iload_n 3, 1) := by decide +kernel
theorem dX4_needed_9 : decode cX4_needed 9 = .ok (.invokestatic 69, 3) := by decide +kernel
theorem dX4_needed_12 : decode cX4_needed 12 = .ok (.ifCond .ne 5, 3) := by decide +kernel
theorem dX4_needed_15 : decode cX4_needed 15 = .ok (.iconst (-1), 1) := by decide +kernel
theorem dX4_needed_16 : decode cX4_needed 16 = .ok (.ireturn, 1) := by decide +kernel
theorem dX4_needed_17 : decode cX4_needed 17 = .ok (.aload_n 0, 1) := by decide +kernel
theorem dX4_needed_18 : decode cX4_needed 18 = .ok (.getfield 12, 3) := by decide +kernel
theorem dX4_needed_21 : decode cX4_needed 21 = .ok (.iload_n 1, 1) := by decide +kernel
theorem dX4_needed_22 : decode cX4_needed 22 = .ok (.iload_n 2, 1) := by decide +kernel
theorem dX4_needed_23 : decode cX4_needed 23 = .ok (.invokestatic 72, 3) := by decide +kernel
theorem dX4_needed_26 : decode cX4_needed 26 = .ok (.iload_n 3, 1) := by decide +kernel
theorem dX4_needed_27 : decode cX4_needed 27 = .ok (.invokevirtual 218, 3) := by decide +kernel
theorem dX4_needed_30 : decode cX4_needed 30 = .ok (.ireturn, 1) := by decide +kernel
theorem dX4_quiet_0 : decode cX4_quiet 0 = .ok (.iload_n 1, 1) := by decide +kernel
theorem dX4_quiet_1 : decode cX4_quiet 1 = .ok (.invokestatic 209, 3) := by decide +kernel
theorem dX4_quiet_4 : decode cX4_quiet 4 = .ok (.ifCond .ne 5, 3) := by decide +kernel
theorem dX4_quiet_7 : decode cX4_quiet 7 = .ok (.iconst (-1), 1) := by decide +kernel
theorem dX4_quiet_8 : decode cX4_quiet 8 = .ok (.ireturn, 1) := by decide +kernel
theorem dX4_quiet_9 : decode cX4_quiet 9 = .ok (.iload_n 2, 1) := by decide +kernel
theorem dX4_quiet_10 : decode cX4_quiet 10 = .ok (.tableswitch 53 0 2 #[26, 35, 44], 26) := by decide +kernel
theorem dX4_quiet_36 : decode cX4_quiet 36 = .ok (.aload_n 0, 1) := by decide +kernel
theorem dX4_quiet_37 : decode cX4_quiet 37 = .ok (.getfield 12, 3) := by decide +kernel
theorem dX4_quiet_40 : decode cX4_quiet 40 = .ok (.iload_n 1, 1) := by decide +kernel
theorem dX4_quiet_41 : decode cX4_quiet 41 = .ok (.invokevirtual 221, 3) := by decide +kernel
theorem dX4_quiet_44 : decode cX4_quiet 44 = .ok (.ireturn, 1) := by decide +kernel
theorem dX4_quiet_45 : decode cX4_quiet 45 = .ok (.aload_n 0, 1) := by decide +kernel
theorem dX4_quiet_46 : decode cX4_quiet 46 = .ok (.getfield 12, 3) := by decide +kernel
theorem dX4_quiet_49 : decode cX4_quiet 49 = .ok (.iload_n 1, 1) := by decide +kernel
theorem dX4_quiet_50 : decode cX4_quiet 50 = .ok (.invokevirtual 224, 3) := by decide +kernel
theorem dX4_quiet_53 : decode cX4_quiet 53 = .ok (.ireturn, 1) := by decide +kernel
theorem dX4_quiet_54 : decode cX4_quiet 54 = .ok (.aload_n 0, 1) := by decide +kernel
theorem dX4_quiet_55 : decode cX4_quiet 55 = .ok (.getfield 12, 3) := by decide +kernel
theorem dX4_quiet_58 : decode cX4_quiet 58 = .ok (.iload_n 1, 1) := by decide +kernel
theorem dX4_quiet_59 : decode cX4_quiet 59 = .ok (.invokevirtual 227, 3) := by decide +kernel
theorem dX4_quiet_62 : decode cX4_quiet 62 = .ok (.ireturn, 1) := by decide +kernel
theorem dX4_quiet_63 : decode cX4_quiet 63 = .ok (.iconst (-1), 1) := by decide +kernel
theorem dX4_quiet_64 : decode cX4_quiet 64 = .ok (.ireturn, 1) := by decide +kernel
theorem dX4_purseThen_0 : decode cX4_purseThen 0 = .ok (.aload_n 0, 1) := by decide +kernel
theorem dX4_purseThen_1 : decode cX4_purseThen 1 = .ok (.iload_n 1, 1) := by decide +kernel
theorem dX4_purseThen_2 : decode cX4_purseThen 2 = .ok (.invokevirtual 53, 3) := by decide +kernel
theorem dX4_purseThen_5 : decode cX4_purseThen 5 = .ok (.ifCond .ne 5, 3) := by decide +kernel
theorem dX4_purseThen_8 : decode cX4_purseThen 8 = .ok (.iconst (-1), 1) := by decide +kernel
theorem dX4_purseThen_9 : decode cX4_purseThen 9 = .ok (.ireturn, 1) := by decide +kernel
theorem dX4_purseThen_10 : decode cX4_purseThen 10 = .ok (.aload_n 0, 1) := by decide +kernel
theorem dX4_purseThen_11 : decode cX4_purseThen 11 = .ok (.getfield 16, 3) := by decide +kernel
theorem dX4_purseThen_14 : decode cX4_purseThen 14 = .ok (.aload_n 0, 1) := by decide +kernel
theorem dX4_purseThen_15 : decode cX4_purseThen 15 = .ok (.getfield 12, 3) := by decide +kernel
theorem dX4_purseThen_18 : decode cX4_purseThen 18 = .ok (.invokevirtual 129, 3) := by decide +kernel
theorem dX4_purseThen_21 : decode cX4_purseThen 21 = .ok (.aload_n 0, 1) := by decide +kernel
theorem dX4_purseThen_22 : decode cX4_purseThen 22 = .ok (.getfield 16, 3) := by decide +kernel
theorem dX4_purseThen_25 : decode cX4_purseThen 25 = .ok (.invokevirtual 90, 3) := by decide +kernel
theorem dX4_purseThen_28 : decode cX4_purseThen 28 = .ok (.aload_n 0, 1) := by decide +kernel
theorem dX4_purseThen_29 : decode cX4_purseThen 29 = .ok (.getfield 16, 3) := by decide +kernel
theorem dX4_purseThen_32 : decode cX4_purseThen 32 = .ok (.getfield 50, 3) := by decide +kernel
theorem dX4_purseThen_35 : decode cX4_purseThen 35 = .ok (.iload_n 1, 1) := by decide +kernel
theorem dX4_purseThen_36 : decode cX4_purseThen 36 = .ok (.iaload, 1) := by decide +kernel
theorem dX4_purseThen_37 : decode cX4_purseThen 37 = .ok (.ireturn, 1) := by decide +kernel
theorem dX4_failPlan_0 : decode cX4_failPlan 0 = .ok (.aload_n 0, 1) := by decide +kernel
theorem dX4_failPlan_1 : decode cX4_failPlan 1 = .ok (.getfield 33, 3) := by decide +kernel
theorem dX4_failPlan_4 : decode cX4_failPlan 4 = .ok (.iconst 0, 1) := by decide +kernel
theorem dX4_failPlan_5 : decode cX4_failPlan 5 = .ok (.iload_n 1, 1) := by decide +kernel
theorem dX4_failPlan_6 : decode cX4_failPlan 6 = .ok (.iastore, 1) := by decide +kernel
theorem dX4_failPlan_7 : decode cX4_failPlan 7 = .ok (.aload_n 0, 1) := by decide +kernel
theorem dX4_failPlan_8 : decode cX4_failPlan 8 = .ok (.getfield 33, 3) := by decide +kernel
theorem dX4_failPlan_11 : decode cX4_failPlan 11 = .ok (.iconst 1, 1) := by decide +kernel
theorem dX4_failPlan_12 : decode cX4_failPlan 12 = .ok (.iload_n 2, 1) := by decide +kernel
theorem dX4_failPlan_13 : decode cX4_failPlan 13 = .ok (.iastore, 1) := by decide +kernel
theorem dX4_failPlan_14 : decode cX4_failPlan 14 = .ok (.aload_n 0, 1) := by decide +kernel
theorem dX4_failPlan_15 : decode cX4_failPlan 15 = .ok (.getfield 33, 3) := by decide +kernel
theorem dX4_failPlan_18 : decode cX4_failPlan 18 = .ok (.iconst 2, 1) := by decide +kernel
theorem dX4_failPlan_19 : decode cX4_failPlan 19 = .ok (.iload_n 3, 1) := by decide +kernel
theorem dX4_failPlan_20 : decode cX4_failPlan 20 = .ok (.iastore, 1) := by decide +kernel
theorem dX4_failPlan_21 : decode cX4_failPlan 21 = .ok (.aload_n 0, 1) := by decide +kernel
theorem dX4_failPlan_22 : decode cX4_failPlan 22 = .ok (.getfield 33, 3) := by decide +kernel
theorem dX4_failPlan_25 : decode cX4_failPlan 25 = .ok (.iconst 3, 1) := by decide +kernel
theorem dX4_failPlan_26 : decode cX4_failPlan 26 = .ok (.iload 4, 2) := by decide +kernel
theorem dX4_failPlan_28 : decode cX4_failPlan 28 = .ok (.iastore, 1) := by decide +kernel
theorem dX4_failPlan_29 : decode cX4_failPlan 29 = .ok (.aload_n 0, 1) := by decide +kernel
theorem dX4_failPlan_30 : decode cX4_failPlan 30 = .ok (.getfield 33, 3) := by decide +kernel
theorem dX4_failPlan_33 : decode cX4_failPlan 33 = .ok (.iconst 4, 1) := by decide +kernel
theorem dX4_failPlan_34 : decode cX4_failPlan 34 = .ok (.iload 5, 2) := by decide +kernel
theorem dX4_failPlan_36 : decode cX4_failPlan 36 = .ok (.iastore, 1) := by decide +kernel
theorem dX4_failPlan_37 : decode cX4_failPlan 37 = .ok (.sipush (-1000), 3) := by decide +kernel
theorem dX4_failPlan_40 : decode cX4_failPlan 40 = .ok (.iload_n 2, 1) := by decide +kernel
theorem dX4_failPlan_41 : decode cX4_failPlan 41 = .ok (.isub, 1) := by decide +kernel
theorem dX4_failPlan_42 : decode cX4_failPlan 42 = .ok (.ireturn, 1) := by decide +kernel
theorem dX4_isPerson_0 : decode cX4_isPerson 0 = .ok (.iload_n 1, 1) := by decide +kernel
theorem dX4_isPerson_1 : decode cX4_isPerson 1 = .ok (.iconst 0, 1) := by decide +kernel
theorem dX4_isPerson_2 : decode cX4_isPerson 2 = .ok (.aload_n 0, 1) := by decide +kernel
theorem dX4_isPerson_3 : decode cX4_isPerson 3 = .ok (.getfield 12, 3) := by decide +kernel
theorem dX4_isPerson_6 : decode cX4_isPerson 6 = .ok (.getfield 42, 3) := by decide +kernel
theorem dX4_isPerson_9 : decode cX4_isPerson 9 = .ok (.iconst 1, 1) := by decide +kernel
theorem dX4_isPerson_10 : decode cX4_isPerson 10 = .ok (.isub, 1) := by decide +kernel
theorem dX4_isPerson_11 : decode cX4_isPerson 11 = .ok (.invokestatic 38, 3) := by decide +kernel
theorem dX4_isPerson_14 : decode cX4_isPerson 14 = .ok (.ireturn, 1) := by decide +kernel
theorem dX4_isStreet_0 : decode cX4_isStreet 0 = .ok (.iload_n 0, 1) := by decide +kernel
theorem dX4_isStreet_1 : decode cX4_isStreet 1 = .ok (.iconst 0, 1) := by decide +kernel
theorem dX4_isStreet_2 : decode cX4_isStreet 2 = .ok (.iconst 3, 1) := by decide +kernel
theorem dX4_isStreet_3 : decode cX4_isStreet 3 = .ok (.invokestatic 38, 3) := by decide +kernel
theorem dX4_isStreet_6 : decode cX4_isStreet 6 = .ok (.ireturn, 1) := by decide +kernel
theorem dX4_isSlot_0 : decode cX4_isSlot 0 = .ok (.iload_n 0, 1) := by decide +kernel
theorem dX4_isSlot_1 : decode cX4_isSlot 1 = .ok (.invokestatic 209, 3) := by decide +kernel
theorem dX4_isSlot_4 : decode cX4_isSlot 4 = .ok (.ifCond .eq 17, 3) := by decide +kernel
theorem dX4_isSlot_7 : decode cX4_isSlot 7 = .ok (.iload_n 1, 1) := by decide +kernel
theorem dX4_isSlot_8 : decode cX4_isSlot 8 = .ok (.iconst 0, 1) := by decide +kernel
theorem dX4_isSlot_9 : decode cX4_isSlot 9 = .ok (.bipush 23, 2) := by decide +kernel
theorem dX4_isSlot_11 : decode cX4_isSlot 11 = .ok (.invokestatic 38, 3) := by decide +kernel
theorem dX4_isSlot_14 : decode cX4_isSlot 14 = .ok (.ifCond .eq 7, 3) := by decide +kernel
theorem dX4_isSlot_17 : decode cX4_isSlot 17 = .ok (.iconst 1, 1) := by decide +kernel
theorem dX4_isSlot_18 : decode cX4_isSlot 18 = .ok (.goto 4, 3) := by decide +kernel
theorem dX4_isSlot_21 : decode cX4_isSlot 21 = .ok (.iconst 0, 1) := by decide +kernel
theorem dX4_isSlot_22 : decode cX4_isSlot 22 = .ok (.ireturn, 1) := by decide +kernel
theorem dX4_isSide_0 : decode cX4_isSide 0 = .ok (.iload_n 0, 1) := by decide +kernel
theorem dX4_isSide_1 : decode cX4_isSide 1 = .ok (.ifCond .eq 8, 3) := by decide +kernel
theorem dX4_isSide_4 : decode cX4_isSide 4 = .ok (.iload_n 0, 1) := by decide +kernel
theorem dX4_isSide_5 : decode cX4_isSide 5 = .ok (.iconst 1, 1) := by decide +kernel
theorem dX4_isSide_6 : decode cX4_isSide 6 = .ok (.if_icmp .ne 7, 3) := by decide +kernel
theorem dX4_isSide_9 : decode cX4_isSide 9 = .ok (.iconst 1, 1) := by decide +kernel
theorem dX4_isSide_10 : decode cX4_isSide 10 = .ok (.goto 4, 3) := by decide +kernel
theorem dX4_isSide_13 : decode cX4_isSide 13 = .ok (.iconst 0, 1) := by decide +kernel
theorem dX4_isSide_14 : decode cX4_isSide 14 = .ok (.ireturn, 1) := by decide +kernel
theorem dX4_isWithin_0 : decode cX4_isWithin 0 = .ok (.iload_n 0, 1) := by decide +kernel
theorem dX4_isWithin_1 : decode cX4_isWithin 1 = .ok (.iload_n 1, 1) := by decide +kernel
theorem dX4_isWithin_2 : decode cX4_isWithin 2 = .ok (.if_icmp .lt 12, 3) := by decide +kernel
theorem dX4_isWithin_5 : decode cX4_isWithin 5 = .ok (.iload_n 0, 1) := by decide +kernel
theorem dX4_isWithin_6 : decode cX4_isWithin 6 = .ok (.iload_n 2, 1) := by decide +kernel
theorem dX4_isWithin_7 : decode cX4_isWithin 7 = .ok (.if_icmp .gt 7, 3) := by decide +kernel
theorem dX4_isWithin_10 : decode cX4_isWithin 10 = .ok (.iconst 1, 1) := by decide +kernel
theorem dX4_isWithin_11 : decode cX4_isWithin 11 = .ok (.goto 4, 3) := by decide +kernel
theorem dX4_isWithin_14 : decode cX4_isWithin 14 = .ok (.iconst 0, 1) := by decide +kernel
theorem dX4_isWithin_15 : decode cX4_isWithin 15 = .ok (.ireturn, 1) := by decide +kernel
theorem dX4_slotAt_0 : decode cX4_slotAt 0 = .ok (.iload_n 0, 1) := by decide +kernel
theorem dX4_slotAt_1 : decode cX4_slotAt 1 = .ok (.bipush 24, 2) := by decide +kernel
theorem dX4_slotAt_3 : decode cX4_slotAt 3 = .ok (.imul, 1) := by decide +kernel
theorem dX4_slotAt_4 : decode cX4_slotAt 4 = .ok (.iload_n 1, 1) := by decide +kernel
theorem dX4_slotAt_5 : decode cX4_slotAt 5 = .ok (.iadd, 1) := by decide +kernel
theorem dX4_slotAt_6 : decode cX4_slotAt 6 = .ok (.ireturn, 1) := by decide +kernel
theorem dX4_otherSide_0 : decode cX4_otherSide 0 = .ok (.iload_n 0, 1) := by decide +kernel
theorem dX4_otherSide_1 : decode cX4_otherSide 1 = .ok (.ifCond .ne 7, 3) := by decide +kernel
theorem dX4_otherSide_4 : decode cX4_otherSide 4 = .ok (.iconst 1, 1) := by decide +kernel
theorem dX4_otherSide_5 : decode cX4_otherSide 5 = .ok (.goto 4, 3) := by decide +kernel
theorem dX4_otherSide_8 : decode cX4_otherSide 8 = .ok (.iconst 0, 1) := by decide +kernel
theorem dX4_otherSide_9 : decode cX4_otherSide 9 = .ok (.ireturn, 1) := by decide +kernel
theorem dJ6_bitCount_0f7a4_0 : decode cJ6_bitCount_0f7a4 0 = .ok (.iload_n 0, 1) := by decide +kernel
theorem dJ6_bitCount_0f7a4_1 : decode cJ6_bitCount_0f7a4 1 = .ok (.iload_n 0, 1) := by decide +kernel
theorem dJ6_bitCount_0f7a4_2 : decode cJ6_bitCount_0f7a4 2 = .ok (.iconst 1, 1) := by decide +kernel
theorem dJ6_bitCount_0f7a4_3 : decode cJ6_bitCount_0f7a4 3 = .ok (.iushr, 1) := by decide +kernel
theorem dJ6_bitCount_0f7a4_4 : decode cJ6_bitCount_0f7a4 4 = .ok (.ldc_w 265, 3) := by decide +kernel
theorem dJ6_bitCount_0f7a4_7 : decode cJ6_bitCount_0f7a4 7 = .ok (.iand, 1) := by decide +kernel
theorem dJ6_bitCount_0f7a4_8 : decode cJ6_bitCount_0f7a4 8 = .ok (.isub, 1) := by decide +kernel
theorem dJ6_bitCount_0f7a4_9 : decode cJ6_bitCount_0f7a4 9 = .ok (.istore_n 0, 1) := by decide +kernel
theorem dJ6_bitCount_0f7a4_10 : decode cJ6_bitCount_0f7a4 10 = .ok (.iload_n 0, 1) := by decide +kernel
theorem dJ6_bitCount_0f7a4_11 : decode cJ6_bitCount_0f7a4 11 = .ok (.ldc_w 266, 3) := by decide +kernel
theorem dJ6_bitCount_0f7a4_14 : decode cJ6_bitCount_0f7a4 14 = .ok (.iand, 1) := by decide +kernel
theorem dJ6_bitCount_0f7a4_15 : decode cJ6_bitCount_0f7a4 15 = .ok (.iload_n 0, 1) := by decide +kernel
theorem dJ6_bitCount_0f7a4_16 : decode cJ6_bitCount_0f7a4 16 = .ok (.iconst 2, 1) := by decide +kernel
theorem dJ6_bitCount_0f7a4_17 : decode cJ6_bitCount_0f7a4 17 = .ok (.iushr, 1) := by decide +kernel
theorem dJ6_bitCount_0f7a4_18 : decode cJ6_bitCount_0f7a4 18 = .ok (.ldc_w 266, 3) := by decide +kernel
theorem dJ6_bitCount_0f7a4_21 : decode cJ6_bitCount_0f7a4 21 = .ok (.iand, 1) := by decide +kernel
theorem dJ6_bitCount_0f7a4_22 : decode cJ6_bitCount_0f7a4 22 = .ok (.iadd, 1) := by decide +kernel
theorem dJ6_bitCount_0f7a4_23 : decode cJ6_bitCount_0f7a4 23 = .ok (.istore_n 0, 1) := by decide +kernel
theorem dJ6_bitCount_0f7a4_24 : decode cJ6_bitCount_0f7a4 24 = .ok (.iload_n 0, 1) := by decide +kernel
theorem dJ6_bitCount_0f7a4_25 : decode cJ6_bitCount_0f7a4 25 = .ok (.iload_n 0, 1) := by decide +kernel
theorem dJ6_bitCount_0f7a4_26 : decode cJ6_bitCount_0f7a4 26 = .ok (.iconst 4, 1) := by decide +kernel
theorem dJ6_bitCount_0f7a4_27 : decode cJ6_bitCount_0f7a4 27 = .ok (.iushr, 1) := by decide +kernel
theorem dJ6_bitCount_0f7a4_28 : decode cJ6_bitCount_0f7a4 28 = .ok (.iadd, 1) := by decide +kernel
theorem dJ6_bitCount_0f7a4_29 : decode cJ6_bitCount_0f7a4 29 = .ok (.ldc_w 267, 3) := by decide +kernel
theorem dJ6_bitCount_0f7a4_32 : decode cJ6_bitCount_0f7a4 32 = .ok (.iand, 1) := by decide +kernel
theorem dJ6_bitCount_0f7a4_33 : decode cJ6_bitCount_0f7a4 33 = .ok (.istore_n 0, 1) := by decide +kernel
theorem dJ6_bitCount_0f7a4_34 : decode cJ6_bitCount_0f7a4 34 = .ok (.iload_n 0, 1) := by decide +kernel
theorem dJ6_bitCount_0f7a4_35 : decode cJ6_bitCount_0f7a4 35 = .ok (.iload_n 0, 1) := by decide +kernel
theorem dJ6_bitCount_0f7a4_36 : decode cJ6_bitCount_0f7a4 36 = .ok (.bipush 8, 2) := by decide +kernel
theorem dJ6_bitCount_0f7a4_38 : decode cJ6_bitCount_0f7a4 38 = .ok (.iushr, 1) := by decide +kernel
theorem dJ6_bitCount_0f7a4_39 : decode cJ6_bitCount_0f7a4 39 = .ok (.iadd, 1) := by decide +kernel
theorem dJ6_bitCount_0f7a4_40 : decode cJ6_bitCount_0f7a4 40 = .ok (.istore_n 0, 1) := by decide +kernel
theorem dJ6_bitCount_0f7a4_41 : decode cJ6_bitCount_0f7a4 41 = .ok (.iload_n 0, 1) := by decide +kernel
theorem dJ6_bitCount_0f7a4_42 : decode cJ6_bitCount_0f7a4 42 = .ok (.iload_n 0, 1) := by decide +kernel
theorem dJ6_bitCount_0f7a4_43 : decode cJ6_bitCount_0f7a4 43 = .ok (.bipush 16, 2) := by decide +kernel
theorem dJ6_bitCount_0f7a4_45 : decode cJ6_bitCount_0f7a4 45 = .ok (.iushr, 1) := by decide +kernel
theorem dJ6_bitCount_0f7a4_46 : decode cJ6_bitCount_0f7a4 46 = .ok (.iadd, 1) := by decide +kernel
theorem dJ6_bitCount_0f7a4_47 : decode cJ6_bitCount_0f7a4 47 = .ok (.istore_n 0, 1) := by decide +kernel
theorem dJ6_bitCount_0f7a4_48 : decode cJ6_bitCount_0f7a4 48 = .ok (.iload_n 0, 1) := by decide +kernel
theorem dJ6_bitCount_0f7a4_49 : decode cJ6_bitCount_0f7a4 49 = .ok (.bipush 63, 2) := by decide +kernel
theorem dJ6_bitCount_0f7a4_51 : decode cJ6_bitCount_0f7a4 51 = .ok (.iand, 1) := by decide +kernel
theorem dJ6_bitCount_0f7a4_52 : decode cJ6_bitCount_0f7a4 52 = .ok (.ireturn, 1) := by decide +kernel
theorem dJ9_max_7cf53_0 : decode cJ9_max_7cf53 0 = .ok (.iload_n 0, 1) := by decide +kernel
theorem dJ9_max_7cf53_1 : decode cJ9_max_7cf53 1 = .ok (.iload_n 1, 1) := by decide +kernel
theorem dJ9_max_7cf53_2 : decode cJ9_max_7cf53 2 = .ok (.if_icmp .lt 7, 3) := by decide +kernel
theorem dJ9_max_7cf53_5 : decode cJ9_max_7cf53 5 = .ok (.iload_n 0, 1) := by decide +kernel
theorem dJ9_max_7cf53_6 : decode cJ9_max_7cf53 6 = .ok (.goto 4, 3) := by decide +kernel
theorem dJ9_max_7cf53_9 : decode cJ9_max_7cf53 9 = .ok (.iload_n 1, 1) := by decide +kernel
theorem dJ9_max_7cf53_10 : decode cJ9_max_7cf53 10 = .ok (.ireturn, 1) := by decide +kernel
theorem dJ9_min_7cf53_0 : decode cJ9_min_7cf53 0 = .ok (.iload_n 0, 1) := by decide +kernel
theorem dJ9_min_7cf53_1 : decode cJ9_min_7cf53 1 = .ok (.iload_n 1, 1) := by decide +kernel
theorem dJ9_min_7cf53_2 : decode cJ9_min_7cf53 2 = .ok (.if_icmp .gt 7, 3) := by decide +kernel
theorem dJ9_min_7cf53_5 : decode cJ9_min_7cf53 5 = .ok (.iload_n 0, 1) := by decide +kernel
theorem dJ9_min_7cf53_6 : decode cJ9_min_7cf53 6 = .ok (.goto 4, 3) := by decide +kernel
theorem dJ9_min_7cf53_9 : decode cJ9_min_7cf53 9 = .ok (.iload_n 1, 1) := by decide +kernel
theorem dJ9_min_7cf53_10 : decode cJ9_min_7cf53 10 = .ok (.ireturn, 1) := by decide +kernel
theorem dJ7_fill_53178_0 : decode cJ7_fill_53178 0 = .ok (.iconst 0, 1) := by decide +kernel
theorem dJ7_fill_53178_1 : decode cJ7_fill_53178 1 = .ok (.istore_n 2, 1) := by decide +kernel
theorem dJ7_fill_53178_2 : decode cJ7_fill_53178 2 = .ok (.aload_n 0, 1) := by decide +kernel
theorem dJ7_fill_53178_3 : decode cJ7_fill_53178 3 = .ok (.arraylength, 1) := by decide +kernel
theorem dJ7_fill_53178_4 : decode cJ7_fill_53178 4 = .ok (.istore_n 3, 1) := by decide +kernel
theorem dJ7_fill_53178_5 : decode cJ7_fill_53178 5 = .ok (.iload_n 2, 1) := by decide +kernel
theorem dJ7_fill_53178_6 : decode cJ7_fill_53178 6 = .ok (.iload_n 3, 1) := by decide +kernel
theorem dJ7_fill_53178_7 : decode cJ7_fill_53178 7 = .ok (.if_icmp .ge 13, 3) := by decide +kernel
theorem dJ7_fill_53178_10 : decode cJ7_fill_53178 10 = .ok (.aload_n 0, 1) := by decide +kernel
theorem dJ7_fill_53178_11 : decode cJ7_fill_53178 11 = .ok (.iload_n 2, 1) := by decide +kernel
theorem dJ7_fill_53178_12 : decode cJ7_fill_53178 12 = .ok (.iload_n 1, 1) := by decide +kernel
theorem dJ7_fill_53178_13 : decode cJ7_fill_53178 13 = .ok (.iastore, 1) := by decide +kernel
theorem dJ7_fill_53178_14 : decode cJ7_fill_53178 14 = .ok (.iinc 2 1, 3) := by decide +kernel
theorem dJ7_fill_53178_17 : decode cJ7_fill_53178 17 = .ok (.goto (-12), 3) := by decide +kernel
theorem dJ7_fill_53178_20 : decode cJ7_fill_53178 20 = .ok (.return_, 1) := by decide +kernel
theorem dL_cell_0 : decode cL_cell 0 = .ok (.iload_n 1, 1) := by decide +kernel
theorem dL_cell_1 : decode cL_cell 1 = .ok (.aload_n 0, 1) := by decide +kernel
theorem dL_cell_2 : decode cL_cell 2 = .ok (.arraylength, 1) := by decide +kernel
theorem dL_cell_3 : decode cL_cell 3 = .ok (.if_icmp .ge 9, 3) := by decide +kernel
theorem dL_cell_6 : decode cL_cell 6 = .ok (.aload_n 0, 1) := by decide +kernel
theorem dL_cell_7 : decode cL_cell 7 = .ok (.iload_n 1, 1) := by decide +kernel
theorem dL_cell_8 : decode cL_cell 8 = .ok (.iaload, 1) := by decide +kernel
theorem dL_cell_9 : decode cL_cell 9 = .ok (.goto 11, 3) := by decide +kernel
theorem dL_cell_12 : decode cL_cell 12 = .ok (.ldc 7, 2) := by decide +kernel
theorem dL_cell_14 : decode cL_cell 14 = .ok (.iload_n 1, 1) := by decide +kernel
theorem dL_cell_15 : decode cL_cell 15 = .ok (.imul, 1) := by decide +kernel
theorem dL_cell_16 : decode cL_cell 16 = .ok (.sipush 149, 3) := by decide +kernel
theorem dL_cell_19 : decode cL_cell 19 = .ok (.iadd, 1) := by decide +kernel
theorem dL_cell_20 : decode cL_cell 20 = .ok (.ldc 8, 2) := by decide +kernel
theorem dL_cell_22 : decode cL_cell 22 = .ok (.iand, 1) := by decide +kernel
theorem dL_cell_23 : decode cL_cell 23 = .ok (.ireturn, 1) := by decide +kernel
theorem dL_isSound_0 : decode cL_isSound 0 = .ok (.iconst 0, 1) := by decide +kernel
theorem dL_isSound_1 : decode cL_isSound 1 = .ok (.istore_n 2, 1) := by decide +kernel
theorem dL_isSound_2 : decode cL_isSound 2 = .ok (.iconst 0, 1) := by decide +kernel
theorem dL_isSound_3 : decode cL_isSound 3 = .ok (.istore_n 3, 1) := by decide +kernel
theorem dL_isSound_4 : decode cL_isSound 4 = .ok (.aload_n 0, 1) := by decide +kernel
theorem dL_isSound_5 : decode cL_isSound 5 = .ok (.iconst 0, 1) := by decide +kernel
theorem dL_isSound_6 : decode cL_isSound 6 = .ok (.invokevirtual 9, 3) := by decide +kernel
theorem dL_isSound_9 : decode cL_isSound 9 = .ok (.aload_n 0, 1) := by decide +kernel
theorem dL_isSound_10 : decode cL_isSound 10 = .ok (.iconst 1, 1) := by decide +kernel
theorem dL_isSound_11 : decode cL_isSound 11 = .ok (.invokevirtual 9, 3) := by decide +kernel
theorem dL_isSound_14 : decode cL_isSound 14 = .ok (.iadd, 1) := by decide +kernel
theorem dL_isSound_15 : decode cL_isSound 15 = .ok (.aload_n 0, 1) := by decide +kernel
theorem dL_isSound_16 : decode cL_isSound 16 = .ok (.iconst 2, 1) := by decide +kernel
theorem dL_isSound_17 : decode cL_isSound 17 = .ok (.invokevirtual 9, 3) := by decide +kernel
theorem dL_isSound_20 : decode cL_isSound 20 = .ok (.iadd, 1) := by decide +kernel
theorem dL_isSound_21 : decode cL_isSound 21 = .ok (.aload_n 0, 1) := by decide +kernel
theorem dL_isSound_22 : decode cL_isSound 22 = .ok (.iconst 3, 1) := by decide +kernel
theorem dL_isSound_23 : decode cL_isSound 23 = .ok (.invokevirtual 9, 3) := by decide +kernel
theorem dL_isSound_26 : decode cL_isSound 26 = .ok (.iadd, 1) := by decide +kernel
theorem dL_isSound_27 : decode cL_isSound 27 = .ok (.istore 4, 2) := by decide +kernel
theorem dL_isSound_29 : decode cL_isSound 29 = .ok (.iconst 0, 1) := by decide +kernel
theorem dL_isSound_30 : decode cL_isSound 30 = .ok (.istore 5, 2) := by decide +kernel
theorem dL_isSound_32 : decode cL_isSound 32 = .ok (.iconst 0, 1) := by decide +kernel
theorem dL_isSound_33 : decode cL_isSound 33 = .ok (.istore 6, 2) := by decide +kernel
theorem dL_isSound_35 : decode cL_isSound 35 = .ok (.aload_n 0, 1) := by decide +kernel
theorem dL_isSound_36 : decode cL_isSound 36 = .ok (.bipush 8, 2) := by decide +kernel
theorem dL_isSound_38 : decode cL_isSound 38 = .ok (.invokevirtual 15, 3) := by decide +kernel
theorem dL_isSound_41 : decode cL_isSound 41 = .ok (.iconst 5, 1) := by decide +kernel
theorem dL_isSound_42 : decode cL_isSound 42 = .ok (.if_icmp .gt 22, 3) := by decide +kernel
theorem dL_isSound_45 : decode cL_isSound 45 = .ok (.aload_n 0, 1) := by decide +kernel
theorem dL_isSound_46 : decode cL_isSound 46 = .ok (.iload_n 1, 1) := by decide +kernel
theorem dL_isSound_47 : decode cL_isSound 47 = .ok (.iconst 1, 1) := by decide +kernel
theorem dL_isSound_48 : decode cL_isSound 48 = .ok (.invokevirtual 18, 3) := by decide +kernel
theorem dL_isSound_51 : decode cL_isSound 51 = .ok (.aload_n 0, 1) := by decide +kernel
theorem dL_isSound_52 : decode cL_isSound 52 = .ok (.iload_n 1, 1) := by decide +kernel
theorem dL_isSound_53 : decode cL_isSound 53 = .ok (.iconst 0, 1) := by decide +kernel
theorem dL_isSound_54 : decode cL_isSound 54 = .ok (.invokevirtual 18, 3) := by decide +kernel
theorem dL_isSound_57 : decode cL_isSound 57 = .ok (.if_icmp .gt 7, 3) := by decide +kernel
theorem dL_isSound_60 : decode cL_isSound 60 = .ok (.iconst 1, 1) := by decide +kernel
theorem dL_isSound_61 : decode cL_isSound 61 = .ok (.goto 4, 3) := by decide +kernel
theorem dL_isSound_64 : decode cL_isSound 64 = .ok (.iconst 0, 1) := by decide +kernel
theorem dL_isSound_65 : decode cL_isSound 65 = .ok (.istore 7, 2) := by decide +kernel
theorem dL_isSound_67 : decode cL_isSound 67 = .ok (.iconst 0, 1) := by decide +kernel
theorem dL_isSound_68 : decode cL_isSound 68 = .ok (.istore 8, 2) := by decide +kernel
theorem dL_isSound_70 : decode cL_isSound 70 = .ok (.iload 8, 2) := by decide +kernel
theorem dL_isSound_72 : decode cL_isSound 72 = .ok (.aload_n 0, 1) := by decide +kernel
theorem dL_isSound_73 : decode cL_isSound 73 = .ok (.iconst 1, 1) := by decide +kernel
theorem dL_isSound_74 : decode cL_isSound 74 = .ok (.invokevirtual 15, 3) := by decide +kernel
theorem dL_isSound_77 : decode cL_isSound 77 = .ok (.if_icmp .ge 158, 3) := by decide +kernel
theorem dL_isSound_80 : decode cL_isSound 80 = .ok (.iload 7, 2) := by decide +kernel
theorem dL_isSound_82 : decode cL_isSound 82 = .ok (.ifCond .eq 153, 3) := by decide +kernel
theorem dL_isSound_85 : decode cL_isSound 85 = .ok (.iconst 0, 1) := by decide +kernel
theorem dL_isSound_86 : decode cL_isSound 86 = .ok (.istore 9, 2) := by decide +kernel
theorem dL_isSound_88 : decode cL_isSound 88 = .ok (.iload 4, 2) := by decide +kernel
theorem dL_isSound_90 : decode cL_isSound 90 = .ok (.aload_n 0, 1) := by decide +kernel
theorem dL_isSound_91 : decode cL_isSound 91 = .ok (.iload 8, 2) := by decide +kernel
theorem dL_isSound_93 : decode cL_isSound 93 = .ok (.iconst 0, 1) := by decide +kernel
theorem dL_isSound_94 : decode cL_isSound 94 = .ok (.invokevirtual 22, 3) := by decide +kernel
theorem dL_isSound_97 : decode cL_isSound 97 = .ok (.iadd, 1) := by decide +kernel
theorem dL_isSound_98 : decode cL_isSound 98 = .ok (.istore 4, 2) := by decide +kernel
theorem dL_isSound_100 : decode cL_isSound 100 = .ok (.iload 5, 2) := by decide +kernel
theorem dL_isSound_102 : decode cL_isSound 102 = .ok (.aload_n 0, 1) := by decide +kernel
theorem dL_isSound_103 : decode cL_isSound 103 = .ok (.iload 8, 2) := by decide +kernel
theorem dL_isSound_105 : decode cL_isSound 105 = .ok (.iconst 2, 1) := by decide +kernel
theorem dL_isSound_106 : decode cL_isSound 106 = .ok (.invokevirtual 22, 3) := by decide +kernel
theorem dL_isSound_109 : decode cL_isSound 109 = .ok (.iadd, 1) := by decide +kernel
theorem dL_isSound_110 : decode cL_isSound 110 = .ok (.istore 5, 2) := by decide +kernel
theorem dL_isSound_112 : decode cL_isSound 112 = .ok (.iload_n 2, 1) := by decide +kernel
theorem dL_isSound_113 : decode cL_isSound 113 = .ok (.aload_n 0, 1) := by decide +kernel
theorem dL_isSound_114 : decode cL_isSound 114 = .ok (.iload 8, 2) := by decide +kernel
theorem dL_isSound_116 : decode cL_isSound 116 = .ok (.iconst 3, 1) := by decide +kernel
theorem dL_isSound_117 : decode cL_isSound 117 = .ok (.invokevirtual 22, 3) := by decide +kernel
theorem dL_isSound_120 : decode cL_isSound 120 = .ok (.iadd, 1) := by decide +kernel
theorem dL_isSound_121 : decode cL_isSound 121 = .ok (.istore_n 2, 1) := by decide +kernel
theorem dL_isSound_122 : decode cL_isSound 122 = .ok (.iload 6, 2) := by decide +kernel
theorem dL_isSound_124 : decode cL_isSound 124 = .ok (.aload_n 0, 1) := by decide +kernel
theorem dL_isSound_125 : decode cL_isSound 125 = .ok (.iload 8, 2) := by decide +kernel
theorem dL_isSound_127 : decode cL_isSound 127 = .ok (.bipush 7, 2) := by decide +kernel
theorem dL_isSound_129 : decode cL_isSound 129 = .ok (.invokevirtual 22, 3) := by decide +kernel
theorem dL_isSound_132 : decode cL_isSound 132 = .ok (.iadd, 1) := by decide +kernel
theorem dL_isSound_133 : decode cL_isSound 133 = .ok (.istore 6, 2) := by decide +kernel
theorem dL_isSound_135 : decode cL_isSound 135 = .ok (.iconst 0, 1) := by decide +kernel
theorem dL_isSound_136 : decode cL_isSound 136 = .ok (.istore 10, 2) := by decide +kernel
theorem dL_isSound_138 : decode cL_isSound 138 = .ok (.iload 10, 2) := by decide +kernel
theorem dL_isSound_140 : decode cL_isSound 140 = .ok (.bipush 24, 2) := by decide +kernel
theorem dL_isSound_142 : decode cL_isSound 142 = .ok (.if_icmp .ge 40, 3) := by decide +kernel
theorem dL_isSound_145 : decode cL_isSound 145 = .ok (.aload_n 0, 1) := by decide +kernel
theorem dL_isSound_146 : decode cL_isSound 146 = .ok (.iload 8, 2) := by decide +kernel
theorem dL_isSound_148 : decode cL_isSound 148 = .ok (.iload_n 1, 1) := by decide +kernel
theorem dL_isSound_149 : decode cL_isSound 149 = .ok (.iload 10, 2) := by decide +kernel
theorem dL_isSound_151 : decode cL_isSound 151 = .ok (.invokevirtual 25, 3) := by decide +kernel
theorem dL_isSound_154 : decode cL_isSound 154 = .ok (.istore 11, 2) := by decide +kernel
theorem dL_isSound_156 : decode cL_isSound 156 = .ok (.iload 9, 2) := by decide +kernel
theorem dL_isSound_158 : decode cL_isSound 158 = .ok (.iload 11, 2) := by decide +kernel
theorem dL_isSound_160 : decode cL_isSound 160 = .ok (.ifCond .ge 7, 3) := by decide +kernel
theorem dL_isSound_163 : decode cL_isSound 163 = .ok (.iconst 0, 1) := by decide +kernel
theorem dL_isSound_164 : decode cL_isSound 164 = .ok (.goto 9, 3) := by decide +kernel
theorem dL_isSound_167 : decode cL_isSound 167 = .ok (.iload 11, 2) := by decide +kernel
theorem dL_isSound_169 : decode cL_isSound 169 = .ok (.sipush 1000, 3) := by decide +kernel
theorem dL_isSound_172 : decode cL_isSound 172 = .ok (.irem, 1) := by decide +kernel
theorem dL_isSound_173 : decode cL_isSound 173 = .ok (.iadd, 1) := by decide +kernel
theorem dL_isSound_174 : decode cL_isSound 174 = .ok (.istore 9, 2) := by decide +kernel
theorem dL_isSound_176 : decode cL_isSound 176 = .ok (.iinc 10 1, 3) := by decide +kernel
theorem dL_isSound_179 : decode cL_isSound 179 = .ok (.goto (-41), 3) := by decide +kernel
theorem dL_isSound_182 : decode cL_isSound 182 = .ok (.aload_n 0, 1) := by decide +kernel
theorem dL_isSound_183 : decode cL_isSound 183 = .ok (.iload 8, 2) := by decide +kernel
theorem dL_isSound_185 : decode cL_isSound 185 = .ok (.iconst 1, 1) := by decide +kernel
theorem dL_isSound_186 : decode cL_isSound 186 = .ok (.invokevirtual 22, 3) := by decide +kernel
theorem dL_isSound_189 : decode cL_isSound 189 = .ok (.ifCond .lt 37, 3) := by decide +kernel
theorem dL_isSound_192 : decode cL_isSound 192 = .ok (.aload_n 0, 1) := by decide +kernel
theorem dL_isSound_193 : decode cL_isSound 193 = .ok (.iload 8, 2) := by decide +kernel
theorem dL_isSound_195 : decode cL_isSound 195 = .ok (.iconst 0, 1) := by decide +kernel
theorem dL_isSound_196 : decode cL_isSound 196 = .ok (.invokevirtual 22, 3) := by decide +kernel
theorem dL_isSound_199 : decode cL_isSound 199 = .ok (.aload_n 0, 1) := by decide +kernel
theorem dL_isSound_200 : decode cL_isSound 200 = .ok (.iload 8, 2) := by decide +kernel
theorem dL_isSound_202 : decode cL_isSound 202 = .ok (.iconst 1, 1) := by decide +kernel
theorem dL_isSound_203 : decode cL_isSound 203 = .ok (.invokevirtual 22, 3) := by decide +kernel
theorem dL_isSound_206 : decode cL_isSound 206 = .ok (.isub, 1) := by decide +kernel
theorem dL_isSound_207 : decode cL_isSound 207 = .ok (.iload 9, 2) := by decide +kernel
theorem dL_isSound_209 : decode cL_isSound 209 = .ok (.if_icmp .lt 17, 3) := by decide +kernel
theorem dL_isSound_212 : decode cL_isSound 212 = .ok (.aload_n 0, 1) := by decide +kernel
theorem dL_isSound_213 : decode cL_isSound 213 = .ok (.iload 8, 2) := by decide +kernel
theorem dL_isSound_215 : decode cL_isSound 215 = .ok (.iconst 2, 1) := by decide +kernel
theorem dL_isSound_216 : decode cL_isSound 216 = .ok (.invokevirtual 22, 3) := by decide +kernel
theorem dL_isSound_219 : decode cL_isSound 219 = .ok (.ifCond .lt 7, 3) := by decide +kernel
theorem dL_isSound_222 : decode cL_isSound 222 = .ok (.iconst 1, 1) := by decide +kernel
theorem dL_isSound_223 : decode cL_isSound 223 = .ok (.goto 4, 3) := by decide +kernel
theorem dL_isSound_226 : decode cL_isSound 226 = .ok (.iconst 0, 1) := by decide +kernel
theorem dL_isSound_227 : decode cL_isSound 227 = .ok (.istore 7, 2) := by decide +kernel
theorem dL_isSound_229 : decode cL_isSound 229 = .ok (.iinc 8 1, 3) := by decide +kernel
theorem dL_isSound_232 : decode cL_isSound 232 = .ok (.goto (-162), 3) := by decide +kernel
theorem dL_isSound_235 : decode cL_isSound 235 = .ok (.iconst 0, 1) := by decide +kernel
theorem dL_isSound_236 : decode cL_isSound 236 = .ok (.istore 8, 2) := by decide +kernel
theorem dL_isSound_238 : decode cL_isSound 238 = .ok (.iload 8, 2) := by decide +kernel
theorem dL_isSound_240 : decode cL_isSound 240 = .ok (.iconst 4, 1) := by decide +kernel
theorem dL_isSound_241 : decode cL_isSound 241 = .ok (.if_icmp .ge 22, 3) := by decide +kernel
theorem dL_isSound_244 : decode cL_isSound 244 = .ok (.iload_n 3, 1) := by decide +kernel
theorem dL_isSound_245 : decode cL_isSound 245 = .ok (.bipush 24, 2) := by decide +kernel
theorem dL_isSound_247 : decode cL_isSound 247 = .ok (.aload_n 0, 1) := by decide +kernel
theorem dL_isSound_248 : decode cL_isSound 248 = .ok (.iload 8, 2) := by decide +kernel
theorem dL_isSound_250 : decode cL_isSound 250 = .ok (.iconst 0, 1) := by decide +kernel
theorem dL_isSound_251 : decode cL_isSound 251 = .ok (.invokevirtual 18, 3) := by decide +kernel
theorem dL_isSound_254 : decode cL_isSound 254 = .ok (.isub, 1) := by decide +kernel
theorem dL_isSound_255 : decode cL_isSound 255 = .ok (.iadd, 1) := by decide +kernel
theorem dL_isSound_256 : decode cL_isSound 256 = .ok (.istore_n 3, 1) := by decide +kernel
theorem dL_isSound_257 : decode cL_isSound 257 = .ok (.iinc 8 1, 3) := by decide +kernel
theorem dL_isSound_260 : decode cL_isSound 260 = .ok (.goto (-22), 3) := by decide +kernel
theorem dL_isSound_263 : decode cL_isSound 263 = .ok (.iconst 0, 1) := by decide +kernel
theorem dL_isSound_264 : decode cL_isSound 264 = .ok (.istore 8, 2) := by decide +kernel
theorem dL_isSound_266 : decode cL_isSound 266 = .ok (.iload 8, 2) := by decide +kernel
theorem dL_isSound_268 : decode cL_isSound 268 = .ok (.bipush 24, 2) := by decide +kernel
theorem dL_isSound_270 : decode cL_isSound 270 = .ok (.if_icmp .ge 237, 3) := by decide +kernel
theorem dL_isSound_273 : decode cL_isSound 273 = .ok (.iload 7, 2) := by decide +kernel
theorem dL_isSound_275 : decode cL_isSound 275 = .ok (.ifCond .eq 232, 3) := by decide +kernel
theorem dL_isSound_278 : decode cL_isSound 278 = .ok (.iconst 0, 1) := by decide +kernel
theorem dL_isSound_279 : decode cL_isSound 279 = .ok (.istore 9, 2) := by decide +kernel
theorem dL_isSound_281 : decode cL_isSound 281 = .ok (.iconst 0, 1) := by decide +kernel
theorem dL_isSound_282 : decode cL_isSound 282 = .ok (.istore 10, 2) := by decide +kernel
theorem dL_isSound_284 : decode cL_isSound 284 = .ok (.iconst 0, 1) := by decide +kernel
theorem dL_isSound_285 : decode cL_isSound 285 = .ok (.istore 11, 2) := by decide +kernel
theorem dL_isSound_287 : decode cL_isSound 287 = .ok (.iconst 0, 1) := by decide +kernel
theorem dL_isSound_288 : decode cL_isSound 288 = .ok (.istore 12, 2) := by decide +kernel
theorem dL_isSound_290 : decode cL_isSound 290 = .ok (.iload 12, 2) := by decide +kernel
theorem dL_isSound_292 : decode cL_isSound 292 = .ok (.aload_n 0, 1) := by decide +kernel
theorem dL_isSound_293 : decode cL_isSound 293 = .ok (.iconst 1, 1) := by decide +kernel
theorem dL_isSound_294 : decode cL_isSound 294 = .ok (.invokevirtual 15, 3) := by decide +kernel
theorem dL_isSound_297 : decode cL_isSound 297 = .ok (.if_icmp .ge 82, 3) := by decide +kernel
theorem dL_isSound_300 : decode cL_isSound 300 = .ok (.aload_n 0, 1) := by decide +kernel
theorem dL_isSound_301 : decode cL_isSound 301 = .ok (.iload 12, 2) := by decide +kernel
theorem dL_isSound_303 : decode cL_isSound 303 = .ok (.iload_n 1, 1) := by decide +kernel
theorem dL_isSound_304 : decode cL_isSound 304 = .ok (.iload 8, 2) := by decide +kernel
theorem dL_isSound_306 : decode cL_isSound 306 = .ok (.invokevirtual 25, 3) := by decide +kernel
theorem dL_isSound_309 : decode cL_isSound 309 = .ok (.istore 13, 2) := by decide +kernel
theorem dL_isSound_311 : decode cL_isSound 311 = .ok (.iload 9, 2) := by decide +kernel
theorem dL_isSound_313 : decode cL_isSound 313 = .ok (.iload 13, 2) := by decide +kernel
theorem dL_isSound_315 : decode cL_isSound 315 = .ok (.ifCond .le 16, 3) := by decide +kernel
theorem dL_isSound_318 : decode cL_isSound 318 = .ok (.iload 13, 2) := by decide +kernel
theorem dL_isSound_320 : decode cL_isSound 320 = .ok (.sipush 1000, 3) := by decide +kernel
theorem dL_isSound_323 : decode cL_isSound 323 = .ok (.if_icmp .ge 8, 3) := by decide +kernel
theorem dL_isSound_326 : decode cL_isSound 326 = .ok (.iload 13, 2) := by decide +kernel
theorem dL_isSound_328 : decode cL_isSound 328 = .ok (.goto 4, 3) := by decide +kernel
theorem dL_isSound_331 : decode cL_isSound 331 = .ok (.iconst 0, 1) := by decide +kernel
theorem dL_isSound_332 : decode cL_isSound 332 = .ok (.iadd, 1) := by decide +kernel
theorem dL_isSound_333 : decode cL_isSound 333 = .ok (.istore 9, 2) := by decide +kernel
theorem dL_isSound_335 : decode cL_isSound 335 = .ok (.iload 10, 2) := by decide +kernel
theorem dL_isSound_337 : decode cL_isSound 337 = .ok (.iload 13, 2) := by decide +kernel
theorem dL_isSound_339 : decode cL_isSound 339 = .ok (.sipush 1000, 3) := by decide +kernel
theorem dL_isSound_342 : decode cL_isSound 342 = .ok (.if_icmp .le 12, 3) := by decide +kernel
theorem dL_isSound_345 : decode cL_isSound 345 = .ok (.iload 13, 2) := by decide +kernel
theorem dL_isSound_347 : decode cL_isSound 347 = .ok (.sipush 1000, 3) := by decide +kernel
theorem dL_isSound_350 : decode cL_isSound 350 = .ok (.isub, 1) := by decide +kernel
theorem dL_isSound_351 : decode cL_isSound 351 = .ok (.goto 4, 3) := by decide +kernel
theorem dL_isSound_354 : decode cL_isSound 354 = .ok (.iconst 0, 1) := by decide +kernel
theorem dL_isSound_355 : decode cL_isSound 355 = .ok (.iadd, 1) := by decide +kernel
theorem dL_isSound_356 : decode cL_isSound 356 = .ok (.istore 10, 2) := by decide +kernel
theorem dL_isSound_358 : decode cL_isSound 358 = .ok (.iload 11, 2) := by decide +kernel
theorem dL_isSound_360 : decode cL_isSound 360 = .ok (.iload 13, 2) := by decide +kernel
theorem dL_isSound_362 : decode cL_isSound 362 = .ok (.ifCond .le 7, 3) := by decide +kernel
theorem dL_isSound_365 : decode cL_isSound 365 = .ok (.iconst 1, 1) := by decide +kernel
theorem dL_isSound_366 : decode cL_isSound 366 = .ok (.goto 4, 3) := by decide +kernel
theorem dL_isSound_369 : decode cL_isSound 369 = .ok (.iconst 0, 1) := by decide +kernel
theorem dL_isSound_370 : decode cL_isSound 370 = .ok (.iadd, 1) := by decide +kernel
theorem dL_isSound_371 : decode cL_isSound 371 = .ok (.istore 11, 2) := by decide +kernel
theorem dL_isSound_373 : decode cL_isSound 373 = .ok (.iinc 12 1, 3) := by decide +kernel
theorem dL_isSound_376 : decode cL_isSound 376 = .ok (.goto (-86), 3) := by decide +kernel
theorem dL_isSound_379 : decode cL_isSound 379 = .ok (.aload_n 0, 1) := by decide +kernel
theorem dL_isSound_380 : decode cL_isSound 380 = .ok (.iload_n 1, 1) := by decide +kernel
theorem dL_isSound_381 : decode cL_isSound 381 = .ok (.iload 8, 2) := by decide +kernel
theorem dL_isSound_383 : decode cL_isSound 383 = .ok (.invokevirtual 29, 3) := by decide +kernel
theorem dL_isSound_386 : decode cL_isSound 386 = .ok (.istore 12, 2) := by decide +kernel
theorem dL_isSound_388 : decode cL_isSound 388 = .ok (.iload 9, 2) := by decide +kernel
theorem dL_isSound_390 : decode cL_isSound 390 = .ok (.aload_n 0, 1) := by decide +kernel
theorem dL_isSound_391 : decode cL_isSound 391 = .ok (.iload_n 1, 1) := by decide +kernel
theorem dL_isSound_392 : decode cL_isSound 392 = .ok (.iload 8, 2) := by decide +kernel
theorem dL_isSound_394 : decode cL_isSound 394 = .ok (.iconst 1, 1) := by decide +kernel
theorem dL_isSound_395 : decode cL_isSound 395 = .ok (.invokevirtual 32, 3) := by decide +kernel
theorem dL_isSound_398 : decode cL_isSound 398 = .ok (.if_icmp .ne 62, 3) := by decide +kernel
theorem dL_isSound_401 : decode cL_isSound 401 = .ok (.iload 10, 2) := by decide +kernel
theorem dL_isSound_403 : decode cL_isSound 403 = .ok (.aload_n 0, 1) := by decide +kernel
theorem dL_isSound_404 : decode cL_isSound 404 = .ok (.iload_n 1, 1) := by decide +kernel
theorem dL_isSound_405 : decode cL_isSound 405 = .ok (.iload 8, 2) := by decide +kernel
theorem dL_isSound_407 : decode cL_isSound 407 = .ok (.iconst 2, 1) := by decide +kernel
theorem dL_isSound_408 : decode cL_isSound 408 = .ok (.invokevirtual 32, 3) := by decide +kernel
theorem dL_isSound_411 : decode cL_isSound 411 = .ok (.if_icmp .ne 49, 3) := by decide +kernel
theorem dL_isSound_414 : decode cL_isSound 414 = .ok (.iload 11, 2) := by decide +kernel
theorem dL_isSound_416 : decode cL_isSound 416 = .ok (.aload_n 0, 1) := by decide +kernel
theorem dL_isSound_417 : decode cL_isSound 417 = .ok (.iload_n 1, 1) := by decide +kernel
theorem dL_isSound_418 : decode cL_isSound 418 = .ok (.iload 8, 2) := by decide +kernel
theorem dL_isSound_420 : decode cL_isSound 420 = .ok (.iconst 4, 1) := by decide +kernel
theorem dL_isSound_421 : decode cL_isSound 421 = .ok (.invokevirtual 32, 3) := by decide +kernel
theorem dL_isSound_424 : decode cL_isSound 424 = .ok (.if_icmp .ne 36, 3) := by decide +kernel
theorem dL_isSound_427 : decode cL_isSound 427 = .ok (.aload_n 0, 1) := by decide +kernel
theorem dL_isSound_428 : decode cL_isSound 428 = .ok (.iload_n 1, 1) := by decide +kernel
theorem dL_isSound_429 : decode cL_isSound 429 = .ok (.iload 8, 2) := by decide +kernel
theorem dL_isSound_431 : decode cL_isSound 431 = .ok (.iconst 3, 1) := by decide +kernel
theorem dL_isSound_432 : decode cL_isSound 432 = .ok (.invokevirtual 32, 3) := by decide +kernel
theorem dL_isSound_435 : decode cL_isSound 435 = .ok (.ifCond .lt 25, 3) := by decide +kernel
theorem dL_isSound_438 : decode cL_isSound 438 = .ok (.iload 11, 2) := by decide +kernel
theorem dL_isSound_440 : decode cL_isSound 440 = .ok (.ifCond .gt 16, 3) := by decide +kernel
theorem dL_isSound_443 : decode cL_isSound 443 = .ok (.iload 12, 2) := by decide +kernel
theorem dL_isSound_445 : decode cL_isSound 445 = .ok (.aload_n 0, 1) := by decide +kernel
theorem dL_isSound_446 : decode cL_isSound 446 = .ok (.iload_n 1, 1) := by decide +kernel
theorem dL_isSound_447 : decode cL_isSound 447 = .ok (.iload 8, 2) := by decide +kernel
theorem dL_isSound_449 : decode cL_isSound 449 = .ok (.iconst 0, 1) := by decide +kernel
theorem dL_isSound_450 : decode cL_isSound 450 = .ok (.invokevirtual 32, 3) := by decide +kernel
theorem dL_isSound_453 : decode cL_isSound 453 = .ok (.if_icmp .ne 7, 3) := by decide +kernel
theorem dL_isSound_456 : decode cL_isSound 456 = .ok (.iconst 1, 1) := by decide +kernel
theorem dL_isSound_457 : decode cL_isSound 457 = .ok (.goto 4, 3) := by decide +kernel
theorem dL_isSound_460 : decode cL_isSound 460 = .ok (.iconst 0, 1) := by decide +kernel
theorem dL_isSound_461 : decode cL_isSound 461 = .ok (.istore 7, 2) := by decide +kernel
theorem dL_isSound_463 : decode cL_isSound 463 = .ok (.iload 7, 2) := by decide +kernel
theorem dL_isSound_465 : decode cL_isSound 465 = .ok (.ifCond .eq 33, 3) := by decide +kernel
theorem dL_isSound_468 : decode cL_isSound 468 = .ok (.aload_n 0, 1) := by decide +kernel
theorem dL_isSound_469 : decode cL_isSound 469 = .ok (.iload_n 1, 1) := by decide +kernel
theorem dL_isSound_470 : decode cL_isSound 470 = .ok (.iload 8, 2) := by decide +kernel
theorem dL_isSound_472 : decode cL_isSound 472 = .ok (.iload 12, 2) := by decide +kernel
theorem dL_isSound_474 : decode cL_isSound 474 = .ok (.invokevirtual 35, 3) := by decide +kernel
theorem dL_isSound_477 : decode cL_isSound 477 = .ok (.ifCond .ne 21, 3) := by decide +kernel
theorem dL_isSound_480 : decode cL_isSound 480 = .ok (.aload_n 0, 1) := by decide +kernel
theorem dL_isSound_481 : decode cL_isSound 481 = .ok (.iload_n 1, 1) := by decide +kernel
theorem dL_isSound_482 : decode cL_isSound 482 = .ok (.iload 8, 2) := by decide +kernel
theorem dL_isSound_484 : decode cL_isSound 484 = .ok (.iconst 1, 1) := by decide +kernel
theorem dL_isSound_485 : decode cL_isSound 485 = .ok (.iload 12, 2) := by decide +kernel
theorem dL_isSound_487 : decode cL_isSound 487 = .ok (.isub, 1) := by decide +kernel
theorem dL_isSound_488 : decode cL_isSound 488 = .ok (.invokevirtual 35, 3) := by decide +kernel
theorem dL_isSound_491 : decode cL_isSound 491 = .ok (.ifCond .le 7, 3) := by decide +kernel
theorem dL_isSound_494 : decode cL_isSound 494 = .ok (.iconst 1, 1) := by decide +kernel
theorem dL_isSound_495 : decode cL_isSound 495 = .ok (.goto 4, 3) := by decide +kernel
theorem dL_isSound_498 : decode cL_isSound 498 = .ok (.iconst 0, 1) := by decide +kernel
theorem dL_isSound_499 : decode cL_isSound 499 = .ok (.istore 7, 2) := by decide +kernel
theorem dL_isSound_501 : decode cL_isSound 501 = .ok (.iinc 8 1, 3) := by decide +kernel
theorem dL_isSound_504 : decode cL_isSound 504 = .ok (.goto (-238), 3) := by decide +kernel
theorem dL_isSound_507 : decode cL_isSound 507 = .ok (.iload 7, 2) := by decide +kernel
theorem dL_isSound_509 : decode cL_isSound 509 = .ok (.ifCond .eq 71, 3) := by decide +kernel
theorem dL_isSound_512 : decode cL_isSound 512 = .ok (.iload_n 2, 1) := by decide +kernel
theorem dL_isSound_513 : decode cL_isSound 513 = .ok (.aload_n 0, 1) := by decide +kernel
theorem dL_isSound_514 : decode cL_isSound 514 = .ok (.iconst 2, 1) := by decide +kernel
theorem dL_isSound_515 : decode cL_isSound 515 = .ok (.invokevirtual 15, 3) := by decide +kernel
theorem dL_isSound_518 : decode cL_isSound 518 = .ok (.if_icmp .ne 62, 3) := by decide +kernel
theorem dL_isSound_521 : decode cL_isSound 521 = .ok (.iload_n 3, 1) := by decide +kernel
theorem dL_isSound_522 : decode cL_isSound 522 = .ok (.aload_n 0, 1) := by decide +kernel
theorem dL_isSound_523 : decode cL_isSound 523 = .ok (.iconst 3, 1) := by decide +kernel
theorem dL_isSound_524 : decode cL_isSound 524 = .ok (.invokevirtual 15, 3) := by decide +kernel
theorem dL_isSound_527 : decode cL_isSound 527 = .ok (.if_icmp .ne 53, 3) := by decide +kernel
theorem dL_isSound_530 : decode cL_isSound 530 = .ok (.iload 4, 2) := by decide +kernel
theorem dL_isSound_532 : decode cL_isSound 532 = .ok (.aload_n 0, 1) := by decide +kernel
theorem dL_isSound_533 : decode cL_isSound 533 = .ok (.iconst 5, 1) := by decide +kernel
theorem dL_isSound_534 : decode cL_isSound 534 = .ok (.invokevirtual 15, 3) := by decide +kernel
theorem dL_isSound_537 : decode cL_isSound 537 = .ok (.if_icmp .ne 43, 3) := by decide +kernel
theorem dL_isSound_540 : decode cL_isSound 540 = .ok (.iload 5, 2) := by decide +kernel
theorem dL_isSound_542 : decode cL_isSound 542 = .ok (.aload_n 0, 1) := by decide +kernel
theorem dL_isSound_543 : decode cL_isSound 543 = .ok (.bipush 6, 2) := by decide +kernel
theorem dL_isSound_545 : decode cL_isSound 545 = .ok (.invokevirtual 15, 3) := by decide +kernel
theorem dL_isSound_548 : decode cL_isSound 548 = .ok (.if_icmp .ne 32, 3) := by decide +kernel
theorem dL_isSound_551 : decode cL_isSound 551 = .ok (.iload 6, 2) := by decide +kernel
theorem dL_isSound_553 : decode cL_isSound 553 = .ok (.aload_n 0, 1) := by decide +kernel
theorem dL_isSound_554 : decode cL_isSound 554 = .ok (.bipush 7, 2) := by decide +kernel
theorem dL_isSound_556 : decode cL_isSound 556 = .ok (.invokevirtual 15, 3) := by decide +kernel
theorem dL_isSound_559 : decode cL_isSound 559 = .ok (.if_icmp .ne 21, 3) := by decide +kernel
theorem dL_isSound_562 : decode cL_isSound 562 = .ok (.aload_n 0, 1) := by decide +kernel
theorem dL_isSound_563 : decode cL_isSound 563 = .ok (.aload_n 0, 1) := by decide +kernel
theorem dL_isSound_564 : decode cL_isSound 564 = .ok (.iconst 1, 1) := by decide +kernel
theorem dL_isSound_565 : decode cL_isSound 565 = .ok (.invokevirtual 15, 3) := by decide +kernel
theorem dL_isSound_568 : decode cL_isSound 568 = .ok (.iconst 0, 1) := by decide +kernel
theorem dL_isSound_569 : decode cL_isSound 569 = .ok (.invokevirtual 22, 3) := by decide +kernel
theorem dL_isSound_572 : decode cL_isSound 572 = .ok (.iconst (-1), 1) := by decide +kernel
theorem dL_isSound_573 : decode cL_isSound 573 = .ok (.if_icmp .ne 7, 3) := by decide +kernel
theorem dL_isSound_576 : decode cL_isSound 576 = .ok (.iconst 1, 1) := by decide +kernel
theorem dL_isSound_577 : decode cL_isSound 577 = .ok (.goto 4, 3) := by decide +kernel
theorem dL_isSound_580 : decode cL_isSound 580 = .ok (.iconst 0, 1) := by decide +kernel
theorem dL_isSound_581 : decode cL_isSound 581 = .ok (.ireturn, 1) := by decide +kernel
theorem dL_turns_0 : decode cL_turns 0 = .ok (.iconst 1, 1) := by decide +kernel
theorem dL_turns_1 : decode cL_turns 1 = .ok (.aload_n 0, 1) := by decide +kernel
theorem dL_turns_2 : decode cL_turns 2 = .ok (.iload_n 1, 1) := by decide +kernel
theorem dL_turns_3 : decode cL_turns 3 = .ok (.iload_n 2, 1) := by decide +kernel
theorem dL_turns_4 : decode cL_turns 4 = .ok (.invokevirtual 29, 3) := by decide +kernel
theorem dL_turns_7 : decode cL_turns 7 = .ok (.isub, 1) := by decide +kernel
theorem dL_turns_8 : decode cL_turns 8 = .ok (.istore_n 3, 1) := by decide +kernel
theorem dL_turns_9 : decode cL_turns 9 = .ok (.aload_n 0, 1) := by decide +kernel
theorem dL_turns_10 : decode cL_turns 10 = .ok (.iload_n 1, 1) := by decide +kernel
theorem dL_turns_11 : decode cL_turns 11 = .ok (.iload_n 2, 1) := by decide +kernel
theorem dL_turns_12 : decode cL_turns 12 = .ok (.iload_n 3, 1) := by decide +kernel
theorem dL_turns_13 : decode cL_turns 13 = .ok (.invokevirtual 35, 3) := by decide +kernel
theorem dL_turns_16 : decode cL_turns 16 = .ok (.istore 4, 2) := by decide +kernel
theorem dL_turns_18 : decode cL_turns 18 = .ok (.aload_n 0, 1) := by decide +kernel
theorem dL_turns_19 : decode cL_turns 19 = .ok (.ldc 38, 2) := by decide +kernel
theorem dL_turns_21 : decode cL_turns 21 = .ok (.invokevirtual 39, 3) := by decide +kernel
theorem dL_turns_24 : decode cL_turns 24 = .ok (.istore 5, 2) := by decide +kernel
theorem dL_turns_26 : decode cL_turns 26 = .ok (.iload 5, 2) := by decide +kernel
theorem dL_turns_28 : decode cL_turns 28 = .ok (.ifCond .lt 11, 3) := by decide +kernel
theorem dL_turns_31 : decode cL_turns 31 = .ok (.iload 4, 2) := by decide +kernel
theorem dL_turns_33 : decode cL_turns 33 = .ok (.sipush 999, 3) := by decide +kernel
theorem dL_turns_36 : decode cL_turns 36 = .ok (.if_icmp .le 36, 3) := by decide +kernel
theorem dL_turns_39 : decode cL_turns 39 = .ok (.iload 5, 2) := by decide +kernel
theorem dL_turns_41 : decode cL_turns 41 = .ok (.ifCond .ge 18, 3) := by decide +kernel
theorem dL_turns_44 : decode cL_turns 44 = .ok (.iload 5, 2) := by decide +kernel
theorem dL_turns_46 : decode cL_turns 46 = .ok (.bipush (-3), 2) := by decide +kernel
theorem dL_turns_48 : decode cL_turns 48 = .ok (.if_icmp .ne 7, 3) := by decide +kernel
theorem dL_turns_51 : decode cL_turns 51 = .ok (.iconst 1, 1) := by decide +kernel
theorem dL_turns_52 : decode cL_turns 52 = .ok (.goto 19, 3) := by decide +kernel
theorem dL_turns_55 : decode cL_turns 55 = .ok (.iconst 0, 1) := by decide +kernel
theorem dL_turns_56 : decode cL_turns 56 = .ok (.goto 15, 3) := by decide +kernel
theorem dL_turns_59 : decode cL_turns 59 = .ok (.aload_n 0, 1) := by decide +kernel
theorem dL_turns_60 : decode cL_turns 60 = .ok (.invokevirtual 42, 3) := by decide +kernel
theorem dL_turns_63 : decode cL_turns 63 = .ok (.ifCond .lt 7, 3) := by decide +kernel
theorem dL_turns_66 : decode cL_turns 66 = .ok (.iconst 1, 1) := by decide +kernel
theorem dL_turns_67 : decode cL_turns 67 = .ok (.goto 4, 3) := by decide +kernel
theorem dL_turns_70 : decode cL_turns 70 = .ok (.iconst 0, 1) := by decide +kernel
theorem dL_turns_71 : decode cL_turns 71 = .ok (.ireturn, 1) := by decide +kernel
theorem dL_turns_72 : decode cL_turns 72 = .ok (.iload 4, 2) := by decide +kernel
theorem dL_turns_74 : decode cL_turns 74 = .ok (.iconst 1, 1) := by decide +kernel
theorem dL_turns_75 : decode cL_turns 75 = .ok (.if_icmp .eq 43, 3) := by decide +kernel
theorem dL_turns_78 : decode cL_turns 78 = .ok (.aload_n 0, 1) := by decide +kernel
theorem dL_turns_79 : decode cL_turns 79 = .ok (.iload 5, 2) := by decide +kernel
theorem dL_turns_81 : decode cL_turns 81 = .ok (.iload_n 1, 1) := by decide +kernel
theorem dL_turns_82 : decode cL_turns 82 = .ok (.iload_n 2, 1) := by decide +kernel
theorem dL_turns_83 : decode cL_turns 83 = .ok (.iload_n 3, 1) := by decide +kernel
theorem dL_turns_84 : decode cL_turns 84 = .ok (.iload 4, 2) := by decide +kernel
theorem dL_turns_86 : decode cL_turns 86 = .ok (.iconst 1, 1) := by decide +kernel
theorem dL_turns_87 : decode cL_turns 87 = .ok (.isub, 1) := by decide +kernel
theorem dL_turns_88 : decode cL_turns 88 = .ok (.invokevirtual 46, 3) := by decide +kernel
theorem dL_turns_91 : decode cL_turns 91 = .ok (.ldc 50, 2) := by decide +kernel
theorem dL_turns_93 : decode cL_turns 93 = .ok (.iload 4, 2) := by decide +kernel
theorem dL_turns_95 : decode cL_turns 95 = .ok (.isub, 1) := by decide +kernel
theorem dL_turns_96 : decode cL_turns 96 = .ok (.if_icmp .ne 26, 3) := by decide +kernel
theorem dL_turns_99 : decode cL_turns 99 = .ok (.aload_n 0, 1) := by decide +kernel
theorem dL_turns_100 : decode cL_turns 100 = .ok (.iload_n 1, 1) := by decide +kernel
theorem dL_turns_101 : decode cL_turns 101 = .ok (.iload_n 2, 1) := by decide +kernel
theorem dL_turns_102 : decode cL_turns 102 = .ok (.invokevirtual 29, 3) := by decide +kernel
theorem dL_turns_105 : decode cL_turns 105 = .ok (.iconst 1, 1) := by decide +kernel
theorem dL_turns_106 : decode cL_turns 106 = .ok (.iload_n 3, 1) := by decide +kernel
theorem dL_turns_107 : decode cL_turns 107 = .ok (.isub, 1) := by decide +kernel
theorem dL_turns_108 : decode cL_turns 108 = .ok (.if_icmp .ne 14, 3) := by decide +kernel
theorem dL_turns_111 : decode cL_turns 111 = .ok (.aload_n 0, 1) := by decide +kernel
theorem dL_turns_112 : decode cL_turns 112 = .ok (.invokevirtual 42, 3) := by decide +kernel
theorem dL_turns_115 : decode cL_turns 115 = .ok (.ifCond .lt 7, 3) := by decide +kernel
theorem dL_turns_118 : decode cL_turns 118 = .ok (.iconst 1, 1) := by decide +kernel
theorem dL_turns_119 : decode cL_turns 119 = .ok (.goto 4, 3) := by decide +kernel
theorem dL_turns_122 : decode cL_turns 122 = .ok (.iconst 0, 1) := by decide +kernel
theorem dL_turns_123 : decode cL_turns 123 = .ok (.istore 6, 2) := by decide +kernel
theorem dL_turns_125 : decode cL_turns 125 = .ok (.iload 6, 2) := by decide +kernel
theorem dL_turns_127 : decode cL_turns 127 = .ok (.ifCond .eq 55, 3) := by decide +kernel
theorem dL_turns_130 : decode cL_turns 130 = .ok (.aload_n 0, 1) := by decide +kernel
theorem dL_turns_131 : decode cL_turns 131 = .ok (.iload 5, 2) := by decide +kernel
theorem dL_turns_133 : decode cL_turns 133 = .ok (.iload_n 1, 1) := by decide +kernel
theorem dL_turns_134 : decode cL_turns 134 = .ok (.iload_n 2, 1) := by decide +kernel
theorem dL_turns_135 : decode cL_turns 135 = .ok (.iload_n 3, 1) := by decide +kernel
theorem dL_turns_136 : decode cL_turns 136 = .ok (.iload 4, 2) := by decide +kernel
theorem dL_turns_138 : decode cL_turns 138 = .ok (.invokevirtual 46, 3) := by decide +kernel
theorem dL_turns_141 : decode cL_turns 141 = .ok (.ldc 38, 2) := by decide +kernel
theorem dL_turns_143 : decode cL_turns 143 = .ok (.iload 4, 2) := by decide +kernel
theorem dL_turns_145 : decode cL_turns 145 = .ok (.isub, 1) := by decide +kernel
theorem dL_turns_146 : decode cL_turns 146 = .ok (.if_icmp .ne 36, 3) := by decide +kernel
theorem dL_turns_149 : decode cL_turns 149 = .ok (.aload_n 0, 1) := by decide +kernel
theorem dL_turns_150 : decode cL_turns 150 = .ok (.iload_n 1, 1) := by decide +kernel
theorem dL_turns_151 : decode cL_turns 151 = .ok (.iload_n 2, 1) := by decide +kernel
theorem dL_turns_152 : decode cL_turns 152 = .ok (.invokevirtual 29, 3) := by decide +kernel
theorem dL_turns_155 : decode cL_turns 155 = .ok (.iload_n 3, 1) := by decide +kernel
theorem dL_turns_156 : decode cL_turns 156 = .ok (.if_icmp .ne 26, 3) := by decide +kernel
theorem dL_turns_159 : decode cL_turns 159 = .ok (.aload_n 0, 1) := by decide +kernel
theorem dL_turns_160 : decode cL_turns 160 = .ok (.iload 5, 2) := by decide +kernel
theorem dL_turns_162 : decode cL_turns 162 = .ok (.iload_n 1, 1) := by decide +kernel
theorem dL_turns_163 : decode cL_turns 163 = .ok (.iload_n 2, 1) := by decide +kernel
theorem dL_turns_164 : decode cL_turns 164 = .ok (.invokevirtual 25, 3) := by decide +kernel
theorem dL_turns_167 : decode cL_turns 167 = .ok (.sipush 1000, 3) := by decide +kernel
theorem dL_turns_170 : decode cL_turns 170 = .ok (.iload_n 3, 1) := by decide +kernel
theorem dL_turns_171 : decode cL_turns 171 = .ok (.imul, 1) := by decide +kernel
theorem dL_turns_172 : decode cL_turns 172 = .ok (.iload 4, 2) := by decide +kernel
theorem dL_turns_174 : decode cL_turns 174 = .ok (.iadd, 1) := by decide +kernel
theorem dL_turns_175 : decode cL_turns 175 = .ok (.if_icmp .ne 7, 3) := by decide +kernel
theorem dL_turns_178 : decode cL_turns 178 = .ok (.iconst 1, 1) := by decide +kernel
theorem dL_turns_179 : decode cL_turns 179 = .ok (.goto 4, 3) := by decide +kernel
theorem dL_turns_182 : decode cL_turns 182 = .ok (.iconst 0, 1) := by decide +kernel
theorem dL_turns_183 : decode cL_turns 183 = .ok (.istore 6, 2) := by decide +kernel
theorem dL_turns_185 : decode cL_turns 185 = .ok (.iload 6, 2) := by decide +kernel
theorem dL_turns_187 : decode cL_turns 187 = .ok (.ifCond .eq 21, 3) := by decide +kernel
theorem dL_turns_190 : decode cL_turns 190 = .ok (.aload_n 0, 1) := by decide +kernel
theorem dL_turns_191 : decode cL_turns 191 = .ok (.invokevirtual 42, 3) := by decide +kernel
theorem dL_turns_194 : decode cL_turns 194 = .ok (.ifCond .lt 14, 3) := by decide +kernel
theorem dL_turns_197 : decode cL_turns 197 = .ok (.aload_n 0, 1) := by decide +kernel
theorem dL_turns_198 : decode cL_turns 198 = .ok (.invokevirtual 42, 3) := by decide +kernel
theorem dL_turns_201 : decode cL_turns 201 = .ok (.ifCond .lt 7, 3) := by decide +kernel
theorem dL_turns_204 : decode cL_turns 204 = .ok (.iconst 1, 1) := by decide +kernel
theorem dL_turns_205 : decode cL_turns 205 = .ok (.goto 4, 3) := by decide +kernel
theorem dL_turns_208 : decode cL_turns 208 = .ok (.iconst 0, 1) := by decide +kernel
theorem dL_turns_209 : decode cL_turns 209 = .ok (.ireturn, 1) := by decide +kernel
theorem dL_settles_0 : decode cL_settles 0 = .ok (.aload_n 0, 1) := by decide +kernel
theorem dL_settles_1 : decode cL_settles 1 = .ok (.iconst 5, 1) := by decide +kernel
theorem dL_settles_2 : decode cL_settles 2 = .ok (.invokevirtual 15, 3) := by decide +kernel
theorem dL_settles_5 : decode cL_settles 5 = .ok (.istore_n 3, 1) := by decide +kernel
theorem dL_settles_6 : decode cL_settles 6 = .ok (.aload_n 0, 1) := by decide +kernel
theorem dL_settles_7 : decode cL_settles 7 = .ok (.bipush 6, 2) := by decide +kernel
theorem dL_settles_9 : decode cL_settles 9 = .ok (.invokevirtual 15, 3) := by decide +kernel
theorem dL_settles_12 : decode cL_settles 12 = .ok (.istore 4, 2) := by decide +kernel
theorem dL_settles_14 : decode cL_settles 14 = .ok (.aload_n 0, 1) := by decide +kernel
theorem dL_settles_15 : decode cL_settles 15 = .ok (.iconst 0, 1) := by decide +kernel
theorem dL_settles_16 : decode cL_settles 16 = .ok (.invokevirtual 15, 3) := by decide +kernel
theorem dL_settles_19 : decode cL_settles 19 = .ok (.istore 5, 2) := by decide +kernel
theorem dL_settles_21 : decode cL_settles 21 = .ok (.aload_n 0, 1) := by decide +kernel
theorem dL_settles_22 : decode cL_settles 22 = .ok (.iload_n 2, 1) := by decide +kernel
theorem dL_settles_23 : decode cL_settles 23 = .ok (.invokevirtual 51, 3) := by decide +kernel
theorem dL_settles_26 : decode cL_settles 26 = .ok (.istore 6, 2) := by decide +kernel
theorem dL_settles_28 : decode cL_settles 28 = .ok (.iconst 0, 1) := by decide +kernel
theorem dL_settles_29 : decode cL_settles 29 = .ok (.istore 7, 2) := by decide +kernel
theorem dL_settles_31 : decode cL_settles 31 = .ok (.iconst 0, 1) := by decide +kernel
theorem dL_settles_32 : decode cL_settles 32 = .ok (.istore 8, 2) := by decide +kernel
theorem dL_settles_34 : decode cL_settles 34 = .ok (.iload 8, 2) := by decide +kernel
theorem dL_settles_36 : decode cL_settles 36 = .ok (.bipush 24, 2) := by decide +kernel
theorem dL_settles_38 : decode cL_settles 38 = .ok (.if_icmp .ge 24, 3) := by decide +kernel
theorem dL_settles_41 : decode cL_settles 41 = .ok (.iload 7, 2) := by decide +kernel
theorem dL_settles_43 : decode cL_settles 43 = .ok (.aload_n 0, 1) := by decide +kernel
theorem dL_settles_44 : decode cL_settles 44 = .ok (.iload_n 1, 1) := by decide +kernel
theorem dL_settles_45 : decode cL_settles 45 = .ok (.iload 8, 2) := by decide +kernel
theorem dL_settles_47 : decode cL_settles 47 = .ok (.invokevirtual 29, 3) := by decide +kernel
theorem dL_settles_50 : decode cL_settles 50 = .ok (.iload 8, 2) := by decide +kernel
theorem dL_settles_52 : decode cL_settles 52 = .ok (.ishl, 1) := by decide +kernel
theorem dL_settles_53 : decode cL_settles 53 = .ok (.ior, 1) := by decide +kernel
theorem dL_settles_54 : decode cL_settles 54 = .ok (.istore 7, 2) := by decide +kernel
theorem dL_settles_56 : decode cL_settles 56 = .ok (.iinc 8 1, 3) := by decide +kernel
theorem dL_settles_59 : decode cL_settles 59 = .ok (.goto (-25), 3) := by decide +kernel
theorem dL_settles_62 : decode cL_settles 62 = .ok (.aload_n 0, 1) := by decide +kernel
theorem dL_settles_63 : decode cL_settles 63 = .ok (.invokevirtual 54, 3) := by decide +kernel
theorem dL_settles_66 : decode cL_settles 66 = .ok (.istore 8, 2) := by decide +kernel
theorem dL_settles_68 : decode cL_settles 68 = .ok (.iload 8, 2) := by decide +kernel
theorem dL_settles_70 : decode cL_settles 70 = .ok (.aload_n 0, 1) := by decide +kernel
theorem dL_settles_71 : decode cL_settles 71 = .ok (.iconst 3, 1) := by decide +kernel
theorem dL_settles_72 : decode cL_settles 72 = .ok (.invokevirtual 15, 3) := by decide +kernel
theorem dL_settles_75 : decode cL_settles 75 = .ok (.if_icmp .ne 69, 3) := by decide +kernel
theorem dL_settles_78 : decode cL_settles 78 = .ok (.aload_n 0, 1) := by decide +kernel
theorem dL_settles_79 : decode cL_settles 79 = .ok (.iconst 0, 1) := by decide +kernel
theorem dL_settles_80 : decode cL_settles 80 = .ok (.invokevirtual 15, 3) := by decide +kernel
theorem dL_settles_83 : decode cL_settles 83 = .ok (.iload 5, 2) := by decide +kernel
theorem dL_settles_85 : decode cL_settles 85 = .ok (.iconst 1, 1) := by decide +kernel
theorem dL_settles_86 : decode cL_settles 86 = .ok (.iadd, 1) := by decide +kernel
theorem dL_settles_87 : decode cL_settles 87 = .ok (.if_icmp .ne 57, 3) := by decide +kernel
theorem dL_settles_90 : decode cL_settles 90 = .ok (.aload_n 0, 1) := by decide +kernel
theorem dL_settles_91 : decode cL_settles 91 = .ok (.iconst 2, 1) := by decide +kernel
theorem dL_settles_92 : decode cL_settles 92 = .ok (.invokevirtual 15, 3) := by decide +kernel
theorem dL_settles_95 : decode cL_settles 95 = .ok (.ifCond .ne 49, 3) := by decide +kernel
theorem dL_settles_98 : decode cL_settles 98 = .ok (.aload_n 0, 1) := by decide +kernel
theorem dL_settles_99 : decode cL_settles 99 = .ok (.iload_n 2, 1) := by decide +kernel
theorem dL_settles_100 : decode cL_settles 100 = .ok (.iconst 0, 1) := by decide +kernel
theorem dL_settles_101 : decode cL_settles 101 = .ok (.invokevirtual 22, 3) := by decide +kernel
theorem dL_settles_104 : decode cL_settles 104 = .ok (.iload 6, 2) := by decide +kernel
theorem dL_settles_106 : decode cL_settles 106 = .ok (.if_icmp .ne 38, 3) := by decide +kernel
theorem dL_settles_109 : decode cL_settles 109 = .ok (.aload_n 0, 1) := by decide +kernel
theorem dL_settles_110 : decode cL_settles 110 = .ok (.iload_n 2, 1) := by decide +kernel
theorem dL_settles_111 : decode cL_settles 111 = .ok (.iconst 1, 1) := by decide +kernel
theorem dL_settles_112 : decode cL_settles 112 = .ok (.invokevirtual 22, 3) := by decide +kernel
theorem dL_settles_115 : decode cL_settles 115 = .ok (.iload 6, 2) := by decide +kernel
theorem dL_settles_117 : decode cL_settles 117 = .ok (.if_icmp .ne 27, 3) := by decide +kernel
theorem dL_settles_120 : decode cL_settles 120 = .ok (.aload_n 0, 1) := by decide +kernel
theorem dL_settles_121 : decode cL_settles 121 = .ok (.bipush 6, 2) := by decide +kernel
theorem dL_settles_123 : decode cL_settles 123 = .ok (.invokevirtual 15, 3) := by decide +kernel
theorem dL_settles_126 : decode cL_settles 126 = .ok (.iload 4, 2) := by decide +kernel
theorem dL_settles_128 : decode cL_settles 128 = .ok (.if_icmp .gt 16, 3) := by decide +kernel
theorem dL_settles_131 : decode cL_settles 131 = .ok (.aload_n 0, 1) := by decide +kernel
theorem dL_settles_132 : decode cL_settles 132 = .ok (.iconst 5, 1) := by decide +kernel
theorem dL_settles_133 : decode cL_settles 133 = .ok (.invokevirtual 15, 3) := by decide +kernel
theorem dL_settles_136 : decode cL_settles 136 = .ok (.iload_n 3, 1) := by decide +kernel
theorem dL_settles_137 : decode cL_settles 137 = .ok (.if_icmp .ne 7, 3) := by decide +kernel
theorem dL_settles_140 : decode cL_settles 140 = .ok (.iconst 1, 1) := by decide +kernel
theorem dL_settles_141 : decode cL_settles 141 = .ok (.goto 4, 3) := by decide +kernel
theorem dL_settles_144 : decode cL_settles 144 = .ok (.iconst 0, 1) := by decide +kernel
theorem dL_settles_145 : decode cL_settles 145 = .ok (.istore 9, 2) := by decide +kernel
theorem dL_settles_147 : decode cL_settles 147 = .ok (.iconst 0, 1) := by decide +kernel
theorem dL_settles_148 : decode cL_settles 148 = .ok (.istore 10, 2) := by decide +kernel
theorem dL_settles_150 : decode cL_settles 150 = .ok (.iload 10, 2) := by decide +kernel
theorem dL_settles_152 : decode cL_settles 152 = .ok (.bipush 24, 2) := by decide +kernel
theorem dL_settles_154 : decode cL_settles 154 = .ok (.if_icmp .ge 50, 3) := by decide +kernel
theorem dL_settles_157 : decode cL_settles 157 = .ok (.iload 9, 2) := by decide +kernel
theorem dL_settles_159 : decode cL_settles 159 = .ok (.ifCond .eq 45, 3) := by decide +kernel
theorem dL_settles_162 : decode cL_settles 162 = .ok (.aload_n 0, 1) := by decide +kernel
theorem dL_settles_163 : decode cL_settles 163 = .ok (.iload_n 1, 1) := by decide +kernel
theorem dL_settles_164 : decode cL_settles 164 = .ok (.iload 10, 2) := by decide +kernel
theorem dL_settles_166 : decode cL_settles 166 = .ok (.iconst 0, 1) := by decide +kernel
theorem dL_settles_167 : decode cL_settles 167 = .ok (.invokevirtual 32, 3) := by decide +kernel
theorem dL_settles_170 : decode cL_settles 170 = .ok (.iload 7, 2) := by decide +kernel
theorem dL_settles_172 : decode cL_settles 172 = .ok (.iload 10, 2) := by decide +kernel
theorem dL_settles_174 : decode cL_settles 174 = .ok (.ishr, 1) := by decide +kernel
theorem dL_settles_175 : decode cL_settles 175 = .ok (.iconst 1, 1) := by decide +kernel
theorem dL_settles_176 : decode cL_settles 176 = .ok (.iand, 1) := by decide +kernel
theorem dL_settles_177 : decode cL_settles 177 = .ok (.if_icmp .ne 18, 3) := by decide +kernel
theorem dL_settles_180 : decode cL_settles 180 = .ok (.aload_n 0, 1) := by decide +kernel
theorem dL_settles_181 : decode cL_settles 181 = .ok (.iload_n 1, 1) := by decide +kernel
theorem dL_settles_182 : decode cL_settles 182 = .ok (.iload 10, 2) := by decide +kernel
theorem dL_settles_184 : decode cL_settles 184 = .ok (.iconst 4, 1) := by decide +kernel
theorem dL_settles_185 : decode cL_settles 185 = .ok (.invokevirtual 32, 3) := by decide +kernel
theorem dL_settles_188 : decode cL_settles 188 = .ok (.ifCond .ne 7, 3) := by decide +kernel
theorem dL_settles_191 : decode cL_settles 191 = .ok (.iconst 1, 1) := by decide +kernel
theorem dL_settles_192 : decode cL_settles 192 = .ok (.goto 4, 3) := by decide +kernel
theorem dL_settles_195 : decode cL_settles 195 = .ok (.iconst 0, 1) := by decide +kernel
theorem dL_settles_196 : decode cL_settles 196 = .ok (.istore 9, 2) := by decide +kernel
theorem dL_settles_198 : decode cL_settles 198 = .ok (.iinc 10 1, 3) := by decide +kernel
theorem dL_settles_201 : decode cL_settles 201 = .ok (.goto (-51), 3) := by decide +kernel
theorem dL_settles_204 : decode cL_settles 204 = .ok (.iload 9, 2) := by decide +kernel
theorem dL_settles_206 : decode cL_settles 206 = .ok (.ireturn, 1) := by decide +kernel
theorem dL_breaches_0 : decode cL_breaches 0 = .ok (.aload_n 0, 1) := by decide +kernel
theorem dL_breaches_1 : decode cL_breaches 1 = .ok (.iconst 5, 1) := by decide +kernel
theorem dL_breaches_2 : decode cL_breaches 2 = .ok (.invokevirtual 15, 3) := by decide +kernel
theorem dL_breaches_5 : decode cL_breaches 5 = .ok (.istore 4, 2) := by decide +kernel
theorem dL_breaches_7 : decode cL_breaches 7 = .ok (.aload_n 0, 1) := by decide +kernel
theorem dL_breaches_8 : decode cL_breaches 8 = .ok (.bipush 6, 2) := by decide +kernel
theorem dL_breaches_10 : decode cL_breaches 10 = .ok (.invokevirtual 15, 3) := by decide +kernel
theorem dL_breaches_13 : decode cL_breaches 13 = .ok (.istore 5, 2) := by decide +kernel
theorem dL_breaches_15 : decode cL_breaches 15 = .ok (.aload_n 0, 1) := by decide +kernel
theorem dL_breaches_16 : decode cL_breaches 16 = .ok (.iload_n 1, 1) := by decide +kernel
theorem dL_breaches_17 : decode cL_breaches 17 = .ok (.iconst 1, 1) := by decide +kernel
theorem dL_breaches_18 : decode cL_breaches 18 = .ok (.invokevirtual 22, 3) := by decide +kernel
theorem dL_breaches_21 : decode cL_breaches 21 = .ok (.istore 6, 2) := by decide +kernel
theorem dL_breaches_23 : decode cL_breaches 23 = .ok (.aload_n 0, 1) := by decide +kernel
theorem dL_breaches_24 : decode cL_breaches 24 = .ok (.iconst 4, 1) := by decide +kernel
theorem dL_breaches_25 : decode cL_breaches 25 = .ok (.invokevirtual 15, 3) := by decide +kernel
theorem dL_breaches_28 : decode cL_breaches 28 = .ok (.istore 7, 2) := by decide +kernel
theorem dL_breaches_30 : decode cL_breaches 30 = .ok (.aload_n 0, 1) := by decide +kernel
theorem dL_breaches_31 : decode cL_breaches 31 = .ok (.iload_n 1, 1) := by decide +kernel
theorem dL_breaches_32 : decode cL_breaches 32 = .ok (.iload_n 2, 1) := by decide +kernel
theorem dL_breaches_33 : decode cL_breaches 33 = .ok (.iload_n 3, 1) := by decide +kernel
theorem dL_breaches_34 : decode cL_breaches 34 = .ok (.invokevirtual 57, 3) := by decide +kernel
theorem dL_breaches_37 : decode cL_breaches 37 = .ok (.istore 8, 2) := by decide +kernel
theorem dL_breaches_39 : decode cL_breaches 39 = .ok (.aload_n 0, 1) := by decide +kernel
theorem dL_breaches_40 : decode cL_breaches 40 = .ok (.iload_n 2, 1) := by decide +kernel
theorem dL_breaches_41 : decode cL_breaches 41 = .ok (.iload_n 3, 1) := by decide +kernel
theorem dL_breaches_42 : decode cL_breaches 42 = .ok (.iconst 0, 1) := by decide +kernel
theorem dL_breaches_43 : decode cL_breaches 43 = .ok (.invokevirtual 32, 3) := by decide +kernel
theorem dL_breaches_46 : decode cL_breaches 46 = .ok (.iconst 1, 1) := by decide +kernel
theorem dL_breaches_47 : decode cL_breaches 47 = .ok (.if_icmp .ne 16, 3) := by decide +kernel
theorem dL_breaches_50 : decode cL_breaches 50 = .ok (.iload 8, 2) := by decide +kernel
theorem dL_breaches_52 : decode cL_breaches 52 = .ok (.bipush (-2), 2) := by decide +kernel
theorem dL_breaches_54 : decode cL_breaches 54 = .ok (.if_icmp .ne 7, 3) := by decide +kernel
theorem dL_breaches_57 : decode cL_breaches 57 = .ok (.iconst 1, 1) := by decide +kernel
theorem dL_breaches_58 : decode cL_breaches 58 = .ok (.goto 4, 3) := by decide +kernel
theorem dL_breaches_61 : decode cL_breaches 61 = .ok (.iconst 0, 1) := by decide +kernel
theorem dL_breaches_62 : decode cL_breaches 62 = .ok (.ireturn, 1) := by decide +kernel
theorem dL_breaches_63 : decode cL_breaches 63 = .ok (.iload 8, 2) := by decide +kernel
theorem dL_breaches_65 : decode cL_breaches 65 = .ok (.iload 6, 2) := by decide +kernel
theorem dL_breaches_67 : decode cL_breaches 67 = .ok (.iload 7, 2) := by decide +kernel
theorem dL_breaches_69 : decode cL_breaches 69 = .ok (.if_icmp .ge 8, 3) := by decide +kernel
theorem dL_breaches_72 : decode cL_breaches 72 = .ok (.iload 6, 2) := by decide +kernel
theorem dL_breaches_74 : decode cL_breaches 74 = .ok (.goto 5, 3) := by decide +kernel
theorem dL_breaches_77 : decode cL_breaches 77 = .ok (.iload 7, 2) := by decide +kernel
theorem dL_breaches_79 : decode cL_breaches 79 = .ok (.if_icmp .ne 34, 3) := by decide +kernel
theorem dL_breaches_82 : decode cL_breaches 82 = .ok (.aload_n 0, 1) := by decide +kernel
theorem dL_breaches_83 : decode cL_breaches 83 = .ok (.bipush 6, 2) := by decide +kernel
theorem dL_breaches_85 : decode cL_breaches 85 = .ok (.invokevirtual 15, 3) := by decide +kernel
theorem dL_breaches_88 : decode cL_breaches 88 = .ok (.iload 5, 2) := by decide +kernel
theorem dL_breaches_90 : decode cL_breaches 90 = .ok (.iload 7, 2) := by decide +kernel
theorem dL_breaches_92 : decode cL_breaches 92 = .ok (.iadd, 1) := by decide +kernel
theorem dL_breaches_93 : decode cL_breaches 93 = .ok (.iload 8, 2) := by decide +kernel
theorem dL_breaches_95 : decode cL_breaches 95 = .ok (.isub, 1) := by decide +kernel
theorem dL_breaches_96 : decode cL_breaches 96 = .ok (.if_icmp .gt 17, 3) := by decide +kernel
theorem dL_breaches_99 : decode cL_breaches 99 = .ok (.aload_n 0, 1) := by decide +kernel
theorem dL_breaches_100 : decode cL_breaches 100 = .ok (.iconst 5, 1) := by decide +kernel
theorem dL_breaches_101 : decode cL_breaches 101 = .ok (.invokevirtual 15, 3) := by decide +kernel
theorem dL_breaches_104 : decode cL_breaches 104 = .ok (.iload 4, 2) := by decide +kernel
theorem dL_breaches_106 : decode cL_breaches 106 = .ok (.if_icmp .ne 7, 3) := by decide +kernel
theorem dL_breaches_109 : decode cL_breaches 109 = .ok (.iconst 1, 1) := by decide +kernel
theorem dL_breaches_110 : decode cL_breaches 110 = .ok (.goto 4, 3) := by decide +kernel
theorem dL_breaches_113 : decode cL_breaches 113 = .ok (.iconst 0, 1) := by decide +kernel
theorem dL_breaches_114 : decode cL_breaches 114 = .ok (.ireturn, 1) := by decide +kernel
theorem dL_plans_0 : decode cL_plans 0 = .ok (.aload_n 0, 1) := by decide +kernel
theorem dL_plans_1 : decode cL_plans 1 = .ok (.invokevirtual 60, 3) := by decide +kernel
theorem dL_plans_4 : decode cL_plans 4 = .ok (.pop, 1) := by decide +kernel
theorem dL_plans_5 : decode cL_plans 5 = .ok (.aload_n 0, 1) := by decide +kernel
theorem dL_plans_6 : decode cL_plans 6 = .ok (.bipush 48, 2) := by decide +kernel
theorem dL_plans_8 : decode cL_plans 8 = .ok (.iload 5, 2) := by decide +kernel
theorem dL_plans_10 : decode cL_plans 10 = .ok (.iadd, 1) := by decide +kernel
theorem dL_plans_11 : decode cL_plans 11 = .ok (.invokevirtual 63, 3) := by decide +kernel
theorem dL_plans_14 : decode cL_plans 14 = .ok (.pop, 1) := by decide +kernel
theorem dL_plans_15 : decode cL_plans 15 = .ok (.aload_n 0, 1) := by decide +kernel
theorem dL_plans_16 : decode cL_plans 16 = .ok (.bipush 42, 2) := by decide +kernel
theorem dL_plans_18 : decode cL_plans 18 = .ok (.invokevirtual 63, 3) := by decide +kernel
theorem dL_plans_21 : decode cL_plans 21 = .ok (.pop, 1) := by decide +kernel
theorem dL_plans_22 : decode cL_plans 22 = .ok (.aload_n 0, 1) := by decide +kernel
theorem dL_plans_23 : decode cL_plans 23 = .ok (.bipush 40, 2) := by decide +kernel
theorem dL_plans_25 : decode cL_plans 25 = .ok (.invokevirtual 63, 3) := by decide +kernel
theorem dL_plans_28 : decode cL_plans 28 = .ok (.pop, 1) := by decide +kernel
theorem dL_plans_29 : decode cL_plans 29 = .ok (.aload_n 0, 1) := by decide +kernel
theorem dL_plans_30 : decode cL_plans 30 = .ok (.iload 4, 2) := by decide +kernel
theorem dL_plans_32 : decode cL_plans 32 = .ok (.ifCond .ne 8, 3) := by decide +kernel
theorem dL_plans_35 : decode cL_plans 35 = .ok (.bipush 113, 2) := by decide +kernel
theorem dL_plans_37 : decode cL_plans 37 = .ok (.goto 5, 3) := by decide +kernel
theorem dL_plans_40 : decode cL_plans 40 = .ok (.bipush 110, 2) := by decide +kernel
theorem dL_plans_42 : decode cL_plans 42 = .ok (.invokevirtual 63, 3) := by decide +kernel
theorem dL_plans_45 : decode cL_plans 45 = .ok (.pop, 1) := by decide +kernel
theorem dL_plans_46 : decode cL_plans 46 = .ok (.aload_n 0, 1) := by decide +kernel
theorem dL_plans_47 : decode cL_plans 47 = .ok (.bipush 48, 2) := by decide +kernel
theorem dL_plans_49 : decode cL_plans 49 = .ok (.iload_n 2, 1) := by decide +kernel
theorem dL_plans_50 : decode cL_plans 50 = .ok (.iadd, 1) := by decide +kernel
theorem dL_plans_51 : decode cL_plans 51 = .ok (.invokevirtual 63, 3) := by decide +kernel
theorem dL_plans_54 : decode cL_plans 54 = .ok (.pop, 1) := by decide +kernel
theorem dL_plans_55 : decode cL_plans 55 = .ok (.aload_n 0, 1) := by decide +kernel
theorem dL_plans_56 : decode cL_plans 56 = .ok (.bipush 58, 2) := by decide +kernel
theorem dL_plans_58 : decode cL_plans 58 = .ok (.invokevirtual 63, 3) := by decide +kernel
theorem dL_plans_61 : decode cL_plans 61 = .ok (.pop, 1) := by decide +kernel
theorem dL_plans_62 : decode cL_plans 62 = .ok (.aload_n 0, 1) := by decide +kernel
theorem dL_plans_63 : decode cL_plans 63 = .ok (.bipush 48, 2) := by decide +kernel
theorem dL_plans_65 : decode cL_plans 65 = .ok (.iload_n 3, 1) := by decide +kernel
theorem dL_plans_66 : decode cL_plans 66 = .ok (.iadd, 1) := by decide +kernel
theorem dL_plans_67 : decode cL_plans 67 = .ok (.invokevirtual 63, 3) := by decide +kernel
theorem dL_plans_70 : decode cL_plans 70 = .ok (.pop, 1) := by decide +kernel
theorem dL_plans_71 : decode cL_plans 71 = .ok (.aload_n 0, 1) := by decide +kernel
theorem dL_plans_72 : decode cL_plans 72 = .ok (.bipush 61, 2) := by decide +kernel
theorem dL_plans_74 : decode cL_plans 74 = .ok (.invokevirtual 63, 3) := by decide +kernel
theorem dL_plans_77 : decode cL_plans 77 = .ok (.pop, 1) := by decide +kernel
theorem dL_plans_78 : decode cL_plans 78 = .ok (.aload_n 0, 1) := by decide +kernel
theorem dL_plans_79 : decode cL_plans 79 = .ok (.bipush 51, 2) := by decide +kernel
theorem dL_plans_81 : decode cL_plans 81 = .ok (.invokevirtual 63, 3) := by decide +kernel
theorem dL_plans_84 : decode cL_plans 84 = .ok (.pop, 1) := by decide +kernel
theorem dL_plans_85 : decode cL_plans 85 = .ok (.aload_n 0, 1) := by decide +kernel
theorem dL_plans_86 : decode cL_plans 86 = .ok (.bipush 59, 2) := by decide +kernel
theorem dL_plans_88 : decode cL_plans 88 = .ok (.invokevirtual 63, 3) := by decide +kernel
theorem dL_plans_91 : decode cL_plans 91 = .ok (.pop, 1) := by decide +kernel
theorem dL_plans_92 : decode cL_plans 92 = .ok (.aload_n 0, 1) := by decide +kernel
theorem dL_plans_93 : decode cL_plans 93 = .ok (.bipush 41, 2) := by decide +kernel
theorem dL_plans_95 : decode cL_plans 95 = .ok (.invokevirtual 63, 3) := by decide +kernel
theorem dL_plans_98 : decode cL_plans 98 = .ok (.istore 6, 2) := by decide +kernel
theorem dL_plans_100 : decode cL_plans 100 = .ok (.aload_n 0, 1) := by decide +kernel
theorem dL_plans_101 : decode cL_plans 101 = .ok (.iload_n 1, 1) := by decide +kernel
theorem dL_plans_102 : decode cL_plans 102 = .ok (.iconst 1, 1) := by decide +kernel
theorem dL_plans_103 : decode cL_plans 103 = .ok (.invokevirtual 22, 3) := by decide +kernel
theorem dL_plans_106 : decode cL_plans 106 = .ok (.istore 7, 2) := by decide +kernel
theorem dL_plans_108 : decode cL_plans 108 = .ok (.aload_n 0, 1) := by decide +kernel
theorem dL_plans_109 : decode cL_plans 109 = .ok (.iload_n 1, 1) := by decide +kernel
theorem dL_plans_110 : decode cL_plans 110 = .ok (.iload_n 2, 1) := by decide +kernel
theorem dL_plans_111 : decode cL_plans 111 = .ok (.iload_n 3, 1) := by decide +kernel
theorem dL_plans_112 : decode cL_plans 112 = .ok (.invokevirtual 25, 3) := by decide +kernel
theorem dL_plans_115 : decode cL_plans 115 = .ok (.istore 8, 2) := by decide +kernel
theorem dL_plans_117 : decode cL_plans 117 = .ok (.iconst 3, 1) := by decide +kernel
theorem dL_plans_118 : decode cL_plans 118 = .ok (.iload 5, 2) := by decide +kernel
theorem dL_plans_120 : decode cL_plans 120 = .ok (.imul, 1) := by decide +kernel
theorem dL_plans_121 : decode cL_plans 121 = .ok (.istore 9, 2) := by decide +kernel
theorem dL_plans_123 : decode cL_plans 123 = .ok (.iload 7, 2) := by decide +kernel
theorem dL_plans_125 : decode cL_plans 125 = .ok (.iload 8, 2) := by decide +kernel
theorem dL_plans_127 : decode cL_plans 127 = .ok (.ifCond .ge 7, 3) := by decide +kernel
theorem dL_plans_130 : decode cL_plans 130 = .ok (.iconst 0, 1) := by decide +kernel
theorem dL_plans_131 : decode cL_plans 131 = .ok (.goto 9, 3) := by decide +kernel
theorem dL_plans_134 : decode cL_plans 134 = .ok (.iload 8, 2) := by decide +kernel
theorem dL_plans_136 : decode cL_plans 136 = .ok (.sipush 1000, 3) := by decide +kernel
theorem dL_plans_139 : decode cL_plans 139 = .ok (.irem, 1) := by decide +kernel
theorem dL_plans_140 : decode cL_plans 140 = .ok (.iadd, 1) := by decide +kernel
theorem dL_plans_141 : decode cL_plans 141 = .ok (.iload 9, 2) := by decide +kernel
theorem dL_plans_143 : decode cL_plans 143 = .ok (.isub, 1) := by decide +kernel
theorem dL_plans_144 : decode cL_plans 144 = .ok (.istore 10, 2) := by decide +kernel
theorem dL_plans_146 : decode cL_plans 146 = .ok (.aload_n 0, 1) := by decide +kernel
theorem dL_plans_147 : decode cL_plans 147 = .ok (.bipush 8, 2) := by decide +kernel
theorem dL_plans_149 : decode cL_plans 149 = .ok (.invokevirtual 15, 3) := by decide +kernel
theorem dL_plans_152 : decode cL_plans 152 = .ok (.istore 11, 2) := by decide +kernel
theorem dL_plans_154 : decode cL_plans 154 = .ok (.aload_n 0, 1) := by decide +kernel
theorem dL_plans_155 : decode cL_plans 155 = .ok (.iload_n 1, 1) := by decide +kernel
theorem dL_plans_156 : decode cL_plans 156 = .ok (.invokevirtual 66, 3) := by decide +kernel
theorem dL_plans_159 : decode cL_plans 159 = .ok (.istore 12, 2) := by decide +kernel
theorem dL_plans_161 : decode cL_plans 161 = .ok (.aload_n 0, 1) := by decide +kernel
theorem dL_plans_162 : decode cL_plans 162 = .ok (.iload_n 1, 1) := by decide +kernel
theorem dL_plans_163 : decode cL_plans 163 = .ok (.iconst 2, 1) := by decide +kernel
theorem dL_plans_164 : decode cL_plans 164 = .ok (.invokevirtual 22, 3) := by decide +kernel
theorem dL_plans_167 : decode cL_plans 167 = .ok (.ifCond .gt 8, 3) := by decide +kernel
theorem dL_plans_170 : decode cL_plans 170 = .ok (.iload 10, 2) := by decide +kernel
theorem dL_plans_172 : decode cL_plans 172 = .ok (.ifCond .ge 84, 3) := by decide +kernel
theorem dL_plans_175 : decode cL_plans 175 = .ok (.iload 12, 2) := by decide +kernel
theorem dL_plans_177 : decode cL_plans 177 = .ok (.sipush (-1003), 3) := by decide +kernel
theorem dL_plans_180 : decode cL_plans 180 = .ok (.if_icmp .ne 74, 3) := by decide +kernel
theorem dL_plans_183 : decode cL_plans 183 = .ok (.aload_n 0, 1) := by decide +kernel
theorem dL_plans_184 : decode cL_plans 184 = .ok (.iconst 0, 1) := by decide +kernel
theorem dL_plans_185 : decode cL_plans 185 = .ok (.invokevirtual 69, 3) := by decide +kernel
theorem dL_plans_188 : decode cL_plans 188 = .ok (.iconst 2, 1) := by decide +kernel
theorem dL_plans_189 : decode cL_plans 189 = .ok (.if_icmp .ne 65, 3) := by decide +kernel
theorem dL_plans_192 : decode cL_plans 192 = .ok (.aload_n 0, 1) := by decide +kernel
theorem dL_plans_193 : decode cL_plans 193 = .ok (.iconst 1, 1) := by decide +kernel
theorem dL_plans_194 : decode cL_plans 194 = .ok (.invokevirtual 69, 3) := by decide +kernel
theorem dL_plans_197 : decode cL_plans 197 = .ok (.iconst 3, 1) := by decide +kernel
theorem dL_plans_198 : decode cL_plans 198 = .ok (.if_icmp .ne 56, 3) := by decide +kernel
theorem dL_plans_201 : decode cL_plans 201 = .ok (.aload_n 0, 1) := by decide +kernel
theorem dL_plans_202 : decode cL_plans 202 = .ok (.iconst 2, 1) := by decide +kernel
theorem dL_plans_203 : decode cL_plans 203 = .ok (.invokevirtual 69, 3) := by decide +kernel
theorem dL_plans_206 : decode cL_plans 206 = .ok (.iconst 1, 1) := by decide +kernel
theorem dL_plans_207 : decode cL_plans 207 = .ok (.if_icmp .ne 47, 3) := by decide +kernel
theorem dL_plans_210 : decode cL_plans 210 = .ok (.aload_n 0, 1) := by decide +kernel
theorem dL_plans_211 : decode cL_plans 211 = .ok (.iconst 3, 1) := by decide +kernel
theorem dL_plans_212 : decode cL_plans 212 = .ok (.invokevirtual 69, 3) := by decide +kernel
theorem dL_plans_215 : decode cL_plans 215 = .ok (.ifCond .ne 39, 3) := by decide +kernel
theorem dL_plans_218 : decode cL_plans 218 = .ok (.aload_n 0, 1) := by decide +kernel
theorem dL_plans_219 : decode cL_plans 219 = .ok (.iconst 4, 1) := by decide +kernel
theorem dL_plans_220 : decode cL_plans 220 = .ok (.invokevirtual 69, 3) := by decide +kernel
theorem dL_plans_223 : decode cL_plans 223 = .ok (.bipush (-2), 2) := by decide +kernel
theorem dL_plans_225 : decode cL_plans 225 = .ok (.if_icmp .ne 29, 3) := by decide +kernel
theorem dL_plans_228 : decode cL_plans 228 = .ok (.aload_n 0, 1) := by decide +kernel
theorem dL_plans_229 : decode cL_plans 229 = .ok (.bipush 8, 2) := by decide +kernel
theorem dL_plans_231 : decode cL_plans 231 = .ok (.invokevirtual 15, 3) := by decide +kernel
theorem dL_plans_234 : decode cL_plans 234 = .ok (.iload 11, 2) := by decide +kernel
theorem dL_plans_236 : decode cL_plans 236 = .ok (.if_icmp .ne 18, 3) := by decide +kernel
theorem dL_plans_239 : decode cL_plans 239 = .ok (.aload_n 0, 1) := by decide +kernel
theorem dL_plans_240 : decode cL_plans 240 = .ok (.iload_n 1, 1) := by decide +kernel
theorem dL_plans_241 : decode cL_plans 241 = .ok (.iconst 1, 1) := by decide +kernel
theorem dL_plans_242 : decode cL_plans 242 = .ok (.invokevirtual 22, 3) := by decide +kernel
theorem dL_plans_245 : decode cL_plans 245 = .ok (.iload 7, 2) := by decide +kernel
theorem dL_plans_247 : decode cL_plans 247 = .ok (.if_icmp .ne 7, 3) := by decide +kernel
theorem dL_plans_250 : decode cL_plans 250 = .ok (.iconst 1, 1) := by decide +kernel
theorem dL_plans_251 : decode cL_plans 251 = .ok (.goto 4, 3) := by decide +kernel
theorem dL_plans_254 : decode cL_plans 254 = .ok (.iconst 0, 1) := by decide +kernel
theorem dL_plans_255 : decode cL_plans 255 = .ok (.ireturn, 1) := by decide +kernel
theorem dL_plans_256 : decode cL_plans 256 = .ok (.iload 12, 2) := by decide +kernel
theorem dL_plans_258 : decode cL_plans 258 = .ok (.iconst 1, 1) := by decide +kernel
theorem dL_plans_259 : decode cL_plans 259 = .ok (.if_icmp .ne 48, 3) := by decide +kernel
theorem dL_plans_262 : decode cL_plans 262 = .ok (.aload_n 0, 1) := by decide +kernel
theorem dL_plans_263 : decode cL_plans 263 = .ok (.iload_n 1, 1) := by decide +kernel
theorem dL_plans_264 : decode cL_plans 264 = .ok (.iconst 1, 1) := by decide +kernel
theorem dL_plans_265 : decode cL_plans 265 = .ok (.invokevirtual 22, 3) := by decide +kernel
theorem dL_plans_268 : decode cL_plans 268 = .ok (.iload 10, 2) := by decide +kernel
theorem dL_plans_270 : decode cL_plans 270 = .ok (.if_icmp .ne 37, 3) := by decide +kernel
theorem dL_plans_273 : decode cL_plans 273 = .ok (.aload_n 0, 1) := by decide +kernel
theorem dL_plans_274 : decode cL_plans 274 = .ok (.iload_n 1, 1) := by decide +kernel
theorem dL_plans_275 : decode cL_plans 275 = .ok (.iload_n 2, 1) := by decide +kernel
theorem dL_plans_276 : decode cL_plans 276 = .ok (.iload_n 3, 1) := by decide +kernel
theorem dL_plans_277 : decode cL_plans 277 = .ok (.invokevirtual 25, 3) := by decide +kernel
theorem dL_plans_280 : decode cL_plans 280 = .ok (.sipush 1000, 3) := by decide +kernel
theorem dL_plans_283 : decode cL_plans 283 = .ok (.iload 4, 2) := by decide +kernel
theorem dL_plans_285 : decode cL_plans 285 = .ok (.imul, 1) := by decide +kernel
theorem dL_plans_286 : decode cL_plans 286 = .ok (.iload 9, 2) := by decide +kernel
theorem dL_plans_288 : decode cL_plans 288 = .ok (.iadd, 1) := by decide +kernel
theorem dL_plans_289 : decode cL_plans 289 = .ok (.if_icmp .ne 18, 3) := by decide +kernel
theorem dL_plans_292 : decode cL_plans 292 = .ok (.aload_n 0, 1) := by decide +kernel
theorem dL_plans_293 : decode cL_plans 293 = .ok (.bipush 9, 2) := by decide +kernel
theorem dL_plans_295 : decode cL_plans 295 = .ok (.invokevirtual 15, 3) := by decide +kernel
theorem dL_plans_298 : decode cL_plans 298 = .ok (.iload 6, 2) := by decide +kernel
theorem dL_plans_300 : decode cL_plans 300 = .ok (.if_icmp .ne 7, 3) := by decide +kernel
theorem dL_plans_303 : decode cL_plans 303 = .ok (.iconst 1, 1) := by decide +kernel
theorem dL_plans_304 : decode cL_plans 304 = .ok (.goto 4, 3) := by decide +kernel
theorem dL_plans_307 : decode cL_plans 307 = .ok (.iconst 0, 1) := by decide +kernel
theorem dL_plans_308 : decode cL_plans 308 = .ok (.istore 13, 2) := by decide +kernel
theorem dL_plans_310 : decode cL_plans 310 = .ok (.iload 13, 2) := by decide +kernel
theorem dL_plans_312 : decode cL_plans 312 = .ok (.ifCond .eq 37, 3) := by decide +kernel
theorem dL_plans_315 : decode cL_plans 315 = .ok (.aload_n 0, 1) := by decide +kernel
theorem dL_plans_316 : decode cL_plans 316 = .ok (.invokevirtual 42, 3) := by decide +kernel
theorem dL_plans_319 : decode cL_plans 319 = .ok (.ifCond .lt 30, 3) := by decide +kernel
theorem dL_plans_322 : decode cL_plans 322 = .ok (.aload_n 0, 1) := by decide +kernel
theorem dL_plans_323 : decode cL_plans 323 = .ok (.iload_n 1, 1) := by decide +kernel
theorem dL_plans_324 : decode cL_plans 324 = .ok (.iconst 1, 1) := by decide +kernel
theorem dL_plans_325 : decode cL_plans 325 = .ok (.invokevirtual 22, 3) := by decide +kernel
theorem dL_plans_328 : decode cL_plans 328 = .ok (.iload 7, 2) := by decide +kernel
theorem dL_plans_330 : decode cL_plans 330 = .ok (.if_icmp .ne 19, 3) := by decide +kernel
theorem dL_plans_333 : decode cL_plans 333 = .ok (.aload_n 0, 1) := by decide +kernel
theorem dL_plans_334 : decode cL_plans 334 = .ok (.iload_n 1, 1) := by decide +kernel
theorem dL_plans_335 : decode cL_plans 335 = .ok (.iload_n 2, 1) := by decide +kernel
theorem dL_plans_336 : decode cL_plans 336 = .ok (.iload_n 3, 1) := by decide +kernel
theorem dL_plans_337 : decode cL_plans 337 = .ok (.invokevirtual 25, 3) := by decide +kernel
theorem dL_plans_340 : decode cL_plans 340 = .ok (.iload 8, 2) := by decide +kernel
theorem dL_plans_342 : decode cL_plans 342 = .ok (.if_icmp .ne 7, 3) := by decide +kernel
theorem dL_plans_345 : decode cL_plans 345 = .ok (.iconst 1, 1) := by decide +kernel
theorem dL_plans_346 : decode cL_plans 346 = .ok (.goto 4, 3) := by decide +kernel
theorem dL_plans_349 : decode cL_plans 349 = .ok (.iconst 0, 1) := by decide +kernel
theorem dL_plans_350 : decode cL_plans 350 = .ok (.istore 13, 2) := by decide +kernel
theorem dL_plans_352 : decode cL_plans 352 = .ok (.iload 13, 2) := by decide +kernel
theorem dL_plans_354 : decode cL_plans 354 = .ok (.ifCond .eq 72, 3) := by decide +kernel
theorem dL_plans_357 : decode cL_plans 357 = .ok (.aload_n 0, 1) := by decide +kernel
theorem dL_plans_358 : decode cL_plans 358 = .ok (.bipush 41, 2) := by decide +kernel
theorem dL_plans_360 : decode cL_plans 360 = .ok (.invokevirtual 63, 3) := by decide +kernel
theorem dL_plans_363 : decode cL_plans 363 = .ok (.iload 6, 2) := by decide +kernel
theorem dL_plans_365 : decode cL_plans 365 = .ok (.iconst 1, 1) := by decide +kernel
theorem dL_plans_366 : decode cL_plans 366 = .ok (.iadd, 1) := by decide +kernel
theorem dL_plans_367 : decode cL_plans 367 = .ok (.if_icmp .ne 59, 3) := by decide +kernel
theorem dL_plans_370 : decode cL_plans 370 = .ok (.aload_n 0, 1) := by decide +kernel
theorem dL_plans_371 : decode cL_plans 371 = .ok (.iload_n 1, 1) := by decide +kernel
theorem dL_plans_372 : decode cL_plans 372 = .ok (.invokevirtual 66, 3) := by decide +kernel
theorem dL_plans_375 : decode cL_plans 375 = .ok (.sipush (-1000), 3) := by decide +kernel
theorem dL_plans_378 : decode cL_plans 378 = .ok (.iload 6, 2) := by decide +kernel
theorem dL_plans_380 : decode cL_plans 380 = .ok (.isub, 1) := by decide +kernel
theorem dL_plans_381 : decode cL_plans 381 = .ok (.if_icmp .ne 45, 3) := by decide +kernel
theorem dL_plans_384 : decode cL_plans 384 = .ok (.aload_n 0, 1) := by decide +kernel
theorem dL_plans_385 : decode cL_plans 385 = .ok (.iconst 0, 1) := by decide +kernel
theorem dL_plans_386 : decode cL_plans 386 = .ok (.invokevirtual 69, 3) := by decide +kernel
theorem dL_plans_389 : decode cL_plans 389 = .ok (.iconst 1, 1) := by decide +kernel
theorem dL_plans_390 : decode cL_plans 390 = .ok (.if_icmp .ne 36, 3) := by decide +kernel
theorem dL_plans_393 : decode cL_plans 393 = .ok (.aload_n 0, 1) := by decide +kernel
theorem dL_plans_394 : decode cL_plans 394 = .ok (.iconst 2, 1) := by decide +kernel
theorem dL_plans_395 : decode cL_plans 395 = .ok (.invokevirtual 69, 3) := by decide +kernel
theorem dL_plans_398 : decode cL_plans 398 = .ok (.ifCond .ne 28, 3) := by decide +kernel
theorem dL_plans_401 : decode cL_plans 401 = .ok (.aload_n 0, 1) := by decide +kernel
theorem dL_plans_402 : decode cL_plans 402 = .ok (.iconst 4, 1) := by decide +kernel
theorem dL_plans_403 : decode cL_plans 403 = .ok (.invokevirtual 69, 3) := by decide +kernel
theorem dL_plans_406 : decode cL_plans 406 = .ok (.bipush (-9), 2) := by decide +kernel
theorem dL_plans_408 : decode cL_plans 408 = .ok (.if_icmp .ne 18, 3) := by decide +kernel
theorem dL_plans_411 : decode cL_plans 411 = .ok (.aload_n 0, 1) := by decide +kernel
theorem dL_plans_412 : decode cL_plans 412 = .ok (.invokevirtual 60, 3) := by decide +kernel
theorem dL_plans_415 : decode cL_plans 415 = .ok (.iload 6, 2) := by decide +kernel
theorem dL_plans_417 : decode cL_plans 417 = .ok (.iconst 1, 1) := by decide +kernel
theorem dL_plans_418 : decode cL_plans 418 = .ok (.iadd, 1) := by decide +kernel
theorem dL_plans_419 : decode cL_plans 419 = .ok (.if_icmp .ne 7, 3) := by decide +kernel
theorem dL_plans_422 : decode cL_plans 422 = .ok (.iconst 1, 1) := by decide +kernel
theorem dL_plans_423 : decode cL_plans 423 = .ok (.goto 4, 3) := by decide +kernel
theorem dL_plans_426 : decode cL_plans 426 = .ok (.iconst 0, 1) := by decide +kernel
theorem dL_plans_427 : decode cL_plans 427 = .ok (.ireturn, 1) := by decide +kernel
theorem dL_refuses_0 : decode cL_refuses 0 = .ok (.aload_n 0, 1) := by decide +kernel
theorem dL_refuses_1 : decode cL_refuses 1 = .ok (.bipush 8, 2) := by decide +kernel
theorem dL_refuses_3 : decode cL_refuses 3 = .ok (.invokevirtual 15, 3) := by decide +kernel
theorem dL_refuses_6 : decode cL_refuses 6 = .ok (.istore_n 1, 1) := by decide +kernel
theorem dL_refuses_7 : decode cL_refuses 7 = .ok (.aload_n 0, 1) := by decide +kernel
theorem dL_refuses_8 : decode cL_refuses 8 = .ok (.iconst 5, 1) := by decide +kernel
theorem dL_refuses_9 : decode cL_refuses 9 = .ok (.invokevirtual 15, 3) := by decide +kernel
theorem dL_refuses_12 : decode cL_refuses 12 = .ok (.istore_n 2, 1) := by decide +kernel
theorem dL_refuses_13 : decode cL_refuses 13 = .ok (.aload_n 0, 1) := by decide +kernel
theorem dL_refuses_14 : decode cL_refuses 14 = .ok (.iconst 1, 1) := by decide +kernel
theorem dL_refuses_15 : decode cL_refuses 15 = .ok (.invokevirtual 15, 3) := by decide +kernel
theorem dL_refuses_18 : decode cL_refuses 18 = .ok (.istore_n 3, 1) := by decide +kernel
theorem dL_refuses_19 : decode cL_refuses 19 = .ok (.aload_n 0, 1) := by decide +kernel
theorem dL_refuses_20 : decode cL_refuses 20 = .ok (.iconst (-1), 1) := by decide +kernel
theorem dL_refuses_21 : decode cL_refuses 21 = .ok (.invokevirtual 39, 3) := by decide +kernel
theorem dL_refuses_24 : decode cL_refuses 24 = .ok (.iconst (-1), 1) := by decide +kernel
theorem dL_refuses_25 : decode cL_refuses 25 = .ok (.if_icmp .ne 130, 3) := by decide +kernel
theorem dL_refuses_28 : decode cL_refuses 28 = .ok (.aload_n 0, 1) := by decide +kernel
theorem dL_refuses_29 : decode cL_refuses 29 = .ok (.ldc 50, 2) := by decide +kernel
theorem dL_refuses_31 : decode cL_refuses 31 = .ok (.invokevirtual 39, 3) := by decide +kernel
theorem dL_refuses_34 : decode cL_refuses 34 = .ok (.iconst (-1), 1) := by decide +kernel
theorem dL_refuses_35 : decode cL_refuses 35 = .ok (.if_icmp .ne 120, 3) := by decide +kernel
theorem dL_refuses_38 : decode cL_refuses 38 = .ok (.aload_n 0, 1) := by decide +kernel
theorem dL_refuses_39 : decode cL_refuses 39 = .ok (.iload_n 3, 1) := by decide +kernel
theorem dL_refuses_40 : decode cL_refuses 40 = .ok (.iconst 1, 1) := by decide +kernel
theorem dL_refuses_41 : decode cL_refuses 41 = .ok (.invokevirtual 72, 3) := by decide +kernel
theorem dL_refuses_44 : decode cL_refuses 44 = .ok (.iconst (-1), 1) := by decide +kernel
theorem dL_refuses_45 : decode cL_refuses 45 = .ok (.if_icmp .ne 110, 3) := by decide +kernel
theorem dL_refuses_48 : decode cL_refuses 48 = .ok (.aload_n 0, 1) := by decide +kernel
theorem dL_refuses_49 : decode cL_refuses 49 = .ok (.iconst 0, 1) := by decide +kernel
theorem dL_refuses_50 : decode cL_refuses 50 = .ok (.ldc 50, 2) := by decide +kernel
theorem dL_refuses_52 : decode cL_refuses 52 = .ok (.invokevirtual 72, 3) := by decide +kernel
theorem dL_refuses_55 : decode cL_refuses 55 = .ok (.iconst (-1), 1) := by decide +kernel
theorem dL_refuses_56 : decode cL_refuses 56 = .ok (.if_icmp .ne 99, 3) := by decide +kernel
theorem dL_refuses_59 : decode cL_refuses 59 = .ok (.aload_n 0, 1) := by decide +kernel
theorem dL_refuses_60 : decode cL_refuses 60 = .ok (.iconst 0, 1) := by decide +kernel
theorem dL_refuses_61 : decode cL_refuses 61 = .ok (.ldc 75, 2) := by decide +kernel
theorem dL_refuses_63 : decode cL_refuses 63 = .ok (.invokevirtual 72, 3) := by decide +kernel
theorem dL_refuses_66 : decode cL_refuses 66 = .ok (.iconst (-1), 1) := by decide +kernel
theorem dL_refuses_67 : decode cL_refuses 67 = .ok (.if_icmp .ne 88, 3) := by decide +kernel
theorem dL_refuses_70 : decode cL_refuses 70 = .ok (.aload_n 0, 1) := by decide +kernel
theorem dL_refuses_71 : decode cL_refuses 71 = .ok (.iload_n 3, 1) := by decide +kernel
theorem dL_refuses_72 : decode cL_refuses 72 = .ok (.iconst 0, 1) := by decide +kernel
theorem dL_refuses_73 : decode cL_refuses 73 = .ok (.iconst 0, 1) := by decide +kernel
theorem dL_refuses_74 : decode cL_refuses 74 = .ok (.iconst 0, 1) := by decide +kernel
theorem dL_refuses_75 : decode cL_refuses 75 = .ok (.iconst 1, 1) := by decide +kernel
theorem dL_refuses_76 : decode cL_refuses 76 = .ok (.invokevirtual 46, 3) := by decide +kernel
theorem dL_refuses_79 : decode cL_refuses 79 = .ok (.iconst (-1), 1) := by decide +kernel
theorem dL_refuses_80 : decode cL_refuses 80 = .ok (.if_icmp .ne 75, 3) := by decide +kernel
theorem dL_refuses_83 : decode cL_refuses 83 = .ok (.aload_n 0, 1) := by decide +kernel
theorem dL_refuses_84 : decode cL_refuses 84 = .ok (.iconst 0, 1) := by decide +kernel
theorem dL_refuses_85 : decode cL_refuses 85 = .ok (.iconst 4, 1) := by decide +kernel
theorem dL_refuses_86 : decode cL_refuses 86 = .ok (.iconst 0, 1) := by decide +kernel
theorem dL_refuses_87 : decode cL_refuses 87 = .ok (.iconst 0, 1) := by decide +kernel
theorem dL_refuses_88 : decode cL_refuses 88 = .ok (.iconst 1, 1) := by decide +kernel
theorem dL_refuses_89 : decode cL_refuses 89 = .ok (.invokevirtual 46, 3) := by decide +kernel
theorem dL_refuses_92 : decode cL_refuses 92 = .ok (.iconst (-1), 1) := by decide +kernel
theorem dL_refuses_93 : decode cL_refuses 93 = .ok (.if_icmp .ne 62, 3) := by decide +kernel
theorem dL_refuses_96 : decode cL_refuses 96 = .ok (.aload_n 0, 1) := by decide +kernel
theorem dL_refuses_97 : decode cL_refuses 97 = .ok (.iconst 0, 1) := by decide +kernel
theorem dL_refuses_98 : decode cL_refuses 98 = .ok (.iconst 0, 1) := by decide +kernel
theorem dL_refuses_99 : decode cL_refuses 99 = .ok (.bipush 24, 2) := by decide +kernel
theorem dL_refuses_101 : decode cL_refuses 101 = .ok (.iconst 0, 1) := by decide +kernel
theorem dL_refuses_102 : decode cL_refuses 102 = .ok (.iconst 1, 1) := by decide +kernel
theorem dL_refuses_103 : decode cL_refuses 103 = .ok (.invokevirtual 46, 3) := by decide +kernel
theorem dL_refuses_106 : decode cL_refuses 106 = .ok (.iconst (-1), 1) := by decide +kernel
theorem dL_refuses_107 : decode cL_refuses 107 = .ok (.if_icmp .ne 48, 3) := by decide +kernel
theorem dL_refuses_110 : decode cL_refuses 110 = .ok (.aload_n 0, 1) := by decide +kernel
theorem dL_refuses_111 : decode cL_refuses 111 = .ok (.iconst 0, 1) := by decide +kernel
theorem dL_refuses_112 : decode cL_refuses 112 = .ok (.iconst 0, 1) := by decide +kernel
theorem dL_refuses_113 : decode cL_refuses 113 = .ok (.iconst 0, 1) := by decide +kernel
theorem dL_refuses_114 : decode cL_refuses 114 = .ok (.iconst 2, 1) := by decide +kernel
theorem dL_refuses_115 : decode cL_refuses 115 = .ok (.iconst 1, 1) := by decide +kernel
theorem dL_refuses_116 : decode cL_refuses 116 = .ok (.invokevirtual 46, 3) := by decide +kernel
theorem dL_refuses_119 : decode cL_refuses 119 = .ok (.iconst (-1), 1) := by decide +kernel
theorem dL_refuses_120 : decode cL_refuses 120 = .ok (.if_icmp .ne 35, 3) := by decide +kernel
theorem dL_refuses_123 : decode cL_refuses 123 = .ok (.aload_n 0, 1) := by decide +kernel
theorem dL_refuses_124 : decode cL_refuses 124 = .ok (.iconst 0, 1) := by decide +kernel
theorem dL_refuses_125 : decode cL_refuses 125 = .ok (.iconst 0, 1) := by decide +kernel
theorem dL_refuses_126 : decode cL_refuses 126 = .ok (.iconst 0, 1) := by decide +kernel
theorem dL_refuses_127 : decode cL_refuses 127 = .ok (.iconst 0, 1) := by decide +kernel
theorem dL_refuses_128 : decode cL_refuses 128 = .ok (.sipush 1000, 3) := by decide +kernel
theorem dL_refuses_131 : decode cL_refuses 131 = .ok (.invokevirtual 46, 3) := by decide +kernel
theorem dL_refuses_134 : decode cL_refuses 134 = .ok (.iconst (-1), 1) := by decide +kernel
theorem dL_refuses_135 : decode cL_refuses 135 = .ok (.if_icmp .ne 20, 3) := by decide +kernel
theorem dL_refuses_138 : decode cL_refuses 138 = .ok (.aload_n 0, 1) := by decide +kernel
theorem dL_refuses_139 : decode cL_refuses 139 = .ok (.iconst 0, 1) := by decide +kernel
theorem dL_refuses_140 : decode cL_refuses 140 = .ok (.iconst 0, 1) := by decide +kernel
theorem dL_refuses_141 : decode cL_refuses 141 = .ok (.iconst 0, 1) := by decide +kernel
theorem dL_refuses_142 : decode cL_refuses 142 = .ok (.iconst 0, 1) := by decide +kernel
theorem dL_refuses_143 : decode cL_refuses 143 = .ok (.iconst (-1), 1) := by decide +kernel
theorem dL_refuses_144 : decode cL_refuses 144 = .ok (.invokevirtual 46, 3) := by decide +kernel
theorem dL_refuses_147 : decode cL_refuses 147 = .ok (.iconst (-1), 1) := by decide +kernel
theorem dL_refuses_148 : decode cL_refuses 148 = .ok (.if_icmp .ne 7, 3) := by decide +kernel
theorem dL_refuses_151 : decode cL_refuses 151 = .ok (.iconst 1, 1) := by decide +kernel
theorem dL_refuses_152 : decode cL_refuses 152 = .ok (.goto 4, 3) := by decide +kernel
theorem dL_refuses_155 : decode cL_refuses 155 = .ok (.iconst 0, 1) := by decide +kernel
theorem dL_refuses_156 : decode cL_refuses 156 = .ok (.istore 4, 2) := by decide +kernel
theorem dL_refuses_158 : decode cL_refuses 158 = .ok (.iload 4, 2) := by decide +kernel
theorem dL_refuses_160 : decode cL_refuses 160 = .ok (.ifCond .eq 141, 3) := by decide +kernel
theorem dL_refuses_163 : decode cL_refuses 163 = .ok (.aload_n 0, 1) := by decide +kernel
theorem dL_refuses_164 : decode cL_refuses 164 = .ok (.iconst (-1), 1) := by decide +kernel
theorem dL_refuses_165 : decode cL_refuses 165 = .ok (.invokevirtual 76, 3) := by decide +kernel
theorem dL_refuses_168 : decode cL_refuses 168 = .ok (.iconst (-1), 1) := by decide +kernel
theorem dL_refuses_169 : decode cL_refuses 169 = .ok (.if_icmp .ne 132, 3) := by decide +kernel
theorem dL_refuses_172 : decode cL_refuses 172 = .ok (.aload_n 0, 1) := by decide +kernel
theorem dL_refuses_173 : decode cL_refuses 173 = .ok (.sipush 1001, 3) := by decide +kernel
theorem dL_refuses_176 : decode cL_refuses 176 = .ok (.invokevirtual 76, 3) := by decide +kernel
theorem dL_refuses_179 : decode cL_refuses 179 = .ok (.iconst (-1), 1) := by decide +kernel
theorem dL_refuses_180 : decode cL_refuses 180 = .ok (.if_icmp .ne 121, 3) := by decide +kernel
theorem dL_refuses_183 : decode cL_refuses 183 = .ok (.aload_n 0, 1) := by decide +kernel
theorem dL_refuses_184 : decode cL_refuses 184 = .ok (.iload_n 3, 1) := by decide +kernel
theorem dL_refuses_185 : decode cL_refuses 185 = .ok (.iconst 0, 1) := by decide +kernel
theorem dL_refuses_186 : decode cL_refuses 186 = .ok (.iconst 0, 1) := by decide +kernel
theorem dL_refuses_187 : decode cL_refuses 187 = .ok (.invokevirtual 57, 3) := by decide +kernel
theorem dL_refuses_190 : decode cL_refuses 190 = .ok (.iconst (-1), 1) := by decide +kernel
theorem dL_refuses_191 : decode cL_refuses 191 = .ok (.if_icmp .ne 110, 3) := by decide +kernel
theorem dL_refuses_194 : decode cL_refuses 194 = .ok (.aload_n 0, 1) := by decide +kernel
theorem dL_refuses_195 : decode cL_refuses 195 = .ok (.iconst 0, 1) := by decide +kernel
theorem dL_refuses_196 : decode cL_refuses 196 = .ok (.iconst 0, 1) := by decide +kernel
theorem dL_refuses_197 : decode cL_refuses 197 = .ok (.bipush 24, 2) := by decide +kernel
theorem dL_refuses_199 : decode cL_refuses 199 = .ok (.invokevirtual 57, 3) := by decide +kernel
theorem dL_refuses_202 : decode cL_refuses 202 = .ok (.iconst (-1), 1) := by decide +kernel
theorem dL_refuses_203 : decode cL_refuses 203 = .ok (.if_icmp .ne 98, 3) := by decide +kernel
theorem dL_refuses_206 : decode cL_refuses 206 = .ok (.aload_n 0, 1) := by decide +kernel
theorem dL_refuses_207 : decode cL_refuses 207 = .ok (.iconst 0, 1) := by decide +kernel
theorem dL_refuses_208 : decode cL_refuses 208 = .ok (.invokevirtual 63, 3) := by decide +kernel
theorem dL_refuses_211 : decode cL_refuses 211 = .ok (.iconst (-1), 1) := by decide +kernel
theorem dL_refuses_212 : decode cL_refuses 212 = .ok (.if_icmp .ne 89, 3) := by decide +kernel
theorem dL_refuses_215 : decode cL_refuses 215 = .ok (.aload_n 0, 1) := by decide +kernel
theorem dL_refuses_216 : decode cL_refuses 216 = .ok (.sipush 256, 3) := by decide +kernel
theorem dL_refuses_219 : decode cL_refuses 219 = .ok (.invokevirtual 63, 3) := by decide +kernel
theorem dL_refuses_222 : decode cL_refuses 222 = .ok (.iconst (-1), 1) := by decide +kernel
theorem dL_refuses_223 : decode cL_refuses 223 = .ok (.if_icmp .ne 78, 3) := by decide +kernel
theorem dL_refuses_226 : decode cL_refuses 226 = .ok (.aload_n 0, 1) := by decide +kernel
theorem dL_refuses_227 : decode cL_refuses 227 = .ok (.iload_n 3, 1) := by decide +kernel
theorem dL_refuses_228 : decode cL_refuses 228 = .ok (.invokevirtual 66, 3) := by decide +kernel
theorem dL_refuses_231 : decode cL_refuses 231 = .ok (.iconst (-1), 1) := by decide +kernel
theorem dL_refuses_232 : decode cL_refuses 232 = .ok (.if_icmp .ne 69, 3) := by decide +kernel
theorem dL_refuses_235 : decode cL_refuses 235 = .ok (.aload_n 0, 1) := by decide +kernel
theorem dL_refuses_236 : decode cL_refuses 236 = .ok (.iconst 5, 1) := by decide +kernel
theorem dL_refuses_237 : decode cL_refuses 237 = .ok (.invokevirtual 69, 3) := by decide +kernel
theorem dL_refuses_240 : decode cL_refuses 240 = .ok (.iconst (-1), 1) := by decide +kernel
theorem dL_refuses_241 : decode cL_refuses 241 = .ok (.if_icmp .ne 60, 3) := by decide +kernel
theorem dL_refuses_244 : decode cL_refuses 244 = .ok (.aload_n 0, 1) := by decide +kernel
theorem dL_refuses_245 : decode cL_refuses 245 = .ok (.bipush 10, 2) := by decide +kernel
theorem dL_refuses_247 : decode cL_refuses 247 = .ok (.invokevirtual 15, 3) := by decide +kernel
theorem dL_refuses_250 : decode cL_refuses 250 = .ok (.iconst (-1), 1) := by decide +kernel
theorem dL_refuses_251 : decode cL_refuses 251 = .ok (.if_icmp .ne 50, 3) := by decide +kernel
theorem dL_refuses_254 : decode cL_refuses 254 = .ok (.aload_n 0, 1) := by decide +kernel
theorem dL_refuses_255 : decode cL_refuses 255 = .ok (.iconst 0, 1) := by decide +kernel
theorem dL_refuses_256 : decode cL_refuses 256 = .ok (.bipush 8, 2) := by decide +kernel
theorem dL_refuses_258 : decode cL_refuses 258 = .ok (.invokevirtual 22, 3) := by decide +kernel
theorem dL_refuses_261 : decode cL_refuses 261 = .ok (.iconst (-1), 1) := by decide +kernel
theorem dL_refuses_262 : decode cL_refuses 262 = .ok (.if_icmp .ne 39, 3) := by decide +kernel
theorem dL_refuses_265 : decode cL_refuses 265 = .ok (.aload_n 0, 1) := by decide +kernel
theorem dL_refuses_266 : decode cL_refuses 266 = .ok (.iconst 0, 1) := by decide +kernel
theorem dL_refuses_267 : decode cL_refuses 267 = .ok (.iconst 0, 1) := by decide +kernel
theorem dL_refuses_268 : decode cL_refuses 268 = .ok (.bipush 6, 2) := by decide +kernel
theorem dL_refuses_270 : decode cL_refuses 270 = .ok (.invokevirtual 32, 3) := by decide +kernel
theorem dL_refuses_273 : decode cL_refuses 273 = .ok (.iconst (-1), 1) := by decide +kernel
theorem dL_refuses_274 : decode cL_refuses 274 = .ok (.if_icmp .ne 27, 3) := by decide +kernel
theorem dL_refuses_277 : decode cL_refuses 277 = .ok (.aload_n 0, 1) := by decide +kernel
theorem dL_refuses_278 : decode cL_refuses 278 = .ok (.iconst 0, 1) := by decide +kernel
theorem dL_refuses_279 : decode cL_refuses 279 = .ok (.iconst 0, 1) := by decide +kernel
theorem dL_refuses_280 : decode cL_refuses 280 = .ok (.iconst (-1), 1) := by decide +kernel
theorem dL_refuses_281 : decode cL_refuses 281 = .ok (.invokevirtual 25, 3) := by decide +kernel
theorem dL_refuses_284 : decode cL_refuses 284 = .ok (.iconst (-1), 1) := by decide +kernel
theorem dL_refuses_285 : decode cL_refuses 285 = .ok (.if_icmp .ne 16, 3) := by decide +kernel
theorem dL_refuses_288 : decode cL_refuses 288 = .ok (.aload_n 0, 1) := by decide +kernel
theorem dL_refuses_289 : decode cL_refuses 289 = .ok (.iconst 4, 1) := by decide +kernel
theorem dL_refuses_290 : decode cL_refuses 290 = .ok (.invokevirtual 9, 3) := by decide +kernel
theorem dL_refuses_293 : decode cL_refuses 293 = .ok (.iconst (-1), 1) := by decide +kernel
theorem dL_refuses_294 : decode cL_refuses 294 = .ok (.if_icmp .ne 7, 3) := by decide +kernel
theorem dL_refuses_297 : decode cL_refuses 297 = .ok (.iconst 1, 1) := by decide +kernel
theorem dL_refuses_298 : decode cL_refuses 298 = .ok (.goto 4, 3) := by decide +kernel
theorem dL_refuses_301 : decode cL_refuses 301 = .ok (.iconst 0, 1) := by decide +kernel
theorem dL_refuses_302 : decode cL_refuses 302 = .ok (.istore 4, 2) := by decide +kernel
theorem dL_refuses_304 : decode cL_refuses 304 = .ok (.iload 4, 2) := by decide +kernel
theorem dL_refuses_306 : decode cL_refuses 306 = .ok (.ifCond .eq 47, 3) := by decide +kernel
theorem dL_refuses_309 : decode cL_refuses 309 = .ok (.aload_n 0, 1) := by decide +kernel
theorem dL_refuses_310 : decode cL_refuses 310 = .ok (.iconst 4, 1) := by decide +kernel
theorem dL_refuses_311 : decode cL_refuses 311 = .ok (.iconst 0, 1) := by decide +kernel
theorem dL_refuses_312 : decode cL_refuses 312 = .ok (.invokevirtual 29, 3) := by decide +kernel
theorem dL_refuses_315 : decode cL_refuses 315 = .ok (.iconst (-1), 1) := by decide +kernel
theorem dL_refuses_316 : decode cL_refuses 316 = .ok (.if_icmp .ne 37, 3) := by decide +kernel
theorem dL_refuses_319 : decode cL_refuses 319 = .ok (.aload_n 0, 1) := by decide +kernel
theorem dL_refuses_320 : decode cL_refuses 320 = .ok (.iconst 0, 1) := by decide +kernel
theorem dL_refuses_321 : decode cL_refuses 321 = .ok (.iconst 0, 1) := by decide +kernel
theorem dL_refuses_322 : decode cL_refuses 322 = .ok (.iconst 2, 1) := by decide +kernel
theorem dL_refuses_323 : decode cL_refuses 323 = .ok (.invokevirtual 35, 3) := by decide +kernel
theorem dL_refuses_326 : decode cL_refuses 326 = .ok (.iconst (-1), 1) := by decide +kernel
theorem dL_refuses_327 : decode cL_refuses 327 = .ok (.if_icmp .ne 26, 3) := by decide +kernel
theorem dL_refuses_330 : decode cL_refuses 330 = .ok (.aload_n 0, 1) := by decide +kernel
theorem dL_refuses_331 : decode cL_refuses 331 = .ok (.iconst 0, 1) := by decide +kernel
theorem dL_refuses_332 : decode cL_refuses 332 = .ok (.iconst 3, 1) := by decide +kernel
theorem dL_refuses_333 : decode cL_refuses 333 = .ok (.invokevirtual 18, 3) := by decide +kernel
theorem dL_refuses_336 : decode cL_refuses 336 = .ok (.iconst (-1), 1) := by decide +kernel
theorem dL_refuses_337 : decode cL_refuses 337 = .ok (.if_icmp .ne 16, 3) := by decide +kernel
theorem dL_refuses_340 : decode cL_refuses 340 = .ok (.aload_n 0, 1) := by decide +kernel
theorem dL_refuses_341 : decode cL_refuses 341 = .ok (.iload_n 3, 1) := by decide +kernel
theorem dL_refuses_342 : decode cL_refuses 342 = .ok (.invokevirtual 51, 3) := by decide +kernel
theorem dL_refuses_345 : decode cL_refuses 345 = .ok (.iconst (-1), 1) := by decide +kernel
theorem dL_refuses_346 : decode cL_refuses 346 = .ok (.if_icmp .ne 7, 3) := by decide +kernel
theorem dL_refuses_349 : decode cL_refuses 349 = .ok (.iconst 1, 1) := by decide +kernel
theorem dL_refuses_350 : decode cL_refuses 350 = .ok (.goto 4, 3) := by decide +kernel
theorem dL_refuses_353 : decode cL_refuses 353 = .ok (.iconst 0, 1) := by decide +kernel
theorem dL_refuses_354 : decode cL_refuses 354 = .ok (.istore 4, 2) := by decide +kernel
theorem dL_refuses_356 : decode cL_refuses 356 = .ok (.iload 4, 2) := by decide +kernel
theorem dL_refuses_358 : decode cL_refuses 358 = .ok (.ifCond .eq 35, 3) := by decide +kernel
theorem dL_refuses_361 : decode cL_refuses 361 = .ok (.aload_n 0, 1) := by decide +kernel
theorem dL_refuses_362 : decode cL_refuses 362 = .ok (.bipush 8, 2) := by decide +kernel
theorem dL_refuses_364 : decode cL_refuses 364 = .ok (.invokevirtual 15, 3) := by decide +kernel
theorem dL_refuses_367 : decode cL_refuses 367 = .ok (.iload_n 1, 1) := by decide +kernel
theorem dL_refuses_368 : decode cL_refuses 368 = .ok (.if_icmp .ne 25, 3) := by decide +kernel
theorem dL_refuses_371 : decode cL_refuses 371 = .ok (.aload_n 0, 1) := by decide +kernel
theorem dL_refuses_372 : decode cL_refuses 372 = .ok (.iconst 5, 1) := by decide +kernel
theorem dL_refuses_373 : decode cL_refuses 373 = .ok (.invokevirtual 15, 3) := by decide +kernel
theorem dL_refuses_376 : decode cL_refuses 376 = .ok (.iload_n 2, 1) := by decide +kernel
theorem dL_refuses_377 : decode cL_refuses 377 = .ok (.if_icmp .ne 16, 3) := by decide +kernel
theorem dL_refuses_380 : decode cL_refuses 380 = .ok (.aload_n 0, 1) := by decide +kernel
theorem dL_refuses_381 : decode cL_refuses 381 = .ok (.iconst 1, 1) := by decide +kernel
theorem dL_refuses_382 : decode cL_refuses 382 = .ok (.invokevirtual 15, 3) := by decide +kernel
theorem dL_refuses_385 : decode cL_refuses 385 = .ok (.iload_n 3, 1) := by decide +kernel
theorem dL_refuses_386 : decode cL_refuses 386 = .ok (.if_icmp .ne 7, 3) := by decide +kernel
theorem dL_refuses_389 : decode cL_refuses 389 = .ok (.iconst 1, 1) := by decide +kernel
theorem dL_refuses_390 : decode cL_refuses 390 = .ok (.goto 4, 3) := by decide +kernel
theorem dL_refuses_393 : decode cL_refuses 393 = .ok (.iconst 0, 1) := by decide +kernel
theorem dL_refuses_394 : decode cL_refuses 394 = .ok (.ireturn, 1) := by decide +kernel
theorem dL_acts_0 : decode cL_acts 0 = .ok (.iload_n 1, 1) := by decide +kernel
theorem dL_acts_1 : decode cL_acts 1 = .ok (.iconst 3, 1) := by decide +kernel
theorem dL_acts_2 : decode cL_acts 2 = .ok (.ishr, 1) := by decide +kernel
theorem dL_acts_3 : decode cL_acts 3 = .ok (.istore_n 2, 1) := by decide +kernel
theorem dL_acts_4 : decode cL_acts 4 = .ok (.iload_n 2, 1) := by decide +kernel
theorem dL_acts_5 : decode cL_acts 5 = .ok (.aload_n 0, 1) := by decide +kernel
theorem dL_acts_6 : decode cL_acts 6 = .ok (.iconst 1, 1) := by decide +kernel
theorem dL_acts_7 : decode cL_acts 7 = .ok (.invokevirtual 15, 3) := by decide +kernel
theorem dL_acts_10 : decode cL_acts 10 = .ok (.irem, 1) := by decide +kernel
theorem dL_acts_11 : decode cL_acts 11 = .ok (.istore_n 3, 1) := by decide +kernel
theorem dL_acts_12 : decode cL_acts 12 = .ok (.iload_n 2, 1) := by decide +kernel
theorem dL_acts_13 : decode cL_acts 13 = .ok (.bipush 16, 2) := by decide +kernel
theorem dL_acts_15 : decode cL_acts 15 = .ok (.idiv, 1) := by decide +kernel
theorem dL_acts_16 : decode cL_acts 16 = .ok (.iconst 3, 1) := by decide +kernel
theorem dL_acts_17 : decode cL_acts 17 = .ok (.iand, 1) := by decide +kernel
theorem dL_acts_18 : decode cL_acts 18 = .ok (.istore 4, 2) := by decide +kernel
theorem dL_acts_20 : decode cL_acts 20 = .ok (.iload_n 2, 1) := by decide +kernel
theorem dL_acts_21 : decode cL_acts 21 = .ok (.bipush 64, 2) := by decide +kernel
theorem dL_acts_23 : decode cL_acts 23 = .ok (.idiv, 1) := by decide +kernel
theorem dL_acts_24 : decode cL_acts 24 = .ok (.bipush 24, 2) := by decide +kernel
theorem dL_acts_26 : decode cL_acts 26 = .ok (.irem, 1) := by decide +kernel
theorem dL_acts_27 : decode cL_acts 27 = .ok (.istore 5, 2) := by decide +kernel
theorem dL_acts_29 : decode cL_acts 29 = .ok (.iload_n 1, 1) := by decide +kernel
theorem dL_acts_30 : decode cL_acts 30 = .ok (.bipush 7, 2) := by decide +kernel
theorem dL_acts_32 : decode cL_acts 32 = .ok (.iand, 1) := by decide +kernel
theorem dL_acts_33 : decode cL_acts 33 = .ok (.tableswitch 162 0 6 #[43, 63, 88, 105, 115, 123, 132], 43) := by decide +kernel
theorem dL_acts_76 : decode cL_acts 76 = .ok (.aload_n 0, 1) := by decide +kernel
theorem dL_acts_77 : decode cL_acts 77 = .ok (.iload_n 2, 1) := by decide +kernel
theorem dL_acts_78 : decode cL_acts 78 = .ok (.sipush 1000, 3) := by decide +kernel
theorem dL_acts_81 : decode cL_acts 81 = .ok (.irem, 1) := by decide +kernel
theorem dL_acts_82 : decode cL_acts 82 = .ok (.invokevirtual 39, 3) := by decide +kernel
theorem dL_acts_85 : decode cL_acts 85 = .ok (.bipush (-3), 2) := by decide +kernel
theorem dL_acts_87 : decode cL_acts 87 = .ok (.if_icmp .lt 7, 3) := by decide +kernel
theorem dL_acts_90 : decode cL_acts 90 = .ok (.iconst 1, 1) := by decide +kernel
theorem dL_acts_91 : decode cL_acts 91 = .ok (.goto 4, 3) := by decide +kernel
theorem dL_acts_94 : decode cL_acts 94 = .ok (.iconst 0, 1) := by decide +kernel
theorem dL_acts_95 : decode cL_acts 95 = .ok (.ireturn, 1) := by decide +kernel
theorem dL_acts_96 : decode cL_acts 96 = .ok (.aload_n 0, 1) := by decide +kernel
theorem dL_acts_97 : decode cL_acts 97 = .ok (.iload_n 3, 1) := by decide +kernel
theorem dL_acts_98 : decode cL_acts 98 = .ok (.iload_n 2, 1) := by decide +kernel
theorem dL_acts_99 : decode cL_acts 99 = .ok (.sipush 801, 3) := by decide +kernel
theorem dL_acts_102 : decode cL_acts 102 = .ok (.irem, 1) := by decide +kernel
theorem dL_acts_103 : decode cL_acts 103 = .ok (.sipush 300, 3) := by decide +kernel
theorem dL_acts_106 : decode cL_acts 106 = .ok (.isub, 1) := by decide +kernel
theorem dL_acts_107 : decode cL_acts 107 = .ok (.invokevirtual 72, 3) := by decide +kernel
theorem dL_acts_110 : decode cL_acts 110 = .ok (.bipush (-2), 2) := by decide +kernel
theorem dL_acts_112 : decode cL_acts 112 = .ok (.if_icmp .lt 7, 3) := by decide +kernel
theorem dL_acts_115 : decode cL_acts 115 = .ok (.iconst 1, 1) := by decide +kernel
theorem dL_acts_116 : decode cL_acts 116 = .ok (.goto 4, 3) := by decide +kernel
theorem dL_acts_119 : decode cL_acts 119 = .ok (.iconst 0, 1) := by decide +kernel
theorem dL_acts_120 : decode cL_acts 120 = .ok (.ireturn, 1) := by decide +kernel
theorem dL_acts_121 : decode cL_acts 121 = .ok (.aload_n 0, 1) := by decide +kernel
theorem dL_acts_122 : decode cL_acts 122 = .ok (.iload_n 2, 1) := by decide +kernel
theorem dL_acts_123 : decode cL_acts 123 = .ok (.bipush 60, 2) := by decide +kernel
theorem dL_acts_125 : decode cL_acts 125 = .ok (.irem, 1) := by decide +kernel
theorem dL_acts_126 : decode cL_acts 126 = .ok (.invokevirtual 76, 3) := by decide +kernel
theorem dL_acts_129 : decode cL_acts 129 = .ok (.ifCond .lt 7, 3) := by decide +kernel
theorem dL_acts_132 : decode cL_acts 132 = .ok (.iconst 1, 1) := by decide +kernel
theorem dL_acts_133 : decode cL_acts 133 = .ok (.goto 4, 3) := by decide +kernel
theorem dL_acts_136 : decode cL_acts 136 = .ok (.iconst 0, 1) := by decide +kernel
theorem dL_acts_137 : decode cL_acts 137 = .ok (.ireturn, 1) := by decide +kernel
theorem dL_acts_138 : decode cL_acts 138 = .ok (.aload_n 0, 1) := by decide +kernel
theorem dL_acts_139 : decode cL_acts 139 = .ok (.iload_n 3, 1) := by decide +kernel
theorem dL_acts_140 : decode cL_acts 140 = .ok (.iload 4, 2) := by decide +kernel
theorem dL_acts_142 : decode cL_acts 142 = .ok (.iload 5, 2) := by decide +kernel
theorem dL_acts_144 : decode cL_acts 144 = .ok (.invokestatic 79, 3) := by decide +kernel
theorem dL_acts_147 : decode cL_acts 147 = .ok (.ireturn, 1) := by decide +kernel
theorem dL_acts_148 : decode cL_acts 148 = .ok (.aload_n 0, 1) := by decide +kernel
theorem dL_acts_149 : decode cL_acts 149 = .ok (.iload 4, 2) := by decide +kernel
theorem dL_acts_151 : decode cL_acts 151 = .ok (.iload_n 3, 1) := by decide +kernel
theorem dL_acts_152 : decode cL_acts 152 = .ok (.invokestatic 85, 3) := by decide +kernel
theorem dL_acts_155 : decode cL_acts 155 = .ok (.ireturn, 1) := by decide +kernel
theorem dL_acts_156 : decode cL_acts 156 = .ok (.aload_n 0, 1) := by decide +kernel
theorem dL_acts_157 : decode cL_acts 157 = .ok (.iload 4, 2) := by decide +kernel
theorem dL_acts_159 : decode cL_acts 159 = .ok (.iload 5, 2) := by decide +kernel
theorem dL_acts_161 : decode cL_acts 161 = .ok (.invokestatic 89, 3) := by decide +kernel
theorem dL_acts_164 : decode cL_acts 164 = .ok (.ireturn, 1) := by decide +kernel
theorem dL_acts_165 : decode cL_acts 165 = .ok (.aload_n 0, 1) := by decide +kernel
theorem dL_acts_166 : decode cL_acts 166 = .ok (.iload_n 3, 1) := by decide +kernel
theorem dL_acts_167 : decode cL_acts 167 = .ok (.iload 4, 2) := by decide +kernel
theorem dL_acts_169 : decode cL_acts 169 = .ok (.iload 5, 2) := by decide +kernel
theorem dL_acts_171 : decode cL_acts 171 = .ok (.bipush 10, 2) := by decide +kernel
theorem dL_acts_173 : decode cL_acts 173 = .ok (.irem, 1) := by decide +kernel
theorem dL_acts_174 : decode cL_acts 174 = .ok (.iload_n 2, 1) := by decide +kernel
theorem dL_acts_175 : decode cL_acts 175 = .ok (.sipush 2048, 3) := by decide +kernel
theorem dL_acts_178 : decode cL_acts 178 = .ok (.idiv, 1) := by decide +kernel
theorem dL_acts_179 : decode cL_acts 179 = .ok (.iconst 1, 1) := by decide +kernel
theorem dL_acts_180 : decode cL_acts 180 = .ok (.iand, 1) := by decide +kernel
theorem dL_acts_181 : decode cL_acts 181 = .ok (.iconst 2, 1) := by decide +kernel
theorem dL_acts_182 : decode cL_acts 182 = .ok (.iload_n 2, 1) := by decide +kernel
theorem dL_acts_183 : decode cL_acts 183 = .ok (.sipush 4096, 3) := by decide +kernel
theorem dL_acts_186 : decode cL_acts 186 = .ok (.idiv, 1) := by decide +kernel
theorem dL_acts_187 : decode cL_acts 187 = .ok (.bipush 8, 2) := by decide +kernel
theorem dL_acts_189 : decode cL_acts 189 = .ok (.irem, 1) := by decide +kernel
theorem dL_acts_190 : decode cL_acts 190 = .ok (.iadd, 1) := by decide +kernel
theorem dL_acts_191 : decode cL_acts 191 = .ok (.invokestatic 92, 3) := by decide +kernel
theorem dL_acts_194 : decode cL_acts 194 = .ok (.ireturn, 1) := by decide +kernel
theorem dL_acts_195 : decode cL_acts 195 = .ok (.iconst 0, 1) := by decide +kernel
theorem dL_acts_196 : decode cL_acts 196 = .ok (.istore 6, 2) := by decide +kernel
theorem dL_acts_198 : decode cL_acts 198 = .ok (.iload 6, 2) := by decide +kernel
theorem dL_acts_200 : decode cL_acts 200 = .ok (.iconst 4, 1) := by decide +kernel
theorem dL_acts_201 : decode cL_acts 201 = .ok (.if_icmp .ge 61, 3) := by decide +kernel
theorem dL_acts_204 : decode cL_acts 204 = .ok (.aload_n 0, 1) := by decide +kernel
theorem dL_acts_205 : decode cL_acts 205 = .ok (.iload_n 3, 1) := by decide +kernel
theorem dL_acts_206 : decode cL_acts 206 = .ok (.iload 6, 2) := by decide +kernel
theorem dL_acts_208 : decode cL_acts 208 = .ok (.iadd, 1) := by decide +kernel
theorem dL_acts_209 : decode cL_acts 209 = .ok (.aload_n 0, 1) := by decide +kernel
theorem dL_acts_210 : decode cL_acts 210 = .ok (.iconst 1, 1) := by decide +kernel
theorem dL_acts_211 : decode cL_acts 211 = .ok (.invokevirtual 15, 3) := by decide +kernel
theorem dL_acts_214 : decode cL_acts 214 = .ok (.irem, 1) := by decide +kernel
theorem dL_acts_215 : decode cL_acts 215 = .ok (.iload 4, 2) := by decide +kernel
theorem dL_acts_217 : decode cL_acts 217 = .ok (.iload 5, 2) := by decide +kernel
theorem dL_acts_219 : decode cL_acts 219 = .ok (.iload 6, 2) := by decide +kernel
theorem dL_acts_221 : decode cL_acts 221 = .ok (.iconst 2, 1) := by decide +kernel
theorem dL_acts_222 : decode cL_acts 222 = .ok (.idiv, 1) := by decide +kernel
theorem dL_acts_223 : decode cL_acts 223 = .ok (.iadd, 1) := by decide +kernel
theorem dL_acts_224 : decode cL_acts 224 = .ok (.bipush 24, 2) := by decide +kernel
theorem dL_acts_226 : decode cL_acts 226 = .ok (.irem, 1) := by decide +kernel
theorem dL_acts_227 : decode cL_acts 227 = .ok (.iload_n 2, 1) := by decide +kernel
theorem dL_acts_228 : decode cL_acts 228 = .ok (.sipush 2048, 3) := by decide +kernel
theorem dL_acts_231 : decode cL_acts 231 = .ok (.idiv, 1) := by decide +kernel
theorem dL_acts_232 : decode cL_acts 232 = .ok (.iload 6, 2) := by decide +kernel
theorem dL_acts_234 : decode cL_acts 234 = .ok (.iadd, 1) := by decide +kernel
theorem dL_acts_235 : decode cL_acts 235 = .ok (.iconst 1, 1) := by decide +kernel
theorem dL_acts_236 : decode cL_acts 236 = .ok (.iand, 1) := by decide +kernel
theorem dL_acts_237 : decode cL_acts 237 = .ok (.iload_n 2, 1) := by decide +kernel
theorem dL_acts_238 : decode cL_acts 238 = .ok (.sipush 4096, 3) := by decide +kernel
theorem dL_acts_241 : decode cL_acts 241 = .ok (.idiv, 1) := by decide +kernel
theorem dL_acts_242 : decode cL_acts 242 = .ok (.sipush 200, 3) := by decide +kernel
theorem dL_acts_245 : decode cL_acts 245 = .ok (.irem, 1) := by decide +kernel
theorem dL_acts_246 : decode cL_acts 246 = .ok (.bipush 20, 2) := by decide +kernel
theorem dL_acts_248 : decode cL_acts 248 = .ok (.iload 6, 2) := by decide +kernel
theorem dL_acts_250 : decode cL_acts 250 = .ok (.imul, 1) := by decide +kernel
theorem dL_acts_251 : decode cL_acts 251 = .ok (.iadd, 1) := by decide +kernel
theorem dL_acts_252 : decode cL_acts 252 = .ok (.invokevirtual 46, 3) := by decide +kernel
theorem dL_acts_255 : decode cL_acts 255 = .ok (.pop, 1) := by decide +kernel
theorem dL_acts_256 : decode cL_acts 256 = .ok (.iinc 6 1, 3) := by decide +kernel
theorem dL_acts_259 : decode cL_acts 259 = .ok (.goto (-61), 3) := by decide +kernel
theorem dL_acts_262 : decode cL_acts 262 = .ok (.iconst 1, 1) := by decide +kernel
theorem dL_acts_263 : decode cL_acts 263 = .ok (.ireturn, 1) := by decide +kernel
theorem dL_law_0 : decode cL_law 0 = .ok (.new 10, 3) := by decide +kernel
theorem dL_law_3 : decode cL_law 3 = .ok (.dup, 1) := by decide +kernel
theorem dL_law_4 : decode cL_law 4 = .ok (.invokespecial 96, 3) := by decide +kernel
theorem dL_law_7 : decode cL_law 7 = .ok (.astore_n 1, 1) := by decide +kernel
theorem dL_law_8 : decode cL_law 8 = .ok (.aload_n 1, 1) := by decide +kernel
theorem dL_law_9 : decode cL_law 9 = .ok (.invokevirtual 42, 3) := by decide +kernel
theorem dL_law_12 : decode cL_law 12 = .ok (.bipush (-2), 2) := by decide +kernel
theorem dL_law_14 : decode cL_law 14 = .ok (.if_icmp .ne 57, 3) := by decide +kernel
theorem dL_law_17 : decode cL_law 17 = .ok (.aload_n 1, 1) := by decide +kernel
theorem dL_law_18 : decode cL_law 18 = .ok (.iconst 4, 1) := by decide +kernel
theorem dL_law_19 : decode cL_law 19 = .ok (.invokevirtual 15, 3) := by decide +kernel
theorem dL_law_22 : decode cL_law 22 = .ok (.bipush 20, 2) := by decide +kernel
theorem dL_law_24 : decode cL_law 24 = .ok (.if_icmp .ne 47, 3) := by decide +kernel
theorem dL_law_27 : decode cL_law 27 = .ok (.aload_n 1, 1) := by decide +kernel
theorem dL_law_28 : decode cL_law 28 = .ok (.iconst 0, 1) := by decide +kernel
theorem dL_law_29 : decode cL_law 29 = .ok (.invokevirtual 69, 3) := by decide +kernel
theorem dL_law_32 : decode cL_law 32 = .ok (.bipush (-9), 2) := by decide +kernel
theorem dL_law_34 : decode cL_law 34 = .ok (.if_icmp .ne 37, 3) := by decide +kernel
theorem dL_law_37 : decode cL_law 37 = .ok (.aload_n 1, 1) := by decide +kernel
theorem dL_law_38 : decode cL_law 38 = .ok (.iconst 0, 1) := by decide +kernel
theorem dL_law_39 : decode cL_law 39 = .ok (.iconst 1, 1) := by decide +kernel
theorem dL_law_40 : decode cL_law 40 = .ok (.invokevirtual 18, 3) := by decide +kernel
theorem dL_law_43 : decode cL_law 43 = .ok (.bipush 24, 2) := by decide +kernel
theorem dL_law_45 : decode cL_law 45 = .ok (.if_icmp .ne 26, 3) := by decide +kernel
theorem dL_law_48 : decode cL_law 48 = .ok (.aload_n 1, 1) := by decide +kernel
theorem dL_law_49 : decode cL_law 49 = .ok (.iconst 0, 1) := by decide +kernel
theorem dL_law_50 : decode cL_law 50 = .ok (.iconst 2, 1) := by decide +kernel
theorem dL_law_51 : decode cL_law 51 = .ok (.invokevirtual 18, 3) := by decide +kernel
theorem dL_law_54 : decode cL_law 54 = .ok (.ifCond .ne 17, 3) := by decide +kernel
theorem dL_law_57 : decode cL_law 57 = .ok (.aload_n 1, 1) := by decide +kernel
theorem dL_law_58 : decode cL_law 58 = .ok (.iconst 3, 1) := by decide +kernel
theorem dL_law_59 : decode cL_law 59 = .ok (.bipush 23, 2) := by decide +kernel
theorem dL_law_61 : decode cL_law 61 = .ok (.invokevirtual 29, 3) := by decide +kernel
theorem dL_law_64 : decode cL_law 64 = .ok (.ifCond .ne 7, 3) := by decide +kernel
theorem dL_law_67 : decode cL_law 67 = .ok (.iconst 1, 1) := by decide +kernel
theorem dL_law_68 : decode cL_law 68 = .ok (.goto 4, 3) := by decide +kernel
theorem dL_law_71 : decode cL_law 71 = .ok (.iconst 0, 1) := by decide +kernel
theorem dL_law_72 : decode cL_law 72 = .ok (.istore_n 2, 1) := by decide +kernel
theorem dL_law_73 : decode cL_law 73 = .ok (.iconst 0, 1) := by decide +kernel
theorem dL_law_74 : decode cL_law 74 = .ok (.istore_n 3, 1) := by decide +kernel
theorem dL_law_75 : decode cL_law 75 = .ok (.iload_n 3, 1) := by decide +kernel
theorem dL_law_76 : decode cL_law 76 = .ok (.iconst 3, 1) := by decide +kernel
theorem dL_law_77 : decode cL_law 77 = .ok (.if_icmp .ge 40, 3) := by decide +kernel
theorem dL_law_80 : decode cL_law 80 = .ok (.iload_n 2, 1) := by decide +kernel
theorem dL_law_81 : decode cL_law 81 = .ok (.ifCond .eq 36, 3) := by decide +kernel
theorem dL_law_84 : decode cL_law 84 = .ok (.aload_n 1, 1) := by decide +kernel
theorem dL_law_85 : decode cL_law 85 = .ok (.sipush 200, 3) := by decide +kernel
theorem dL_law_88 : decode cL_law 88 = .ok (.aload_n 0, 1) := by decide +kernel
theorem dL_law_89 : decode cL_law 89 = .ok (.iload_n 3, 1) := by decide +kernel
theorem dL_law_90 : decode cL_law 90 = .ok (.invokestatic 97, 3) := by decide +kernel
theorem dL_law_93 : decode cL_law 93 = .ok (.sipush 3000, 3) := by decide +kernel
theorem dL_law_96 : decode cL_law 96 = .ok (.irem, 1) := by decide +kernel
theorem dL_law_97 : decode cL_law 97 = .ok (.iadd, 1) := by decide +kernel
theorem dL_law_98 : decode cL_law 98 = .ok (.invokevirtual 39, 3) := by decide +kernel
theorem dL_law_101 : decode cL_law 101 = .ok (.iload_n 3, 1) := by decide +kernel
theorem dL_law_102 : decode cL_law 102 = .ok (.if_icmp .ne 7, 3) := by decide +kernel
theorem dL_law_105 : decode cL_law 105 = .ok (.iconst 1, 1) := by decide +kernel
theorem dL_law_106 : decode cL_law 106 = .ok (.goto 4, 3) := by decide +kernel
theorem dL_law_109 : decode cL_law 109 = .ok (.iconst 0, 1) := by decide +kernel
theorem dL_law_110 : decode cL_law 110 = .ok (.istore_n 2, 1) := by decide +kernel
theorem dL_law_111 : decode cL_law 111 = .ok (.iinc 3 1, 3) := by decide +kernel
theorem dL_law_114 : decode cL_law 114 = .ok (.goto (-39), 3) := by decide +kernel
theorem dL_law_117 : decode cL_law 117 = .ok (.iconst 3, 1) := by decide +kernel
theorem dL_law_118 : decode cL_law 118 = .ok (.istore_n 3, 1) := by decide +kernel
theorem dL_law_119 : decode cL_law 119 = .ok (.iload_n 3, 1) := by decide +kernel
theorem dL_law_120 : decode cL_law 120 = .ok (.bipush 21, 2) := by decide +kernel
theorem dL_law_122 : decode cL_law 122 = .ok (.if_icmp .ge 54, 3) := by decide +kernel
theorem dL_law_125 : decode cL_law 125 = .ok (.iload_n 2, 1) := by decide +kernel
theorem dL_law_126 : decode cL_law 126 = .ok (.ifCond .eq 50, 3) := by decide +kernel
theorem dL_law_129 : decode cL_law 129 = .ok (.aload_n 1, 1) := by decide +kernel
theorem dL_law_130 : decode cL_law 130 = .ok (.aload_n 0, 1) := by decide +kernel
theorem dL_law_131 : decode cL_law 131 = .ok (.iload_n 3, 1) := by decide +kernel
theorem dL_law_132 : decode cL_law 132 = .ok (.invokestatic 97, 3) := by decide +kernel
theorem dL_law_135 : decode cL_law 135 = .ok (.invokestatic 101, 3) := by decide +kernel
theorem dL_law_138 : decode cL_law 138 = .ok (.ifCond .eq 30, 3) := by decide +kernel
theorem dL_law_141 : decode cL_law 141 = .ok (.iload_n 3, 1) := by decide +kernel
theorem dL_law_142 : decode cL_law 142 = .ok (.iconst 3, 1) := by decide +kernel
theorem dL_law_143 : decode cL_law 143 = .ok (.irem, 1) := by decide +kernel
theorem dL_law_144 : decode cL_law 144 = .ok (.ifCond .ne 20, 3) := by decide +kernel
theorem dL_law_147 : decode cL_law 147 = .ok (.aload_n 1, 1) := by decide +kernel
theorem dL_law_148 : decode cL_law 148 = .ok (.aload_n 0, 1) := by decide +kernel
theorem dL_law_149 : decode cL_law 149 = .ok (.iload_n 3, 1) := by decide +kernel
theorem dL_law_150 : decode cL_law 150 = .ok (.invokestatic 97, 3) := by decide +kernel
theorem dL_law_153 : decode cL_law 153 = .ok (.bipush 7, 2) := by decide +kernel
theorem dL_law_155 : decode cL_law 155 = .ok (.ishr, 1) := by decide +kernel
theorem dL_law_156 : decode cL_law 156 = .ok (.iconst 3, 1) := by decide +kernel
theorem dL_law_157 : decode cL_law 157 = .ok (.iand, 1) := by decide +kernel
theorem dL_law_158 : decode cL_law 158 = .ok (.invokestatic 105, 3) := by decide +kernel
theorem dL_law_161 : decode cL_law 161 = .ok (.ifCond .eq 7, 3) := by decide +kernel
theorem dL_law_164 : decode cL_law 164 = .ok (.iconst 1, 1) := by decide +kernel
theorem dL_law_165 : decode cL_law 165 = .ok (.goto 4, 3) := by decide +kernel
theorem dL_law_168 : decode cL_law 168 = .ok (.iconst 0, 1) := by decide +kernel
theorem dL_law_169 : decode cL_law 169 = .ok (.istore_n 2, 1) := by decide +kernel
theorem dL_law_170 : decode cL_law 170 = .ok (.iinc 3 1, 3) := by decide +kernel
theorem dL_law_173 : decode cL_law 173 = .ok (.goto (-54), 3) := by decide +kernel
theorem dL_law_176 : decode cL_law 176 = .ok (.iload_n 2, 1) := by decide +kernel
theorem dL_law_177 : decode cL_law 177 = .ok (.ifCond .eq 45, 3) := by decide +kernel
theorem dL_law_180 : decode cL_law 180 = .ok (.aload_n 1, 1) := by decide +kernel
theorem dL_law_181 : decode cL_law 181 = .ok (.aload_n 0, 1) := by decide +kernel
theorem dL_law_182 : decode cL_law 182 = .ok (.bipush 21, 2) := by decide +kernel
theorem dL_law_184 : decode cL_law 184 = .ok (.invokestatic 97, 3) := by decide +kernel
theorem dL_law_187 : decode cL_law 187 = .ok (.iconst 3, 1) := by decide +kernel
theorem dL_law_188 : decode cL_law 188 = .ok (.iand, 1) := by decide +kernel
theorem dL_law_189 : decode cL_law 189 = .ok (.invokestatic 105, 3) := by decide +kernel
theorem dL_law_192 : decode cL_law 192 = .ok (.ifCond .eq 30, 3) := by decide +kernel
theorem dL_law_195 : decode cL_law 195 = .ok (.aload_n 1, 1) := by decide +kernel
theorem dL_law_196 : decode cL_law 196 = .ok (.aload_n 0, 1) := by decide +kernel
theorem dL_law_197 : decode cL_law 197 = .ok (.bipush 22, 2) := by decide +kernel
theorem dL_law_199 : decode cL_law 199 = .ok (.invokestatic 97, 3) := by decide +kernel
theorem dL_law_202 : decode cL_law 202 = .ok (.iconst 3, 1) := by decide +kernel
theorem dL_law_203 : decode cL_law 203 = .ok (.iand, 1) := by decide +kernel
theorem dL_law_204 : decode cL_law 204 = .ok (.iconst 0, 1) := by decide +kernel
theorem dL_law_205 : decode cL_law 205 = .ok (.invokestatic 85, 3) := by decide +kernel
theorem dL_law_208 : decode cL_law 208 = .ok (.ifCond .eq 14, 3) := by decide +kernel
theorem dL_law_211 : decode cL_law 211 = .ok (.aload_n 1, 1) := by decide +kernel
theorem dL_law_212 : decode cL_law 212 = .ok (.invokestatic 108, 3) := by decide +kernel
theorem dL_law_215 : decode cL_law 215 = .ok (.ifCond .eq 7, 3) := by decide +kernel
theorem dL_law_218 : decode cL_law 218 = .ok (.iconst 1, 1) := by decide +kernel
theorem dL_law_219 : decode cL_law 219 = .ok (.goto 4, 3) := by decide +kernel
theorem dL_law_222 : decode cL_law 222 = .ok (.iconst 0, 1) := by decide +kernel
theorem dL_law_223 : decode cL_law 223 = .ok (.ireturn, 1) := by decide +kernel
