theorem d_DR_init_0 : decode b_DR_init 0 = .ok (.aload_n 0, 1) := by decide +kernel
theorem d_DR_init_1 : decode b_DR_init 1 = .ok (.invokespecial 1, 3) := by decide +kernel
theorem d_DR_init_4 : decode b_DR_init 4 = .ok (.aload_n 0, 1) := by decide +kernel
theorem d_DR_init_5 : decode b_DR_init 5 = .ok (.new 7, 3) := by decide +kernel
theorem d_DR_init_8 : decode b_DR_init 8 = .ok (.dup, 1) := by decide +kernel
theorem d_DR_init_9 : decode b_DR_init 9 = .ok (.invokespecial 9, 3) := by decide +kernel
theorem d_DR_init_12 : decode b_DR_init 12 = .ok (.putfield 10, 3) := by decide +kernel
theorem d_DR_init_15 : decode b_DR_init 15 = .ok (.aload_n 0, 1) := by decide +kernel
theorem d_DR_init_16 : decode b_DR_init 16 = .ok (.new 16, 3) := by decide +kernel
theorem d_DR_init_19 : decode b_DR_init 19 = .ok (.dup, 1) := by decide +kernel
theorem d_DR_init_20 : decode b_DR_init 20 = .ok (.invokespecial 18, 3) := by decide +kernel
theorem d_DR_init_23 : decode b_DR_init 23 = .ok (.putfield 19, 3) := by decide +kernel
theorem d_DR_init_26 : decode b_DR_init 26 = .ok (.aload_n 0, 1) := by decide +kernel
theorem d_DR_init_27 : decode b_DR_init 27 = .ok (.new 23, 3) := by decide +kernel
theorem d_DR_init_30 : decode b_DR_init 30 = .ok (.dup, 1) := by decide +kernel
theorem d_DR_init_31 : decode b_DR_init 31 = .ok (.invokespecial 25, 3) := by decide +kernel
theorem d_DR_init_34 : decode b_DR_init 34 = .ok (.putfield 26, 3) := by decide +kernel
theorem d_DR_init_37 : decode b_DR_init 37 = .ok (.aload_n 0, 1) := by decide +kernel
theorem d_DR_init_38 : decode b_DR_init 38 = .ok (.new 30, 3) := by decide +kernel
theorem d_DR_init_41 : decode b_DR_init 41 = .ok (.dup, 1) := by decide +kernel
theorem d_DR_init_42 : decode b_DR_init 42 = .ok (.invokespecial 32, 3) := by decide +kernel
theorem d_DR_init_45 : decode b_DR_init 45 = .ok (.putfield 33, 3) := by decide +kernel
theorem d_DR_init_48 : decode b_DR_init 48 = .ok (.aload_n 0, 1) := by decide +kernel
theorem d_DR_init_49 : decode b_DR_init 49 = .ok (.new 30, 3) := by decide +kernel
theorem d_DR_init_52 : decode b_DR_init 52 = .ok (.dup, 1) := by decide +kernel
theorem d_DR_init_53 : decode b_DR_init 53 = .ok (.invokespecial 32, 3) := by decide +kernel
theorem d_DR_init_56 : decode b_DR_init 56 = .ok (.putfield 37, 3) := by decide +kernel
theorem d_DR_init_59 : decode b_DR_init 59 = .ok (.aload_n 0, 1) := by decide +kernel
theorem d_DR_init_60 : decode b_DR_init 60 = .ok (.new 40, 3) := by decide +kernel
theorem d_DR_init_63 : decode b_DR_init 63 = .ok (.dup, 1) := by decide +kernel
theorem d_DR_init_64 : decode b_DR_init 64 = .ok (.invokespecial 42, 3) := by decide +kernel
theorem d_DR_init_67 : decode b_DR_init 67 = .ok (.putfield 43, 3) := by decide +kernel
theorem d_DR_init_70 : decode b_DR_init 70 = .ok (.aload_n 0, 1) := by decide +kernel
theorem d_DR_init_71 : decode b_DR_init 71 = .ok (.ldc 47, 2) := by decide +kernel
theorem d_DR_init_73 : decode b_DR_init 73 = .ok (.putfield 49, 3) := by decide +kernel
theorem d_DR_init_76 : decode b_DR_init 76 = .ok (.aload_n 0, 1) := by decide +kernel
theorem d_DR_init_77 : decode b_DR_init 77 = .ok (.iconst 0, 1) := by decide +kernel
theorem d_DR_init_78 : decode b_DR_init 78 = .ok (.putfield 53, 3) := by decide +kernel
theorem d_DR_init_81 : decode b_DR_init 81 = .ok (.aload_n 0, 1) := by decide +kernel
theorem d_DR_init_82 : decode b_DR_init 82 = .ok (.aconst_null, 1) := by decide +kernel
theorem d_DR_init_83 : decode b_DR_init 83 = .ok (.putfield 57, 3) := by decide +kernel
theorem d_DR_init_86 : decode b_DR_init 86 = .ok (.aload_n 0, 1) := by decide +kernel
theorem d_DR_init_87 : decode b_DR_init 87 = .ok (.aconst_null, 1) := by decide +kernel
theorem d_DR_init_88 : decode b_DR_init 88 = .ok (.putfield 61, 3) := by decide +kernel
theorem d_DR_init_91 : decode b_DR_init 91 = .ok (.return_, 1) := by decide +kernel
theorem d_ED_init_0 : decode b_ED_init 0 = .ok (.aload_n 0, 1) := by decide +kernel
theorem d_ED_init_1 : decode b_ED_init 1 = .ok (.invokespecial 3, 3) := by decide +kernel
theorem d_ED_init_4 : decode b_ED_init 4 = .ok (.aload_n 0, 1) := by decide +kernel
theorem d_ED_init_5 : decode b_ED_init 5 = .ok (.iconst 0, 1) := by decide +kernel
theorem d_ED_init_6 : decode b_ED_init 6 = .ok (.putfield 9, 3) := by decide +kernel
theorem d_ED_init_9 : decode b_ED_init 9 = .ok (.aload_n 0, 1) := by decide +kernel
theorem d_ED_init_10 : decode b_ED_init 10 = .ok (.bipush 10, 2) := by decide +kernel
theorem d_ED_init_12 : decode b_ED_init 12 = .ok (.anewarray 15, 3) := by decide +kernel
theorem d_ED_init_15 : decode b_ED_init 15 = .ok (.putfield 17, 3) := by decide +kernel
theorem d_ED_init_18 : decode b_ED_init 18 = .ok (.aload_n 0, 1) := by decide +kernel
theorem d_ED_init_19 : decode b_ED_init 19 = .ok (.bipush 10, 2) := by decide +kernel
theorem d_ED_init_21 : decode b_ED_init 21 = .ok (.newarray .int, 2) := by decide +kernel
theorem d_ED_init_23 : decode b_ED_init 23 = .ok (.putfield 21, 3) := by decide +kernel
theorem d_ED_init_26 : decode b_ED_init 26 = .ok (.return_, 1) := by decide +kernel
theorem d_FS_init_0 : decode b_FS_init 0 = .ok (.aload_n 0, 1) := by decide +kernel
theorem d_FS_init_1 : decode b_FS_init 1 = .ok (.invokespecial 3, 3) := by decide +kernel
theorem d_FS_init_4 : decode b_FS_init 4 = .ok (.aload_n 0, 1) := by decide +kernel
theorem d_FS_init_5 : decode b_FS_init 5 = .ok (.iconst 0, 1) := by decide +kernel
theorem d_FS_init_6 : decode b_FS_init 6 = .ok (.putfield 9, 3) := by decide +kernel
theorem d_FS_init_9 : decode b_FS_init 9 = .ok (.aload_n 0, 1) := by decide +kernel
theorem d_FS_init_10 : decode b_FS_init 10 = .ok (.iconst 0, 1) := by decide +kernel
theorem d_FS_init_11 : decode b_FS_init 11 = .ok (.putfield 15, 3) := by decide +kernel
theorem d_FS_init_14 : decode b_FS_init 14 = .ok (.aload_n 0, 1) := by decide +kernel
theorem d_FS_init_15 : decode b_FS_init 15 = .ok (.sipush 180, 3) := by decide +kernel
theorem d_FS_init_18 : decode b_FS_init 18 = .ok (.anewarray 18, 3) := by decide +kernel
theorem d_FS_init_21 : decode b_FS_init 21 = .ok (.putfield 20, 3) := by decide +kernel
theorem d_FS_init_24 : decode b_FS_init 24 = .ok (.return_, 1) := by decide +kernel
theorem d_DU_init_0 : decode b_DU_init 0 = .ok (.aload_n 0, 1) := by decide +kernel
theorem d_DU_init_1 : decode b_DU_init 1 = .ok (.invokespecial 3, 3) := by decide +kernel
theorem d_DU_init_4 : decode b_DU_init 4 = .ok (.aload_n 0, 1) := by decide +kernel
theorem d_DU_init_5 : decode b_DU_init 5 = .ok (.iconst (-1), 1) := by decide +kernel
theorem d_DU_init_6 : decode b_DU_init 6 = .ok (.putfield 9, 3) := by decide +kernel
theorem d_DU_init_9 : decode b_DU_init 9 = .ok (.aload_n 0, 1) := by decide +kernel
theorem d_DU_init_10 : decode b_DU_init 10 = .ok (.iconst (-1), 1) := by decide +kernel
theorem d_DU_init_11 : decode b_DU_init 11 = .ok (.putfield 15, 3) := by decide +kernel
theorem d_DU_init_14 : decode b_DU_init 14 = .ok (.aload_n 0, 1) := by decide +kernel
theorem d_DU_init_15 : decode b_DU_init 15 = .ok (.iconst 0, 1) := by decide +kernel
theorem d_DU_init_16 : decode b_DU_init 16 = .ok (.putfield 18, 3) := by decide +kernel
theorem d_DU_init_19 : decode b_DU_init 19 = .ok (.aload_n 0, 1) := by decide +kernel
theorem d_DU_init_20 : decode b_DU_init 20 = .ok (.lconst 0, 1) := by decide +kernel
theorem d_DU_init_21 : decode b_DU_init 21 = .ok (.putfield 21, 3) := by decide +kernel
theorem d_DU_init_24 : decode b_DU_init 24 = .ok (.aload_n 0, 1) := by decide +kernel
theorem d_DU_init_25 : decode b_DU_init 25 = .ok (.lconst 0, 1) := by decide +kernel
theorem d_DU_init_26 : decode b_DU_init 26 = .ok (.putfield 25, 3) := by decide +kernel
theorem d_DU_init_29 : decode b_DU_init 29 = .ok (.aload_n 0, 1) := by decide +kernel
theorem d_DU_init_30 : decode b_DU_init 30 = .ok (.bipush 6, 2) := by decide +kernel
theorem d_DU_init_32 : decode b_DU_init 32 = .ok (.newarray .int, 2) := by decide +kernel
theorem d_DU_init_34 : decode b_DU_init 34 = .ok (.putfield 28, 3) := by decide +kernel
theorem d_DU_init_37 : decode b_DU_init 37 = .ok (.aload_n 0, 1) := by decide +kernel
theorem d_DU_init_38 : decode b_DU_init 38 = .ok (.iconst 5, 1) := by decide +kernel
theorem d_DU_init_39 : decode b_DU_init 39 = .ok (.newarray .int, 2) := by decide +kernel
theorem d_DU_init_41 : decode b_DU_init 41 = .ok (.putfield 32, 3) := by decide +kernel
theorem d_DU_init_44 : decode b_DU_init 44 = .ok (.aload_n 0, 1) := by decide +kernel
theorem d_DU_init_45 : decode b_DU_init 45 = .ok (.iconst 5, 1) := by decide +kernel
theorem d_DU_init_46 : decode b_DU_init 46 = .ok (.newarray .int, 2) := by decide +kernel
theorem d_DU_init_48 : decode b_DU_init 48 = .ok (.putfield 35, 3) := by decide +kernel
theorem d_DU_init_51 : decode b_DU_init 51 = .ok (.aload_n 0, 1) := by decide +kernel
theorem d_DU_init_52 : decode b_DU_init 52 = .ok (.iconst 5, 1) := by decide +kernel
theorem d_DU_init_53 : decode b_DU_init 53 = .ok (.newarray .long, 2) := by decide +kernel
theorem d_DU_init_55 : decode b_DU_init 55 = .ok (.putfield 38, 3) := by decide +kernel
theorem d_DU_init_58 : decode b_DU_init 58 = .ok (.return_, 1) := by decide +kernel
theorem d_RU_init_0 : decode b_RU_init 0 = .ok (.aload_n 0, 1) := by decide +kernel
theorem d_RU_init_1 : decode b_RU_init 1 = .ok (.invokespecial 3, 3) := by decide +kernel
theorem d_RU_init_4 : decode b_RU_init 4 = .ok (.aload_n 0, 1) := by decide +kernel
theorem d_RU_init_5 : decode b_RU_init 5 = .ok (.iconst 0, 1) := by decide +kernel
theorem d_RU_init_6 : decode b_RU_init 6 = .ok (.putfield 9, 3) := by decide +kernel
theorem d_RU_init_9 : decode b_RU_init 9 = .ok (.aload_n 0, 1) := by decide +kernel
theorem d_RU_init_10 : decode b_RU_init 10 = .ok (.bipush 40, 2) := by decide +kernel
theorem d_RU_init_12 : decode b_RU_init 12 = .ok (.newarray .int, 2) := by decide +kernel
theorem d_RU_init_14 : decode b_RU_init 14 = .ok (.putfield 15, 3) := by decide +kernel
theorem d_RU_init_17 : decode b_RU_init 17 = .ok (.aload_n 0, 1) := by decide +kernel
theorem d_RU_init_18 : decode b_RU_init 18 = .ok (.sipush 160, 3) := by decide +kernel
theorem d_RU_init_21 : decode b_RU_init 21 = .ok (.newarray .int, 2) := by decide +kernel
theorem d_RU_init_23 : decode b_RU_init 23 = .ok (.putfield 19, 3) := by decide +kernel
theorem d_RU_init_26 : decode b_RU_init 26 = .ok (.return_, 1) := by decide +kernel
theorem d_DR_unit_0 : decode b_DR_unit 0 = .ok (.iload_n 1, 1) := by decide +kernel
theorem d_DR_unit_1 : decode b_DR_unit 1 = .ok (.iconst 1, 1) := by decide +kernel
theorem d_DR_unit_2 : decode b_DR_unit 2 = .ok (.if_icmp .lt 22, 3) := by decide +kernel
theorem d_DR_unit_5 : decode b_DR_unit 5 = .ok (.iload_n 1, 1) := by decide +kernel
theorem d_DR_unit_6 : decode b_DR_unit 6 = .ok (.bipush 127, 2) := by decide +kernel
theorem d_DR_unit_8 : decode b_DR_unit 8 = .ok (.if_icmp .gt 16, 3) := by decide +kernel
theorem d_DR_unit_11 : decode b_DR_unit 11 = .ok (.aload_n 0, 1) := by decide +kernel
theorem d_DR_unit_12 : decode b_DR_unit 12 = .ok (.getfield 10, 3) := by decide +kernel
theorem d_DR_unit_15 : decode b_DR_unit 15 = .ok (.invokevirtual 64, 3) := by decide +kernel
theorem d_DR_unit_18 : decode b_DR_unit 18 = .ok (.sipush 2000, 3) := by decide +kernel
theorem d_DR_unit_21 : decode b_DR_unit 21 = .ok (.if_icmp .lt 5, 3) := by decide +kernel
theorem d_DR_unit_24 : decode b_DR_unit 24 = .ok (.iconst 0, 1) := by decide +kernel
theorem d_DR_unit_25 : decode b_DR_unit 25 = .ok (.ireturn, 1) := by decide +kernel
theorem d_DR_unit_26 : decode b_DR_unit 26 = .ok (.aload_n 0, 1) := by decide +kernel
theorem d_DR_unit_27 : decode b_DR_unit 27 = .ok (.getfield 10, 3) := by decide +kernel
theorem d_DR_unit_30 : decode b_DR_unit 30 = .ok (.iload_n 1, 1) := by decide +kernel
theorem d_DR_unit_31 : decode b_DR_unit 31 = .ok (.i2c, 1) := by decide +kernel
theorem d_DR_unit_32 : decode b_DR_unit 32 = .ok (.invokevirtual 68, 3) := by decide +kernel
theorem d_DR_unit_35 : decode b_DR_unit 35 = .ok (.pop, 1) := by decide +kernel
theorem d_DR_unit_36 : decode b_DR_unit 36 = .ok (.iconst 1, 1) := by decide +kernel
theorem d_DR_unit_37 : decode b_DR_unit 37 = .ok (.ireturn, 1) := by decide +kernel
theorem d_DR_read_0 : decode b_DR_read 0 = .ok (.new 72, 3) := by decide +kernel
theorem d_DR_read_3 : decode b_DR_read 3 = .ok (.dup, 1) := by decide +kernel
theorem d_DR_read_4 : decode b_DR_read 4 = .ok (.aload_n 0, 1) := by decide +kernel
theorem d_DR_read_5 : decode b_DR_read 5 = .ok (.getfield 10, 3) := by decide +kernel
theorem d_DR_read_8 : decode b_DR_read 8 = .ok (.invokevirtual 74, 3) := by decide +kernel
theorem d_DR_read_11 : decode b_DR_read 11 = .ok (.invokespecial 78, 3) := by decide +kernel
theorem d_DR_read_14 : decode b_DR_read 14 = .ok (.astore_n 1, 1) := by decide +kernel
theorem d_DR_read_15 : decode b_DR_read 15 = .ok (.new 40, 3) := by decide +kernel
theorem d_DR_read_18 : decode b_DR_read 18 = .ok (.dup, 1) := by decide +kernel
theorem d_DR_read_19 : decode b_DR_read 19 = .ok (.invokespecial 42, 3) := by decide +kernel
theorem d_DR_read_22 : decode b_DR_read 22 = .ok (.astore_n 2, 1) := by decide +kernel
theorem d_DR_read_23 : decode b_DR_read 23 = .ok (.aload_n 0, 1) := by decide +kernel
theorem d_DR_read_24 : decode b_DR_read 24 = .ok (.getfield 10, 3) := by decide +kernel
theorem d_DR_read_27 : decode b_DR_read 27 = .ok (.iconst 0, 1) := by decide +kernel
theorem d_DR_read_28 : decode b_DR_read 28 = .ok (.invokevirtual 81, 3) := by decide +kernel
theorem d_DR_read_31 : decode b_DR_read 31 = .ok (.aload_n 2, 1) := by decide +kernel
theorem d_DR_read_32 : decode b_DR_read 32 = .ok (.aload_n 1, 1) := by decide +kernel
theorem d_DR_read_33 : decode b_DR_read 33 = .ok (.invokestatic 85, 3) := by decide +kernel
theorem d_DR_read_36 : decode b_DR_read 36 = .ok (.ifCond .ne 10, 3) := by decide +kernel
theorem d_DR_read_39 : decode b_DR_read 39 = .ok (.iconst (-1), 1) := by decide +kernel
theorem d_DR_read_40 : decode b_DR_read 40 = .ok (.aload_n 1, 1) := by decide +kernel
theorem d_DR_read_41 : decode b_DR_read 41 = .ok (.getfield 91, 3) := by decide +kernel
theorem d_DR_read_44 : decode b_DR_read 44 = .ok (.isub, 1) := by decide +kernel
theorem d_DR_read_45 : decode b_DR_read 45 = .ok (.ireturn, 1) := by decide +kernel
theorem d_DR_read_46 : decode b_DR_read 46 = .ok (.aload_n 0, 1) := by decide +kernel
theorem d_DR_read_47 : decode b_DR_read 47 = .ok (.aload_n 2, 1) := by decide +kernel
theorem d_DR_read_48 : decode b_DR_read 48 = .ok (.putfield 43, 3) := by decide +kernel
theorem d_DR_read_51 : decode b_DR_read 51 = .ok (.aload_n 0, 1) := by decide +kernel
theorem d_DR_read_52 : decode b_DR_read 52 = .ok (.aload_n 2, 1) := by decide +kernel
theorem d_DR_read_53 : decode b_DR_read 53 = .ok (.invokestatic 95, 3) := by decide +kernel
theorem d_DR_read_56 : decode b_DR_read 56 = .ok (.putfield 49, 3) := by decide +kernel
theorem d_DR_read_59 : decode b_DR_read 59 = .ok (.aload_n 2, 1) := by decide +kernel
theorem d_DR_read_60 : decode b_DR_read 60 = .ok (.getfield 99, 3) := by decide +kernel
theorem d_DR_read_63 : decode b_DR_read 63 = .ok (.ireturn, 1) := by decide +kernel
theorem d_WO_init_0 : decode b_WO_init 0 = .ok (.aload_n 0, 1) := by decide +kernel
theorem d_WO_init_1 : decode b_WO_init 1 = .ok (.invokespecial 3, 3) := by decide +kernel
theorem d_WO_init_4 : decode b_WO_init 4 = .ok (.aload_n 0, 1) := by decide +kernel
theorem d_WO_init_5 : decode b_WO_init 5 = .ok (.aload_n 1, 1) := by decide +kernel
theorem d_WO_init_6 : decode b_WO_init 6 = .ok (.putfield 9, 3) := by decide +kernel
theorem d_WO_init_9 : decode b_WO_init 9 = .ok (.aload_n 0, 1) := by decide +kernel
theorem d_WO_init_10 : decode b_WO_init 10 = .ok (.iconst 0, 1) := by decide +kernel
theorem d_WO_init_11 : decode b_WO_init 11 = .ok (.putfield 15, 3) := by decide +kernel
theorem d_WO_init_14 : decode b_WO_init 14 = .ok (.aload_n 0, 1) := by decide +kernel
theorem d_WO_init_15 : decode b_WO_init 15 = .ok (.iconst 0, 1) := by decide +kernel
theorem d_WO_init_16 : decode b_WO_init 16 = .ok (.putfield 19, 3) := by decide +kernel
theorem d_WO_init_19 : decode b_WO_init 19 = .ok (.aload_n 0, 1) := by decide +kernel
theorem d_WO_init_20 : decode b_WO_init 20 = .ok (.iconst (-1), 1) := by decide +kernel
theorem d_WO_init_21 : decode b_WO_init 21 = .ok (.putfield 22, 3) := by decide +kernel
theorem d_WO_init_24 : decode b_WO_init 24 = .ok (.aload_n 0, 1) := by decide +kernel
theorem d_WO_init_25 : decode b_WO_init 25 = .ok (.invokevirtual 25, 3) := by decide +kernel
theorem d_WO_init_28 : decode b_WO_init 28 = .ok (.return_, 1) := by decide +kernel
theorem d_WO_advance_0 : decode b_WO_advance 0 = .ok (.aload_n 0, 1) := by decide +kernel
theorem d_WO_advance_1 : decode b_WO_advance 1 = .ok (.getfield 19, 3) := by decide +kernel
theorem d_WO_advance_4 : decode b_WO_advance 4 = .ok (.istore_n 1, 1) := by decide +kernel
theorem d_WO_advance_5 : decode b_WO_advance 5 = .ok (.iload_n 1, 1) := by decide +kernel
theorem d_WO_advance_6 : decode b_WO_advance 6 = .ok (.aload_n 0, 1) := by decide +kernel
theorem d_WO_advance_7 : decode b_WO_advance 7 = .ok (.getfield 9, 3) := by decide +kernel
theorem d_WO_advance_10 : decode b_WO_advance 10 = .ok (.invokevirtual 28, 3) := by decide +kernel
theorem d_WO_advance_13 : decode b_WO_advance 13 = .ok (.if_icmp .ge 23, 3) := by decide +kernel
theorem d_WO_advance_16 : decode b_WO_advance 16 = .ok (.aload_n 0, 1) := by decide +kernel
theorem d_WO_advance_17 : decode b_WO_advance 17 = .ok (.getfield 9, 3) := by decide +kernel
theorem d_WO_advance_20 : decode b_WO_advance 20 = .ok (.iload_n 1, 1) := by decide +kernel
theorem d_WO_advance_21 : decode b_WO_advance 21 = .ok (.invokevirtual 34, 3) := by decide +kernel
theorem d_WO_advance_24 : decode b_WO_advance 24 = .ok (.invokestatic 38, 3) := by decide +kernel
theorem d_WO_advance_27 : decode b_WO_advance 27 = .ok (.ifCond .eq 9, 3) := by decide +kernel
theorem d_WO_advance_30 : decode b_WO_advance 30 = .ok (.iinc 1 1, 3) := by decide +kernel
theorem d_WO_advance_33 : decode b_WO_advance 33 = .ok (.goto (-28), 3) := by decide +kernel
theorem d_WO_advance_36 : decode b_WO_advance 36 = .ok (.aload_n 0, 1) := by decide +kernel
theorem d_WO_advance_37 : decode b_WO_advance 37 = .ok (.iload_n 1, 1) := by decide +kernel
theorem d_WO_advance_38 : decode b_WO_advance 38 = .ok (.putfield 15, 3) := by decide +kernel
theorem d_WO_advance_41 : decode b_WO_advance 41 = .ok (.iload_n 1, 1) := by decide +kernel
theorem d_WO_advance_42 : decode b_WO_advance 42 = .ok (.aload_n 0, 1) := by decide +kernel
theorem d_WO_advance_43 : decode b_WO_advance 43 = .ok (.getfield 9, 3) := by decide +kernel
theorem d_WO_advance_46 : decode b_WO_advance 46 = .ok (.invokevirtual 28, 3) := by decide +kernel
theorem d_WO_advance_49 : decode b_WO_advance 49 = .ok (.if_icmp .ge 36, 3) := by decide +kernel
theorem d_WO_advance_52 : decode b_WO_advance 52 = .ok (.aload_n 0, 1) := by decide +kernel
theorem d_WO_advance_53 : decode b_WO_advance 53 = .ok (.getfield 9, 3) := by decide +kernel
theorem d_WO_advance_56 : decode b_WO_advance 56 = .ok (.iload_n 1, 1) := by decide +kernel
theorem d_WO_advance_57 : decode b_WO_advance 57 = .ok (.invokevirtual 34, 3) := by decide +kernel
theorem d_WO_advance_60 : decode b_WO_advance 60 = .ok (.invokestatic 38, 3) := by decide +kernel
theorem d_WO_advance_63 : decode b_WO_advance 63 = .ok (.ifCond .ne 22, 3) := by decide +kernel
theorem d_WO_advance_66 : decode b_WO_advance 66 = .ok (.aload_n 0, 1) := by decide +kernel
theorem d_WO_advance_67 : decode b_WO_advance 67 = .ok (.getfield 9, 3) := by decide +kernel
theorem d_WO_advance_70 : decode b_WO_advance 70 = .ok (.iload_n 1, 1) := by decide +kernel
theorem d_WO_advance_71 : decode b_WO_advance 71 = .ok (.invokevirtual 34, 3) := by decide +kernel
theorem d_WO_advance_74 : decode b_WO_advance 74 = .ok (.bipush 59, 2) := by decide +kernel
theorem d_WO_advance_76 : decode b_WO_advance 76 = .ok (.if_icmp .eq 9, 3) := by decide +kernel
theorem d_WO_advance_79 : decode b_WO_advance 79 = .ok (.iinc 1 1, 3) := by decide +kernel
theorem d_WO_advance_82 : decode b_WO_advance 82 = .ok (.goto (-41), 3) := by decide +kernel
theorem d_WO_advance_85 : decode b_WO_advance 85 = .ok (.iload_n 1, 1) := by decide +kernel
theorem d_WO_advance_86 : decode b_WO_advance 86 = .ok (.aload_n 0, 1) := by decide +kernel
theorem d_WO_advance_87 : decode b_WO_advance 87 = .ok (.getfield 15, 3) := by decide +kernel
theorem d_WO_advance_90 : decode b_WO_advance 90 = .ok (.if_icmp .ne 17, 3) := by decide +kernel
theorem d_WO_advance_93 : decode b_WO_advance 93 = .ok (.iload_n 1, 1) := by decide +kernel
theorem d_WO_advance_94 : decode b_WO_advance 94 = .ok (.aload_n 0, 1) := by decide +kernel
theorem d_WO_advance_95 : decode b_WO_advance 95 = .ok (.getfield 9, 3) := by decide +kernel
theorem d_WO_advance_98 : decode b_WO_advance 98 = .ok (.invokevirtual 28, 3) := by decide +kernel
theorem d_WO_advance_101 : decode b_WO_advance 101 = .ok (.if_icmp .ge 6, 3) := by decide +kernel
theorem d_WO_advance_104 : decode b_WO_advance 104 = .ok (.iinc 1 1, 3) := by decide +kernel
theorem d_WO_advance_107 : decode b_WO_advance 107 = .ok (.aload_n 0, 1) := by decide +kernel
theorem d_WO_advance_108 : decode b_WO_advance 108 = .ok (.iload_n 1, 1) := by decide +kernel
theorem d_WO_advance_109 : decode b_WO_advance 109 = .ok (.putfield 19, 3) := by decide +kernel
theorem d_WO_advance_112 : decode b_WO_advance 112 = .ok (.aload_n 0, 1) := by decide +kernel
theorem d_WO_advance_113 : decode b_WO_advance 113 = .ok (.dup, 1) := by decide +kernel
theorem d_WO_advance_114 : decode b_WO_advance 114 = .ok (.getfield 22, 3) := by decide +kernel
theorem d_WO_advance_117 : decode b_WO_advance 117 = .ok (.iconst 1, 1) := by decide +kernel
theorem d_WO_advance_118 : decode b_WO_advance 118 = .ok (.iadd, 1) := by decide +kernel
theorem d_WO_advance_119 : decode b_WO_advance 119 = .ok (.putfield 22, 3) := by decide +kernel
theorem d_WO_advance_122 : decode b_WO_advance 122 = .ok (.return_, 1) := by decide +kernel
theorem d_WO_isBlank_0 : decode b_WO_isBlank 0 = .ok (.iload_n 0, 1) := by decide +kernel
theorem d_WO_isBlank_1 : decode b_WO_isBlank 1 = .ok (.bipush 32, 2) := by decide +kernel
theorem d_WO_isBlank_3 : decode b_WO_isBlank 3 = .ok (.if_icmp .eq 9, 3) := by decide +kernel
theorem d_WO_isBlank_6 : decode b_WO_isBlank 6 = .ok (.iload_n 0, 1) := by decide +kernel
theorem d_WO_isBlank_7 : decode b_WO_isBlank 7 = .ok (.bipush 10, 2) := by decide +kernel
theorem d_WO_isBlank_9 : decode b_WO_isBlank 9 = .ok (.if_icmp .ne 7, 3) := by decide +kernel
theorem d_WO_isBlank_12 : decode b_WO_isBlank 12 = .ok (.iconst 1, 1) := by decide +kernel
theorem d_WO_isBlank_13 : decode b_WO_isBlank 13 = .ok (.goto 4, 3) := by decide +kernel
theorem d_WO_isBlank_16 : decode b_WO_isBlank 16 = .ok (.iconst 0, 1) := by decide +kernel
theorem d_WO_isBlank_17 : decode b_WO_isBlank 17 = .ok (.ireturn, 1) := by decide +kernel
theorem d_GR_fill_0 : decode b_GR_fill 0 = .ok (.iconst 0, 1) := by decide +kernel
theorem d_GR_fill_1 : decode b_GR_fill 1 = .ok (.istore_n 2, 1) := by decide +kernel
theorem d_GR_fill_2 : decode b_GR_fill 2 = .ok (.iload_n 2, 1) := by decide +kernel
theorem d_GR_fill_3 : decode b_GR_fill 3 = .ok (.bipush 40, 2) := by decide +kernel
theorem d_GR_fill_5 : decode b_GR_fill 5 = .ok (.if_icmp .gt 26, 3) := by decide +kernel
theorem d_GR_fill_8 : decode b_GR_fill 8 = .ok (.aload_n 1, 1) := by decide +kernel
theorem d_GR_fill_9 : decode b_GR_fill 9 = .ok (.invokevirtual 9, 3) := by decide +kernel
theorem d_GR_fill_12 : decode b_GR_fill 12 = .ok (.ifCond .ne 19, 3) := by decide +kernel
theorem d_GR_fill_15 : decode b_GR_fill 15 = .ok (.aload_n 0, 1) := by decide +kernel
theorem d_GR_fill_16 : decode b_GR_fill 16 = .ok (.aload_n 1, 1) := by decide +kernel
theorem d_GR_fill_17 : decode b_GR_fill 17 = .ok (.invokestatic 15, 3) := by decide +kernel
theorem d_GR_fill_20 : decode b_GR_fill 20 = .ok (.ifCond .ne 5, 3) := by decide +kernel
theorem d_GR_fill_23 : decode b_GR_fill 23 = .ok (.iconst 0, 1) := by decide +kernel
theorem d_GR_fill_24 : decode b_GR_fill 24 = .ok (.ireturn, 1) := by decide +kernel
theorem d_GR_fill_25 : decode b_GR_fill 25 = .ok (.iinc 2 1, 3) := by decide +kernel
theorem d_GR_fill_28 : decode b_GR_fill 28 = .ok (.goto (-26), 3) := by decide +kernel
theorem d_GR_fill_31 : decode b_GR_fill 31 = .ok (.iconst 1, 1) := by decide +kernel
theorem d_GR_fill_32 : decode b_GR_fill 32 = .ok (.ireturn, 1) := by decide +kernel
theorem d_WO_isEnd_0 : decode b_WO_isEnd 0 = .ok (.aload_n 0, 1) := by decide +kernel
theorem d_WO_isEnd_1 : decode b_WO_isEnd 1 = .ok (.getfield 15, 3) := by decide +kernel
theorem d_WO_isEnd_4 : decode b_WO_isEnd 4 = .ok (.aload_n 0, 1) := by decide +kernel
theorem d_WO_isEnd_5 : decode b_WO_isEnd 5 = .ok (.getfield 19, 3) := by decide +kernel
theorem d_WO_isEnd_8 : decode b_WO_isEnd 8 = .ok (.if_icmp .ne 7, 3) := by decide +kernel
theorem d_WO_isEnd_11 : decode b_WO_isEnd 11 = .ok (.iconst 1, 1) := by decide +kernel
theorem d_WO_isEnd_12 : decode b_WO_isEnd 12 = .ok (.goto 4, 3) := by decide +kernel
theorem d_WO_isEnd_15 : decode b_WO_isEnd 15 = .ok (.iconst 0, 1) := by decide +kernel
theorem d_WO_isEnd_16 : decode b_WO_isEnd 16 = .ok (.ireturn, 1) := by decide +kernel
theorem d_GR_addRule_0 : decode b_GR_addRule 0 = .ok (.aload_n 1, 1) := by decide +kernel
theorem d_GR_addRule_1 : decode b_GR_addRule 1 = .ok (.invokestatic 21, 3) := by decide +kernel
theorem d_GR_addRule_4 : decode b_GR_addRule 4 = .ok (.istore_n 2, 1) := by decide +kernel
theorem d_GR_addRule_5 : decode b_GR_addRule 5 = .ok (.iload_n 2, 1) := by decide +kernel
theorem d_GR_addRule_6 : decode b_GR_addRule 6 = .ok (.iconst (-1), 1) := by decide +kernel
theorem d_GR_addRule_7 : decode b_GR_addRule 7 = .ok (.if_icmp .eq 11, 3) := by decide +kernel
theorem d_GR_addRule_10 : decode b_GR_addRule 10 = .ok (.aload_n 0, 1) := by decide +kernel
theorem d_GR_addRule_11 : decode b_GR_addRule 11 = .ok (.iload_n 2, 1) := by decide +kernel
theorem d_GR_addRule_12 : decode b_GR_addRule 12 = .ok (.invokevirtual 25, 3) := by decide +kernel
theorem d_GR_addRule_15 : decode b_GR_addRule 15 = .ok (.ifCond .ne 5, 3) := by decide +kernel
theorem d_GR_addRule_18 : decode b_GR_addRule 18 = .ok (.iconst 0, 1) := by decide +kernel
theorem d_GR_addRule_19 : decode b_GR_addRule 19 = .ok (.ireturn, 1) := by decide +kernel
theorem d_GR_addRule_20 : decode b_GR_addRule 20 = .ok (.aload_n 0, 1) := by decide +kernel
theorem d_GR_addRule_21 : decode b_GR_addRule 21 = .ok (.iload_n 2, 1) := by decide +kernel
theorem d_GR_addRule_22 : decode b_GR_addRule 22 = .ok (.invokevirtual 31, 3) := by decide +kernel
theorem d_GR_addRule_25 : decode b_GR_addRule 25 = .ok (.new 10, 3) := by decide +kernel
theorem d_GR_addRule_28 : decode b_GR_addRule 28 = .ok (.dup, 1) := by decide +kernel
theorem d_GR_addRule_29 : decode b_GR_addRule 29 = .ok (.iload_n 2, 1) := by decide +kernel
theorem d_GR_addRule_30 : decode b_GR_addRule 30 = .ok (.invokestatic 35, 3) := by decide +kernel
theorem d_GR_addRule_33 : decode b_GR_addRule 33 = .ok (.invokespecial 39, 3) := by decide +kernel
theorem d_GR_addRule_36 : decode b_GR_addRule 36 = .ok (.astore_n 3, 1) := by decide +kernel
theorem d_GR_addRule_37 : decode b_GR_addRule 37 = .ok (.iconst 0, 1) := by decide +kernel
theorem d_GR_addRule_38 : decode b_GR_addRule 38 = .ok (.istore 4, 2) := by decide +kernel
theorem d_GR_addRule_40 : decode b_GR_addRule 40 = .ok (.iconst 0, 1) := by decide +kernel
theorem d_GR_addRule_41 : decode b_GR_addRule 41 = .ok (.istore 5, 2) := by decide +kernel
theorem d_GR_addRule_43 : decode b_GR_addRule 43 = .ok (.iload 5, 2) := by decide +kernel
theorem d_GR_addRule_45 : decode b_GR_addRule 45 = .ok (.bipush 9, 2) := by decide +kernel
theorem d_GR_addRule_47 : decode b_GR_addRule 47 = .ok (.if_icmp .ge 78, 3) := by decide +kernel
theorem d_GR_addRule_50 : decode b_GR_addRule 50 = .ok (.aload_n 3, 1) := by decide +kernel
theorem d_GR_addRule_51 : decode b_GR_addRule 51 = .ok (.invokevirtual 9, 3) := by decide +kernel
theorem d_GR_addRule_54 : decode b_GR_addRule 54 = .ok (.ifCond .ne 71, 3) := by decide +kernel
theorem d_GR_addRule_57 : decode b_GR_addRule 57 = .ok (.aload_n 3, 1) := by decide +kernel
theorem d_GR_addRule_58 : decode b_GR_addRule 58 = .ok (.invokevirtual 42, 3) := by decide +kernel
theorem d_GR_addRule_61 : decode b_GR_addRule 61 = .ok (.invokestatic 46, 3) := by decide +kernel
theorem d_GR_addRule_64 : decode b_GR_addRule 64 = .ok (.ifCond .ne 13, 3) := by decide +kernel
theorem d_GR_addRule_67 : decode b_GR_addRule 67 = .ok (.aload_n 1, 1) := by decide +kernel
theorem d_GR_addRule_68 : decode b_GR_addRule 68 = .ok (.aload_n 3, 1) := by decide +kernel
theorem d_GR_addRule_69 : decode b_GR_addRule 69 = .ok (.invokevirtual 50, 3) := by decide +kernel
theorem d_GR_addRule_72 : decode b_GR_addRule 72 = .ok (.ifCond .ne 39, 3) := by decide +kernel
theorem d_GR_addRule_75 : decode b_GR_addRule 75 = .ok (.iconst 0, 1) := by decide +kernel
theorem d_GR_addRule_76 : decode b_GR_addRule 76 = .ok (.ireturn, 1) := by decide +kernel
theorem d_GR_addRule_77 : decode b_GR_addRule 77 = .ok (.aload_n 1, 1) := by decide +kernel
theorem d_GR_addRule_78 : decode b_GR_addRule 78 = .ok (.invokevirtual 54, 3) := by decide +kernel
theorem d_GR_addRule_81 : decode b_GR_addRule 81 = .ok (.istore 6, 2) := by decide +kernel
theorem d_GR_addRule_83 : decode b_GR_addRule 83 = .ok (.iload 6, 2) := by decide +kernel
theorem d_GR_addRule_85 : decode b_GR_addRule 85 = .ok (.aload_n 3, 1) := by decide +kernel
theorem d_GR_addRule_86 : decode b_GR_addRule 86 = .ok (.invokevirtual 42, 3) := by decide +kernel
theorem d_GR_addRule_89 : decode b_GR_addRule 89 = .ok (.invokestatic 58, 3) := by decide +kernel
theorem d_GR_addRule_92 : decode b_GR_addRule 92 = .ok (.ifCond .eq 14, 3) := by decide +kernel
theorem d_GR_addRule_95 : decode b_GR_addRule 95 = .ok (.aload_n 0, 1) := by decide +kernel
theorem d_GR_addRule_96 : decode b_GR_addRule 96 = .ok (.iload 4, 2) := by decide +kernel
theorem d_GR_addRule_98 : decode b_GR_addRule 98 = .ok (.iload 6, 2) := by decide +kernel
theorem d_GR_addRule_100 : decode b_GR_addRule 100 = .ok (.invokevirtual 62, 3) := by decide +kernel
theorem d_GR_addRule_103 : decode b_GR_addRule 103 = .ok (.ifCond .ne 5, 3) := by decide +kernel
theorem d_GR_addRule_106 : decode b_GR_addRule 106 = .ok (.iconst 0, 1) := by decide +kernel
theorem d_GR_addRule_107 : decode b_GR_addRule 107 = .ok (.ireturn, 1) := by decide +kernel
theorem d_GR_addRule_108 : decode b_GR_addRule 108 = .ok (.iinc 4 1, 3) := by decide +kernel
theorem d_GR_addRule_111 : decode b_GR_addRule 111 = .ok (.aload_n 3, 1) := by decide +kernel
theorem d_GR_addRule_112 : decode b_GR_addRule 112 = .ok (.invokevirtual 66, 3) := by decide +kernel
theorem d_GR_addRule_115 : decode b_GR_addRule 115 = .ok (.aload_n 1, 1) := by decide +kernel
theorem d_GR_addRule_116 : decode b_GR_addRule 116 = .ok (.invokevirtual 66, 3) := by decide +kernel
theorem d_GR_addRule_119 : decode b_GR_addRule 119 = .ok (.iinc 5 1, 3) := by decide +kernel
theorem d_GR_addRule_122 : decode b_GR_addRule 122 = .ok (.goto (-79), 3) := by decide +kernel
theorem d_GR_addRule_125 : decode b_GR_addRule 125 = .ok (.iconst 1, 1) := by decide +kernel
theorem d_GR_addRule_126 : decode b_GR_addRule 126 = .ok (.ireturn, 1) := by decide +kernel
theorem d_GR_kindBegunBy_0 : decode b_GR_kindBegunBy 0 = .ok (.iconst 0, 1) := by decide +kernel
theorem d_GR_kindBegunBy_1 : decode b_GR_kindBegunBy 1 = .ok (.istore_n 1, 1) := by decide +kernel
theorem d_GR_kindBegunBy_2 : decode b_GR_kindBegunBy 2 = .ok (.iload_n 1, 1) := by decide +kernel
theorem d_GR_kindBegunBy_3 : decode b_GR_kindBegunBy 3 = .ok (.bipush 6, 2) := by decide +kernel
theorem d_GR_kindBegunBy_5 : decode b_GR_kindBegunBy 5 = .ok (.if_icmp .ge 29, 3) := by decide +kernel
theorem d_GR_kindBegunBy_8 : decode b_GR_kindBegunBy 8 = .ok (.aload_n 0, 1) := by decide +kernel
theorem d_GR_kindBegunBy_9 : decode b_GR_kindBegunBy 9 = .ok (.new 10, 3) := by decide +kernel
theorem d_GR_kindBegunBy_12 : decode b_GR_kindBegunBy 12 = .ok (.dup, 1) := by decide +kernel
theorem d_GR_kindBegunBy_13 : decode b_GR_kindBegunBy 13 = .ok (.iload_n 1, 1) := by decide +kernel
theorem d_GR_kindBegunBy_14 : decode b_GR_kindBegunBy 14 = .ok (.invokestatic 35, 3) := by decide +kernel
theorem d_GR_kindBegunBy_17 : decode b_GR_kindBegunBy 17 = .ok (.invokespecial 39, 3) := by decide +kernel
theorem d_GR_kindBegunBy_20 : decode b_GR_kindBegunBy 20 = .ok (.invokevirtual 50, 3) := by decide +kernel
theorem d_GR_kindBegunBy_23 : decode b_GR_kindBegunBy 23 = .ok (.ifCond .eq 5, 3) := by decide +kernel
theorem d_GR_kindBegunBy_26 : decode b_GR_kindBegunBy 26 = .ok (.iload_n 1, 1) := by decide +kernel
theorem d_GR_kindBegunBy_27 : decode b_GR_kindBegunBy 27 = .ok (.ireturn, 1) := by decide +kernel
theorem d_GR_kindBegunBy_28 : decode b_GR_kindBegunBy 28 = .ok (.iinc 1 1, 3) := by decide +kernel
theorem d_GR_kindBegunBy_31 : decode b_GR_kindBegunBy 31 = .ok (.goto (-29), 3) := by decide +kernel
theorem d_GR_kindBegunBy_34 : decode b_GR_kindBegunBy 34 = .ok (.iconst (-1), 1) := by decide +kernel
theorem d_GR_kindBegunBy_35 : decode b_GR_kindBegunBy 35 = .ok (.ireturn, 1) := by decide +kernel
theorem d_GR_formOf_0 : decode b_GR_formOf 0 = .ok (.iload_n 0, 1) := by decide +kernel
theorem d_GR_formOf_1 : decode b_GR_formOf 1 = .ok (.tableswitch 50 0 4 #[35, 38, 41, 44, 47], 35) := by decide +kernel
theorem d_GR_formOf_36 : decode b_GR_formOf 36 = .ok (.ldc 104, 2) := by decide +kernel
theorem d_GR_formOf_38 : decode b_GR_formOf 38 = .ok (.areturn, 1) := by decide +kernel
theorem d_GR_formOf_39 : decode b_GR_formOf 39 = .ok (.ldc 106, 2) := by decide +kernel
theorem d_GR_formOf_41 : decode b_GR_formOf 41 = .ok (.areturn, 1) := by decide +kernel
theorem d_GR_formOf_42 : decode b_GR_formOf 42 = .ok (.ldc 108, 2) := by decide +kernel
theorem d_GR_formOf_44 : decode b_GR_formOf 44 = .ok (.areturn, 1) := by decide +kernel
theorem d_GR_formOf_45 : decode b_GR_formOf 45 = .ok (.ldc 110, 2) := by decide +kernel
theorem d_GR_formOf_47 : decode b_GR_formOf 47 = .ok (.areturn, 1) := by decide +kernel
theorem d_GR_formOf_48 : decode b_GR_formOf 48 = .ok (.ldc 112, 2) := by decide +kernel
theorem d_GR_formOf_50 : decode b_GR_formOf 50 = .ok (.areturn, 1) := by decide +kernel
theorem d_GR_formOf_51 : decode b_GR_formOf 51 = .ok (.ldc 114, 2) := by decide +kernel
theorem d_GR_formOf_53 : decode b_GR_formOf 53 = .ok (.areturn, 1) := by decide +kernel
theorem d_WO_isSameWordAs_0 : decode b_WO_isSameWordAs 0 = .ok (.aload_n 0, 1) := by decide +kernel
theorem d_WO_isSameWordAs_1 : decode b_WO_isSameWordAs 1 = .ok (.getfield 19, 3) := by decide +kernel
theorem d_WO_isSameWordAs_4 : decode b_WO_isSameWordAs 4 = .ok (.aload_n 0, 1) := by decide +kernel
theorem d_WO_isSameWordAs_5 : decode b_WO_isSameWordAs 5 = .ok (.getfield 15, 3) := by decide +kernel
theorem d_WO_isSameWordAs_8 : decode b_WO_isSameWordAs 8 = .ok (.isub, 1) := by decide +kernel
theorem d_WO_isSameWordAs_9 : decode b_WO_isSameWordAs 9 = .ok (.istore_n 2, 1) := by decide +kernel
theorem d_WO_isSameWordAs_10 : decode b_WO_isSameWordAs 10 = .ok (.iload_n 2, 1) := by decide +kernel
theorem d_WO_isSameWordAs_11 : decode b_WO_isSameWordAs 11 = .ok (.aload_n 1, 1) := by decide +kernel
theorem d_WO_isSameWordAs_12 : decode b_WO_isSameWordAs 12 = .ok (.getfield 19, 3) := by decide +kernel
theorem d_WO_isSameWordAs_15 : decode b_WO_isSameWordAs 15 = .ok (.aload_n 1, 1) := by decide +kernel
theorem d_WO_isSameWordAs_16 : decode b_WO_isSameWordAs 16 = .ok (.getfield 15, 3) := by decide +kernel
theorem d_WO_isSameWordAs_19 : decode b_WO_isSameWordAs 19 = .ok (.isub, 1) := by decide +kernel
theorem d_WO_isSameWordAs_20 : decode b_WO_isSameWordAs 20 = .ok (.if_icmp .eq 5, 3) := by decide +kernel
theorem d_WO_isSameWordAs_23 : decode b_WO_isSameWordAs 23 = .ok (.iconst 0, 1) := by decide +kernel
theorem d_WO_isSameWordAs_24 : decode b_WO_isSameWordAs 24 = .ok (.ireturn, 1) := by decide +kernel
theorem d_WO_isSameWordAs_25 : decode b_WO_isSameWordAs 25 = .ok (.iconst 0, 1) := by decide +kernel
theorem d_WO_isSameWordAs_26 : decode b_WO_isSameWordAs 26 = .ok (.istore_n 3, 1) := by decide +kernel
theorem d_WO_isSameWordAs_27 : decode b_WO_isSameWordAs 27 = .ok (.iload_n 3, 1) := by decide +kernel
theorem d_WO_isSameWordAs_28 : decode b_WO_isSameWordAs 28 = .ok (.iload_n 2, 1) := by decide +kernel
theorem d_WO_isSameWordAs_29 : decode b_WO_isSameWordAs 29 = .ok (.if_icmp .ge 40, 3) := by decide +kernel
theorem d_WO_isSameWordAs_32 : decode b_WO_isSameWordAs 32 = .ok (.aload_n 0, 1) := by decide +kernel
theorem d_WO_isSameWordAs_33 : decode b_WO_isSameWordAs 33 = .ok (.getfield 9, 3) := by decide +kernel
theorem d_WO_isSameWordAs_36 : decode b_WO_isSameWordAs 36 = .ok (.aload_n 0, 1) := by decide +kernel
theorem d_WO_isSameWordAs_37 : decode b_WO_isSameWordAs 37 = .ok (.getfield 15, 3) := by decide +kernel
theorem d_WO_isSameWordAs_40 : decode b_WO_isSameWordAs 40 = .ok (.iload_n 3, 1) := by decide +kernel
theorem d_WO_isSameWordAs_41 : decode b_WO_isSameWordAs 41 = .ok (.iadd, 1) := by decide +kernel
theorem d_WO_isSameWordAs_42 : decode b_WO_isSameWordAs 42 = .ok (.invokevirtual 34, 3) := by decide +kernel
theorem d_WO_isSameWordAs_45 : decode b_WO_isSameWordAs 45 = .ok (.aload_n 1, 1) := by decide +kernel
theorem d_WO_isSameWordAs_46 : decode b_WO_isSameWordAs 46 = .ok (.getfield 9, 3) := by decide +kernel
theorem d_WO_isSameWordAs_49 : decode b_WO_isSameWordAs 49 = .ok (.aload_n 1, 1) := by decide +kernel
theorem d_WO_isSameWordAs_50 : decode b_WO_isSameWordAs 50 = .ok (.getfield 15, 3) := by decide +kernel
theorem d_WO_isSameWordAs_53 : decode b_WO_isSameWordAs 53 = .ok (.iload_n 3, 1) := by decide +kernel
theorem d_WO_isSameWordAs_54 : decode b_WO_isSameWordAs 54 = .ok (.iadd, 1) := by decide +kernel
theorem d_WO_isSameWordAs_55 : decode b_WO_isSameWordAs 55 = .ok (.invokevirtual 34, 3) := by decide +kernel
theorem d_WO_isSameWordAs_58 : decode b_WO_isSameWordAs 58 = .ok (.if_icmp .eq 5, 3) := by decide +kernel
theorem d_WO_isSameWordAs_61 : decode b_WO_isSameWordAs 61 = .ok (.iconst 0, 1) := by decide +kernel
theorem d_WO_isSameWordAs_62 : decode b_WO_isSameWordAs 62 = .ok (.ireturn, 1) := by decide +kernel
theorem d_WO_isSameWordAs_63 : decode b_WO_isSameWordAs 63 = .ok (.iinc 3 1, 3) := by decide +kernel
theorem d_WO_isSameWordAs_66 : decode b_WO_isSameWordAs 66 = .ok (.goto (-39), 3) := by decide +kernel
theorem d_WO_isSameWordAs_69 : decode b_WO_isSameWordAs 69 = .ok (.iconst 1, 1) := by decide +kernel
theorem d_WO_isSameWordAs_70 : decode b_WO_isSameWordAs 70 = .ok (.ireturn, 1) := by decide +kernel
theorem d_RU_mayBegin_0 : decode b_RU_mayBegin 0 = .ok (.aload_n 0, 1) := by decide +kernel
theorem d_RU_mayBegin_1 : decode b_RU_mayBegin 1 = .ok (.getfield 9, 3) := by decide +kernel
theorem d_RU_mayBegin_4 : decode b_RU_mayBegin 4 = .ok (.bipush 40, 2) := by decide +kernel
theorem d_RU_mayBegin_6 : decode b_RU_mayBegin 6 = .ok (.if_icmp .lt 5, 3) := by decide +kernel
theorem d_RU_mayBegin_9 : decode b_RU_mayBegin 9 = .ok (.iconst 0, 1) := by decide +kernel
theorem d_RU_mayBegin_10 : decode b_RU_mayBegin 10 = .ok (.ireturn, 1) := by decide +kernel
theorem d_RU_mayBegin_11 : decode b_RU_mayBegin 11 = .ok (.iload_n 1, 1) := by decide +kernel
theorem d_RU_mayBegin_12 : decode b_RU_mayBegin 12 = .ok (.iconst 4, 1) := by decide +kernel
theorem d_RU_mayBegin_13 : decode b_RU_mayBegin 13 = .ok (.if_icmp .eq 8, 3) := by decide +kernel
theorem d_RU_mayBegin_16 : decode b_RU_mayBegin 16 = .ok (.iload_n 1, 1) := by decide +kernel
theorem d_RU_mayBegin_17 : decode b_RU_mayBegin 17 = .ok (.iconst 5, 1) := by decide +kernel
theorem d_RU_mayBegin_18 : decode b_RU_mayBegin 18 = .ok (.if_icmp .ne 12, 3) := by decide +kernel
theorem d_RU_mayBegin_21 : decode b_RU_mayBegin 21 = .ok (.aload_n 0, 1) := by decide +kernel
theorem d_RU_mayBegin_22 : decode b_RU_mayBegin 22 = .ok (.iload_n 1, 1) := by decide +kernel
theorem d_RU_mayBegin_23 : decode b_RU_mayBegin 23 = .ok (.invokevirtual 22, 3) := by decide +kernel
theorem d_RU_mayBegin_26 : decode b_RU_mayBegin 26 = .ok (.iconst (-1), 1) := by decide +kernel
theorem d_RU_mayBegin_27 : decode b_RU_mayBegin 27 = .ok (.if_icmp .ne 7, 3) := by decide +kernel
theorem d_RU_mayBegin_30 : decode b_RU_mayBegin 30 = .ok (.iconst 1, 1) := by decide +kernel
theorem d_RU_mayBegin_31 : decode b_RU_mayBegin 31 = .ok (.goto 4, 3) := by decide +kernel
theorem d_RU_mayBegin_34 : decode b_RU_mayBegin 34 = .ok (.iconst 0, 1) := by decide +kernel
theorem d_RU_mayBegin_35 : decode b_RU_mayBegin 35 = .ok (.ireturn, 1) := by decide +kernel
theorem d_RU_firstOfKind_0 : decode b_RU_firstOfKind 0 = .ok (.iconst 0, 1) := by decide +kernel
theorem d_RU_firstOfKind_1 : decode b_RU_firstOfKind 1 = .ok (.istore_n 2, 1) := by decide +kernel
theorem d_RU_firstOfKind_2 : decode b_RU_firstOfKind 2 = .ok (.iload_n 2, 1) := by decide +kernel
theorem d_RU_firstOfKind_3 : decode b_RU_firstOfKind 3 = .ok (.aload_n 0, 1) := by decide +kernel
theorem d_RU_firstOfKind_4 : decode b_RU_firstOfKind 4 = .ok (.getfield 9, 3) := by decide +kernel
theorem d_RU_firstOfKind_7 : decode b_RU_firstOfKind 7 = .ok (.if_icmp .ge 21, 3) := by decide +kernel
theorem d_RU_firstOfKind_10 : decode b_RU_firstOfKind 10 = .ok (.aload_n 0, 1) := by decide +kernel
theorem d_RU_firstOfKind_11 : decode b_RU_firstOfKind 11 = .ok (.getfield 15, 3) := by decide +kernel
theorem d_RU_firstOfKind_14 : decode b_RU_firstOfKind 14 = .ok (.iload_n 2, 1) := by decide +kernel
theorem d_RU_firstOfKind_15 : decode b_RU_firstOfKind 15 = .ok (.iaload, 1) := by decide +kernel
theorem d_RU_firstOfKind_16 : decode b_RU_firstOfKind 16 = .ok (.iload_n 1, 1) := by decide +kernel
theorem d_RU_firstOfKind_17 : decode b_RU_firstOfKind 17 = .ok (.if_icmp .ne 5, 3) := by decide +kernel
theorem d_RU_firstOfKind_20 : decode b_RU_firstOfKind 20 = .ok (.iload_n 2, 1) := by decide +kernel
theorem d_RU_firstOfKind_21 : decode b_RU_firstOfKind 21 = .ok (.ireturn, 1) := by decide +kernel
theorem d_RU_firstOfKind_22 : decode b_RU_firstOfKind 22 = .ok (.iinc 2 1, 3) := by decide +kernel
theorem d_RU_firstOfKind_25 : decode b_RU_firstOfKind 25 = .ok (.goto (-23), 3) := by decide +kernel
theorem d_RU_firstOfKind_28 : decode b_RU_firstOfKind 28 = .ok (.iconst (-1), 1) := by decide +kernel
theorem d_RU_firstOfKind_29 : decode b_RU_firstOfKind 29 = .ok (.ireturn, 1) := by decide +kernel
theorem d_RU_begin_0 : decode b_RU_begin 0 = .ok (.aload_n 0, 1) := by decide +kernel
theorem d_RU_begin_1 : decode b_RU_begin 1 = .ok (.getfield 9, 3) := by decide +kernel
theorem d_RU_begin_4 : decode b_RU_begin 4 = .ok (.aload_n 0, 1) := by decide +kernel
theorem d_RU_begin_5 : decode b_RU_begin 5 = .ok (.getfield 15, 3) := by decide +kernel
theorem d_RU_begin_8 : decode b_RU_begin 8 = .ok (.arraylength, 1) := by decide +kernel
theorem d_RU_begin_9 : decode b_RU_begin 9 = .ok (.if_icmp .ge 23, 3) := by decide +kernel
theorem d_RU_begin_12 : decode b_RU_begin 12 = .ok (.aload_n 0, 1) := by decide +kernel
theorem d_RU_begin_13 : decode b_RU_begin 13 = .ok (.getfield 15, 3) := by decide +kernel
theorem d_RU_begin_16 : decode b_RU_begin 16 = .ok (.aload_n 0, 1) := by decide +kernel
theorem d_RU_begin_17 : decode b_RU_begin 17 = .ok (.getfield 9, 3) := by decide +kernel
theorem d_RU_begin_20 : decode b_RU_begin 20 = .ok (.iload_n 1, 1) := by decide +kernel
theorem d_RU_begin_21 : decode b_RU_begin 21 = .ok (.iastore, 1) := by decide +kernel
theorem d_RU_begin_22 : decode b_RU_begin 22 = .ok (.aload_n 0, 1) := by decide +kernel
theorem d_RU_begin_23 : decode b_RU_begin 23 = .ok (.dup, 1) := by decide +kernel
theorem d_RU_begin_24 : decode b_RU_begin 24 = .ok (.getfield 9, 3) := by decide +kernel
theorem d_RU_begin_27 : decode b_RU_begin 27 = .ok (.iconst 1, 1) := by decide +kernel
theorem d_RU_begin_28 : decode b_RU_begin 28 = .ok (.iadd, 1) := by decide +kernel
theorem d_RU_begin_29 : decode b_RU_begin 29 = .ok (.putfield 9, 3) := by decide +kernel
theorem d_RU_begin_32 : decode b_RU_begin 32 = .ok (.return_, 1) := by decide +kernel
theorem d_WO_firstByte_0 : decode b_WO_firstByte 0 = .ok (.aload_n 0, 1) := by decide +kernel
theorem d_WO_firstByte_1 : decode b_WO_firstByte 1 = .ok (.getfield 15, 3) := by decide +kernel
theorem d_WO_firstByte_4 : decode b_WO_firstByte 4 = .ok (.aload_n 0, 1) := by decide +kernel
theorem d_WO_firstByte_5 : decode b_WO_firstByte 5 = .ok (.getfield 9, 3) := by decide +kernel
theorem d_WO_firstByte_8 : decode b_WO_firstByte 8 = .ok (.invokevirtual 28, 3) := by decide +kernel
theorem d_WO_firstByte_11 : decode b_WO_firstByte 11 = .ok (.if_icmp .ge 17, 3) := by decide +kernel
theorem d_WO_firstByte_14 : decode b_WO_firstByte 14 = .ok (.aload_n 0, 1) := by decide +kernel
theorem d_WO_firstByte_15 : decode b_WO_firstByte 15 = .ok (.getfield 9, 3) := by decide +kernel
theorem d_WO_firstByte_18 : decode b_WO_firstByte 18 = .ok (.aload_n 0, 1) := by decide +kernel
theorem d_WO_firstByte_19 : decode b_WO_firstByte 19 = .ok (.getfield 15, 3) := by decide +kernel
theorem d_WO_firstByte_22 : decode b_WO_firstByte 22 = .ok (.invokevirtual 34, 3) := by decide +kernel
theorem d_WO_firstByte_25 : decode b_WO_firstByte 25 = .ok (.goto 5, 3) := by decide +kernel
theorem d_WO_firstByte_28 : decode b_WO_firstByte 28 = .ok (.bipush 32, 2) := by decide +kernel
theorem d_WO_firstByte_30 : decode b_WO_firstByte 30 = .ok (.ireturn, 1) := by decide +kernel
theorem d_GR_isSlot_0 : decode b_GR_isSlot 0 = .ok (.iload_n 0, 1) := by decide +kernel
theorem d_GR_isSlot_1 : decode b_GR_isSlot 1 = .ok (.bipush 65, 2) := by decide +kernel
theorem d_GR_isSlot_3 : decode b_GR_isSlot 3 = .ok (.if_icmp .lt 13, 3) := by decide +kernel
theorem d_GR_isSlot_6 : decode b_GR_isSlot 6 = .ok (.iload_n 0, 1) := by decide +kernel
theorem d_GR_isSlot_7 : decode b_GR_isSlot 7 = .ok (.bipush 90, 2) := by decide +kernel
theorem d_GR_isSlot_9 : decode b_GR_isSlot 9 = .ok (.if_icmp .gt 7, 3) := by decide +kernel
theorem d_GR_isSlot_12 : decode b_GR_isSlot 12 = .ok (.iconst 1, 1) := by decide +kernel
theorem d_GR_isSlot_13 : decode b_GR_isSlot 13 = .ok (.goto 4, 3) := by decide +kernel
theorem d_GR_isSlot_16 : decode b_GR_isSlot 16 = .ok (.iconst 0, 1) := by decide +kernel
theorem d_GR_isSlot_17 : decode b_GR_isSlot 17 = .ok (.ireturn, 1) := by decide +kernel
theorem d_WO_asNumber_0 : decode b_WO_asNumber 0 = .ok (.aload_n 0, 1) := by decide +kernel
theorem d_WO_asNumber_1 : decode b_WO_asNumber 1 = .ok (.getfield 19, 3) := by decide +kernel
theorem d_WO_asNumber_4 : decode b_WO_asNumber 4 = .ok (.aload_n 0, 1) := by decide +kernel
theorem d_WO_asNumber_5 : decode b_WO_asNumber 5 = .ok (.getfield 15, 3) := by decide +kernel
theorem d_WO_asNumber_8 : decode b_WO_asNumber 8 = .ok (.isub, 1) := by decide +kernel
theorem d_WO_asNumber_9 : decode b_WO_asNumber 9 = .ok (.istore_n 1, 1) := by decide +kernel
theorem d_WO_asNumber_10 : decode b_WO_asNumber 10 = .ok (.iload_n 1, 1) := by decide +kernel
theorem d_WO_asNumber_11 : decode b_WO_asNumber 11 = .ok (.iconst 1, 1) := by decide +kernel
theorem d_WO_asNumber_12 : decode b_WO_asNumber 12 = .ok (.if_icmp .lt 23, 3) := by decide +kernel
theorem d_WO_asNumber_15 : decode b_WO_asNumber 15 = .ok (.iload_n 1, 1) := by decide +kernel
theorem d_WO_asNumber_16 : decode b_WO_asNumber 16 = .ok (.bipush 9, 2) := by decide +kernel
theorem d_WO_asNumber_18 : decode b_WO_asNumber 18 = .ok (.if_icmp .gt 17, 3) := by decide +kernel
theorem d_WO_asNumber_21 : decode b_WO_asNumber 21 = .ok (.iload_n 1, 1) := by decide +kernel
theorem d_WO_asNumber_22 : decode b_WO_asNumber 22 = .ok (.iconst 1, 1) := by decide +kernel
theorem d_WO_asNumber_23 : decode b_WO_asNumber 23 = .ok (.if_icmp .le 14, 3) := by decide +kernel
theorem d_WO_asNumber_26 : decode b_WO_asNumber 26 = .ok (.aload_n 0, 1) := by decide +kernel
theorem d_WO_asNumber_27 : decode b_WO_asNumber 27 = .ok (.invokevirtual 42, 3) := by decide +kernel
theorem d_WO_asNumber_30 : decode b_WO_asNumber 30 = .ok (.bipush 48, 2) := by decide +kernel
theorem d_WO_asNumber_32 : decode b_WO_asNumber 32 = .ok (.if_icmp .ne 5, 3) := by decide +kernel
theorem d_WO_asNumber_35 : decode b_WO_asNumber 35 = .ok (.iconst (-1), 1) := by decide +kernel
theorem d_WO_asNumber_36 : decode b_WO_asNumber 36 = .ok (.ireturn, 1) := by decide +kernel
theorem d_WO_asNumber_37 : decode b_WO_asNumber 37 = .ok (.iconst 0, 1) := by decide +kernel
theorem d_WO_asNumber_38 : decode b_WO_asNumber 38 = .ok (.istore_n 2, 1) := by decide +kernel
theorem d_WO_asNumber_39 : decode b_WO_asNumber 39 = .ok (.aload_n 0, 1) := by decide +kernel
theorem d_WO_asNumber_40 : decode b_WO_asNumber 40 = .ok (.getfield 15, 3) := by decide +kernel
theorem d_WO_asNumber_43 : decode b_WO_asNumber 43 = .ok (.istore_n 3, 1) := by decide +kernel
theorem d_WO_asNumber_44 : decode b_WO_asNumber 44 = .ok (.iload_n 3, 1) := by decide +kernel
theorem d_WO_asNumber_45 : decode b_WO_asNumber 45 = .ok (.aload_n 0, 1) := by decide +kernel
theorem d_WO_asNumber_46 : decode b_WO_asNumber 46 = .ok (.getfield 19, 3) := by decide +kernel
theorem d_WO_asNumber_49 : decode b_WO_asNumber 49 = .ok (.if_icmp .ge 46, 3) := by decide +kernel
theorem d_WO_asNumber_52 : decode b_WO_asNumber 52 = .ok (.aload_n 0, 1) := by decide +kernel
theorem d_WO_asNumber_53 : decode b_WO_asNumber 53 = .ok (.getfield 9, 3) := by decide +kernel
theorem d_WO_asNumber_56 : decode b_WO_asNumber 56 = .ok (.iload_n 3, 1) := by decide +kernel
theorem d_WO_asNumber_57 : decode b_WO_asNumber 57 = .ok (.invokevirtual 34, 3) := by decide +kernel
theorem d_WO_asNumber_60 : decode b_WO_asNumber 60 = .ok (.istore 4, 2) := by decide +kernel
theorem d_WO_asNumber_62 : decode b_WO_asNumber 62 = .ok (.iload 4, 2) := by decide +kernel
theorem d_WO_asNumber_64 : decode b_WO_asNumber 64 = .ok (.bipush 48, 2) := by decide +kernel
theorem d_WO_asNumber_66 : decode b_WO_asNumber 66 = .ok (.if_icmp .lt 10, 3) := by decide +kernel
theorem d_WO_asNumber_69 : decode b_WO_asNumber 69 = .ok (.iload 4, 2) := by decide +kernel
theorem d_WO_asNumber_71 : decode b_WO_asNumber 71 = .ok (.bipush 57, 2) := by decide +kernel
theorem d_WO_asNumber_73 : decode b_WO_asNumber 73 = .ok (.if_icmp .le 5, 3) := by decide +kernel
theorem d_WO_asNumber_76 : decode b_WO_asNumber 76 = .ok (.iconst (-1), 1) := by decide +kernel
theorem d_WO_asNumber_77 : decode b_WO_asNumber 77 = .ok (.ireturn, 1) := by decide +kernel
theorem d_WO_asNumber_78 : decode b_WO_asNumber 78 = .ok (.iload_n 2, 1) := by decide +kernel
theorem d_WO_asNumber_79 : decode b_WO_asNumber 79 = .ok (.bipush 10, 2) := by decide +kernel
theorem d_WO_asNumber_81 : decode b_WO_asNumber 81 = .ok (.imul, 1) := by decide +kernel
theorem d_WO_asNumber_82 : decode b_WO_asNumber 82 = .ok (.iload 4, 2) := by decide +kernel
theorem d_WO_asNumber_84 : decode b_WO_asNumber 84 = .ok (.bipush 48, 2) := by decide +kernel
theorem d_WO_asNumber_86 : decode b_WO_asNumber 86 = .ok (.isub, 1) := by decide +kernel
theorem d_WO_asNumber_87 : decode b_WO_asNumber 87 = .ok (.iadd, 1) := by decide +kernel
theorem d_WO_asNumber_88 : decode b_WO_asNumber 88 = .ok (.istore_n 2, 1) := by decide +kernel
theorem d_WO_asNumber_89 : decode b_WO_asNumber 89 = .ok (.iinc 3 1, 3) := by decide +kernel
theorem d_WO_asNumber_92 : decode b_WO_asNumber 92 = .ok (.goto (-48), 3) := by decide +kernel
theorem d_WO_asNumber_95 : decode b_WO_asNumber 95 = .ok (.iload_n 2, 1) := by decide +kernel
theorem d_WO_asNumber_96 : decode b_WO_asNumber 96 = .ok (.ireturn, 1) := by decide +kernel
theorem d_GR_isInRange_0 : decode b_GR_isInRange 0 = .ok (.iload_n 1, 1) := by decide +kernel
theorem d_GR_isInRange_1 : decode b_GR_isInRange 1 = .ok (.tableswitch 166 71 83 #[67, 132, 166, 166, 166, 116, 166, 148, 166, 100, 166, 166, 83], 67) := by decide +kernel
theorem d_GR_isInRange_68 : decode b_GR_isInRange 68 = .ok (.iload_n 0, 1) := by decide +kernel
theorem d_GR_isInRange_69 : decode b_GR_isInRange 69 = .ok (.ifCond .lt 13, 3) := by decide +kernel
theorem d_GR_isInRange_72 : decode b_GR_isInRange 72 = .ok (.iload_n 0, 1) := by decide +kernel
theorem d_GR_isInRange_73 : decode b_GR_isInRange 73 = .ok (.bipush 9, 2) := by decide +kernel
theorem d_GR_isInRange_75 : decode b_GR_isInRange 75 = .ok (.if_icmp .gt 7, 3) := by decide +kernel
theorem d_GR_isInRange_78 : decode b_GR_isInRange 78 = .ok (.iconst 1, 1) := by decide +kernel
theorem d_GR_isInRange_79 : decode b_GR_isInRange 79 = .ok (.goto 4, 3) := by decide +kernel
theorem d_GR_isInRange_82 : decode b_GR_isInRange 82 = .ok (.iconst 0, 1) := by decide +kernel
theorem d_GR_isInRange_83 : decode b_GR_isInRange 83 = .ok (.ireturn, 1) := by decide +kernel
theorem d_GR_isInRange_84 : decode b_GR_isInRange 84 = .ok (.iload_n 0, 1) := by decide +kernel
theorem d_GR_isInRange_85 : decode b_GR_isInRange 85 = .ok (.ifCond .lt 14, 3) := by decide +kernel
theorem d_GR_isInRange_88 : decode b_GR_isInRange 88 = .ok (.iload_n 0, 1) := by decide +kernel
theorem d_GR_isInRange_89 : decode b_GR_isInRange 89 = .ok (.sipush 10000, 3) := by decide +kernel
theorem d_GR_isInRange_92 : decode b_GR_isInRange 92 = .ok (.if_icmp .gt 7, 3) := by decide +kernel
theorem d_GR_isInRange_95 : decode b_GR_isInRange 95 = .ok (.iconst 1, 1) := by decide +kernel
theorem d_GR_isInRange_96 : decode b_GR_isInRange 96 = .ok (.goto 4, 3) := by decide +kernel
theorem d_GR_isInRange_99 : decode b_GR_isInRange 99 = .ok (.iconst 0, 1) := by decide +kernel
theorem d_GR_isInRange_100 : decode b_GR_isInRange 100 = .ok (.ireturn, 1) := by decide +kernel
theorem d_GR_isInRange_101 : decode b_GR_isInRange 101 = .ok (.iload_n 0, 1) := by decide +kernel
theorem d_GR_isInRange_102 : decode b_GR_isInRange 102 = .ok (.ifCond .lt 13, 3) := by decide +kernel
theorem d_GR_isInRange_105 : decode b_GR_isInRange 105 = .ok (.iload_n 0, 1) := by decide +kernel
theorem d_GR_isInRange_106 : decode b_GR_isInRange 106 = .ok (.ldc 116, 2) := by decide +kernel
theorem d_GR_isInRange_108 : decode b_GR_isInRange 108 = .ok (.if_icmp .gt 7, 3) := by decide +kernel
theorem d_GR_isInRange_111 : decode b_GR_isInRange 111 = .ok (.iconst 1, 1) := by decide +kernel
theorem d_GR_isInRange_112 : decode b_GR_isInRange 112 = .ok (.goto 4, 3) := by decide +kernel
theorem d_GR_isInRange_115 : decode b_GR_isInRange 115 = .ok (.iconst 0, 1) := by decide +kernel
theorem d_GR_isInRange_116 : decode b_GR_isInRange 116 = .ok (.ireturn, 1) := by decide +kernel
theorem d_GR_isInRange_117 : decode b_GR_isInRange 117 = .ok (.iload_n 0, 1) := by decide +kernel
theorem d_GR_isInRange_118 : decode b_GR_isInRange 118 = .ok (.ifCond .lt 13, 3) := by decide +kernel
theorem d_GR_isInRange_121 : decode b_GR_isInRange 121 = .ok (.iload_n 0, 1) := by decide +kernel
theorem d_GR_isInRange_122 : decode b_GR_isInRange 122 = .ok (.ldc 117, 2) := by decide +kernel
theorem d_GR_isInRange_124 : decode b_GR_isInRange 124 = .ok (.if_icmp .gt 7, 3) := by decide +kernel
theorem d_GR_isInRange_127 : decode b_GR_isInRange 127 = .ok (.iconst 1, 1) := by decide +kernel
theorem d_GR_isInRange_128 : decode b_GR_isInRange 128 = .ok (.goto 4, 3) := by decide +kernel
theorem d_GR_isInRange_131 : decode b_GR_isInRange 131 = .ok (.iconst 0, 1) := by decide +kernel
theorem d_GR_isInRange_132 : decode b_GR_isInRange 132 = .ok (.ireturn, 1) := by decide +kernel
theorem d_GR_isInRange_133 : decode b_GR_isInRange 133 = .ok (.iload_n 0, 1) := by decide +kernel
theorem d_GR_isInRange_134 : decode b_GR_isInRange 134 = .ok (.ifCond .lt 13, 3) := by decide +kernel
theorem d_GR_isInRange_137 : decode b_GR_isInRange 137 = .ok (.iload_n 0, 1) := by decide +kernel
theorem d_GR_isInRange_138 : decode b_GR_isInRange 138 = .ok (.bipush 100, 2) := by decide +kernel
theorem d_GR_isInRange_140 : decode b_GR_isInRange 140 = .ok (.if_icmp .gt 7, 3) := by decide +kernel
theorem d_GR_isInRange_143 : decode b_GR_isInRange 143 = .ok (.iconst 1, 1) := by decide +kernel
theorem d_GR_isInRange_144 : decode b_GR_isInRange 144 = .ok (.goto 4, 3) := by decide +kernel
theorem d_GR_isInRange_147 : decode b_GR_isInRange 147 = .ok (.iconst 0, 1) := by decide +kernel
theorem d_GR_isInRange_148 : decode b_GR_isInRange 148 = .ok (.ireturn, 1) := by decide +kernel
theorem d_GR_isInRange_149 : decode b_GR_isInRange 149 = .ok (.iload_n 0, 1) := by decide +kernel
theorem d_GR_isInRange_150 : decode b_GR_isInRange 150 = .ok (.iconst 1, 1) := by decide +kernel
theorem d_GR_isInRange_151 : decode b_GR_isInRange 151 = .ok (.if_icmp .lt 14, 3) := by decide +kernel
theorem d_GR_isInRange_154 : decode b_GR_isInRange 154 = .ok (.iload_n 0, 1) := by decide +kernel
theorem d_GR_isInRange_155 : decode b_GR_isInRange 155 = .ok (.sipush 1000, 3) := by decide +kernel
theorem d_GR_isInRange_158 : decode b_GR_isInRange 158 = .ok (.if_icmp .gt 7, 3) := by decide +kernel
theorem d_GR_isInRange_161 : decode b_GR_isInRange 161 = .ok (.iconst 1, 1) := by decide +kernel
theorem d_GR_isInRange_162 : decode b_GR_isInRange 162 = .ok (.goto 4, 3) := by decide +kernel
theorem d_GR_isInRange_165 : decode b_GR_isInRange 165 = .ok (.iconst 0, 1) := by decide +kernel
theorem d_GR_isInRange_166 : decode b_GR_isInRange 166 = .ok (.ireturn, 1) := by decide +kernel
theorem d_GR_isInRange_167 : decode b_GR_isInRange 167 = .ok (.iconst 0, 1) := by decide +kernel
theorem d_GR_isInRange_168 : decode b_GR_isInRange 168 = .ok (.ireturn, 1) := by decide +kernel
theorem d_RU_put_0 : decode b_RU_put 0 = .ok (.aload_n 0, 1) := by decide +kernel
theorem d_RU_put_1 : decode b_RU_put 1 = .ok (.getfield 9, 3) := by decide +kernel
theorem d_RU_put_4 : decode b_RU_put 4 = .ok (.iconst 1, 1) := by decide +kernel
theorem d_RU_put_5 : decode b_RU_put 5 = .ok (.isub, 1) := by decide +kernel
theorem d_RU_put_6 : decode b_RU_put 6 = .ok (.istore_n 3, 1) := by decide +kernel
theorem d_RU_put_7 : decode b_RU_put 7 = .ok (.iload_n 3, 1) := by decide +kernel
theorem d_RU_put_8 : decode b_RU_put 8 = .ok (.ifCond .lt 12, 3) := by decide +kernel
theorem d_RU_put_11 : decode b_RU_put 11 = .ok (.iload_n 1, 1) := by decide +kernel
theorem d_RU_put_12 : decode b_RU_put 12 = .ok (.ifCond .lt 8, 3) := by decide +kernel
theorem d_RU_put_15 : decode b_RU_put 15 = .ok (.iload_n 1, 1) := by decide +kernel
theorem d_RU_put_16 : decode b_RU_put 16 = .ok (.iconst 4, 1) := by decide +kernel
theorem d_RU_put_17 : decode b_RU_put 17 = .ok (.if_icmp .lt 5, 3) := by decide +kernel
theorem d_RU_put_20 : decode b_RU_put 20 = .ok (.iconst 0, 1) := by decide +kernel
theorem d_RU_put_21 : decode b_RU_put 21 = .ok (.ireturn, 1) := by decide +kernel
theorem d_RU_put_22 : decode b_RU_put 22 = .ok (.aload_n 0, 1) := by decide +kernel
theorem d_RU_put_23 : decode b_RU_put 23 = .ok (.getfield 15, 3) := by decide +kernel
theorem d_RU_put_26 : decode b_RU_put 26 = .ok (.iload_n 3, 1) := by decide +kernel
theorem d_RU_put_27 : decode b_RU_put 27 = .ok (.iaload, 1) := by decide +kernel
theorem d_RU_put_28 : decode b_RU_put 28 = .ok (.ifCond .ne 20, 3) := by decide +kernel
theorem d_RU_put_31 : decode b_RU_put 31 = .ok (.iload_n 1, 1) := by decide +kernel
theorem d_RU_put_32 : decode b_RU_put 32 = .ok (.iconst 2, 1) := by decide +kernel
theorem d_RU_put_33 : decode b_RU_put 33 = .ok (.if_icmp .ne 15, 3) := by decide +kernel
theorem d_RU_put_36 : decode b_RU_put 36 = .ok (.iload_n 2, 1) := by decide +kernel
theorem d_RU_put_37 : decode b_RU_put 37 = .ok (.aload_n 0, 1) := by decide +kernel
theorem d_RU_put_38 : decode b_RU_put 38 = .ok (.iload_n 3, 1) := by decide +kernel
theorem d_RU_put_39 : decode b_RU_put 39 = .ok (.iconst 1, 1) := by decide +kernel
theorem d_RU_put_40 : decode b_RU_put 40 = .ok (.invokevirtual 26, 3) := by decide +kernel
theorem d_RU_put_43 : decode b_RU_put 43 = .ok (.if_icmp .gt 5, 3) := by decide +kernel
theorem d_RU_put_46 : decode b_RU_put 46 = .ok (.iconst 0, 1) := by decide +kernel
theorem d_RU_put_47 : decode b_RU_put 47 = .ok (.ireturn, 1) := by decide +kernel
theorem d_RU_put_48 : decode b_RU_put 48 = .ok (.aload_n 0, 1) := by decide +kernel
theorem d_RU_put_49 : decode b_RU_put 49 = .ok (.getfield 19, 3) := by decide +kernel
theorem d_RU_put_52 : decode b_RU_put 52 = .ok (.iload_n 3, 1) := by decide +kernel
theorem d_RU_put_53 : decode b_RU_put 53 = .ok (.iconst 4, 1) := by decide +kernel
theorem d_RU_put_54 : decode b_RU_put 54 = .ok (.imul, 1) := by decide +kernel
theorem d_RU_put_55 : decode b_RU_put 55 = .ok (.iload_n 1, 1) := by decide +kernel
theorem d_RU_put_56 : decode b_RU_put 56 = .ok (.iadd, 1) := by decide +kernel
theorem d_RU_put_57 : decode b_RU_put 57 = .ok (.iload_n 2, 1) := by decide +kernel
theorem d_RU_put_58 : decode b_RU_put 58 = .ok (.iastore, 1) := by decide +kernel
theorem d_RU_put_59 : decode b_RU_put 59 = .ok (.iconst 1, 1) := by decide +kernel
theorem d_RU_put_60 : decode b_RU_put 60 = .ok (.ireturn, 1) := by decide +kernel
theorem d_RU_number_0 : decode b_RU_number 0 = .ok (.iload_n 1, 1) := by decide +kernel
theorem d_RU_number_1 : decode b_RU_number 1 = .ok (.ifCond .lt 20, 3) := by decide +kernel
theorem d_RU_number_4 : decode b_RU_number 4 = .ok (.iload_n 1, 1) := by decide +kernel
theorem d_RU_number_5 : decode b_RU_number 5 = .ok (.aload_n 0, 1) := by decide +kernel
theorem d_RU_number_6 : decode b_RU_number 6 = .ok (.getfield 9, 3) := by decide +kernel
theorem d_RU_number_9 : decode b_RU_number 9 = .ok (.if_icmp .ge 12, 3) := by decide +kernel
theorem d_RU_number_12 : decode b_RU_number 12 = .ok (.iload_n 2, 1) := by decide +kernel
theorem d_RU_number_13 : decode b_RU_number 13 = .ok (.ifCond .lt 8, 3) := by decide +kernel
theorem d_RU_number_16 : decode b_RU_number 16 = .ok (.iload_n 2, 1) := by decide +kernel
theorem d_RU_number_17 : decode b_RU_number 17 = .ok (.iconst 4, 1) := by decide +kernel
theorem d_RU_number_18 : decode b_RU_number 18 = .ok (.if_icmp .lt 5, 3) := by decide +kernel
theorem d_RU_number_21 : decode b_RU_number 21 = .ok (.iconst (-1), 1) := by decide +kernel
theorem d_RU_number_22 : decode b_RU_number 22 = .ok (.ireturn, 1) := by decide +kernel
theorem d_RU_number_23 : decode b_RU_number 23 = .ok (.aload_n 0, 1) := by decide +kernel
theorem d_RU_number_24 : decode b_RU_number 24 = .ok (.getfield 19, 3) := by decide +kernel
theorem d_RU_number_27 : decode b_RU_number 27 = .ok (.iload_n 1, 1) := by decide +kernel
theorem d_RU_number_28 : decode b_RU_number 28 = .ok (.iconst 4, 1) := by decide +kernel
theorem d_RU_number_29 : decode b_RU_number 29 = .ok (.imul, 1) := by decide +kernel
theorem d_RU_number_30 : decode b_RU_number 30 = .ok (.iload_n 2, 1) := by decide +kernel
theorem d_RU_number_31 : decode b_RU_number 31 = .ok (.iadd, 1) := by decide +kernel
theorem d_RU_number_32 : decode b_RU_number 32 = .ok (.iaload, 1) := by decide +kernel
theorem d_RU_number_33 : decode b_RU_number 33 = .ok (.ireturn, 1) := by decide +kernel
theorem d_GR_asText_0 : decode b_GR_asText 0 = .ok (.new 69, 3) := by decide +kernel
theorem d_GR_asText_3 : decode b_GR_asText 3 = .ok (.dup, 1) := by decide +kernel
theorem d_GR_asText_4 : decode b_GR_asText 4 = .ok (.invokespecial 71, 3) := by decide +kernel
theorem d_GR_asText_7 : decode b_GR_asText 7 = .ok (.astore_n 1, 1) := by decide +kernel
theorem d_GR_asText_8 : decode b_GR_asText 8 = .ok (.iconst 0, 1) := by decide +kernel
theorem d_GR_asText_9 : decode b_GR_asText 9 = .ok (.istore_n 2, 1) := by decide +kernel
theorem d_GR_asText_10 : decode b_GR_asText 10 = .ok (.iload_n 2, 1) := by decide +kernel
theorem d_GR_asText_11 : decode b_GR_asText 11 = .ok (.aload_n 0, 1) := by decide +kernel
theorem d_GR_asText_12 : decode b_GR_asText 12 = .ok (.getfield 72, 3) := by decide +kernel
theorem d_GR_asText_15 : decode b_GR_asText 15 = .ok (.if_icmp .ge 87, 3) := by decide +kernel
theorem d_GR_asText_18 : decode b_GR_asText 18 = .ok (.aload_n 0, 1) := by decide +kernel
theorem d_GR_asText_19 : decode b_GR_asText 19 = .ok (.iload_n 2, 1) := by decide +kernel
theorem d_GR_asText_20 : decode b_GR_asText 20 = .ok (.invokevirtual 76, 3) := by decide +kernel
theorem d_GR_asText_23 : decode b_GR_asText 23 = .ok (.invokestatic 35, 3) := by decide +kernel
theorem d_GR_asText_26 : decode b_GR_asText 26 = .ok (.astore_n 3, 1) := by decide +kernel
theorem d_GR_asText_27 : decode b_GR_asText 27 = .ok (.iconst 0, 1) := by decide +kernel
theorem d_GR_asText_28 : decode b_GR_asText 28 = .ok (.istore 4, 2) := by decide +kernel
theorem d_GR_asText_30 : decode b_GR_asText 30 = .ok (.iconst 0, 1) := by decide +kernel
theorem d_GR_asText_31 : decode b_GR_asText 31 = .ok (.istore 5, 2) := by decide +kernel
theorem d_GR_asText_33 : decode b_GR_asText 33 = .ok (.iload 5, 2) := by decide +kernel
theorem d_GR_asText_35 : decode b_GR_asText 35 = .ok (.aload_n 3, 1) := by decide +kernel
theorem d_GR_asText_36 : decode b_GR_asText 36 = .ok (.invokevirtual 80, 3) := by decide +kernel
theorem d_GR_asText_39 : decode b_GR_asText 39 = .ok (.if_icmp .ge 50, 3) := by decide +kernel
theorem d_GR_asText_42 : decode b_GR_asText 42 = .ok (.aload_n 3, 1) := by decide +kernel
theorem d_GR_asText_43 : decode b_GR_asText 43 = .ok (.iload 5, 2) := by decide +kernel
theorem d_GR_asText_45 : decode b_GR_asText 45 = .ok (.invokevirtual 85, 3) := by decide +kernel
theorem d_GR_asText_48 : decode b_GR_asText 48 = .ok (.invokestatic 46, 3) := by decide +kernel
theorem d_GR_asText_51 : decode b_GR_asText 51 = .ok (.ifCond .eq 21, 3) := by decide +kernel
theorem d_GR_asText_54 : decode b_GR_asText 54 = .ok (.aload_n 1, 1) := by decide +kernel
theorem d_GR_asText_55 : decode b_GR_asText 55 = .ok (.aload_n 0, 1) := by decide +kernel
theorem d_GR_asText_56 : decode b_GR_asText 56 = .ok (.iload_n 2, 1) := by decide +kernel
theorem d_GR_asText_57 : decode b_GR_asText 57 = .ok (.iload 4, 2) := by decide +kernel
theorem d_GR_asText_59 : decode b_GR_asText 59 = .ok (.invokevirtual 89, 3) := by decide +kernel
theorem d_GR_asText_62 : decode b_GR_asText 62 = .ok (.invokevirtual 93, 3) := by decide +kernel
theorem d_GR_asText_65 : decode b_GR_asText 65 = .ok (.pop, 1) := by decide +kernel
theorem d_GR_asText_66 : decode b_GR_asText 66 = .ok (.iinc 4 1, 3) := by decide +kernel
theorem d_GR_asText_69 : decode b_GR_asText 69 = .ok (.goto 14, 3) := by decide +kernel
theorem d_GR_asText_72 : decode b_GR_asText 72 = .ok (.aload_n 1, 1) := by decide +kernel
theorem d_GR_asText_73 : decode b_GR_asText 73 = .ok (.aload_n 3, 1) := by decide +kernel
theorem d_GR_asText_74 : decode b_GR_asText 74 = .ok (.iload 5, 2) := by decide +kernel
theorem d_GR_asText_76 : decode b_GR_asText 76 = .ok (.invokevirtual 85, 3) := by decide +kernel
theorem d_GR_asText_79 : decode b_GR_asText 79 = .ok (.invokevirtual 97, 3) := by decide +kernel
theorem d_GR_asText_82 : decode b_GR_asText 82 = .ok (.pop, 1) := by decide +kernel
theorem d_GR_asText_83 : decode b_GR_asText 83 = .ok (.iinc 5 1, 3) := by decide +kernel
theorem d_GR_asText_86 : decode b_GR_asText 86 = .ok (.goto (-53), 3) := by decide +kernel
theorem d_GR_asText_89 : decode b_GR_asText 89 = .ok (.aload_n 1, 1) := by decide +kernel
theorem d_GR_asText_90 : decode b_GR_asText 90 = .ok (.bipush 10, 2) := by decide +kernel
theorem d_GR_asText_92 : decode b_GR_asText 92 = .ok (.invokevirtual 97, 3) := by decide +kernel
theorem d_GR_asText_95 : decode b_GR_asText 95 = .ok (.pop, 1) := by decide +kernel
theorem d_GR_asText_96 : decode b_GR_asText 96 = .ok (.iinc 2 1, 3) := by decide +kernel
theorem d_GR_asText_99 : decode b_GR_asText 99 = .ok (.goto (-89), 3) := by decide +kernel
theorem d_GR_asText_102 : decode b_GR_asText 102 = .ok (.aload_n 1, 1) := by decide +kernel
theorem d_GR_asText_103 : decode b_GR_asText 103 = .ok (.invokevirtual 100, 3) := by decide +kernel
theorem d_GR_asText_106 : decode b_GR_asText 106 = .ok (.areturn, 1) := by decide +kernel
theorem d_RU_kind_0 : decode b_RU_kind 0 = .ok (.iload_n 1, 1) := by decide +kernel
theorem d_RU_kind_1 : decode b_RU_kind 1 = .ok (.ifCond .lt 20, 3) := by decide +kernel
theorem d_RU_kind_4 : decode b_RU_kind 4 = .ok (.iload_n 1, 1) := by decide +kernel
theorem d_RU_kind_5 : decode b_RU_kind 5 = .ok (.aload_n 0, 1) := by decide +kernel
theorem d_RU_kind_6 : decode b_RU_kind 6 = .ok (.getfield 9, 3) := by decide +kernel
theorem d_RU_kind_9 : decode b_RU_kind 9 = .ok (.if_icmp .ge 12, 3) := by decide +kernel
theorem d_RU_kind_12 : decode b_RU_kind 12 = .ok (.aload_n 0, 1) := by decide +kernel
theorem d_RU_kind_13 : decode b_RU_kind 13 = .ok (.getfield 15, 3) := by decide +kernel
theorem d_RU_kind_16 : decode b_RU_kind 16 = .ok (.iload_n 1, 1) := by decide +kernel
theorem d_RU_kind_17 : decode b_RU_kind 17 = .ok (.iaload, 1) := by decide +kernel
theorem d_RU_kind_18 : decode b_RU_kind 18 = .ok (.goto 4, 3) := by decide +kernel
theorem d_RU_kind_21 : decode b_RU_kind 21 = .ok (.iconst (-1), 1) := by decide +kernel
theorem d_RU_kind_22 : decode b_RU_kind 22 = .ok (.ireturn, 1) := by decide +kernel
theorem d_DR_edition_0 : decode b_DR_edition 0 = .ok (.lload_n 1, 1) := by decide +kernel
theorem d_DR_edition_1 : decode b_DR_edition 1 = .ok (.invokestatic 102, 3) := by decide +kernel
theorem d_DR_edition_4 : decode b_DR_edition 4 = .ok (.ifCond .ne 5, 3) := by decide +kernel
theorem d_DR_edition_7 : decode b_DR_edition 7 = .ok (.iconst (-1), 1) := by decide +kernel
theorem d_DR_edition_8 : decode b_DR_edition 8 = .ok (.ireturn, 1) := by decide +kernel
theorem d_DR_edition_9 : decode b_DR_edition 9 = .ok (.aload_n 0, 1) := by decide +kernel
theorem d_DR_edition_10 : decode b_DR_edition 10 = .ok (.getfield 19, 3) := by decide +kernel
theorem d_DR_edition_13 : decode b_DR_edition 13 = .ok (.aload_n 0, 1) := by decide +kernel
theorem d_DR_edition_14 : decode b_DR_edition 14 = .ok (.getfield 43, 3) := by decide +kernel
theorem d_DR_edition_17 : decode b_DR_edition 17 = .ok (.lload_n 1, 1) := by decide +kernel
theorem d_DR_edition_18 : decode b_DR_edition 18 = .ok (.l2i, 1) := by decide +kernel
theorem d_DR_edition_19 : decode b_DR_edition 19 = .ok (.invokevirtual 106, 3) := by decide +kernel
theorem d_DR_edition_22 : decode b_DR_edition 22 = .ok (.ireturn, 1) := by decide +kernel
theorem d_DR_isDay_0 : decode b_DR_isDay 0 = .ok (.lload_n 0, 1) := by decide +kernel
theorem d_DR_isDay_1 : decode b_DR_isDay 1 = .ok (.lconst 0, 1) := by decide +kernel
theorem d_DR_isDay_2 : decode b_DR_isDay 2 = .ok (.lcmp, 1) := by decide +kernel
theorem d_DR_isDay_3 : decode b_DR_isDay 3 = .ok (.ifCond .lt 15, 3) := by decide +kernel
theorem d_DR_isDay_6 : decode b_DR_isDay 6 = .ok (.lload_n 0, 1) := by decide +kernel
theorem d_DR_isDay_7 : decode b_DR_isDay 7 = .ok (.ldc2_w 245, 3) := by decide +kernel
theorem d_DR_isDay_10 : decode b_DR_isDay 10 = .ok (.lcmp, 1) := by decide +kernel
theorem d_DR_isDay_11 : decode b_DR_isDay 11 = .ok (.ifCond .gt 7, 3) := by decide +kernel
theorem d_DR_isDay_14 : decode b_DR_isDay 14 = .ok (.iconst 1, 1) := by decide +kernel
theorem d_DR_isDay_15 : decode b_DR_isDay 15 = .ok (.goto 4, 3) := by decide +kernel
theorem d_DR_isDay_18 : decode b_DR_isDay 18 = .ok (.iconst 0, 1) := by decide +kernel
theorem d_DR_isDay_19 : decode b_DR_isDay 19 = .ok (.ireturn, 1) := by decide +kernel
theorem d_ED_add_0 : decode b_ED_add 0 = .ok (.aload_n 0, 1) := by decide +kernel
theorem d_ED_add_1 : decode b_ED_add 1 = .ok (.getfield 9, 3) := by decide +kernel
theorem d_ED_add_4 : decode b_ED_add 4 = .ok (.bipush 10, 2) := by decide +kernel
theorem d_ED_add_6 : decode b_ED_add 6 = .ok (.if_icmp .lt 6, 3) := by decide +kernel
theorem d_ED_add_9 : decode b_ED_add 9 = .ok (.bipush (-2), 2) := by decide +kernel
theorem d_ED_add_11 : decode b_ED_add 11 = .ok (.ireturn, 1) := by decide +kernel
theorem d_ED_add_12 : decode b_ED_add 12 = .ok (.aload_n 0, 1) := by decide +kernel
theorem d_ED_add_13 : decode b_ED_add 13 = .ok (.getfield 17, 3) := by decide +kernel
theorem d_ED_add_16 : decode b_ED_add 16 = .ok (.aload_n 0, 1) := by decide +kernel
theorem d_ED_add_17 : decode b_ED_add 17 = .ok (.getfield 9, 3) := by decide +kernel
theorem d_ED_add_20 : decode b_ED_add 20 = .ok (.aload_n 1, 1) := by decide +kernel
theorem d_ED_add_21 : decode b_ED_add 21 = .ok (.aastore, 1) := by decide +kernel
theorem d_ED_add_22 : decode b_ED_add 22 = .ok (.aload_n 0, 1) := by decide +kernel
theorem d_ED_add_23 : decode b_ED_add 23 = .ok (.getfield 21, 3) := by decide +kernel
theorem d_ED_add_26 : decode b_ED_add 26 = .ok (.aload_n 0, 1) := by decide +kernel
theorem d_ED_add_27 : decode b_ED_add 27 = .ok (.getfield 9, 3) := by decide +kernel
theorem d_ED_add_30 : decode b_ED_add 30 = .ok (.iload_n 2, 1) := by decide +kernel
theorem d_ED_add_31 : decode b_ED_add 31 = .ok (.iastore, 1) := by decide +kernel
theorem d_ED_add_32 : decode b_ED_add 32 = .ok (.aload_n 0, 1) := by decide +kernel
theorem d_ED_add_33 : decode b_ED_add 33 = .ok (.dup, 1) := by decide +kernel
theorem d_ED_add_34 : decode b_ED_add 34 = .ok (.getfield 9, 3) := by decide +kernel
theorem d_ED_add_37 : decode b_ED_add 37 = .ok (.iconst 1, 1) := by decide +kernel
theorem d_ED_add_38 : decode b_ED_add 38 = .ok (.iadd, 1) := by decide +kernel
theorem d_ED_add_39 : decode b_ED_add 39 = .ok (.putfield 9, 3) := by decide +kernel
theorem d_ED_add_42 : decode b_ED_add 42 = .ok (.aload_n 0, 1) := by decide +kernel
theorem d_ED_add_43 : decode b_ED_add 43 = .ok (.getfield 9, 3) := by decide +kernel
theorem d_ED_add_46 : decode b_ED_add 46 = .ok (.iconst 1, 1) := by decide +kernel
theorem d_ED_add_47 : decode b_ED_add 47 = .ok (.isub, 1) := by decide +kernel
theorem d_ED_add_48 : decode b_ED_add 48 = .ok (.ireturn, 1) := by decide +kernel
theorem d_DR_fact_0 : decode b_DR_fact 0 = .ok (.iload_n 1, 1) := by decide +kernel
theorem d_DR_fact_1 : decode b_DR_fact 1 = .ok (.invokestatic 110, 3) := by decide +kernel
theorem d_DR_fact_4 : decode b_DR_fact 4 = .ok (.ifCond .eq 17, 3) := by decide +kernel
theorem d_DR_fact_7 : decode b_DR_fact 7 = .ok (.iload_n 2, 1) := by decide +kernel
theorem d_DR_fact_8 : decode b_DR_fact 8 = .ok (.invokestatic 114, 3) := by decide +kernel
theorem d_DR_fact_11 : decode b_DR_fact 11 = .ok (.ifCond .eq 10, 3) := by decide +kernel
theorem d_DR_fact_14 : decode b_DR_fact 14 = .ok (.lload_n 3, 1) := by decide +kernel
theorem d_DR_fact_15 : decode b_DR_fact 15 = .ok (.invokestatic 102, 3) := by decide +kernel
theorem d_DR_fact_18 : decode b_DR_fact 18 = .ok (.ifCond .ne 5, 3) := by decide +kernel
theorem d_DR_fact_21 : decode b_DR_fact 21 = .ok (.iconst 0, 1) := by decide +kernel
theorem d_DR_fact_22 : decode b_DR_fact 22 = .ok (.ireturn, 1) := by decide +kernel
theorem d_DR_fact_23 : decode b_DR_fact 23 = .ok (.lload 7, 2) := by decide +kernel
theorem d_DR_fact_25 : decode b_DR_fact 25 = .ok (.lconst 1, 1) := by decide +kernel
theorem d_DR_fact_26 : decode b_DR_fact 26 = .ok (.lcmp, 1) := by decide +kernel
theorem d_DR_fact_27 : decode b_DR_fact 27 = .ok (.ifCond .lt 22, 3) := by decide +kernel
theorem d_DR_fact_30 : decode b_DR_fact 30 = .ok (.lload 7, 2) := by decide +kernel
theorem d_DR_fact_32 : decode b_DR_fact 32 = .ok (.ldc2_w 117, 3) := by decide +kernel
theorem d_DR_fact_35 : decode b_DR_fact 35 = .ok (.lcmp, 1) := by decide +kernel
theorem d_DR_fact_36 : decode b_DR_fact 36 = .ok (.ifCond .gt 13, 3) := by decide +kernel
theorem d_DR_fact_39 : decode b_DR_fact 39 = .ok (.lload 5, 2) := by decide +kernel
theorem d_DR_fact_41 : decode b_DR_fact 41 = .ok (.lload 7, 2) := by decide +kernel
theorem d_DR_fact_43 : decode b_DR_fact 43 = .ok (.lrem, 1) := by decide +kernel
theorem d_DR_fact_44 : decode b_DR_fact 44 = .ok (.lconst 0, 1) := by decide +kernel
theorem d_DR_fact_45 : decode b_DR_fact 45 = .ok (.lcmp, 1) := by decide +kernel
theorem d_DR_fact_46 : decode b_DR_fact 46 = .ok (.ifCond .eq 5, 3) := by decide +kernel
theorem d_DR_fact_49 : decode b_DR_fact 49 = .ok (.iconst 0, 1) := by decide +kernel
theorem d_DR_fact_50 : decode b_DR_fact 50 = .ok (.ireturn, 1) := by decide +kernel
theorem d_DR_fact_51 : decode b_DR_fact 51 = .ok (.lload 5, 2) := by decide +kernel
theorem d_DR_fact_53 : decode b_DR_fact 53 = .ok (.lload 7, 2) := by decide +kernel
theorem d_DR_fact_55 : decode b_DR_fact 55 = .ok (.ldiv, 1) := by decide +kernel
theorem d_DR_fact_56 : decode b_DR_fact 56 = .ok (.lstore 9, 2) := by decide +kernel
theorem d_DR_fact_58 : decode b_DR_fact 58 = .ok (.lload 9, 2) := by decide +kernel
theorem d_DR_fact_60 : decode b_DR_fact 60 = .ok (.lconst 0, 1) := by decide +kernel
theorem d_DR_fact_61 : decode b_DR_fact 61 = .ok (.lcmp, 1) := by decide +kernel
theorem d_DR_fact_62 : decode b_DR_fact 62 = .ok (.ifCond .lt 14, 3) := by decide +kernel
theorem d_DR_fact_65 : decode b_DR_fact 65 = .ok (.lload 9, 2) := by decide +kernel
theorem d_DR_fact_67 : decode b_DR_fact 67 = .ok (.iload_n 2, 1) := by decide +kernel
theorem d_DR_fact_68 : decode b_DR_fact 68 = .ok (.invokestatic 119, 3) := by decide +kernel
theorem d_DR_fact_71 : decode b_DR_fact 71 = .ok (.i2l, 1) := by decide +kernel
theorem d_DR_fact_72 : decode b_DR_fact 72 = .ok (.lcmp, 1) := by decide +kernel
theorem d_DR_fact_73 : decode b_DR_fact 73 = .ok (.ifCond .le 5, 3) := by decide +kernel
theorem d_DR_fact_76 : decode b_DR_fact 76 = .ok (.iconst 0, 1) := by decide +kernel
theorem d_DR_fact_77 : decode b_DR_fact 77 = .ok (.ireturn, 1) := by decide +kernel
theorem d_DR_fact_78 : decode b_DR_fact 78 = .ok (.aload_n 0, 1) := by decide +kernel
theorem d_DR_fact_79 : decode b_DR_fact 79 = .ok (.getfield 26, 3) := by decide +kernel
theorem d_DR_fact_82 : decode b_DR_fact 82 = .ok (.iload_n 1, 1) := by decide +kernel
theorem d_DR_fact_83 : decode b_DR_fact 83 = .ok (.iload_n 2, 1) := by decide +kernel
theorem d_DR_fact_84 : decode b_DR_fact 84 = .ok (.lload_n 3, 1) := by decide +kernel
theorem d_DR_fact_85 : decode b_DR_fact 85 = .ok (.l2i, 1) := by decide +kernel
theorem d_DR_fact_86 : decode b_DR_fact 86 = .ok (.lload 9, 2) := by decide +kernel
theorem d_DR_fact_88 : decode b_DR_fact 88 = .ok (.l2i, 1) := by decide +kernel
theorem d_DR_fact_89 : decode b_DR_fact 89 = .ok (.invokevirtual 123, 3) := by decide +kernel
theorem d_DR_fact_92 : decode b_DR_fact 92 = .ok (.ireturn, 1) := by decide +kernel
theorem d_DR_isLot_0 : decode b_DR_isLot 0 = .ok (.iload_n 0, 1) := by decide +kernel
theorem d_DR_isLot_1 : decode b_DR_isLot 1 = .ok (.ifCond .lt 13, 3) := by decide +kernel
theorem d_DR_isLot_4 : decode b_DR_isLot 4 = .ok (.iload_n 0, 1) := by decide +kernel
theorem d_DR_isLot_5 : decode b_DR_isLot 5 = .ok (.bipush 30, 2) := by decide +kernel
theorem d_DR_isLot_7 : decode b_DR_isLot 7 = .ok (.if_icmp .ge 7, 3) := by decide +kernel
theorem d_DR_isLot_10 : decode b_DR_isLot 10 = .ok (.iconst 1, 1) := by decide +kernel
theorem d_DR_isLot_11 : decode b_DR_isLot 11 = .ok (.goto 4, 3) := by decide +kernel
theorem d_DR_isLot_14 : decode b_DR_isLot 14 = .ok (.iconst 0, 1) := by decide +kernel
theorem d_DR_isLot_15 : decode b_DR_isLot 15 = .ok (.ireturn, 1) := by decide +kernel
theorem d_DR_isFactKind_0 : decode b_DR_isFactKind 0 = .ok (.iload_n 0, 1) := by decide +kernel
theorem d_DR_isFactKind_1 : decode b_DR_isFactKind 1 = .ok (.ifCond .lt 13, 3) := by decide +kernel
theorem d_DR_isFactKind_4 : decode b_DR_isFactKind 4 = .ok (.iload_n 0, 1) := by decide +kernel
theorem d_DR_isFactKind_5 : decode b_DR_isFactKind 5 = .ok (.bipush 6, 2) := by decide +kernel
theorem d_DR_isFactKind_7 : decode b_DR_isFactKind 7 = .ok (.if_icmp .ge 7, 3) := by decide +kernel
theorem d_DR_isFactKind_10 : decode b_DR_isFactKind 10 = .ok (.iconst 1, 1) := by decide +kernel
theorem d_DR_isFactKind_11 : decode b_DR_isFactKind 11 = .ok (.goto 4, 3) := by decide +kernel
theorem d_DR_isFactKind_14 : decode b_DR_isFactKind 14 = .ok (.iconst 0, 1) := by decide +kernel
theorem d_DR_isFactKind_15 : decode b_DR_isFactKind 15 = .ok (.ireturn, 1) := by decide +kernel
theorem d_DR_greatestValue_0 : decode b_DR_greatestValue 0 = .ok (.iload_n 0, 1) := by decide +kernel
theorem d_DR_greatestValue_1 : decode b_DR_greatestValue 1 = .ok (.tableswitch 41 0 3 #[31, 34, 41, 38], 31) := by decide +kernel
theorem d_DR_greatestValue_32 : decode b_DR_greatestValue 32 = .ok (.bipush 9, 2) := by decide +kernel
theorem d_DR_greatestValue_34 : decode b_DR_greatestValue 34 = .ok (.ireturn, 1) := by decide +kernel
theorem d_DR_greatestValue_35 : decode b_DR_greatestValue 35 = .ok (.sipush 10000, 3) := by decide +kernel
theorem d_DR_greatestValue_38 : decode b_DR_greatestValue 38 = .ok (.ireturn, 1) := by decide +kernel
theorem d_DR_greatestValue_39 : decode b_DR_greatestValue 39 = .ok (.ldc 247, 2) := by decide +kernel
theorem d_DR_greatestValue_41 : decode b_DR_greatestValue 41 = .ok (.ireturn, 1) := by decide +kernel
theorem d_DR_greatestValue_42 : decode b_DR_greatestValue 42 = .ok (.ldc 248, 2) := by decide +kernel
theorem d_DR_greatestValue_44 : decode b_DR_greatestValue 44 = .ok (.ireturn, 1) := by decide +kernel
theorem d_FS_add_0 : decode b_FS_add 0 = .ok (.iload_n 1, 1) := by decide +kernel
theorem d_FS_add_1 : decode b_FS_add 1 = .ok (.iload_n 2, 1) := by decide +kernel
theorem d_FS_add_2 : decode b_FS_add 2 = .ok (.invokestatic 24, 3) := by decide +kernel
theorem d_FS_add_5 : decode b_FS_add 5 = .ok (.istore 5, 2) := by decide +kernel
theorem d_FS_add_7 : decode b_FS_add 7 = .ok (.iload 5, 2) := by decide +kernel
theorem d_FS_add_9 : decode b_FS_add 9 = .ok (.iconst (-1), 1) := by decide +kernel
theorem d_FS_add_10 : decode b_FS_add 10 = .ok (.if_icmp .eq 13, 3) := by decide +kernel
theorem d_FS_add_13 : decode b_FS_add 13 = .ok (.aload_n 0, 1) := by decide +kernel
theorem d_FS_add_14 : decode b_FS_add 14 = .ok (.getfield 9, 3) := by decide +kernel
theorem d_FS_add_17 : decode b_FS_add 17 = .ok (.sipush 300, 3) := by decide +kernel
theorem d_FS_add_20 : decode b_FS_add 20 = .ok (.if_icmp .lt 5, 3) := by decide +kernel
theorem d_FS_add_23 : decode b_FS_add 23 = .ok (.iconst 0, 1) := by decide +kernel
theorem d_FS_add_24 : decode b_FS_add 24 = .ok (.ireturn, 1) := by decide +kernel
theorem d_FS_add_25 : decode b_FS_add 25 = .ok (.aload_n 0, 1) := by decide +kernel
theorem d_FS_add_26 : decode b_FS_add 26 = .ok (.getfield 20, 3) := by decide +kernel
theorem d_FS_add_29 : decode b_FS_add 29 = .ok (.iload 5, 2) := by decide +kernel
theorem d_FS_add_31 : decode b_FS_add 31 = .ok (.new 18, 3) := by decide +kernel
theorem d_FS_add_34 : decode b_FS_add 34 = .ok (.dup, 1) := by decide +kernel
theorem d_FS_add_35 : decode b_FS_add 35 = .ok (.iload_n 3, 1) := by decide +kernel
theorem d_FS_add_36 : decode b_FS_add 36 = .ok (.iload 4, 2) := by decide +kernel
theorem d_FS_add_38 : decode b_FS_add 38 = .ok (.aload_n 0, 1) := by decide +kernel
theorem d_FS_add_39 : decode b_FS_add 39 = .ok (.getfield 20, 3) := by decide +kernel
theorem d_FS_add_42 : decode b_FS_add 42 = .ok (.iload 5, 2) := by decide +kernel
theorem d_FS_add_44 : decode b_FS_add 44 = .ok (.aaload, 1) := by decide +kernel
theorem d_FS_add_45 : decode b_FS_add 45 = .ok (.invokespecial 28, 3) := by decide +kernel
theorem d_FS_add_48 : decode b_FS_add 48 = .ok (.aastore, 1) := by decide +kernel
theorem d_FS_add_49 : decode b_FS_add 49 = .ok (.aload_n 0, 1) := by decide +kernel
theorem d_FS_add_50 : decode b_FS_add 50 = .ok (.dup, 1) := by decide +kernel
theorem d_FS_add_51 : decode b_FS_add 51 = .ok (.getfield 9, 3) := by decide +kernel
theorem d_FS_add_54 : decode b_FS_add 54 = .ok (.iconst 1, 1) := by decide +kernel
theorem d_FS_add_55 : decode b_FS_add 55 = .ok (.iadd, 1) := by decide +kernel
theorem d_FS_add_56 : decode b_FS_add 56 = .ok (.putfield 9, 3) := by decide +kernel
theorem d_FS_add_59 : decode b_FS_add 59 = .ok (.aload_n 0, 1) := by decide +kernel
theorem d_FS_add_60 : decode b_FS_add 60 = .ok (.aload_n 0, 1) := by decide +kernel
theorem d_FS_add_61 : decode b_FS_add 61 = .ok (.getfield 15, 3) := by decide +kernel
theorem d_FS_add_64 : decode b_FS_add 64 = .ok (.iload_n 3, 1) := by decide +kernel
theorem d_FS_add_65 : decode b_FS_add 65 = .ok (.invokestatic 31, 3) := by decide +kernel
theorem d_FS_add_68 : decode b_FS_add 68 = .ok (.putfield 15, 3) := by decide +kernel
theorem d_FS_add_71 : decode b_FS_add 71 = .ok (.iconst 1, 1) := by decide +kernel
theorem d_FS_add_72 : decode b_FS_add 72 = .ok (.ireturn, 1) := by decide +kernel
theorem d_FS_placeOf_0 : decode b_FS_placeOf 0 = .ok (.iload_n 0, 1) := by decide +kernel
theorem d_FS_placeOf_1 : decode b_FS_placeOf 1 = .ok (.invokestatic 53, 3) := by decide +kernel
theorem d_FS_placeOf_4 : decode b_FS_placeOf 4 = .ok (.ifCond .eq 19, 3) := by decide +kernel
theorem d_FS_placeOf_7 : decode b_FS_placeOf 7 = .ok (.iload_n 1, 1) := by decide +kernel
theorem d_FS_placeOf_8 : decode b_FS_placeOf 8 = .ok (.invokestatic 57, 3) := by decide +kernel
theorem d_FS_placeOf_11 : decode b_FS_placeOf 11 = .ok (.ifCond .eq 12, 3) := by decide +kernel
theorem d_FS_placeOf_14 : decode b_FS_placeOf 14 = .ok (.iload_n 0, 1) := by decide +kernel
theorem d_FS_placeOf_15 : decode b_FS_placeOf 15 = .ok (.bipush 6, 2) := by decide +kernel
theorem d_FS_placeOf_17 : decode b_FS_placeOf 17 = .ok (.imul, 1) := by decide +kernel
theorem d_FS_placeOf_18 : decode b_FS_placeOf 18 = .ok (.iload_n 1, 1) := by decide +kernel
theorem d_FS_placeOf_19 : decode b_FS_placeOf 19 = .ok (.iadd, 1) := by decide +kernel
theorem d_FS_placeOf_20 : decode b_FS_placeOf 20 = .ok (.goto 4, 3) := by decide +kernel
theorem d_FS_placeOf_23 : decode b_FS_placeOf 23 = .ok (.iconst (-1), 1) := by decide +kernel
theorem d_FS_placeOf_24 : decode b_FS_placeOf 24 = .ok (.ireturn, 1) := by decide +kernel
theorem d_FA_init_0 : decode b_FA_init 0 = .ok (.aload_n 0, 1) := by decide +kernel
theorem d_FA_init_1 : decode b_FA_init 1 = .ok (.invokespecial 1, 3) := by decide +kernel
theorem d_FA_init_4 : decode b_FA_init 4 = .ok (.aload_n 0, 1) := by decide +kernel
theorem d_FA_init_5 : decode b_FA_init 5 = .ok (.iload_n 1, 1) := by decide +kernel
theorem d_FA_init_6 : decode b_FA_init 6 = .ok (.putfield 7, 3) := by decide +kernel
theorem d_FA_init_9 : decode b_FA_init 9 = .ok (.aload_n 0, 1) := by decide +kernel
theorem d_FA_init_10 : decode b_FA_init 10 = .ok (.iload_n 2, 1) := by decide +kernel
theorem d_FA_init_11 : decode b_FA_init 11 = .ok (.putfield 13, 3) := by decide +kernel
theorem d_FA_init_14 : decode b_FA_init 14 = .ok (.aload_n 0, 1) := by decide +kernel
theorem d_FA_init_15 : decode b_FA_init 15 = .ok (.aload_n 3, 1) := by decide +kernel
theorem d_FA_init_16 : decode b_FA_init 16 = .ok (.putfield 16, 3) := by decide +kernel
theorem d_FA_init_19 : decode b_FA_init 19 = .ok (.aload_n 0, 1) := by decide +kernel
theorem d_FA_init_20 : decode b_FA_init 20 = .ok (.iload_n 1, 1) := by decide +kernel
theorem d_FA_init_21 : decode b_FA_init 21 = .ok (.putfield 20, 3) := by decide +kernel
theorem d_FA_init_24 : decode b_FA_init 24 = .ok (.return_, 1) := by decide +kernel
theorem d_DR_told_0 : decode b_DR_told 0 = .ok (.iload_n 1, 1) := by decide +kernel
theorem d_DR_told_1 : decode b_DR_told 1 = .ok (.invokestatic 110, 3) := by decide +kernel
theorem d_DR_told_4 : decode b_DR_told 4 = .ok (.ifCond .eq 17, 3) := by decide +kernel
theorem d_DR_told_7 : decode b_DR_told 7 = .ok (.iload_n 2, 1) := by decide +kernel
theorem d_DR_told_8 : decode b_DR_told 8 = .ok (.invokestatic 114, 3) := by decide +kernel
theorem d_DR_told_11 : decode b_DR_told 11 = .ok (.ifCond .eq 10, 3) := by decide +kernel
theorem d_DR_told_14 : decode b_DR_told 14 = .ok (.lload_n 3, 1) := by decide +kernel
theorem d_DR_told_15 : decode b_DR_told 15 = .ok (.invokestatic 102, 3) := by decide +kernel
theorem d_DR_told_18 : decode b_DR_told 18 = .ok (.ifCond .ne 5, 3) := by decide +kernel
theorem d_DR_told_21 : decode b_DR_told 21 = .ok (.iconst 0, 1) := by decide +kernel
theorem d_DR_told_22 : decode b_DR_told 22 = .ok (.ireturn, 1) := by decide +kernel
theorem d_DR_told_23 : decode b_DR_told 23 = .ok (.aload_n 0, 1) := by decide +kernel
theorem d_DR_told_24 : decode b_DR_told 24 = .ok (.getfield 26, 3) := by decide +kernel
theorem d_DR_told_27 : decode b_DR_told 27 = .ok (.iload_n 1, 1) := by decide +kernel
theorem d_DR_told_28 : decode b_DR_told 28 = .ok (.iload_n 2, 1) := by decide +kernel
theorem d_DR_told_29 : decode b_DR_told 29 = .ok (.lload_n 3, 1) := by decide +kernel
theorem d_DR_told_30 : decode b_DR_told 30 = .ok (.l2i, 1) := by decide +kernel
theorem d_DR_told_31 : decode b_DR_told 31 = .ok (.invokevirtual 126, 3) := by decide +kernel
theorem d_DR_told_34 : decode b_DR_told 34 = .ok (.ireturn, 1) := by decide +kernel
theorem d_FS_learnNewest_0 : decode b_FS_learnNewest 0 = .ok (.aload_n 0, 1) := by decide +kernel
theorem d_FS_learnNewest_1 : decode b_FS_learnNewest 1 = .ok (.iload_n 1, 1) := by decide +kernel
theorem d_FS_learnNewest_2 : decode b_FS_learnNewest 2 = .ok (.iload_n 2, 1) := by decide +kernel
theorem d_FS_learnNewest_3 : decode b_FS_learnNewest 3 = .ok (.invokevirtual 36, 3) := by decide +kernel
theorem d_FS_learnNewest_6 : decode b_FS_learnNewest 6 = .ok (.astore 4, 2) := by decide +kernel
theorem d_FS_learnNewest_8 : decode b_FS_learnNewest 8 = .ok (.aload 4, 2) := by decide +kernel
theorem d_FS_learnNewest_10 : decode b_FS_learnNewest 10 = .ok (.ifnonnull 5, 3) := by decide +kernel
theorem d_FS_learnNewest_13 : decode b_FS_learnNewest 13 = .ok (.iconst 0, 1) := by decide +kernel
theorem d_FS_learnNewest_14 : decode b_FS_learnNewest 14 = .ok (.ireturn, 1) := by decide +kernel
theorem d_FS_learnNewest_15 : decode b_FS_learnNewest 15 = .ok (.aload 4, 2) := by decide +kernel
theorem d_FS_learnNewest_17 : decode b_FS_learnNewest 17 = .ok (.iload_n 3, 1) := by decide +kernel
theorem d_FS_learnNewest_18 : decode b_FS_learnNewest 18 = .ok (.putfield 40, 3) := by decide +kernel
theorem d_FS_learnNewest_21 : decode b_FS_learnNewest 21 = .ok (.aload_n 0, 1) := by decide +kernel
theorem d_FS_learnNewest_22 : decode b_FS_learnNewest 22 = .ok (.aload_n 0, 1) := by decide +kernel
theorem d_FS_learnNewest_23 : decode b_FS_learnNewest 23 = .ok (.getfield 15, 3) := by decide +kernel
theorem d_FS_learnNewest_26 : decode b_FS_learnNewest 26 = .ok (.iload_n 3, 1) := by decide +kernel
theorem d_FS_learnNewest_27 : decode b_FS_learnNewest 27 = .ok (.invokestatic 31, 3) := by decide +kernel
theorem d_FS_learnNewest_30 : decode b_FS_learnNewest 30 = .ok (.putfield 15, 3) := by decide +kernel
theorem d_FS_learnNewest_33 : decode b_FS_learnNewest 33 = .ok (.iconst 1, 1) := by decide +kernel
theorem d_FS_learnNewest_34 : decode b_FS_learnNewest 34 = .ok (.ireturn, 1) := by decide +kernel
theorem d_FS_newestOf_0 : decode b_FS_newestOf 0 = .ok (.iload_n 1, 1) := by decide +kernel
theorem d_FS_newestOf_1 : decode b_FS_newestOf 1 = .ok (.iload_n 2, 1) := by decide +kernel
theorem d_FS_newestOf_2 : decode b_FS_newestOf 2 = .ok (.invokestatic 24, 3) := by decide +kernel
theorem d_FS_newestOf_5 : decode b_FS_newestOf 5 = .ok (.istore_n 3, 1) := by decide +kernel
theorem d_FS_newestOf_6 : decode b_FS_newestOf 6 = .ok (.iload_n 3, 1) := by decide +kernel
theorem d_FS_newestOf_7 : decode b_FS_newestOf 7 = .ok (.iconst (-1), 1) := by decide +kernel
theorem d_FS_newestOf_8 : decode b_FS_newestOf 8 = .ok (.if_icmp .ne 7, 3) := by decide +kernel
theorem d_FS_newestOf_11 : decode b_FS_newestOf 11 = .ok (.aconst_null, 1) := by decide +kernel
theorem d_FS_newestOf_12 : decode b_FS_newestOf 12 = .ok (.goto 9, 3) := by decide +kernel
theorem d_FS_newestOf_15 : decode b_FS_newestOf 15 = .ok (.aload_n 0, 1) := by decide +kernel
theorem d_FS_newestOf_16 : decode b_FS_newestOf 16 = .ok (.getfield 20, 3) := by decide +kernel
theorem d_FS_newestOf_19 : decode b_FS_newestOf 19 = .ok (.iload_n 3, 1) := by decide +kernel
theorem d_FS_newestOf_20 : decode b_FS_newestOf 20 = .ok (.aaload, 1) := by decide +kernel
theorem d_FS_newestOf_21 : decode b_FS_newestOf 21 = .ok (.areturn, 1) := by decide +kernel
theorem d_DR_duty_0 : decode b_DR_duty 0 = .ok (.iload_n 1, 1) := by decide +kernel
theorem d_DR_duty_1 : decode b_DR_duty 1 = .ok (.invokestatic 110, 3) := by decide +kernel
theorem d_DR_duty_4 : decode b_DR_duty 4 = .ok (.ifCond .eq 26, 3) := by decide +kernel
theorem d_DR_duty_7 : decode b_DR_duty 7 = .ok (.lload_n 2, 1) := by decide +kernel
theorem d_DR_duty_8 : decode b_DR_duty 8 = .ok (.invokestatic 102, 3) := by decide +kernel
theorem d_DR_duty_11 : decode b_DR_duty 11 = .ok (.ifCond .eq 19, 3) := by decide +kernel
theorem d_DR_duty_14 : decode b_DR_duty 14 = .ok (.lload 4, 2) := by decide +kernel
theorem d_DR_duty_16 : decode b_DR_duty 16 = .ok (.invokestatic 102, 3) := by decide +kernel
theorem d_DR_duty_19 : decode b_DR_duty 19 = .ok (.ifCond .eq 11, 3) := by decide +kernel
theorem d_DR_duty_22 : decode b_DR_duty 22 = .ok (.iload 6, 2) := by decide +kernel
theorem d_DR_duty_24 : decode b_DR_duty 24 = .ok (.invokestatic 130, 3) := by decide +kernel
theorem d_DR_duty_27 : decode b_DR_duty 27 = .ok (.ifCond .ne 7, 3) := by decide +kernel
theorem d_DR_duty_30 : decode b_DR_duty 30 = .ok (.ldc2_w 133, 3) := by decide +kernel
theorem d_DR_duty_33 : decode b_DR_duty 33 = .ok (.lreturn, 1) := by decide +kernel
theorem d_DR_duty_34 : decode b_DR_duty 34 = .ok (.aload_n 0, 1) := by decide +kernel
theorem d_DR_duty_35 : decode b_DR_duty 35 = .ok (.iconst 1, 1) := by decide +kernel
theorem d_DR_duty_36 : decode b_DR_duty 36 = .ok (.putfield 53, 3) := by decide +kernel
theorem d_DR_duty_39 : decode b_DR_duty 39 = .ok (.aload_n 0, 1) := by decide +kernel
theorem d_DR_duty_40 : decode b_DR_duty 40 = .ok (.getfield 33, 3) := by decide +kernel
theorem d_DR_duty_43 : decode b_DR_duty 43 = .ok (.aload_n 0, 1) := by decide +kernel
theorem d_DR_duty_44 : decode b_DR_duty 44 = .ok (.getfield 19, 3) := by decide +kernel
theorem d_DR_duty_47 : decode b_DR_duty 47 = .ok (.aload_n 0, 1) := by decide +kernel
theorem d_DR_duty_48 : decode b_DR_duty 48 = .ok (.getfield 26, 3) := by decide +kernel
theorem d_DR_duty_51 : decode b_DR_duty 51 = .ok (.iload_n 1, 1) := by decide +kernel
theorem d_DR_duty_52 : decode b_DR_duty 52 = .ok (.lload_n 2, 1) := by decide +kernel
theorem d_DR_duty_53 : decode b_DR_duty 53 = .ok (.l2i, 1) := by decide +kernel
theorem d_DR_duty_54 : decode b_DR_duty 54 = .ok (.lload 4, 2) := by decide +kernel
theorem d_DR_duty_56 : decode b_DR_duty 56 = .ok (.l2i, 1) := by decide +kernel
theorem d_DR_duty_57 : decode b_DR_duty 57 = .ok (.invokevirtual 135, 3) := by decide +kernel
theorem d_DR_duty_60 : decode b_DR_duty 60 = .ok (.aload_n 0, 1) := by decide +kernel
theorem d_DR_duty_61 : decode b_DR_duty 61 = .ok (.getfield 33, 3) := by decide +kernel
theorem d_DR_duty_64 : decode b_DR_duty 64 = .ok (.getfield 139, 3) := by decide +kernel
theorem d_DR_duty_67 : decode b_DR_duty 67 = .ok (.iconst (-1), 1) := by decide +kernel
theorem d_DR_duty_68 : decode b_DR_duty 68 = .ok (.if_icmp .eq 7, 3) := by decide +kernel
theorem d_DR_duty_71 : decode b_DR_duty 71 = .ok (.ldc2_w 133, 3) := by decide +kernel
theorem d_DR_duty_74 : decode b_DR_duty 74 = .ok (.lreturn, 1) := by decide +kernel
theorem d_DR_duty_75 : decode b_DR_duty 75 = .ok (.aload_n 0, 1) := by decide +kernel
theorem d_DR_duty_76 : decode b_DR_duty 76 = .ok (.getfield 33, 3) := by decide +kernel
theorem d_DR_duty_79 : decode b_DR_duty 79 = .ok (.getfield 142, 3) := by decide +kernel
theorem d_DR_duty_82 : decode b_DR_duty 82 = .ok (.ldc2_w 146, 3) := by decide +kernel
theorem d_DR_duty_85 : decode b_DR_duty 85 = .ok (.iload 6, 2) := by decide +kernel
theorem d_DR_duty_87 : decode b_DR_duty 87 = .ok (.invokestatic 148, 3) := by decide +kernel
theorem d_DR_duty_90 : decode b_DR_duty 90 = .ok (.lreturn, 1) := by decide +kernel
theorem d_DR_isPart_0 : decode b_DR_isPart 0 = .ok (.iload_n 0, 1) := by decide +kernel
theorem d_DR_isPart_1 : decode b_DR_isPart 1 = .ok (.ifCond .eq 8, 3) := by decide +kernel
theorem d_DR_isPart_4 : decode b_DR_isPart 4 = .ok (.iload_n 0, 1) := by decide +kernel
theorem d_DR_isPart_5 : decode b_DR_isPart 5 = .ok (.iconst 1, 1) := by decide +kernel
theorem d_DR_isPart_6 : decode b_DR_isPart 6 = .ok (.if_icmp .ne 7, 3) := by decide +kernel
theorem d_DR_isPart_9 : decode b_DR_isPart 9 = .ok (.iconst 1, 1) := by decide +kernel
theorem d_DR_isPart_10 : decode b_DR_isPart 10 = .ok (.goto 4, 3) := by decide +kernel
theorem d_DR_isPart_13 : decode b_DR_isPart 13 = .ok (.iconst 0, 1) := by decide +kernel
theorem d_DR_isPart_14 : decode b_DR_isPart 14 = .ok (.ireturn, 1) := by decide +kernel
theorem d_DU_reckon_0 : decode b_DU_reckon 0 = .ok (.aload_n 0, 1) := by decide +kernel
theorem d_DU_reckon_1 : decode b_DU_reckon 1 = .ok (.iload_n 3, 1) := by decide +kernel
theorem d_DU_reckon_2 : decode b_DU_reckon 2 = .ok (.putfield 9, 3) := by decide +kernel
theorem d_DU_reckon_5 : decode b_DU_reckon 5 = .ok (.aload_n 0, 1) := by decide +kernel
theorem d_DU_reckon_6 : decode b_DU_reckon 6 = .ok (.iconst 0, 1) := by decide +kernel
theorem d_DU_reckon_7 : decode b_DU_reckon 7 = .ok (.putfield 18, 3) := by decide +kernel
theorem d_DU_reckon_10 : decode b_DU_reckon 10 = .ok (.aload_n 0, 1) := by decide +kernel
theorem d_DU_reckon_11 : decode b_DU_reckon 11 = .ok (.lconst 0, 1) := by decide +kernel
theorem d_DU_reckon_12 : decode b_DU_reckon 12 = .ok (.putfield 21, 3) := by decide +kernel
theorem d_DU_reckon_15 : decode b_DU_reckon 15 = .ok (.aload_n 0, 1) := by decide +kernel
theorem d_DU_reckon_16 : decode b_DU_reckon 16 = .ok (.lconst 0, 1) := by decide +kernel
theorem d_DU_reckon_17 : decode b_DU_reckon 17 = .ok (.putfield 25, 3) := by decide +kernel
theorem d_DU_reckon_20 : decode b_DU_reckon 20 = .ok (.aload_n 1, 1) := by decide +kernel
theorem d_DU_reckon_21 : decode b_DU_reckon 21 = .ok (.iload 4, 2) := by decide +kernel
theorem d_DU_reckon_23 : decode b_DU_reckon 23 = .ok (.invokevirtual 42, 3) := by decide +kernel
