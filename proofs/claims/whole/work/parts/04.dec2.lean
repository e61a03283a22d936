theorem d_DU_reckon_26 : decode b_DU_reckon 26 = .ok (.astore 6, 2) := by decide +kernel
theorem d_DU_reckon_28 : decode b_DU_reckon 28 = .ok (.aload 6, 2) := by decide +kernel
theorem d_DU_reckon_30 : decode b_DU_reckon 30 = .ok (.ifnonnull 10, 3) := by decide +kernel
theorem d_DU_reckon_33 : decode b_DU_reckon 33 = .ok (.aload_n 0, 1) := by decide +kernel
theorem d_DU_reckon_34 : decode b_DU_reckon 34 = .ok (.bipush 20, 2) := by decide +kernel
theorem d_DU_reckon_36 : decode b_DU_reckon 36 = .ok (.putfield 15, 3) := by decide +kernel
theorem d_DU_reckon_39 : decode b_DU_reckon 39 = .ok (.return_, 1) := by decide +kernel
theorem d_DU_reckon_40 : decode b_DU_reckon 40 = .ok (.iconst 0, 1) := by decide +kernel
theorem d_DU_reckon_41 : decode b_DU_reckon 41 = .ok (.istore 7, 2) := by decide +kernel
theorem d_DU_reckon_43 : decode b_DU_reckon 43 = .ok (.iload 7, 2) := by decide +kernel
theorem d_DU_reckon_45 : decode b_DU_reckon 45 = .ok (.bipush 6, 2) := by decide +kernel
theorem d_DU_reckon_47 : decode b_DU_reckon 47 = .ok (.if_icmp .ge 27, 3) := by decide +kernel
theorem d_DU_reckon_50 : decode b_DU_reckon 50 = .ok (.aload_n 0, 1) := by decide +kernel
theorem d_DU_reckon_51 : decode b_DU_reckon 51 = .ok (.getfield 28, 3) := by decide +kernel
theorem d_DU_reckon_54 : decode b_DU_reckon 54 = .ok (.iload 7, 2) := by decide +kernel
theorem d_DU_reckon_56 : decode b_DU_reckon 56 = .ok (.aload_n 2, 1) := by decide +kernel
theorem d_DU_reckon_57 : decode b_DU_reckon 57 = .ok (.iload_n 3, 1) := by decide +kernel
theorem d_DU_reckon_58 : decode b_DU_reckon 58 = .ok (.iload 7, 2) := by decide +kernel
theorem d_DU_reckon_60 : decode b_DU_reckon 60 = .ok (.iload 4, 2) := by decide +kernel
theorem d_DU_reckon_62 : decode b_DU_reckon 62 = .ok (.iload 5, 2) := by decide +kernel
theorem d_DU_reckon_64 : decode b_DU_reckon 64 = .ok (.invokevirtual 48, 3) := by decide +kernel
theorem d_DU_reckon_67 : decode b_DU_reckon 67 = .ok (.iastore, 1) := by decide +kernel
theorem d_DU_reckon_68 : decode b_DU_reckon 68 = .ok (.iinc 7 1, 3) := by decide +kernel
theorem d_DU_reckon_71 : decode b_DU_reckon 71 = .ok (.goto (-28), 3) := by decide +kernel
theorem d_DU_reckon_74 : decode b_DU_reckon 74 = .ok (.aload_n 0, 1) := by decide +kernel
theorem d_DU_reckon_75 : decode b_DU_reckon 75 = .ok (.aload_n 0, 1) := by decide +kernel
theorem d_DU_reckon_76 : decode b_DU_reckon 76 = .ok (.aload 6, 2) := by decide +kernel
theorem d_DU_reckon_78 : decode b_DU_reckon 78 = .ok (.invokevirtual 54, 3) := by decide +kernel
theorem d_DU_reckon_81 : decode b_DU_reckon 81 = .ok (.putfield 15, 3) := by decide +kernel
theorem d_DU_reckon_84 : decode b_DU_reckon 84 = .ok (.aload_n 0, 1) := by decide +kernel
theorem d_DU_reckon_85 : decode b_DU_reckon 85 = .ok (.getfield 15, 3) := by decide +kernel
theorem d_DU_reckon_88 : decode b_DU_reckon 88 = .ok (.iconst (-1), 1) := by decide +kernel
theorem d_DU_reckon_89 : decode b_DU_reckon 89 = .ok (.if_icmp .ne 9, 3) := by decide +kernel
theorem d_DU_reckon_92 : decode b_DU_reckon 92 = .ok (.aload_n 0, 1) := by decide +kernel
theorem d_DU_reckon_93 : decode b_DU_reckon 93 = .ok (.aload 6, 2) := by decide +kernel
theorem d_DU_reckon_95 : decode b_DU_reckon 95 = .ok (.invokevirtual 58, 3) := by decide +kernel
theorem d_DU_reckon_98 : decode b_DU_reckon 98 = .ok (.return_, 1) := by decide +kernel
theorem d_ED_heldOn_0 : decode b_ED_heldOn 0 = .ok (.aconst_null, 1) := by decide +kernel
theorem d_ED_heldOn_1 : decode b_ED_heldOn 1 = .ok (.astore_n 2, 1) := by decide +kernel
theorem d_ED_heldOn_2 : decode b_ED_heldOn 2 = .ok (.iconst 0, 1) := by decide +kernel
theorem d_ED_heldOn_3 : decode b_ED_heldOn 3 = .ok (.istore_n 3, 1) := by decide +kernel
theorem d_ED_heldOn_4 : decode b_ED_heldOn 4 = .ok (.iconst 0, 1) := by decide +kernel
theorem d_ED_heldOn_5 : decode b_ED_heldOn 5 = .ok (.istore 4, 2) := by decide +kernel
theorem d_ED_heldOn_7 : decode b_ED_heldOn 7 = .ok (.iload 4, 2) := by decide +kernel
theorem d_ED_heldOn_9 : decode b_ED_heldOn 9 = .ok (.aload_n 0, 1) := by decide +kernel
theorem d_ED_heldOn_10 : decode b_ED_heldOn 10 = .ok (.getfield 9, 3) := by decide +kernel
theorem d_ED_heldOn_13 : decode b_ED_heldOn 13 = .ok (.if_icmp .ge 47, 3) := by decide +kernel
theorem d_ED_heldOn_16 : decode b_ED_heldOn 16 = .ok (.aload_n 0, 1) := by decide +kernel
theorem d_ED_heldOn_17 : decode b_ED_heldOn 17 = .ok (.getfield 21, 3) := by decide +kernel
theorem d_ED_heldOn_20 : decode b_ED_heldOn 20 = .ok (.iload 4, 2) := by decide +kernel
theorem d_ED_heldOn_22 : decode b_ED_heldOn 22 = .ok (.iaload, 1) := by decide +kernel
theorem d_ED_heldOn_23 : decode b_ED_heldOn 23 = .ok (.iload_n 1, 1) := by decide +kernel
theorem d_ED_heldOn_24 : decode b_ED_heldOn 24 = .ok (.if_icmp .gt 30, 3) := by decide +kernel
theorem d_ED_heldOn_27 : decode b_ED_heldOn 27 = .ok (.aload_n 0, 1) := by decide +kernel
theorem d_ED_heldOn_28 : decode b_ED_heldOn 28 = .ok (.getfield 21, 3) := by decide +kernel
theorem d_ED_heldOn_31 : decode b_ED_heldOn 31 = .ok (.iload 4, 2) := by decide +kernel
theorem d_ED_heldOn_33 : decode b_ED_heldOn 33 = .ok (.iaload, 1) := by decide +kernel
theorem d_ED_heldOn_34 : decode b_ED_heldOn 34 = .ok (.iload_n 3, 1) := by decide +kernel
theorem d_ED_heldOn_35 : decode b_ED_heldOn 35 = .ok (.if_icmp .lt 19, 3) := by decide +kernel
theorem d_ED_heldOn_38 : decode b_ED_heldOn 38 = .ok (.aload_n 0, 1) := by decide +kernel
theorem d_ED_heldOn_39 : decode b_ED_heldOn 39 = .ok (.getfield 17, 3) := by decide +kernel
theorem d_ED_heldOn_42 : decode b_ED_heldOn 42 = .ok (.iload 4, 2) := by decide +kernel
theorem d_ED_heldOn_44 : decode b_ED_heldOn 44 = .ok (.aaload, 1) := by decide +kernel
theorem d_ED_heldOn_45 : decode b_ED_heldOn 45 = .ok (.astore_n 2, 1) := by decide +kernel
theorem d_ED_heldOn_46 : decode b_ED_heldOn 46 = .ok (.aload_n 0, 1) := by decide +kernel
theorem d_ED_heldOn_47 : decode b_ED_heldOn 47 = .ok (.getfield 21, 3) := by decide +kernel
theorem d_ED_heldOn_50 : decode b_ED_heldOn 50 = .ok (.iload 4, 2) := by decide +kernel
theorem d_ED_heldOn_52 : decode b_ED_heldOn 52 = .ok (.iaload, 1) := by decide +kernel
theorem d_ED_heldOn_53 : decode b_ED_heldOn 53 = .ok (.istore_n 3, 1) := by decide +kernel
theorem d_ED_heldOn_54 : decode b_ED_heldOn 54 = .ok (.iinc 4 1, 3) := by decide +kernel
theorem d_ED_heldOn_57 : decode b_ED_heldOn 57 = .ok (.goto (-50), 3) := by decide +kernel
theorem d_ED_heldOn_60 : decode b_ED_heldOn 60 = .ok (.aload_n 2, 1) := by decide +kernel
theorem d_ED_heldOn_61 : decode b_ED_heldOn 61 = .ok (.areturn, 1) := by decide +kernel
theorem d_FS_heldValue_0 : decode b_FS_heldValue 0 = .ok (.aconst_null, 1) := by decide +kernel
theorem d_FS_heldValue_1 : decode b_FS_heldValue 1 = .ok (.astore 5, 2) := by decide +kernel
theorem d_FS_heldValue_3 : decode b_FS_heldValue 3 = .ok (.aload_n 0, 1) := by decide +kernel
theorem d_FS_heldValue_4 : decode b_FS_heldValue 4 = .ok (.iload_n 1, 1) := by decide +kernel
theorem d_FS_heldValue_5 : decode b_FS_heldValue 5 = .ok (.iload_n 2, 1) := by decide +kernel
theorem d_FS_heldValue_6 : decode b_FS_heldValue 6 = .ok (.invokevirtual 36, 3) := by decide +kernel
theorem d_FS_heldValue_9 : decode b_FS_heldValue 9 = .ok (.astore 6, 2) := by decide +kernel
theorem d_FS_heldValue_11 : decode b_FS_heldValue 11 = .ok (.aload 6, 2) := by decide +kernel
theorem d_FS_heldValue_13 : decode b_FS_heldValue 13 = .ok (.ifnull 54, 3) := by decide +kernel
theorem d_FS_heldValue_16 : decode b_FS_heldValue 16 = .ok (.aload 6, 2) := by decide +kernel
theorem d_FS_heldValue_18 : decode b_FS_heldValue 18 = .ok (.getfield 43, 3) := by decide +kernel
theorem d_FS_heldValue_21 : decode b_FS_heldValue 21 = .ok (.iload_n 3, 1) := by decide +kernel
theorem d_FS_heldValue_22 : decode b_FS_heldValue 22 = .ok (.if_icmp .gt 35, 3) := by decide +kernel
theorem d_FS_heldValue_25 : decode b_FS_heldValue 25 = .ok (.aload 6, 2) := by decide +kernel
theorem d_FS_heldValue_27 : decode b_FS_heldValue 27 = .ok (.getfield 40, 3) := by decide +kernel
theorem d_FS_heldValue_30 : decode b_FS_heldValue 30 = .ok (.iload 4, 2) := by decide +kernel
theorem d_FS_heldValue_32 : decode b_FS_heldValue 32 = .ok (.if_icmp .gt 25, 3) := by decide +kernel
theorem d_FS_heldValue_35 : decode b_FS_heldValue 35 = .ok (.aload 5, 2) := by decide +kernel
theorem d_FS_heldValue_37 : decode b_FS_heldValue 37 = .ok (.ifnull 16, 3) := by decide +kernel
theorem d_FS_heldValue_40 : decode b_FS_heldValue 40 = .ok (.aload 6, 2) := by decide +kernel
theorem d_FS_heldValue_42 : decode b_FS_heldValue 42 = .ok (.getfield 43, 3) := by decide +kernel
theorem d_FS_heldValue_45 : decode b_FS_heldValue 45 = .ok (.aload 5, 2) := by decide +kernel
theorem d_FS_heldValue_47 : decode b_FS_heldValue 47 = .ok (.getfield 43, 3) := by decide +kernel
theorem d_FS_heldValue_50 : decode b_FS_heldValue 50 = .ok (.if_icmp .le 7, 3) := by decide +kernel
theorem d_FS_heldValue_53 : decode b_FS_heldValue 53 = .ok (.aload 6, 2) := by decide +kernel
theorem d_FS_heldValue_55 : decode b_FS_heldValue 55 = .ok (.astore 5, 2) := by decide +kernel
theorem d_FS_heldValue_57 : decode b_FS_heldValue 57 = .ok (.aload 6, 2) := by decide +kernel
theorem d_FS_heldValue_59 : decode b_FS_heldValue 59 = .ok (.getfield 46, 3) := by decide +kernel
theorem d_FS_heldValue_62 : decode b_FS_heldValue 62 = .ok (.astore 6, 2) := by decide +kernel
theorem d_FS_heldValue_64 : decode b_FS_heldValue 64 = .ok (.goto (-53), 3) := by decide +kernel
theorem d_FS_heldValue_67 : decode b_FS_heldValue 67 = .ok (.aload 5, 2) := by decide +kernel
theorem d_FS_heldValue_69 : decode b_FS_heldValue 69 = .ok (.ifnonnull 7, 3) := by decide +kernel
theorem d_FS_heldValue_72 : decode b_FS_heldValue 72 = .ok (.iconst (-1), 1) := by decide +kernel
theorem d_FS_heldValue_73 : decode b_FS_heldValue 73 = .ok (.goto 8, 3) := by decide +kernel
theorem d_FS_heldValue_76 : decode b_FS_heldValue 76 = .ok (.aload 5, 2) := by decide +kernel
theorem d_FS_heldValue_78 : decode b_FS_heldValue 78 = .ok (.getfield 50, 3) := by decide +kernel
theorem d_FS_heldValue_81 : decode b_FS_heldValue 81 = .ok (.ireturn, 1) := by decide +kernel
theorem d_DU_reasonToBeOpen_0 : decode b_DU_reasonToBeOpen 0 = .ok (.iconst 0, 1) := by decide +kernel
theorem d_DU_reasonToBeOpen_1 : decode b_DU_reasonToBeOpen 1 = .ok (.istore_n 2, 1) := by decide +kernel
theorem d_DU_reasonToBeOpen_2 : decode b_DU_reasonToBeOpen 2 = .ok (.iload_n 2, 1) := by decide +kernel
theorem d_DU_reasonToBeOpen_3 : decode b_DU_reasonToBeOpen 3 = .ok (.iconst 2, 1) := by decide +kernel
theorem d_DU_reasonToBeOpen_4 : decode b_DU_reasonToBeOpen 4 = .ok (.if_icmp .gt 21, 3) := by decide +kernel
theorem d_DU_reasonToBeOpen_7 : decode b_DU_reasonToBeOpen 7 = .ok (.aload_n 0, 1) := by decide +kernel
theorem d_DU_reasonToBeOpen_8 : decode b_DU_reasonToBeOpen 8 = .ok (.getfield 28, 3) := by decide +kernel
theorem d_DU_reasonToBeOpen_11 : decode b_DU_reasonToBeOpen 11 = .ok (.iload_n 2, 1) := by decide +kernel
theorem d_DU_reasonToBeOpen_12 : decode b_DU_reasonToBeOpen 12 = .ok (.iaload, 1) := by decide +kernel
theorem d_DU_reasonToBeOpen_13 : decode b_DU_reasonToBeOpen 13 = .ok (.iconst (-1), 1) := by decide +kernel
theorem d_DU_reasonToBeOpen_14 : decode b_DU_reasonToBeOpen 14 = .ok (.if_icmp .ne 5, 3) := by decide +kernel
theorem d_DU_reasonToBeOpen_17 : decode b_DU_reasonToBeOpen 17 = .ok (.iload_n 2, 1) := by decide +kernel
theorem d_DU_reasonToBeOpen_18 : decode b_DU_reasonToBeOpen 18 = .ok (.ireturn, 1) := by decide +kernel
theorem d_DU_reasonToBeOpen_19 : decode b_DU_reasonToBeOpen 19 = .ok (.iinc 2 1, 3) := by decide +kernel
theorem d_DU_reasonToBeOpen_22 : decode b_DU_reasonToBeOpen 22 = .ok (.goto (-20), 3) := by decide +kernel
theorem d_DU_reasonToBeOpen_25 : decode b_DU_reasonToBeOpen 25 = .ok (.aload_n 1, 1) := by decide +kernel
theorem d_DU_reasonToBeOpen_26 : decode b_DU_reasonToBeOpen 26 = .ok (.aload_n 0, 1) := by decide +kernel
theorem d_DU_reasonToBeOpen_27 : decode b_DU_reasonToBeOpen 27 = .ok (.getfield 28, 3) := by decide +kernel
theorem d_DU_reasonToBeOpen_30 : decode b_DU_reasonToBeOpen 30 = .ok (.iconst 0, 1) := by decide +kernel
theorem d_DU_reasonToBeOpen_31 : decode b_DU_reasonToBeOpen 31 = .ok (.iaload, 1) := by decide +kernel
theorem d_DU_reasonToBeOpen_32 : decode b_DU_reasonToBeOpen 32 = .ok (.aload_n 0, 1) := by decide +kernel
theorem d_DU_reasonToBeOpen_33 : decode b_DU_reasonToBeOpen 33 = .ok (.getfield 28, 3) := by decide +kernel
theorem d_DU_reasonToBeOpen_36 : decode b_DU_reasonToBeOpen 36 = .ok (.iconst 1, 1) := by decide +kernel
theorem d_DU_reasonToBeOpen_37 : decode b_DU_reasonToBeOpen 37 = .ok (.iaload, 1) := by decide +kernel
theorem d_DU_reasonToBeOpen_38 : decode b_DU_reasonToBeOpen 38 = .ok (.invokevirtual 62, 3) := by decide +kernel
theorem d_DU_reasonToBeOpen_41 : decode b_DU_reasonToBeOpen 41 = .ok (.iconst (-1), 1) := by decide +kernel
theorem d_DU_reasonToBeOpen_42 : decode b_DU_reasonToBeOpen 42 = .ok (.if_icmp .ne 6, 3) := by decide +kernel
theorem d_DU_reasonToBeOpen_45 : decode b_DU_reasonToBeOpen 45 = .ok (.bipush 21, 2) := by decide +kernel
theorem d_DU_reasonToBeOpen_47 : decode b_DU_reasonToBeOpen 47 = .ok (.ireturn, 1) := by decide +kernel
theorem d_DU_reasonToBeOpen_48 : decode b_DU_reasonToBeOpen 48 = .ok (.aload_n 0, 1) := by decide +kernel
theorem d_DU_reasonToBeOpen_49 : decode b_DU_reasonToBeOpen 49 = .ok (.getfield 28, 3) := by decide +kernel
theorem d_DU_reasonToBeOpen_52 : decode b_DU_reasonToBeOpen 52 = .ok (.iconst 3, 1) := by decide +kernel
theorem d_DU_reasonToBeOpen_53 : decode b_DU_reasonToBeOpen 53 = .ok (.iaload, 1) := by decide +kernel
theorem d_DU_reasonToBeOpen_54 : decode b_DU_reasonToBeOpen 54 = .ok (.iconst (-1), 1) := by decide +kernel
theorem d_DU_reasonToBeOpen_55 : decode b_DU_reasonToBeOpen 55 = .ok (.if_icmp .ne 20, 3) := by decide +kernel
theorem d_DU_reasonToBeOpen_58 : decode b_DU_reasonToBeOpen 58 = .ok (.aload_n 1, 1) := by decide +kernel
theorem d_DU_reasonToBeOpen_59 : decode b_DU_reasonToBeOpen 59 = .ok (.iconst 1, 1) := by decide +kernel
theorem d_DU_reasonToBeOpen_60 : decode b_DU_reasonToBeOpen 60 = .ok (.aload_n 0, 1) := by decide +kernel
theorem d_DU_reasonToBeOpen_61 : decode b_DU_reasonToBeOpen 61 = .ok (.getfield 28, 3) := by decide +kernel
theorem d_DU_reasonToBeOpen_64 : decode b_DU_reasonToBeOpen 64 = .ok (.iconst 0, 1) := by decide +kernel
theorem d_DU_reasonToBeOpen_65 : decode b_DU_reasonToBeOpen 65 = .ok (.iaload, 1) := by decide +kernel
theorem d_DU_reasonToBeOpen_66 : decode b_DU_reasonToBeOpen 66 = .ok (.invokevirtual 68, 3) := by decide +kernel
theorem d_DU_reasonToBeOpen_69 : decode b_DU_reasonToBeOpen 69 = .ok (.iconst (-1), 1) := by decide +kernel
theorem d_DU_reasonToBeOpen_70 : decode b_DU_reasonToBeOpen 70 = .ok (.if_icmp .eq 5, 3) := by decide +kernel
theorem d_DU_reasonToBeOpen_73 : decode b_DU_reasonToBeOpen 73 = .ok (.iconst 3, 1) := by decide +kernel
theorem d_DU_reasonToBeOpen_74 : decode b_DU_reasonToBeOpen 74 = .ok (.ireturn, 1) := by decide +kernel
theorem d_DU_reasonToBeOpen_75 : decode b_DU_reasonToBeOpen 75 = .ok (.iconst (-1), 1) := by decide +kernel
theorem d_DU_reasonToBeOpen_76 : decode b_DU_reasonToBeOpen 76 = .ok (.ireturn, 1) := by decide +kernel
theorem d_RU_firstRate_0 : decode b_RU_firstRate 0 = .ok (.iconst 0, 1) := by decide +kernel
theorem d_RU_firstRate_1 : decode b_RU_firstRate 1 = .ok (.istore_n 3, 1) := by decide +kernel
theorem d_RU_firstRate_2 : decode b_RU_firstRate 2 = .ok (.iload_n 3, 1) := by decide +kernel
theorem d_RU_firstRate_3 : decode b_RU_firstRate 3 = .ok (.aload_n 0, 1) := by decide +kernel
theorem d_RU_firstRate_4 : decode b_RU_firstRate 4 = .ok (.getfield 9, 3) := by decide +kernel
theorem d_RU_firstRate_7 : decode b_RU_firstRate 7 = .ok (.if_icmp .ge 50, 3) := by decide +kernel
theorem d_RU_firstRate_10 : decode b_RU_firstRate 10 = .ok (.aload_n 0, 1) := by decide +kernel
theorem d_RU_firstRate_11 : decode b_RU_firstRate 11 = .ok (.getfield 15, 3) := by decide +kernel
theorem d_RU_firstRate_14 : decode b_RU_firstRate 14 = .ok (.iload_n 3, 1) := by decide +kernel
theorem d_RU_firstRate_15 : decode b_RU_firstRate 15 = .ok (.iaload, 1) := by decide +kernel
theorem d_RU_firstRate_16 : decode b_RU_firstRate 16 = .ok (.ifCond .ne 35, 3) := by decide +kernel
theorem d_RU_firstRate_19 : decode b_RU_firstRate 19 = .ok (.aload_n 0, 1) := by decide +kernel
theorem d_RU_firstRate_20 : decode b_RU_firstRate 20 = .ok (.iload_n 3, 1) := by decide +kernel
theorem d_RU_firstRate_21 : decode b_RU_firstRate 21 = .ok (.iconst 0, 1) := by decide +kernel
theorem d_RU_firstRate_22 : decode b_RU_firstRate 22 = .ok (.invokevirtual 26, 3) := by decide +kernel
theorem d_RU_firstRate_25 : decode b_RU_firstRate 25 = .ok (.iload_n 1, 1) := by decide +kernel
theorem d_RU_firstRate_26 : decode b_RU_firstRate 26 = .ok (.if_icmp .ne 25, 3) := by decide +kernel
theorem d_RU_firstRate_29 : decode b_RU_firstRate 29 = .ok (.aload_n 0, 1) := by decide +kernel
theorem d_RU_firstRate_30 : decode b_RU_firstRate 30 = .ok (.iload_n 3, 1) := by decide +kernel
theorem d_RU_firstRate_31 : decode b_RU_firstRate 31 = .ok (.iconst 1, 1) := by decide +kernel
theorem d_RU_firstRate_32 : decode b_RU_firstRate 32 = .ok (.invokevirtual 26, 3) := by decide +kernel
theorem d_RU_firstRate_35 : decode b_RU_firstRate 35 = .ok (.iload_n 2, 1) := by decide +kernel
theorem d_RU_firstRate_36 : decode b_RU_firstRate 36 = .ok (.if_icmp .gt 15, 3) := by decide +kernel
theorem d_RU_firstRate_39 : decode b_RU_firstRate 39 = .ok (.iload_n 2, 1) := by decide +kernel
theorem d_RU_firstRate_40 : decode b_RU_firstRate 40 = .ok (.aload_n 0, 1) := by decide +kernel
theorem d_RU_firstRate_41 : decode b_RU_firstRate 41 = .ok (.iload_n 3, 1) := by decide +kernel
theorem d_RU_firstRate_42 : decode b_RU_firstRate 42 = .ok (.iconst 2, 1) := by decide +kernel
theorem d_RU_firstRate_43 : decode b_RU_firstRate 43 = .ok (.invokevirtual 26, 3) := by decide +kernel
theorem d_RU_firstRate_46 : decode b_RU_firstRate 46 = .ok (.if_icmp .ge 5, 3) := by decide +kernel
theorem d_RU_firstRate_49 : decode b_RU_firstRate 49 = .ok (.iload_n 3, 1) := by decide +kernel
theorem d_RU_firstRate_50 : decode b_RU_firstRate 50 = .ok (.ireturn, 1) := by decide +kernel
theorem d_RU_firstRate_51 : decode b_RU_firstRate 51 = .ok (.iinc 3 1, 3) := by decide +kernel
theorem d_RU_firstRate_54 : decode b_RU_firstRate 54 = .ok (.goto (-52), 3) := by decide +kernel
theorem d_RU_firstRate_57 : decode b_RU_firstRate 57 = .ok (.iconst (-1), 1) := by decide +kernel
theorem d_RU_firstRate_58 : decode b_RU_firstRate 58 = .ok (.ireturn, 1) := by decide +kernel
theorem d_RU_firstOfGoods_0 : decode b_RU_firstOfGoods 0 = .ok (.iconst 0, 1) := by decide +kernel
theorem d_RU_firstOfGoods_1 : decode b_RU_firstOfGoods 1 = .ok (.istore_n 3, 1) := by decide +kernel
theorem d_RU_firstOfGoods_2 : decode b_RU_firstOfGoods 2 = .ok (.iload_n 3, 1) := by decide +kernel
theorem d_RU_firstOfGoods_3 : decode b_RU_firstOfGoods 3 = .ok (.aload_n 0, 1) := by decide +kernel
theorem d_RU_firstOfGoods_4 : decode b_RU_firstOfGoods 4 = .ok (.getfield 9, 3) := by decide +kernel
theorem d_RU_firstOfGoods_7 : decode b_RU_firstOfGoods 7 = .ok (.if_icmp .ge 31, 3) := by decide +kernel
theorem d_RU_firstOfGoods_10 : decode b_RU_firstOfGoods 10 = .ok (.aload_n 0, 1) := by decide +kernel
theorem d_RU_firstOfGoods_11 : decode b_RU_firstOfGoods 11 = .ok (.getfield 15, 3) := by decide +kernel
theorem d_RU_firstOfGoods_14 : decode b_RU_firstOfGoods 14 = .ok (.iload_n 3, 1) := by decide +kernel
theorem d_RU_firstOfGoods_15 : decode b_RU_firstOfGoods 15 = .ok (.iaload, 1) := by decide +kernel
theorem d_RU_firstOfGoods_16 : decode b_RU_firstOfGoods 16 = .ok (.iload_n 1, 1) := by decide +kernel
theorem d_RU_firstOfGoods_17 : decode b_RU_firstOfGoods 17 = .ok (.if_icmp .ne 15, 3) := by decide +kernel
theorem d_RU_firstOfGoods_20 : decode b_RU_firstOfGoods 20 = .ok (.aload_n 0, 1) := by decide +kernel
theorem d_RU_firstOfGoods_21 : decode b_RU_firstOfGoods 21 = .ok (.iload_n 3, 1) := by decide +kernel
theorem d_RU_firstOfGoods_22 : decode b_RU_firstOfGoods 22 = .ok (.iconst 0, 1) := by decide +kernel
theorem d_RU_firstOfGoods_23 : decode b_RU_firstOfGoods 23 = .ok (.invokevirtual 26, 3) := by decide +kernel
theorem d_RU_firstOfGoods_26 : decode b_RU_firstOfGoods 26 = .ok (.iload_n 2, 1) := by decide +kernel
theorem d_RU_firstOfGoods_27 : decode b_RU_firstOfGoods 27 = .ok (.if_icmp .ne 5, 3) := by decide +kernel
theorem d_RU_firstOfGoods_30 : decode b_RU_firstOfGoods 30 = .ok (.iload_n 3, 1) := by decide +kernel
theorem d_RU_firstOfGoods_31 : decode b_RU_firstOfGoods 31 = .ok (.ireturn, 1) := by decide +kernel
theorem d_RU_firstOfGoods_32 : decode b_RU_firstOfGoods 32 = .ok (.iinc 3 1, 3) := by decide +kernel
theorem d_RU_firstOfGoods_35 : decode b_RU_firstOfGoods 35 = .ok (.goto (-33), 3) := by decide +kernel
theorem d_RU_firstOfGoods_38 : decode b_RU_firstOfGoods 38 = .ok (.iconst (-1), 1) := by decide +kernel
theorem d_RU_firstOfGoods_39 : decode b_RU_firstOfGoods 39 = .ok (.ireturn, 1) := by decide +kernel
theorem d_DU_doSteps_0 : decode b_DU_doSteps 0 = .ok (.aload_n 1, 1) := by decide +kernel
theorem d_DU_doSteps_1 : decode b_DU_doSteps 1 = .ok (.aload_n 0, 1) := by decide +kernel
theorem d_DU_doSteps_2 : decode b_DU_doSteps 2 = .ok (.getfield 28, 3) := by decide +kernel
theorem d_DU_doSteps_5 : decode b_DU_doSteps 5 = .ok (.iconst 0, 1) := by decide +kernel
theorem d_DU_doSteps_6 : decode b_DU_doSteps 6 = .ok (.iaload, 1) := by decide +kernel
theorem d_DU_doSteps_7 : decode b_DU_doSteps 7 = .ok (.aload_n 0, 1) := by decide +kernel
theorem d_DU_doSteps_8 : decode b_DU_doSteps 8 = .ok (.getfield 28, 3) := by decide +kernel
theorem d_DU_doSteps_11 : decode b_DU_doSteps 11 = .ok (.iconst 1, 1) := by decide +kernel
theorem d_DU_doSteps_12 : decode b_DU_doSteps 12 = .ok (.iaload, 1) := by decide +kernel
theorem d_DU_doSteps_13 : decode b_DU_doSteps 13 = .ok (.invokevirtual 62, 3) := by decide +kernel
theorem d_DU_doSteps_16 : decode b_DU_doSteps 16 = .ok (.istore_n 2, 1) := by decide +kernel
theorem d_DU_doSteps_17 : decode b_DU_doSteps 17 = .ok (.aload_n 1, 1) := by decide +kernel
theorem d_DU_doSteps_18 : decode b_DU_doSteps 18 = .ok (.iload_n 2, 1) := by decide +kernel
theorem d_DU_doSteps_19 : decode b_DU_doSteps 19 = .ok (.iconst 3, 1) := by decide +kernel
theorem d_DU_doSteps_20 : decode b_DU_doSteps 20 = .ok (.invokevirtual 71, 3) := by decide +kernel
theorem d_DU_doSteps_23 : decode b_DU_doSteps 23 = .ok (.i2l, 1) := by decide +kernel
theorem d_DU_doSteps_24 : decode b_DU_doSteps 24 = .ok (.lstore_n 3, 1) := by decide +kernel
theorem d_DU_doSteps_25 : decode b_DU_doSteps 25 = .ok (.aload_n 0, 1) := by decide +kernel
theorem d_DU_doSteps_26 : decode b_DU_doSteps 26 = .ok (.aload_n 0, 1) := by decide +kernel
theorem d_DU_doSteps_27 : decode b_DU_doSteps 27 = .ok (.getfield 28, 3) := by decide +kernel
theorem d_DU_doSteps_30 : decode b_DU_doSteps 30 = .ok (.iconst 2, 1) := by decide +kernel
theorem d_DU_doSteps_31 : decode b_DU_doSteps 31 = .ok (.iaload, 1) := by decide +kernel
theorem d_DU_doSteps_32 : decode b_DU_doSteps 32 = .ok (.i2l, 1) := by decide +kernel
theorem d_DU_doSteps_33 : decode b_DU_doSteps 33 = .ok (.ldc2_w 74, 3) := by decide +kernel
theorem d_DU_doSteps_36 : decode b_DU_doSteps 36 = .ok (.lmul, 1) := by decide +kernel
theorem d_DU_doSteps_37 : decode b_DU_doSteps 37 = .ok (.lload_n 3, 1) := by decide +kernel
theorem d_DU_doSteps_38 : decode b_DU_doSteps 38 = .ok (.lmul, 1) := by decide +kernel
theorem d_DU_doSteps_39 : decode b_DU_doSteps 39 = .ok (.ldc2_w 76, 3) := by decide +kernel
theorem d_DU_doSteps_42 : decode b_DU_doSteps 42 = .ok (.lmul, 1) := by decide +kernel
theorem d_DU_doSteps_43 : decode b_DU_doSteps 43 = .ok (.putfield 21, 3) := by decide +kernel
theorem d_DU_doSteps_46 : decode b_DU_doSteps 46 = .ok (.aload_n 0, 1) := by decide +kernel
theorem d_DU_doSteps_47 : decode b_DU_doSteps 47 = .ok (.iconst 0, 1) := by decide +kernel
theorem d_DU_doSteps_48 : decode b_DU_doSteps 48 = .ok (.iload_n 2, 1) := by decide +kernel
theorem d_DU_doSteps_49 : decode b_DU_doSteps 49 = .ok (.invokevirtual 78, 3) := by decide +kernel
theorem d_DU_doSteps_52 : decode b_DU_doSteps 52 = .ok (.aload_n 0, 1) := by decide +kernel
theorem d_DU_doSteps_53 : decode b_DU_doSteps 53 = .ok (.aload_n 1, 1) := by decide +kernel
theorem d_DU_doSteps_54 : decode b_DU_doSteps 54 = .ok (.lload_n 3, 1) := by decide +kernel
theorem d_DU_doSteps_55 : decode b_DU_doSteps 55 = .ok (.invokevirtual 82, 3) := by decide +kernel
theorem d_DU_doSteps_58 : decode b_DU_doSteps 58 = .ok (.aload_n 0, 1) := by decide +kernel
theorem d_DU_doSteps_59 : decode b_DU_doSteps 59 = .ok (.aload_n 1, 1) := by decide +kernel
theorem d_DU_doSteps_60 : decode b_DU_doSteps 60 = .ok (.lload_n 3, 1) := by decide +kernel
theorem d_DU_doSteps_61 : decode b_DU_doSteps 61 = .ok (.invokevirtual 86, 3) := by decide +kernel
theorem d_DU_doSteps_64 : decode b_DU_doSteps 64 = .ok (.aload_n 0, 1) := by decide +kernel
theorem d_DU_doSteps_65 : decode b_DU_doSteps 65 = .ok (.aload_n 1, 1) := by decide +kernel
theorem d_DU_doSteps_66 : decode b_DU_doSteps 66 = .ok (.invokevirtual 89, 3) := by decide +kernel
theorem d_DU_doSteps_69 : decode b_DU_doSteps 69 = .ok (.aload_n 0, 1) := by decide +kernel
theorem d_DU_doSteps_70 : decode b_DU_doSteps 70 = .ok (.aload_n 1, 1) := by decide +kernel
theorem d_DU_doSteps_71 : decode b_DU_doSteps 71 = .ok (.invokevirtual 92, 3) := by decide +kernel
theorem d_DU_doSteps_74 : decode b_DU_doSteps 74 = .ok (.return_, 1) := by decide +kernel
theorem d_DU_addStep_0 : decode b_DU_addStep 0 = .ok (.aload_n 0, 1) := by decide +kernel
theorem d_DU_addStep_1 : decode b_DU_addStep 1 = .ok (.getfield 18, 3) := by decide +kernel
theorem d_DU_addStep_4 : decode b_DU_addStep 4 = .ok (.iconst 5, 1) := by decide +kernel
theorem d_DU_addStep_5 : decode b_DU_addStep 5 = .ok (.if_icmp .lt 4, 3) := by decide +kernel
theorem d_DU_addStep_8 : decode b_DU_addStep 8 = .ok (.return_, 1) := by decide +kernel
theorem d_DU_addStep_9 : decode b_DU_addStep 9 = .ok (.aload_n 0, 1) := by decide +kernel
theorem d_DU_addStep_10 : decode b_DU_addStep 10 = .ok (.getfield 32, 3) := by decide +kernel
theorem d_DU_addStep_13 : decode b_DU_addStep 13 = .ok (.aload_n 0, 1) := by decide +kernel
theorem d_DU_addStep_14 : decode b_DU_addStep 14 = .ok (.getfield 18, 3) := by decide +kernel
theorem d_DU_addStep_17 : decode b_DU_addStep 17 = .ok (.iload_n 1, 1) := by decide +kernel
theorem d_DU_addStep_18 : decode b_DU_addStep 18 = .ok (.iastore, 1) := by decide +kernel
theorem d_DU_addStep_19 : decode b_DU_addStep 19 = .ok (.aload_n 0, 1) := by decide +kernel
theorem d_DU_addStep_20 : decode b_DU_addStep 20 = .ok (.getfield 35, 3) := by decide +kernel
theorem d_DU_addStep_23 : decode b_DU_addStep 23 = .ok (.aload_n 0, 1) := by decide +kernel
theorem d_DU_addStep_24 : decode b_DU_addStep 24 = .ok (.getfield 18, 3) := by decide +kernel
theorem d_DU_addStep_27 : decode b_DU_addStep 27 = .ok (.iload_n 2, 1) := by decide +kernel
theorem d_DU_addStep_28 : decode b_DU_addStep 28 = .ok (.iastore, 1) := by decide +kernel
theorem d_DU_addStep_29 : decode b_DU_addStep 29 = .ok (.aload_n 0, 1) := by decide +kernel
theorem d_DU_addStep_30 : decode b_DU_addStep 30 = .ok (.getfield 38, 3) := by decide +kernel
theorem d_DU_addStep_33 : decode b_DU_addStep 33 = .ok (.aload_n 0, 1) := by decide +kernel
theorem d_DU_addStep_34 : decode b_DU_addStep 34 = .ok (.getfield 18, 3) := by decide +kernel
theorem d_DU_addStep_37 : decode b_DU_addStep 37 = .ok (.aload_n 0, 1) := by decide +kernel
theorem d_DU_addStep_38 : decode b_DU_addStep 38 = .ok (.getfield 21, 3) := by decide +kernel
theorem d_DU_addStep_41 : decode b_DU_addStep 41 = .ok (.ldc2_w 105, 3) := by decide +kernel
theorem d_DU_addStep_44 : decode b_DU_addStep 44 = .ok (.ldiv, 1) := by decide +kernel
theorem d_DU_addStep_45 : decode b_DU_addStep 45 = .ok (.lastore, 1) := by decide +kernel
theorem d_DU_addStep_46 : decode b_DU_addStep 46 = .ok (.aload_n 0, 1) := by decide +kernel
theorem d_DU_addStep_47 : decode b_DU_addStep 47 = .ok (.dup, 1) := by decide +kernel
theorem d_DU_addStep_48 : decode b_DU_addStep 48 = .ok (.getfield 18, 3) := by decide +kernel
theorem d_DU_addStep_51 : decode b_DU_addStep 51 = .ok (.iconst 1, 1) := by decide +kernel
theorem d_DU_addStep_52 : decode b_DU_addStep 52 = .ok (.iadd, 1) := by decide +kernel
theorem d_DU_addStep_53 : decode b_DU_addStep 53 = .ok (.putfield 18, 3) := by decide +kernel
theorem d_DU_addStep_56 : decode b_DU_addStep 56 = .ok (.return_, 1) := by decide +kernel
theorem d_DU_freeLost_0 : decode b_DU_freeLost 0 = .ok (.aload_n 1, 1) := by decide +kernel
theorem d_DU_freeLost_1 : decode b_DU_freeLost 1 = .ok (.iconst 2, 1) := by decide +kernel
theorem d_DU_freeLost_2 : decode b_DU_freeLost 2 = .ok (.aload_n 0, 1) := by decide +kernel
theorem d_DU_freeLost_3 : decode b_DU_freeLost 3 = .ok (.getfield 28, 3) := by decide +kernel
theorem d_DU_freeLost_6 : decode b_DU_freeLost 6 = .ok (.iconst 0, 1) := by decide +kernel
theorem d_DU_freeLost_7 : decode b_DU_freeLost 7 = .ok (.iaload, 1) := by decide +kernel
theorem d_DU_freeLost_8 : decode b_DU_freeLost 8 = .ok (.invokevirtual 68, 3) := by decide +kernel
theorem d_DU_freeLost_11 : decode b_DU_freeLost 11 = .ok (.istore 4, 2) := by decide +kernel
theorem d_DU_freeLost_13 : decode b_DU_freeLost 13 = .ok (.iload 4, 2) := by decide +kernel
theorem d_DU_freeLost_15 : decode b_DU_freeLost 15 = .ok (.iconst (-1), 1) := by decide +kernel
theorem d_DU_freeLost_16 : decode b_DU_freeLost 16 = .ok (.if_icmp .eq 13, 3) := by decide +kernel
theorem d_DU_freeLost_19 : decode b_DU_freeLost 19 = .ok (.aload_n 0, 1) := by decide +kernel
theorem d_DU_freeLost_20 : decode b_DU_freeLost 20 = .ok (.getfield 28, 3) := by decide +kernel
theorem d_DU_freeLost_23 : decode b_DU_freeLost 23 = .ok (.iconst 4, 1) := by decide +kernel
theorem d_DU_freeLost_24 : decode b_DU_freeLost 24 = .ok (.iaload, 1) := by decide +kernel
theorem d_DU_freeLost_25 : decode b_DU_freeLost 25 = .ok (.iconst (-1), 1) := by decide +kernel
theorem d_DU_freeLost_26 : decode b_DU_freeLost 26 = .ok (.if_icmp .ne 4, 3) := by decide +kernel
theorem d_DU_freeLost_29 : decode b_DU_freeLost 29 = .ok (.return_, 1) := by decide +kernel
theorem d_DU_freeLost_30 : decode b_DU_freeLost 30 = .ok (.aload_n 0, 1) := by decide +kernel
theorem d_DU_freeLost_31 : decode b_DU_freeLost 31 = .ok (.getfield 28, 3) := by decide +kernel
theorem d_DU_freeLost_34 : decode b_DU_freeLost 34 = .ok (.iconst 2, 1) := by decide +kernel
theorem d_DU_freeLost_35 : decode b_DU_freeLost 35 = .ok (.iaload, 1) := by decide +kernel
theorem d_DU_freeLost_36 : decode b_DU_freeLost 36 = .ok (.i2l, 1) := by decide +kernel
theorem d_DU_freeLost_37 : decode b_DU_freeLost 37 = .ok (.aload_n 1, 1) := by decide +kernel
theorem d_DU_freeLost_38 : decode b_DU_freeLost 38 = .ok (.iload 4, 2) := by decide +kernel
theorem d_DU_freeLost_40 : decode b_DU_freeLost 40 = .ok (.iconst 1, 1) := by decide +kernel
theorem d_DU_freeLost_41 : decode b_DU_freeLost 41 = .ok (.invokevirtual 71, 3) := by decide +kernel
theorem d_DU_freeLost_44 : decode b_DU_freeLost 44 = .ok (.i2l, 1) := by decide +kernel
theorem d_DU_freeLost_45 : decode b_DU_freeLost 45 = .ok (.lmul, 1) := by decide +kernel
theorem d_DU_freeLost_46 : decode b_DU_freeLost 46 = .ok (.lstore 5, 2) := by decide +kernel
theorem d_DU_freeLost_48 : decode b_DU_freeLost 48 = .ok (.aload_n 0, 1) := by decide +kernel
theorem d_DU_freeLost_49 : decode b_DU_freeLost 49 = .ok (.aload_n 0, 1) := by decide +kernel
theorem d_DU_freeLost_50 : decode b_DU_freeLost 50 = .ok (.getfield 28, 3) := by decide +kernel
theorem d_DU_freeLost_53 : decode b_DU_freeLost 53 = .ok (.iconst 4, 1) := by decide +kernel
theorem d_DU_freeLost_54 : decode b_DU_freeLost 54 = .ok (.iaload, 1) := by decide +kernel
theorem d_DU_freeLost_55 : decode b_DU_freeLost 55 = .ok (.i2l, 1) := by decide +kernel
theorem d_DU_freeLost_56 : decode b_DU_freeLost 56 = .ok (.ldc2_w 74, 3) := by decide +kernel
theorem d_DU_freeLost_59 : decode b_DU_freeLost 59 = .ok (.lmul, 1) := by decide +kernel
theorem d_DU_freeLost_60 : decode b_DU_freeLost 60 = .ok (.lload 5, 2) := by decide +kernel
theorem d_DU_freeLost_62 : decode b_DU_freeLost 62 = .ok (.invokestatic 95, 3) := by decide +kernel
theorem d_DU_freeLost_65 : decode b_DU_freeLost 65 = .ok (.putfield 25, 3) := by decide +kernel
theorem d_DU_freeLost_68 : decode b_DU_freeLost 68 = .ok (.aload_n 0, 1) := by decide +kernel
theorem d_DU_freeLost_69 : decode b_DU_freeLost 69 = .ok (.dup, 1) := by decide +kernel
theorem d_DU_freeLost_70 : decode b_DU_freeLost 70 = .ok (.getfield 21, 3) := by decide +kernel
theorem d_DU_freeLost_73 : decode b_DU_freeLost 73 = .ok (.aload_n 0, 1) := by decide +kernel
theorem d_DU_freeLost_74 : decode b_DU_freeLost 74 = .ok (.getfield 25, 3) := by decide +kernel
theorem d_DU_freeLost_77 : decode b_DU_freeLost 77 = .ok (.lload_n 2, 1) := by decide +kernel
theorem d_DU_freeLost_78 : decode b_DU_freeLost 78 = .ok (.lmul, 1) := by decide +kernel
theorem d_DU_freeLost_79 : decode b_DU_freeLost 79 = .ok (.ldc2_w 76, 3) := by decide +kernel
theorem d_DU_freeLost_82 : decode b_DU_freeLost 82 = .ok (.lmul, 1) := by decide +kernel
theorem d_DU_freeLost_83 : decode b_DU_freeLost 83 = .ok (.lsub, 1) := by decide +kernel
theorem d_DU_freeLost_84 : decode b_DU_freeLost 84 = .ok (.putfield 21, 3) := by decide +kernel
theorem d_DU_freeLost_87 : decode b_DU_freeLost 87 = .ok (.aload_n 0, 1) := by decide +kernel
theorem d_DU_freeLost_88 : decode b_DU_freeLost 88 = .ok (.iconst 1, 1) := by decide +kernel
theorem d_DU_freeLost_89 : decode b_DU_freeLost 89 = .ok (.iload 4, 2) := by decide +kernel
theorem d_DU_freeLost_91 : decode b_DU_freeLost 91 = .ok (.invokevirtual 78, 3) := by decide +kernel
theorem d_DU_freeLost_94 : decode b_DU_freeLost 94 = .ok (.return_, 1) := by decide +kernel
theorem d_DU_lessenByAway_0 : decode b_DU_lessenByAway 0 = .ok (.aload_n 1, 1) := by decide +kernel
theorem d_DU_lessenByAway_1 : decode b_DU_lessenByAway 1 = .ok (.iconst 3, 1) := by decide +kernel
theorem d_DU_lessenByAway_2 : decode b_DU_lessenByAway 2 = .ok (.aload_n 0, 1) := by decide +kernel
theorem d_DU_lessenByAway_3 : decode b_DU_lessenByAway 3 = .ok (.getfield 28, 3) := by decide +kernel
theorem d_DU_lessenByAway_6 : decode b_DU_lessenByAway 6 = .ok (.iconst 0, 1) := by decide +kernel
theorem d_DU_lessenByAway_7 : decode b_DU_lessenByAway 7 = .ok (.iaload, 1) := by decide +kernel
theorem d_DU_lessenByAway_8 : decode b_DU_lessenByAway 8 = .ok (.invokevirtual 68, 3) := by decide +kernel
theorem d_DU_lessenByAway_11 : decode b_DU_lessenByAway 11 = .ok (.istore 4, 2) := by decide +kernel
theorem d_DU_lessenByAway_13 : decode b_DU_lessenByAway 13 = .ok (.iload 4, 2) := by decide +kernel
theorem d_DU_lessenByAway_15 : decode b_DU_lessenByAway 15 = .ok (.iconst (-1), 1) := by decide +kernel
theorem d_DU_lessenByAway_16 : decode b_DU_lessenByAway 16 = .ok (.if_icmp .eq 13, 3) := by decide +kernel
theorem d_DU_lessenByAway_19 : decode b_DU_lessenByAway 19 = .ok (.aload_n 0, 1) := by decide +kernel
theorem d_DU_lessenByAway_20 : decode b_DU_lessenByAway 20 = .ok (.getfield 28, 3) := by decide +kernel
theorem d_DU_lessenByAway_23 : decode b_DU_lessenByAway 23 = .ok (.iconst 5, 1) := by decide +kernel
theorem d_DU_lessenByAway_24 : decode b_DU_lessenByAway 24 = .ok (.iaload, 1) := by decide +kernel
theorem d_DU_lessenByAway_25 : decode b_DU_lessenByAway 25 = .ok (.iconst (-1), 1) := by decide +kernel
theorem d_DU_lessenByAway_26 : decode b_DU_lessenByAway 26 = .ok (.if_icmp .ne 4, 3) := by decide +kernel
theorem d_DU_lessenByAway_29 : decode b_DU_lessenByAway 29 = .ok (.return_, 1) := by decide +kernel
theorem d_DU_lessenByAway_30 : decode b_DU_lessenByAway 30 = .ok (.aload_n 0, 1) := by decide +kernel
theorem d_DU_lessenByAway_31 : decode b_DU_lessenByAway 31 = .ok (.getfield 28, 3) := by decide +kernel
theorem d_DU_lessenByAway_34 : decode b_DU_lessenByAway 34 = .ok (.iconst 5, 1) := by decide +kernel
theorem d_DU_lessenByAway_35 : decode b_DU_lessenByAway 35 = .ok (.iaload, 1) := by decide +kernel
theorem d_DU_lessenByAway_36 : decode b_DU_lessenByAway 36 = .ok (.i2l, 1) := by decide +kernel
theorem d_DU_lessenByAway_37 : decode b_DU_lessenByAway 37 = .ok (.ldc2_w 74, 3) := by decide +kernel
theorem d_DU_lessenByAway_40 : decode b_DU_lessenByAway 40 = .ok (.lmul, 1) := by decide +kernel
theorem d_DU_lessenByAway_41 : decode b_DU_lessenByAway 41 = .ok (.aload_n 0, 1) := by decide +kernel
theorem d_DU_lessenByAway_42 : decode b_DU_lessenByAway 42 = .ok (.getfield 28, 3) := by decide +kernel
theorem d_DU_lessenByAway_45 : decode b_DU_lessenByAway 45 = .ok (.iconst 2, 1) := by decide +kernel
theorem d_DU_lessenByAway_46 : decode b_DU_lessenByAway 46 = .ok (.iaload, 1) := by decide +kernel
theorem d_DU_lessenByAway_47 : decode b_DU_lessenByAway 47 = .ok (.i2l, 1) := by decide +kernel
theorem d_DU_lessenByAway_48 : decode b_DU_lessenByAway 48 = .ok (.ldc2_w 74, 3) := by decide +kernel
theorem d_DU_lessenByAway_51 : decode b_DU_lessenByAway 51 = .ok (.lmul, 1) := by decide +kernel
theorem d_DU_lessenByAway_52 : decode b_DU_lessenByAway 52 = .ok (.aload_n 0, 1) := by decide +kernel
theorem d_DU_lessenByAway_53 : decode b_DU_lessenByAway 53 = .ok (.getfield 25, 3) := by decide +kernel
theorem d_DU_lessenByAway_56 : decode b_DU_lessenByAway 56 = .ok (.lsub, 1) := by decide +kernel
theorem d_DU_lessenByAway_57 : decode b_DU_lessenByAway 57 = .ok (.invokestatic 95, 3) := by decide +kernel
theorem d_DU_lessenByAway_60 : decode b_DU_lessenByAway 60 = .ok (.lstore 5, 2) := by decide +kernel
theorem d_DU_lessenByAway_62 : decode b_DU_lessenByAway 62 = .ok (.aload_n 0, 1) := by decide +kernel
theorem d_DU_lessenByAway_63 : decode b_DU_lessenByAway 63 = .ok (.dup, 1) := by decide +kernel
theorem d_DU_lessenByAway_64 : decode b_DU_lessenByAway 64 = .ok (.getfield 21, 3) := by decide +kernel
theorem d_DU_lessenByAway_67 : decode b_DU_lessenByAway 67 = .ok (.lload 5, 2) := by decide +kernel
theorem d_DU_lessenByAway_69 : decode b_DU_lessenByAway 69 = .ok (.lload_n 2, 1) := by decide +kernel
theorem d_DU_lessenByAway_70 : decode b_DU_lessenByAway 70 = .ok (.lmul, 1) := by decide +kernel
theorem d_DU_lessenByAway_71 : decode b_DU_lessenByAway 71 = .ok (.aload_n 1, 1) := by decide +kernel
theorem d_DU_lessenByAway_72 : decode b_DU_lessenByAway 72 = .ok (.iload 4, 2) := by decide +kernel
theorem d_DU_lessenByAway_74 : decode b_DU_lessenByAway 74 = .ok (.iconst 1, 1) := by decide +kernel
theorem d_DU_lessenByAway_75 : decode b_DU_lessenByAway 75 = .ok (.invokevirtual 71, 3) := by decide +kernel
theorem d_DU_lessenByAway_78 : decode b_DU_lessenByAway 78 = .ok (.i2l, 1) := by decide +kernel
theorem d_DU_lessenByAway_79 : decode b_DU_lessenByAway 79 = .ok (.lmul, 1) := by decide +kernel
theorem d_DU_lessenByAway_80 : decode b_DU_lessenByAway 80 = .ok (.ldc2_w 74, 3) := by decide +kernel
theorem d_DU_lessenByAway_83 : decode b_DU_lessenByAway 83 = .ok (.lmul, 1) := by decide +kernel
theorem d_DU_lessenByAway_84 : decode b_DU_lessenByAway 84 = .ok (.lsub, 1) := by decide +kernel
theorem d_DU_lessenByAway_85 : decode b_DU_lessenByAway 85 = .ok (.putfield 21, 3) := by decide +kernel
theorem d_DU_lessenByAway_88 : decode b_DU_lessenByAway 88 = .ok (.aload_n 0, 1) := by decide +kernel
theorem d_DU_lessenByAway_89 : decode b_DU_lessenByAway 89 = .ok (.iconst 2, 1) := by decide +kernel
theorem d_DU_lessenByAway_90 : decode b_DU_lessenByAway 90 = .ok (.iload 4, 2) := by decide +kernel
theorem d_DU_lessenByAway_92 : decode b_DU_lessenByAway 92 = .ok (.invokevirtual 78, 3) := by decide +kernel
theorem d_DU_lessenByAway_95 : decode b_DU_lessenByAway 95 = .ok (.return_, 1) := by decide +kernel
theorem d_DU_lessenForSmall_0 : decode b_DU_lessenForSmall 0 = .ok (.aload_n 1, 1) := by decide +kernel
theorem d_DU_lessenForSmall_1 : decode b_DU_lessenForSmall 1 = .ok (.iconst 1, 1) := by decide +kernel
theorem d_DU_lessenForSmall_2 : decode b_DU_lessenForSmall 2 = .ok (.aload_n 0, 1) := by decide +kernel
theorem d_DU_lessenForSmall_3 : decode b_DU_lessenForSmall 3 = .ok (.getfield 28, 3) := by decide +kernel
theorem d_DU_lessenForSmall_6 : decode b_DU_lessenForSmall 6 = .ok (.iconst 0, 1) := by decide +kernel
theorem d_DU_lessenForSmall_7 : decode b_DU_lessenForSmall 7 = .ok (.iaload, 1) := by decide +kernel
theorem d_DU_lessenForSmall_8 : decode b_DU_lessenForSmall 8 = .ok (.invokevirtual 68, 3) := by decide +kernel
theorem d_DU_lessenForSmall_11 : decode b_DU_lessenForSmall 11 = .ok (.istore_n 2, 1) := by decide +kernel
theorem d_DU_lessenForSmall_12 : decode b_DU_lessenForSmall 12 = .ok (.iload_n 2, 1) := by decide +kernel
theorem d_DU_lessenForSmall_13 : decode b_DU_lessenForSmall 13 = .ok (.iconst (-1), 1) := by decide +kernel
theorem d_DU_lessenForSmall_14 : decode b_DU_lessenForSmall 14 = .ok (.if_icmp .eq 18, 3) := by decide +kernel
theorem d_DU_lessenForSmall_17 : decode b_DU_lessenForSmall 17 = .ok (.aload_n 0, 1) := by decide +kernel
theorem d_DU_lessenForSmall_18 : decode b_DU_lessenForSmall 18 = .ok (.getfield 28, 3) := by decide +kernel
theorem d_DU_lessenForSmall_21 : decode b_DU_lessenForSmall 21 = .ok (.iconst 3, 1) := by decide +kernel
theorem d_DU_lessenForSmall_22 : decode b_DU_lessenForSmall 22 = .ok (.iaload, 1) := by decide +kernel
theorem d_DU_lessenForSmall_23 : decode b_DU_lessenForSmall 23 = .ok (.aload_n 1, 1) := by decide +kernel
theorem d_DU_lessenForSmall_24 : decode b_DU_lessenForSmall 24 = .ok (.iload_n 2, 1) := by decide +kernel
theorem d_DU_lessenForSmall_25 : decode b_DU_lessenForSmall 25 = .ok (.iconst 1, 1) := by decide +kernel
theorem d_DU_lessenForSmall_26 : decode b_DU_lessenForSmall 26 = .ok (.invokevirtual 71, 3) := by decide +kernel
theorem d_DU_lessenForSmall_29 : decode b_DU_lessenForSmall 29 = .ok (.if_icmp .lt 4, 3) := by decide +kernel
theorem d_DU_lessenForSmall_32 : decode b_DU_lessenForSmall 32 = .ok (.return_, 1) := by decide +kernel
theorem d_DU_lessenForSmall_33 : decode b_DU_lessenForSmall 33 = .ok (.aload_n 0, 1) := by decide +kernel
theorem d_DU_lessenForSmall_34 : decode b_DU_lessenForSmall 34 = .ok (.aload_n 0, 1) := by decide +kernel
theorem d_DU_lessenForSmall_35 : decode b_DU_lessenForSmall 35 = .ok (.getfield 21, 3) := by decide +kernel
theorem d_DU_lessenForSmall_38 : decode b_DU_lessenForSmall 38 = .ok (.ldc2_w 74, 3) := by decide +kernel
theorem d_DU_lessenForSmall_41 : decode b_DU_lessenForSmall 41 = .ok (.ldiv, 1) := by decide +kernel
theorem d_DU_lessenForSmall_42 : decode b_DU_lessenForSmall 42 = .ok (.aload_n 1, 1) := by decide +kernel
theorem d_DU_lessenForSmall_43 : decode b_DU_lessenForSmall 43 = .ok (.iload_n 2, 1) := by decide +kernel
theorem d_DU_lessenForSmall_44 : decode b_DU_lessenForSmall 44 = .ok (.iconst 2, 1) := by decide +kernel
theorem d_DU_lessenForSmall_45 : decode b_DU_lessenForSmall 45 = .ok (.invokevirtual 71, 3) := by decide +kernel
theorem d_DU_lessenForSmall_48 : decode b_DU_lessenForSmall 48 = .ok (.i2l, 1) := by decide +kernel
theorem d_DU_lessenForSmall_49 : decode b_DU_lessenForSmall 49 = .ok (.lmul, 1) := by decide +kernel
theorem d_DU_lessenForSmall_50 : decode b_DU_lessenForSmall 50 = .ok (.putfield 21, 3) := by decide +kernel
theorem d_DU_lessenForSmall_53 : decode b_DU_lessenForSmall 53 = .ok (.aload_n 0, 1) := by decide +kernel
theorem d_DU_lessenForSmall_54 : decode b_DU_lessenForSmall 54 = .ok (.iconst 3, 1) := by decide +kernel
theorem d_DU_lessenForSmall_55 : decode b_DU_lessenForSmall 55 = .ok (.iload_n 2, 1) := by decide +kernel
theorem d_DU_lessenForSmall_56 : decode b_DU_lessenForSmall 56 = .ok (.invokevirtual 78, 3) := by decide +kernel
theorem d_DU_lessenForSmall_59 : decode b_DU_lessenForSmall 59 = .ok (.return_, 1) := by decide +kernel
theorem d_DU_roundToMultiple_0 : decode b_DU_roundToMultiple 0 = .ok (.aload_n 1, 1) := by decide +kernel
theorem d_DU_roundToMultiple_1 : decode b_DU_roundToMultiple 1 = .ok (.iconst 4, 1) := by decide +kernel
theorem d_DU_roundToMultiple_2 : decode b_DU_roundToMultiple 2 = .ok (.invokevirtual 101, 3) := by decide +kernel
theorem d_DU_roundToMultiple_5 : decode b_DU_roundToMultiple 5 = .ok (.istore_n 2, 1) := by decide +kernel
theorem d_DU_roundToMultiple_6 : decode b_DU_roundToMultiple 6 = .ok (.iload_n 2, 1) := by decide +kernel
theorem d_DU_roundToMultiple_7 : decode b_DU_roundToMultiple 7 = .ok (.iconst (-1), 1) := by decide +kernel
theorem d_DU_roundToMultiple_8 : decode b_DU_roundToMultiple 8 = .ok (.if_icmp .ne 4, 3) := by decide +kernel
theorem d_DU_roundToMultiple_11 : decode b_DU_roundToMultiple 11 = .ok (.return_, 1) := by decide +kernel
theorem d_DU_roundToMultiple_12 : decode b_DU_roundToMultiple 12 = .ok (.aload_n 1, 1) := by decide +kernel
theorem d_DU_roundToMultiple_13 : decode b_DU_roundToMultiple 13 = .ok (.iload_n 2, 1) := by decide +kernel
theorem d_DU_roundToMultiple_14 : decode b_DU_roundToMultiple 14 = .ok (.iconst 0, 1) := by decide +kernel
theorem d_DU_roundToMultiple_15 : decode b_DU_roundToMultiple 15 = .ok (.invokevirtual 71, 3) := by decide +kernel
theorem d_DU_roundToMultiple_18 : decode b_DU_roundToMultiple 18 = .ok (.i2l, 1) := by decide +kernel
theorem d_DU_roundToMultiple_19 : decode b_DU_roundToMultiple 19 = .ok (.ldc2_w 105, 3) := by decide +kernel
theorem d_DU_roundToMultiple_22 : decode b_DU_roundToMultiple 22 = .ok (.lmul, 1) := by decide +kernel
theorem d_DU_roundToMultiple_23 : decode b_DU_roundToMultiple 23 = .ok (.lstore_n 3, 1) := by decide +kernel
theorem d_DU_roundToMultiple_24 : decode b_DU_roundToMultiple 24 = .ok (.lload_n 3, 1) := by decide +kernel
theorem d_DU_roundToMultiple_25 : decode b_DU_roundToMultiple 25 = .ok (.lconst 1, 1) := by decide +kernel
theorem d_DU_roundToMultiple_26 : decode b_DU_roundToMultiple 26 = .ok (.lcmp, 1) := by decide +kernel
theorem d_DU_roundToMultiple_27 : decode b_DU_roundToMultiple 27 = .ok (.ifCond .ge 4, 3) := by decide +kernel
theorem d_DU_roundToMultiple_30 : decode b_DU_roundToMultiple 30 = .ok (.return_, 1) := by decide +kernel
theorem d_DU_roundToMultiple_31 : decode b_DU_roundToMultiple 31 = .ok (.aload_n 0, 1) := by decide +kernel
theorem d_DU_roundToMultiple_32 : decode b_DU_roundToMultiple 32 = .ok (.ldc2_w 107, 3) := by decide +kernel
theorem d_DU_roundToMultiple_35 : decode b_DU_roundToMultiple 35 = .ok (.aload_n 0, 1) := by decide +kernel
theorem d_DU_roundToMultiple_36 : decode b_DU_roundToMultiple 36 = .ok (.getfield 21, 3) := by decide +kernel
theorem d_DU_roundToMultiple_39 : decode b_DU_roundToMultiple 39 = .ok (.lmul, 1) := by decide +kernel
theorem d_DU_roundToMultiple_40 : decode b_DU_roundToMultiple 40 = .ok (.lload_n 3, 1) := by decide +kernel
theorem d_DU_roundToMultiple_41 : decode b_DU_roundToMultiple 41 = .ok (.ladd, 1) := by decide +kernel
theorem d_DU_roundToMultiple_42 : decode b_DU_roundToMultiple 42 = .ok (.ldc2_w 107, 3) := by decide +kernel
theorem d_DU_roundToMultiple_45 : decode b_DU_roundToMultiple 45 = .ok (.lload_n 3, 1) := by decide +kernel
theorem d_DU_roundToMultiple_46 : decode b_DU_roundToMultiple 46 = .ok (.lmul, 1) := by decide +kernel
theorem d_DU_roundToMultiple_47 : decode b_DU_roundToMultiple 47 = .ok (.ldiv, 1) := by decide +kernel
theorem d_DU_roundToMultiple_48 : decode b_DU_roundToMultiple 48 = .ok (.lload_n 3, 1) := by decide +kernel
theorem d_DU_roundToMultiple_49 : decode b_DU_roundToMultiple 49 = .ok (.lmul, 1) := by decide +kernel
theorem d_DU_roundToMultiple_50 : decode b_DU_roundToMultiple 50 = .ok (.putfield 21, 3) := by decide +kernel
theorem d_DU_roundToMultiple_53 : decode b_DU_roundToMultiple 53 = .ok (.aload_n 0, 1) := by decide +kernel
theorem d_DU_roundToMultiple_54 : decode b_DU_roundToMultiple 54 = .ok (.iconst 4, 1) := by decide +kernel
theorem d_DU_roundToMultiple_55 : decode b_DU_roundToMultiple 55 = .ok (.iload_n 2, 1) := by decide +kernel
theorem d_DU_roundToMultiple_56 : decode b_DU_roundToMultiple 56 = .ok (.invokevirtual 78, 3) := by decide +kernel
theorem d_DU_roundToMultiple_59 : decode b_DU_roundToMultiple 59 = .ok (.return_, 1) := by decide +kernel
theorem d_DR_reduced_0 : decode b_DR_reduced 0 = .ok (.lload_n 0, 1) := by decide +kernel
theorem d_DR_reduced_1 : decode b_DR_reduced 1 = .ok (.lload_n 2, 1) := by decide +kernel
theorem d_DR_reduced_2 : decode b_DR_reduced 2 = .ok (.invokestatic 249, 3) := by decide +kernel
theorem d_DR_reduced_5 : decode b_DR_reduced 5 = .ok (.lstore 5, 2) := by decide +kernel
theorem d_DR_reduced_7 : decode b_DR_reduced 7 = .ok (.lload 5, 2) := by decide +kernel
theorem d_DR_reduced_9 : decode b_DR_reduced 9 = .ok (.lconst 1, 1) := by decide +kernel
theorem d_DR_reduced_10 : decode b_DR_reduced 10 = .ok (.lcmp, 1) := by decide +kernel
theorem d_DR_reduced_11 : decode b_DR_reduced 11 = .ok (.ifCond .ge 7, 3) := by decide +kernel
theorem d_DR_reduced_14 : decode b_DR_reduced 14 = .ok (.ldc2_w 133, 3) := by decide +kernel
theorem d_DR_reduced_17 : decode b_DR_reduced 17 = .ok (.lreturn, 1) := by decide +kernel
theorem d_DR_reduced_18 : decode b_DR_reduced 18 = .ok (.iload 4, 2) := by decide +kernel
theorem d_DR_reduced_20 : decode b_DR_reduced 20 = .ok (.ifCond .ne 7, 3) := by decide +kernel
theorem d_DR_reduced_23 : decode b_DR_reduced 23 = .ok (.lload_n 0, 1) := by decide +kernel
theorem d_DR_reduced_24 : decode b_DR_reduced 24 = .ok (.goto 4, 3) := by decide +kernel
theorem d_DR_reduced_27 : decode b_DR_reduced 27 = .ok (.lload_n 2, 1) := by decide +kernel
theorem d_DR_reduced_28 : decode b_DR_reduced 28 = .ok (.lload 5, 2) := by decide +kernel
theorem d_DR_reduced_30 : decode b_DR_reduced 30 = .ok (.ldiv, 1) := by decide +kernel
theorem d_DR_reduced_31 : decode b_DR_reduced 31 = .ok (.lreturn, 1) := by decide +kernel
theorem d_DR_commonDivisor_0 : decode b_DR_commonDivisor 0 = .ok (.lload_n 0, 1) := by decide +kernel
theorem d_DR_commonDivisor_1 : decode b_DR_commonDivisor 1 = .ok (.lstore 4, 2) := by decide +kernel
theorem d_DR_commonDivisor_3 : decode b_DR_commonDivisor 3 = .ok (.lload_n 2, 1) := by decide +kernel
theorem d_DR_commonDivisor_4 : decode b_DR_commonDivisor 4 = .ok (.lstore 6, 2) := by decide +kernel
theorem d_DR_commonDivisor_6 : decode b_DR_commonDivisor 6 = .ok (.iconst 0, 1) := by decide +kernel
theorem d_DR_commonDivisor_7 : decode b_DR_commonDivisor 7 = .ok (.istore 8, 2) := by decide +kernel
theorem d_DR_commonDivisor_9 : decode b_DR_commonDivisor 9 = .ok (.iload 8, 2) := by decide +kernel
theorem d_DR_commonDivisor_11 : decode b_DR_commonDivisor 11 = .ok (.bipush 100, 2) := by decide +kernel
theorem d_DR_commonDivisor_13 : decode b_DR_commonDivisor 13 = .ok (.if_icmp .ge 31, 3) := by decide +kernel
theorem d_DR_commonDivisor_16 : decode b_DR_commonDivisor 16 = .ok (.lload 6, 2) := by decide +kernel
theorem d_DR_commonDivisor_18 : decode b_DR_commonDivisor 18 = .ok (.lconst 0, 1) := by decide +kernel
theorem d_DR_commonDivisor_19 : decode b_DR_commonDivisor 19 = .ok (.lcmp, 1) := by decide +kernel
theorem d_DR_commonDivisor_20 : decode b_DR_commonDivisor 20 = .ok (.ifCond .eq 24, 3) := by decide +kernel
theorem d_DR_commonDivisor_23 : decode b_DR_commonDivisor 23 = .ok (.lload 4, 2) := by decide +kernel
theorem d_DR_commonDivisor_25 : decode b_DR_commonDivisor 25 = .ok (.lload 6, 2) := by decide +kernel
theorem d_DR_commonDivisor_27 : decode b_DR_commonDivisor 27 = .ok (.lrem, 1) := by decide +kernel
theorem d_DR_commonDivisor_28 : decode b_DR_commonDivisor 28 = .ok (.lstore 9, 2) := by decide +kernel
theorem d_DR_commonDivisor_30 : decode b_DR_commonDivisor 30 = .ok (.lload 6, 2) := by decide +kernel
theorem d_DR_commonDivisor_32 : decode b_DR_commonDivisor 32 = .ok (.lstore 4, 2) := by decide +kernel
theorem d_DR_commonDivisor_34 : decode b_DR_commonDivisor 34 = .ok (.lload 9, 2) := by decide +kernel
theorem d_DR_commonDivisor_36 : decode b_DR_commonDivisor 36 = .ok (.lstore 6, 2) := by decide +kernel
theorem d_DR_commonDivisor_38 : decode b_DR_commonDivisor 38 = .ok (.iinc 8 1, 3) := by decide +kernel
theorem d_DR_commonDivisor_41 : decode b_DR_commonDivisor 41 = .ok (.goto (-32), 3) := by decide +kernel
theorem d_DR_commonDivisor_44 : decode b_DR_commonDivisor 44 = .ok (.lload 4, 2) := by decide +kernel
theorem d_DR_commonDivisor_46 : decode b_DR_commonDivisor 46 = .ok (.lreturn, 1) := by decide +kernel
theorem d_DR_open_0 : decode b_DR_open 0 = .ok (.aload_n 0, 1) := by decide +kernel
theorem d_DR_open_1 : decode b_DR_open 1 = .ok (.getfield 53, 3) := by decide +kernel
theorem d_DR_open_4 : decode b_DR_open 4 = .ok (.ifCond .ne 5, 3) := by decide +kernel
theorem d_DR_open_7 : decode b_DR_open 7 = .ok (.iconst (-1), 1) := by decide +kernel
theorem d_DR_open_8 : decode b_DR_open 8 = .ok (.ireturn, 1) := by decide +kernel
theorem d_DR_open_9 : decode b_DR_open 9 = .ok (.iload_n 1, 1) := by decide +kernel
theorem d_DR_open_10 : decode b_DR_open 10 = .ok (.tableswitch 50 0 2 #[26, 34, 42], 26) := by decide +kernel
theorem d_DR_open_36 : decode b_DR_open 36 = .ok (.aload_n 0, 1) := by decide +kernel
theorem d_DR_open_37 : decode b_DR_open 37 = .ok (.getfield 33, 3) := by decide +kernel
theorem d_DR_open_40 : decode b_DR_open 40 = .ok (.getfield 152, 3) := by decide +kernel
theorem d_DR_open_43 : decode b_DR_open 43 = .ok (.ireturn, 1) := by decide +kernel
theorem d_DR_open_44 : decode b_DR_open 44 = .ok (.aload_n 0, 1) := by decide +kernel
theorem d_DR_open_45 : decode b_DR_open 45 = .ok (.getfield 33, 3) := by decide +kernel
theorem d_DR_open_48 : decode b_DR_open 48 = .ok (.getfield 139, 3) := by decide +kernel
theorem d_DR_open_51 : decode b_DR_open 51 = .ok (.ireturn, 1) := by decide +kernel
theorem d_DR_open_52 : decode b_DR_open 52 = .ok (.aload_n 0, 1) := by decide +kernel
theorem d_DR_open_53 : decode b_DR_open 53 = .ok (.getfield 33, 3) := by decide +kernel
theorem d_DR_open_56 : decode b_DR_open 56 = .ok (.getfield 155, 3) := by decide +kernel
theorem d_DR_open_59 : decode b_DR_open 59 = .ok (.ireturn, 1) := by decide +kernel
theorem d_DR_open_60 : decode b_DR_open 60 = .ok (.iconst (-1), 1) := by decide +kernel
theorem d_DR_open_61 : decode b_DR_open 61 = .ok (.ireturn, 1) := by decide +kernel
theorem d_DR_step_0 : decode b_DR_step 0 = .ok (.aload_n 0, 1) := by decide +kernel
theorem d_DR_step_1 : decode b_DR_step 1 = .ok (.getfield 53, 3) := by decide +kernel
theorem d_DR_step_4 : decode b_DR_step 4 = .ok (.ifCond .eq 29, 3) := by decide +kernel
theorem d_DR_step_7 : decode b_DR_step 7 = .ok (.aload_n 0, 1) := by decide +kernel
theorem d_DR_step_8 : decode b_DR_step 8 = .ok (.getfield 33, 3) := by decide +kernel
theorem d_DR_step_11 : decode b_DR_step 11 = .ok (.getfield 152, 3) := by decide +kernel
theorem d_DR_step_14 : decode b_DR_step 14 = .ok (.iload_n 1, 1) := by decide +kernel
theorem d_DR_step_15 : decode b_DR_step 15 = .ok (.if_icmp .ne 18, 3) := by decide +kernel
theorem d_DR_step_18 : decode b_DR_step 18 = .ok (.iload_n 2, 1) := by decide +kernel
theorem d_DR_step_19 : decode b_DR_step 19 = .ok (.ifCond .lt 14, 3) := by decide +kernel
theorem d_DR_step_22 : decode b_DR_step 22 = .ok (.iload_n 2, 1) := by decide +kernel
theorem d_DR_step_23 : decode b_DR_step 23 = .ok (.aload_n 0, 1) := by decide +kernel
theorem d_DR_step_24 : decode b_DR_step 24 = .ok (.getfield 33, 3) := by decide +kernel
theorem d_DR_step_27 : decode b_DR_step 27 = .ok (.getfield 155, 3) := by decide +kernel
theorem d_DR_step_30 : decode b_DR_step 30 = .ok (.if_icmp .lt 5, 3) := by decide +kernel
theorem d_DR_step_33 : decode b_DR_step 33 = .ok (.iconst (-1), 1) := by decide +kernel
theorem d_DR_step_34 : decode b_DR_step 34 = .ok (.ireturn, 1) := by decide +kernel
theorem d_DR_step_35 : decode b_DR_step 35 = .ok (.iload_n 3, 1) := by decide +kernel
theorem d_DR_step_36 : decode b_DR_step 36 = .ok (.tableswitch 65 0 2 #[28, 38, 48], 28) := by decide +kernel
theorem d_DR_step_64 : decode b_DR_step 64 = .ok (.aload_n 0, 1) := by decide +kernel
theorem d_DR_step_65 : decode b_DR_step 65 = .ok (.getfield 33, 3) := by decide +kernel
theorem d_DR_step_68 : decode b_DR_step 68 = .ok (.getfield 158, 3) := by decide +kernel
theorem d_DR_step_71 : decode b_DR_step 71 = .ok (.iload_n 2, 1) := by decide +kernel
theorem d_DR_step_72 : decode b_DR_step 72 = .ok (.iaload, 1) := by decide +kernel
theorem d_DR_step_73 : decode b_DR_step 73 = .ok (.ireturn, 1) := by decide +kernel
theorem d_DR_step_74 : decode b_DR_step 74 = .ok (.aload_n 0, 1) := by decide +kernel
theorem d_DR_step_75 : decode b_DR_step 75 = .ok (.getfield 33, 3) := by decide +kernel
theorem d_DR_step_78 : decode b_DR_step 78 = .ok (.getfield 162, 3) := by decide +kernel
theorem d_DR_step_81 : decode b_DR_step 81 = .ok (.iload_n 2, 1) := by decide +kernel
theorem d_DR_step_82 : decode b_DR_step 82 = .ok (.iaload, 1) := by decide +kernel
theorem d_DR_step_83 : decode b_DR_step 83 = .ok (.ireturn, 1) := by decide +kernel
theorem d_DR_step_84 : decode b_DR_step 84 = .ok (.aload_n 0, 1) := by decide +kernel
theorem d_DR_step_85 : decode b_DR_step 85 = .ok (.getfield 33, 3) := by decide +kernel
theorem d_DR_step_88 : decode b_DR_step 88 = .ok (.getfield 165, 3) := by decide +kernel
theorem d_DR_step_91 : decode b_DR_step 91 = .ok (.iload_n 2, 1) := by decide +kernel
theorem d_DR_step_92 : decode b_DR_step 92 = .ok (.laload, 1) := by decide +kernel
theorem d_DR_step_93 : decode b_DR_step 93 = .ok (.ldc2_w 169, 3) := by decide +kernel
theorem d_DR_step_96 : decode b_DR_step 96 = .ok (.invokestatic 171, 3) := by decide +kernel
theorem d_DR_step_99 : decode b_DR_step 99 = .ok (.l2i, 1) := by decide +kernel
theorem d_DR_step_100 : decode b_DR_step 100 = .ok (.ireturn, 1) := by decide +kernel
theorem d_DR_step_101 : decode b_DR_step 101 = .ok (.iconst (-1), 1) := by decide +kernel
theorem d_DR_step_102 : decode b_DR_step 102 = .ok (.ireturn, 1) := by decide +kernel
theorem d_DR_allowed_0 : decode b_DR_allowed 0 = .ok (.iload_n 1, 1) := by decide +kernel
theorem d_DR_allowed_1 : decode b_DR_allowed 1 = .ok (.invokestatic 177, 3) := by decide +kernel
theorem d_DR_allowed_4 : decode b_DR_allowed 4 = .ok (.ifCond .eq 10, 3) := by decide +kernel
theorem d_DR_allowed_7 : decode b_DR_allowed 7 = .ok (.iload_n 2, 1) := by decide +kernel
theorem d_DR_allowed_8 : decode b_DR_allowed 8 = .ok (.invokestatic 130, 3) := by decide +kernel
theorem d_DR_allowed_11 : decode b_DR_allowed 11 = .ok (.ifCond .ne 7, 3) := by decide +kernel
theorem d_DR_allowed_14 : decode b_DR_allowed 14 = .ok (.ldc2_w 180, 3) := by decide +kernel
theorem d_DR_allowed_17 : decode b_DR_allowed 17 = .ok (.lreturn, 1) := by decide +kernel
theorem d_DR_allowed_18 : decode b_DR_allowed 18 = .ok (.iload_n 1, 1) := by decide +kernel
theorem d_DR_allowed_19 : decode b_DR_allowed 19 = .ok (.invokestatic 182, 3) := by decide +kernel
theorem d_DR_allowed_22 : decode b_DR_allowed 22 = .ok (.istore_n 3, 1) := by decide +kernel
theorem d_DR_allowed_23 : decode b_DR_allowed 23 = .ok (.lconst 0, 1) := by decide +kernel
theorem d_DR_allowed_24 : decode b_DR_allowed 24 = .ok (.lstore 4, 2) := by decide +kernel
theorem d_DR_allowed_26 : decode b_DR_allowed 26 = .ok (.iconst 0, 1) := by decide +kernel
theorem d_DR_allowed_27 : decode b_DR_allowed 27 = .ok (.istore 6, 2) := by decide +kernel
theorem d_DR_allowed_29 : decode b_DR_allowed 29 = .ok (.iload 6, 2) := by decide +kernel
theorem d_DR_allowed_31 : decode b_DR_allowed 31 = .ok (.bipush 30, 2) := by decide +kernel
theorem d_DR_allowed_33 : decode b_DR_allowed 33 = .ok (.if_icmp .ge 40, 3) := by decide +kernel
theorem d_DR_allowed_36 : decode b_DR_allowed 36 = .ok (.aload_n 0, 1) := by decide +kernel
theorem d_DR_allowed_37 : decode b_DR_allowed 37 = .ok (.getfield 37, 3) := by decide +kernel
theorem d_DR_allowed_40 : decode b_DR_allowed 40 = .ok (.aload_n 0, 1) := by decide +kernel
theorem d_DR_allowed_41 : decode b_DR_allowed 41 = .ok (.getfield 19, 3) := by decide +kernel
theorem d_DR_allowed_44 : decode b_DR_allowed 44 = .ok (.aload_n 0, 1) := by decide +kernel
theorem d_DR_allowed_45 : decode b_DR_allowed 45 = .ok (.getfield 26, 3) := by decide +kernel
theorem d_DR_allowed_48 : decode b_DR_allowed 48 = .ok (.iload 6, 2) := by decide +kernel
theorem d_DR_allowed_50 : decode b_DR_allowed 50 = .ok (.iload_n 3, 1) := by decide +kernel
theorem d_DR_allowed_51 : decode b_DR_allowed 51 = .ok (.iload_n 3, 1) := by decide +kernel
theorem d_DR_allowed_52 : decode b_DR_allowed 52 = .ok (.invokevirtual 135, 3) := by decide +kernel
theorem d_DR_allowed_55 : decode b_DR_allowed 55 = .ok (.lload 4, 2) := by decide +kernel
theorem d_DR_allowed_57 : decode b_DR_allowed 57 = .ok (.aload_n 0, 1) := by decide +kernel
theorem d_DR_allowed_58 : decode b_DR_allowed 58 = .ok (.getfield 37, 3) := by decide +kernel
theorem d_DR_allowed_61 : decode b_DR_allowed 61 = .ok (.getfield 185, 3) := by decide +kernel
theorem d_DR_allowed_64 : decode b_DR_allowed 64 = .ok (.ladd, 1) := by decide +kernel
theorem d_DR_allowed_65 : decode b_DR_allowed 65 = .ok (.lstore 4, 2) := by decide +kernel
theorem d_DR_allowed_67 : decode b_DR_allowed 67 = .ok (.iinc 6 1, 3) := by decide +kernel
theorem d_DR_allowed_70 : decode b_DR_allowed 70 = .ok (.goto (-41), 3) := by decide +kernel
theorem d_DR_allowed_73 : decode b_DR_allowed 73 = .ok (.lload 4, 2) := by decide +kernel
theorem d_DR_allowed_75 : decode b_DR_allowed 75 = .ok (.ldc2_w 188, 3) := by decide +kernel
theorem d_DR_allowed_78 : decode b_DR_allowed 78 = .ok (.iload_n 2, 1) := by decide +kernel
theorem d_DR_allowed_79 : decode b_DR_allowed 79 = .ok (.invokestatic 148, 3) := by decide +kernel
theorem d_DR_allowed_82 : decode b_DR_allowed 82 = .ok (.lreturn, 1) := by decide +kernel
theorem d_DR_isMonth_0 : decode b_DR_isMonth 0 = .ok (.iload_n 0, 1) := by decide +kernel
theorem d_DR_isMonth_1 : decode b_DR_isMonth 1 = .ok (.ifCond .lt 14, 3) := by decide +kernel
theorem d_DR_isMonth_4 : decode b_DR_isMonth 4 = .ok (.iload_n 0, 1) := by decide +kernel
theorem d_DR_isMonth_5 : decode b_DR_isMonth 5 = .ok (.sipush 3000, 3) := by decide +kernel
theorem d_DR_isMonth_8 : decode b_DR_isMonth 8 = .ok (.if_icmp .gt 7, 3) := by decide +kernel
theorem d_DR_isMonth_11 : decode b_DR_isMonth 11 = .ok (.iconst 1, 1) := by decide +kernel
theorem d_DR_isMonth_12 : decode b_DR_isMonth 12 = .ok (.goto 4, 3) := by decide +kernel
theorem d_DR_isMonth_15 : decode b_DR_isMonth 15 = .ok (.iconst 0, 1) := by decide +kernel
theorem d_DR_isMonth_16 : decode b_DR_isMonth 16 = .ok (.ireturn, 1) := by decide +kernel
theorem d_DR_lastDayOf_0 : decode b_DR_lastDayOf 0 = .ok (.bipush 30, 2) := by decide +kernel
theorem d_DR_lastDayOf_2 : decode b_DR_lastDayOf 2 = .ok (.iload_n 0, 1) := by decide +kernel
theorem d_DR_lastDayOf_3 : decode b_DR_lastDayOf 3 = .ok (.imul, 1) := by decide +kernel
theorem d_DR_lastDayOf_4 : decode b_DR_lastDayOf 4 = .ok (.bipush 30, 2) := by decide +kernel
theorem d_DR_lastDayOf_6 : decode b_DR_lastDayOf 6 = .ok (.iadd, 1) := by decide +kernel
theorem d_DR_lastDayOf_7 : decode b_DR_lastDayOf 7 = .ok (.iconst 1, 1) := by decide +kernel
theorem d_DR_lastDayOf_8 : decode b_DR_lastDayOf 8 = .ok (.isub, 1) := by decide +kernel
theorem d_DR_lastDayOf_9 : decode b_DR_lastDayOf 9 = .ok (.ireturn, 1) := by decide +kernel
theorem d_DR_returned_0 : decode b_DR_returned 0 = .ok (.iload_n 1, 1) := by decide +kernel
theorem d_DR_returned_1 : decode b_DR_returned 1 = .ok (.invokestatic 177, 3) := by decide +kernel
theorem d_DR_returned_4 : decode b_DR_returned 4 = .ok (.ifCond .ne 5, 3) := by decide +kernel
theorem d_DR_returned_7 : decode b_DR_returned 7 = .ok (.iconst (-1), 1) := by decide +kernel
theorem d_DR_returned_8 : decode b_DR_returned 8 = .ok (.ireturn, 1) := by decide +kernel
theorem d_DR_returned_9 : decode b_DR_returned 9 = .ok (.aload_n 0, 1) := by decide +kernel
theorem d_DR_returned_10 : decode b_DR_returned 10 = .ok (.iload_n 1, 1) := by decide +kernel
theorem d_DR_returned_11 : decode b_DR_returned 11 = .ok (.invokevirtual 190, 3) := by decide +kernel
theorem d_DR_returned_14 : decode b_DR_returned 14 = .ok (.astore_n 2, 1) := by decide +kernel
theorem d_DR_returned_15 : decode b_DR_returned 15 = .ok (.aload_n 2, 1) := by decide +kernel
theorem d_DR_returned_16 : decode b_DR_returned 16 = .ok (.ifnonnull 21, 3) := by decide +kernel
theorem d_DR_returned_19 : decode b_DR_returned 19 = .ok (.new 194, 3) := by decide +kernel
theorem d_DR_returned_22 : decode b_DR_returned 22 = .ok (.dup, 1) := by decide +kernel
theorem d_DR_returned_23 : decode b_DR_returned 23 = .ok (.iload_n 1, 1) := by decide +kernel
theorem d_DR_returned_24 : decode b_DR_returned 24 = .ok (.aload_n 0, 1) := by decide +kernel
theorem d_DR_returned_25 : decode b_DR_returned 25 = .ok (.getfield 57, 3) := by decide +kernel
theorem d_DR_returned_28 : decode b_DR_returned 28 = .ok (.invokespecial 196, 3) := by decide +kernel
theorem d_DR_returned_31 : decode b_DR_returned 31 = .ok (.astore_n 2, 1) := by decide +kernel
theorem d_DR_returned_32 : decode b_DR_returned 32 = .ok (.aload_n 0, 1) := by decide +kernel
theorem d_DR_returned_33 : decode b_DR_returned 33 = .ok (.aload_n 2, 1) := by decide +kernel
theorem d_DR_returned_34 : decode b_DR_returned 34 = .ok (.putfield 57, 3) := by decide +kernel
theorem d_DR_returned_37 : decode b_DR_returned 37 = .ok (.bipush 30, 2) := by decide +kernel
theorem d_DR_returned_39 : decode b_DR_returned 39 = .ok (.iload_n 1, 1) := by decide +kernel
theorem d_DR_returned_40 : decode b_DR_returned 40 = .ok (.imul, 1) := by decide +kernel
theorem d_DR_returned_41 : decode b_DR_returned 41 = .ok (.istore_n 3, 1) := by decide +kernel
theorem d_DR_returned_42 : decode b_DR_returned 42 = .ok (.iload_n 1, 1) := by decide +kernel
theorem d_DR_returned_43 : decode b_DR_returned 43 = .ok (.invokestatic 182, 3) := by decide +kernel
theorem d_DR_returned_46 : decode b_DR_returned 46 = .ok (.istore 4, 2) := by decide +kernel
theorem d_DR_returned_48 : decode b_DR_returned 48 = .ok (.iconst 0, 1) := by decide +kernel
theorem d_DR_returned_49 : decode b_DR_returned 49 = .ok (.istore 5, 2) := by decide +kernel
theorem d_DR_returned_51 : decode b_DR_returned 51 = .ok (.iload 5, 2) := by decide +kernel
theorem d_DR_returned_53 : decode b_DR_returned 53 = .ok (.bipush 30, 2) := by decide +kernel
theorem d_DR_returned_55 : decode b_DR_returned 55 = .ok (.if_icmp .ge 45, 3) := by decide +kernel
theorem d_DR_returned_58 : decode b_DR_returned 58 = .ok (.aload_n 0, 1) := by decide +kernel
theorem d_DR_returned_59 : decode b_DR_returned 59 = .ok (.getfield 26, 3) := by decide +kernel
theorem d_DR_returned_62 : decode b_DR_returned 62 = .ok (.iload 5, 2) := by decide +kernel
theorem d_DR_returned_64 : decode b_DR_returned 64 = .ok (.iload_n 3, 1) := by decide +kernel
theorem d_DR_returned_65 : decode b_DR_returned 65 = .ok (.iload 4, 2) := by decide +kernel
theorem d_DR_returned_67 : decode b_DR_returned 67 = .ok (.invokevirtual 199, 3) := by decide +kernel
theorem d_DR_returned_70 : decode b_DR_returned 70 = .ok (.ifCond .eq 24, 3) := by decide +kernel
theorem d_DR_returned_73 : decode b_DR_returned 73 = .ok (.aload_n 2, 1) := by decide +kernel
theorem d_DR_returned_74 : decode b_DR_returned 74 = .ok (.iload 5, 2) := by decide +kernel
theorem d_DR_returned_76 : decode b_DR_returned 76 = .ok (.aload_n 0, 1) := by decide +kernel
theorem d_DR_returned_77 : decode b_DR_returned 77 = .ok (.iload 5, 2) := by decide +kernel
theorem d_DR_returned_79 : decode b_DR_returned 79 = .ok (.iload 4, 2) := by decide +kernel
theorem d_DR_returned_81 : decode b_DR_returned 81 = .ok (.aload_n 0, 1) := by decide +kernel
theorem d_DR_returned_82 : decode b_DR_returned 82 = .ok (.getfield 26, 3) := by decide +kernel
theorem d_DR_returned_85 : decode b_DR_returned 85 = .ok (.getfield 202, 3) := by decide +kernel
theorem d_DR_returned_88 : decode b_DR_returned 88 = .ok (.invokevirtual 205, 3) := by decide +kernel
theorem d_DR_returned_91 : decode b_DR_returned 91 = .ok (.invokevirtual 209, 3) := by decide +kernel
theorem d_DR_returned_94 : decode b_DR_returned 94 = .ok (.iinc 5 1, 3) := by decide +kernel
theorem d_DR_returned_97 : decode b_DR_returned 97 = .ok (.goto (-46), 3) := by decide +kernel
theorem d_DR_returned_100 : decode b_DR_returned 100 = .ok (.aload_n 0, 1) := by decide +kernel
theorem d_DR_returned_101 : decode b_DR_returned 101 = .ok (.aload_n 2, 1) := by decide +kernel
theorem d_DR_returned_102 : decode b_DR_returned 102 = .ok (.putfield 61, 3) := by decide +kernel
theorem d_DR_returned_105 : decode b_DR_returned 105 = .ok (.aload_n 2, 1) := by decide +kernel
theorem d_DR_returned_106 : decode b_DR_returned 106 = .ok (.invokevirtual 213, 3) := by decide +kernel
theorem d_DR_returned_109 : decode b_DR_returned 109 = .ok (.ireturn, 1) := by decide +kernel
theorem d_DR_returnOf_0 : decode b_DR_returnOf 0 = .ok (.aload_n 0, 1) := by decide +kernel
theorem d_DR_returnOf_1 : decode b_DR_returnOf 1 = .ok (.getfield 57, 3) := by decide +kernel
theorem d_DR_returnOf_4 : decode b_DR_returnOf 4 = .ok (.astore_n 2, 1) := by decide +kernel
theorem d_DR_returnOf_5 : decode b_DR_returnOf 5 = .ok (.aload_n 2, 1) := by decide +kernel
theorem d_DR_returnOf_6 : decode b_DR_returnOf 6 = .ok (.ifnull 21, 3) := by decide +kernel
theorem d_DR_returnOf_9 : decode b_DR_returnOf 9 = .ok (.aload_n 2, 1) := by decide +kernel
theorem d_DR_returnOf_10 : decode b_DR_returnOf 10 = .ok (.getfield 252, 3) := by decide +kernel
theorem d_DR_returnOf_13 : decode b_DR_returnOf 13 = .ok (.iload_n 1, 1) := by decide +kernel
theorem d_DR_returnOf_14 : decode b_DR_returnOf 14 = .ok (.if_icmp .ne 5, 3) := by decide +kernel
theorem d_DR_returnOf_17 : decode b_DR_returnOf 17 = .ok (.aload_n 2, 1) := by decide +kernel
theorem d_DR_returnOf_18 : decode b_DR_returnOf 18 = .ok (.areturn, 1) := by decide +kernel
theorem d_DR_returnOf_19 : decode b_DR_returnOf 19 = .ok (.aload_n 2, 1) := by decide +kernel
theorem d_DR_returnOf_20 : decode b_DR_returnOf 20 = .ok (.getfield 255, 3) := by decide +kernel
theorem d_DR_returnOf_23 : decode b_DR_returnOf 23 = .ok (.astore_n 2, 1) := by decide +kernel
theorem d_DR_returnOf_24 : decode b_DR_returnOf 24 = .ok (.goto (-19), 3) := by decide +kernel
theorem d_DR_returnOf_27 : decode b_DR_returnOf 27 = .ok (.aconst_null, 1) := by decide +kernel
theorem d_DR_returnOf_28 : decode b_DR_returnOf 28 = .ok (.areturn, 1) := by decide +kernel
theorem d_RE_init_0 : decode b_RE_init 0 = .ok (.aload_n 0, 1) := by decide +kernel
theorem d_RE_init_1 : decode b_RE_init 1 = .ok (.invokespecial 3, 3) := by decide +kernel
theorem d_RE_init_4 : decode b_RE_init 4 = .ok (.aload_n 0, 1) := by decide +kernel
theorem d_RE_init_5 : decode b_RE_init 5 = .ok (.iload_n 1, 1) := by decide +kernel
theorem d_RE_init_6 : decode b_RE_init 6 = .ok (.putfield 9, 3) := by decide +kernel
theorem d_RE_init_9 : decode b_RE_init 9 = .ok (.aload_n 0, 1) := by decide +kernel
theorem d_RE_init_10 : decode b_RE_init 10 = .ok (.aload_n 2, 1) := by decide +kernel
theorem d_RE_init_11 : decode b_RE_init 11 = .ok (.putfield 15, 3) := by decide +kernel
theorem d_RE_init_14 : decode b_RE_init 14 = .ok (.aload_n 0, 1) := by decide +kernel
theorem d_RE_init_15 : decode b_RE_init 15 = .ok (.bipush 30, 2) := by decide +kernel
theorem d_RE_init_17 : decode b_RE_init 17 = .ok (.newarray .boolean, 2) := by decide +kernel
theorem d_RE_init_19 : decode b_RE_init 19 = .ok (.putfield 19, 3) := by decide +kernel
theorem d_RE_init_22 : decode b_RE_init 22 = .ok (.aload_n 0, 1) := by decide +kernel
theorem d_RE_init_23 : decode b_RE_init 23 = .ok (.bipush 30, 2) := by decide +kernel
theorem d_RE_init_25 : decode b_RE_init 25 = .ok (.newarray .long, 2) := by decide +kernel
theorem d_RE_init_27 : decode b_RE_init 27 = .ok (.putfield 23, 3) := by decide +kernel
theorem d_RE_init_30 : decode b_RE_init 30 = .ok (.aload_n 0, 1) := by decide +kernel
theorem d_RE_init_31 : decode b_RE_init 31 = .ok (.bipush 30, 2) := by decide +kernel
theorem d_RE_init_33 : decode b_RE_init 33 = .ok (.newarray .long, 2) := by decide +kernel
theorem d_RE_init_35 : decode b_RE_init 35 = .ok (.putfield 27, 3) := by decide +kernel
theorem d_RE_init_38 : decode b_RE_init 38 = .ok (.return_, 1) := by decide +kernel
theorem d_FS_hasLitres_0 : decode b_FS_hasLitres 0 = .ok (.aload_n 0, 1) := by decide +kernel
theorem d_FS_hasLitres_1 : decode b_FS_hasLitres 1 = .ok (.iload_n 1, 1) := by decide +kernel
theorem d_FS_hasLitres_2 : decode b_FS_hasLitres 2 = .ok (.iconst 2, 1) := by decide +kernel
theorem d_FS_hasLitres_3 : decode b_FS_hasLitres 3 = .ok (.invokevirtual 36, 3) := by decide +kernel
theorem d_FS_hasLitres_6 : decode b_FS_hasLitres 6 = .ok (.astore 4, 2) := by decide +kernel
theorem d_FS_hasLitres_8 : decode b_FS_hasLitres 8 = .ok (.aload 4, 2) := by decide +kernel
theorem d_FS_hasLitres_10 : decode b_FS_hasLitres 10 = .ok (.ifnull 33, 3) := by decide +kernel
theorem d_FS_hasLitres_13 : decode b_FS_hasLitres 13 = .ok (.aload 4, 2) := by decide +kernel
theorem d_FS_hasLitres_15 : decode b_FS_hasLitres 15 = .ok (.getfield 43, 3) := by decide +kernel
theorem d_FS_hasLitres_18 : decode b_FS_hasLitres 18 = .ok (.iload_n 2, 1) := by decide +kernel
theorem d_FS_hasLitres_19 : decode b_FS_hasLitres 19 = .ok (.if_icmp .lt 14, 3) := by decide +kernel
theorem d_FS_hasLitres_22 : decode b_FS_hasLitres 22 = .ok (.aload 4, 2) := by decide +kernel
theorem d_FS_hasLitres_24 : decode b_FS_hasLitres 24 = .ok (.getfield 43, 3) := by decide +kernel
theorem d_FS_hasLitres_27 : decode b_FS_hasLitres 27 = .ok (.iload_n 3, 1) := by decide +kernel
theorem d_FS_hasLitres_28 : decode b_FS_hasLitres 28 = .ok (.if_icmp .gt 5, 3) := by decide +kernel
theorem d_FS_hasLitres_31 : decode b_FS_hasLitres 31 = .ok (.iconst 1, 1) := by decide +kernel
theorem d_FS_hasLitres_32 : decode b_FS_hasLitres 32 = .ok (.ireturn, 1) := by decide +kernel
theorem d_FS_hasLitres_33 : decode b_FS_hasLitres 33 = .ok (.aload 4, 2) := by decide +kernel
theorem d_FS_hasLitres_35 : decode b_FS_hasLitres 35 = .ok (.getfield 46, 3) := by decide +kernel
theorem d_FS_hasLitres_38 : decode b_FS_hasLitres 38 = .ok (.astore 4, 2) := by decide +kernel
theorem d_FS_hasLitres_40 : decode b_FS_hasLitres 40 = .ok (.goto (-32), 3) := by decide +kernel
theorem d_FS_hasLitres_43 : decode b_FS_hasLitres 43 = .ok (.iconst 0, 1) := by decide +kernel
theorem d_FS_hasLitres_44 : decode b_FS_hasLitres 44 = .ok (.ireturn, 1) := by decide +kernel
theorem d_DR_centsOf_0 : decode b_DR_centsOf 0 = .ok (.aload_n 0, 1) := by decide +kernel
theorem d_DR_centsOf_1 : decode b_DR_centsOf 1 = .ok (.getfield 37, 3) := by decide +kernel
theorem d_DR_centsOf_4 : decode b_DR_centsOf 4 = .ok (.aload_n 0, 1) := by decide +kernel
theorem d_DR_centsOf_5 : decode b_DR_centsOf 5 = .ok (.getfield 19, 3) := by decide +kernel
theorem d_DR_centsOf_8 : decode b_DR_centsOf 8 = .ok (.aload_n 0, 1) := by decide +kernel
theorem d_DR_centsOf_9 : decode b_DR_centsOf 9 = .ok (.getfield 26, 3) := by decide +kernel
theorem d_DR_centsOf_12 : decode b_DR_centsOf 12 = .ok (.iload_n 1, 1) := by decide +kernel
theorem d_DR_centsOf_13 : decode b_DR_centsOf 13 = .ok (.iload_n 2, 1) := by decide +kernel
theorem d_DR_centsOf_14 : decode b_DR_centsOf 14 = .ok (.iload_n 3, 1) := by decide +kernel
theorem d_DR_centsOf_15 : decode b_DR_centsOf 15 = .ok (.invokevirtual 135, 3) := by decide +kernel
theorem d_DR_centsOf_18 : decode b_DR_centsOf 18 = .ok (.aload_n 0, 1) := by decide +kernel
theorem d_DR_centsOf_19 : decode b_DR_centsOf 19 = .ok (.getfield 37, 3) := by decide +kernel
theorem d_DR_centsOf_22 : decode b_DR_centsOf 22 = .ok (.getfield 139, 3) := by decide +kernel
theorem d_DR_centsOf_25 : decode b_DR_centsOf 25 = .ok (.iconst (-1), 1) := by decide +kernel
theorem d_DR_centsOf_26 : decode b_DR_centsOf 26 = .ok (.if_icmp .ne 17, 3) := by decide +kernel
theorem d_DR_centsOf_29 : decode b_DR_centsOf 29 = .ok (.aload_n 0, 1) := by decide +kernel
theorem d_DR_centsOf_30 : decode b_DR_centsOf 30 = .ok (.getfield 37, 3) := by decide +kernel
theorem d_DR_centsOf_33 : decode b_DR_centsOf 33 = .ok (.getfield 142, 3) := by decide +kernel
theorem d_DR_centsOf_36 : decode b_DR_centsOf 36 = .ok (.ldc2_w 146, 3) := by decide +kernel
theorem d_DR_centsOf_39 : decode b_DR_centsOf 39 = .ok (.ldiv, 1) := by decide +kernel
theorem d_DR_centsOf_40 : decode b_DR_centsOf 40 = .ok (.goto 6, 3) := by decide +kernel
theorem d_DR_centsOf_43 : decode b_DR_centsOf 43 = .ok (.ldc2_w 133, 3) := by decide +kernel
theorem d_DR_centsOf_46 : decode b_DR_centsOf 46 = .ok (.lreturn, 1) := by decide +kernel
theorem d_RE_put_0 : decode b_RE_put 0 = .ok (.iload_n 1, 1) := by decide +kernel
theorem d_RE_put_1 : decode b_RE_put 1 = .ok (.invokestatic 30, 3) := by decide +kernel
theorem d_RE_put_4 : decode b_RE_put 4 = .ok (.ifCond .ne 4, 3) := by decide +kernel
theorem d_RE_put_7 : decode b_RE_put 7 = .ok (.return_, 1) := by decide +kernel
theorem d_RE_put_8 : decode b_RE_put 8 = .ok (.aload_n 0, 1) := by decide +kernel
theorem d_RE_put_9 : decode b_RE_put 9 = .ok (.iload_n 1, 1) := by decide +kernel
theorem d_RE_put_10 : decode b_RE_put 10 = .ok (.invokevirtual 34, 3) := by decide +kernel
theorem d_RE_put_13 : decode b_RE_put 13 = .ok (.ifCond .eq 15, 3) := by decide +kernel
theorem d_RE_put_16 : decode b_RE_put 16 = .ok (.lload_n 2, 1) := by decide +kernel
theorem d_RE_put_17 : decode b_RE_put 17 = .ok (.ldc2_w 37, 3) := by decide +kernel
theorem d_RE_put_20 : decode b_RE_put 20 = .ok (.lcmp, 1) := by decide +kernel
theorem d_RE_put_21 : decode b_RE_put 21 = .ok (.ifCond .eq 7, 3) := by decide +kernel
theorem d_RE_put_24 : decode b_RE_put 24 = .ok (.iconst 1, 1) := by decide +kernel
theorem d_RE_put_25 : decode b_RE_put 25 = .ok (.goto 4, 3) := by decide +kernel
theorem d_RE_put_28 : decode b_RE_put 28 = .ok (.iconst 0, 1) := by decide +kernel
theorem d_RE_put_29 : decode b_RE_put 29 = .ok (.istore 4, 2) := by decide +kernel
theorem d_RE_put_31 : decode b_RE_put 31 = .ok (.aload_n 0, 1) := by decide +kernel
theorem d_RE_put_32 : decode b_RE_put 32 = .ok (.getfield 27, 3) := by decide +kernel
theorem d_RE_put_35 : decode b_RE_put 35 = .ok (.iload_n 1, 1) := by decide +kernel
theorem d_RE_put_36 : decode b_RE_put 36 = .ok (.iload 4, 2) := by decide +kernel
theorem d_RE_put_38 : decode b_RE_put 38 = .ok (.ifCond .eq 14, 3) := by decide +kernel
theorem d_RE_put_41 : decode b_RE_put 41 = .ok (.lload_n 2, 1) := by decide +kernel
theorem d_RE_put_42 : decode b_RE_put 42 = .ok (.aload_n 0, 1) := by decide +kernel
theorem d_RE_put_43 : decode b_RE_put 43 = .ok (.getfield 23, 3) := by decide +kernel
theorem d_RE_put_46 : decode b_RE_put 46 = .ok (.iload_n 1, 1) := by decide +kernel
theorem d_RE_put_47 : decode b_RE_put 47 = .ok (.laload, 1) := by decide +kernel
theorem d_RE_put_48 : decode b_RE_put 48 = .ok (.lsub, 1) := by decide +kernel
theorem d_RE_put_49 : decode b_RE_put 49 = .ok (.goto 4, 3) := by decide +kernel
theorem d_RE_put_52 : decode b_RE_put 52 = .ok (.lconst 0, 1) := by decide +kernel
theorem d_RE_put_53 : decode b_RE_put 53 = .ok (.lastore, 1) := by decide +kernel
theorem d_RE_put_54 : decode b_RE_put 54 = .ok (.aload_n 0, 1) := by decide +kernel
theorem d_RE_put_55 : decode b_RE_put 55 = .ok (.getfield 23, 3) := by decide +kernel
theorem d_RE_put_58 : decode b_RE_put 58 = .ok (.iload_n 1, 1) := by decide +kernel
theorem d_RE_put_59 : decode b_RE_put 59 = .ok (.lload_n 2, 1) := by decide +kernel
theorem d_RE_put_60 : decode b_RE_put 60 = .ok (.lastore, 1) := by decide +kernel
theorem d_RE_put_61 : decode b_RE_put 61 = .ok (.aload_n 0, 1) := by decide +kernel
theorem d_RE_put_62 : decode b_RE_put 62 = .ok (.getfield 19, 3) := by decide +kernel
theorem d_RE_put_65 : decode b_RE_put 65 = .ok (.iload_n 1, 1) := by decide +kernel
theorem d_RE_put_66 : decode b_RE_put 66 = .ok (.iconst 1, 1) := by decide +kernel
theorem d_RE_put_67 : decode b_RE_put 67 = .ok (.bastore, 1) := by decide +kernel
theorem d_RE_put_68 : decode b_RE_put 68 = .ok (.return_, 1) := by decide +kernel
theorem d_RE_isSettled_0 : decode b_RE_isSettled 0 = .ok (.iload_n 1, 1) := by decide +kernel
theorem d_RE_isSettled_1 : decode b_RE_isSettled 1 = .ok (.invokestatic 30, 3) := by decide +kernel
theorem d_RE_isSettled_4 : decode b_RE_isSettled 4 = .ok (.ifCond .eq 29, 3) := by decide +kernel
theorem d_RE_isSettled_7 : decode b_RE_isSettled 7 = .ok (.aload_n 0, 1) := by decide +kernel
theorem d_RE_isSettled_8 : decode b_RE_isSettled 8 = .ok (.getfield 19, 3) := by decide +kernel
theorem d_RE_isSettled_11 : decode b_RE_isSettled 11 = .ok (.iload_n 1, 1) := by decide +kernel
theorem d_RE_isSettled_12 : decode b_RE_isSettled 12 = .ok (.baload, 1) := by decide +kernel
theorem d_RE_isSettled_13 : decode b_RE_isSettled 13 = .ok (.ifCond .eq 20, 3) := by decide +kernel
theorem d_RE_isSettled_16 : decode b_RE_isSettled 16 = .ok (.aload_n 0, 1) := by decide +kernel
theorem d_RE_isSettled_17 : decode b_RE_isSettled 17 = .ok (.getfield 23, 3) := by decide +kernel
theorem d_RE_isSettled_20 : decode b_RE_isSettled 20 = .ok (.iload_n 1, 1) := by decide +kernel
theorem d_RE_isSettled_21 : decode b_RE_isSettled 21 = .ok (.laload, 1) := by decide +kernel
theorem d_RE_isSettled_22 : decode b_RE_isSettled 22 = .ok (.ldc2_w 37, 3) := by decide +kernel
theorem d_RE_isSettled_25 : decode b_RE_isSettled 25 = .ok (.lcmp, 1) := by decide +kernel
theorem d_RE_isSettled_26 : decode b_RE_isSettled 26 = .ok (.ifCond .eq 7, 3) := by decide +kernel
theorem d_RE_isSettled_29 : decode b_RE_isSettled 29 = .ok (.iconst 1, 1) := by decide +kernel
theorem d_RE_isSettled_30 : decode b_RE_isSettled 30 = .ok (.goto 4, 3) := by decide +kernel
theorem d_RE_isSettled_33 : decode b_RE_isSettled 33 = .ok (.iconst 0, 1) := by decide +kernel
theorem d_RE_isSettled_34 : decode b_RE_isSettled 34 = .ok (.ireturn, 1) := by decide +kernel
theorem d_RE_count_0 : decode b_RE_count 0 = .ok (.iconst 0, 1) := by decide +kernel
theorem d_RE_count_1 : decode b_RE_count 1 = .ok (.istore_n 1, 1) := by decide +kernel
theorem d_RE_count_2 : decode b_RE_count 2 = .ok (.iconst 0, 1) := by decide +kernel
theorem d_RE_count_3 : decode b_RE_count 3 = .ok (.istore_n 2, 1) := by decide +kernel
theorem d_RE_count_4 : decode b_RE_count 4 = .ok (.iload_n 2, 1) := by decide +kernel
theorem d_RE_count_5 : decode b_RE_count 5 = .ok (.bipush 30, 2) := by decide +kernel
theorem d_RE_count_7 : decode b_RE_count 7 = .ok (.if_icmp .ge 21, 3) := by decide +kernel
theorem d_RE_count_10 : decode b_RE_count 10 = .ok (.aload_n 0, 1) := by decide +kernel
theorem d_RE_count_11 : decode b_RE_count 11 = .ok (.getfield 19, 3) := by decide +kernel
theorem d_RE_count_14 : decode b_RE_count 14 = .ok (.iload_n 2, 1) := by decide +kernel
theorem d_RE_count_15 : decode b_RE_count 15 = .ok (.baload, 1) := by decide +kernel
theorem d_RE_count_16 : decode b_RE_count 16 = .ok (.ifCond .eq 6, 3) := by decide +kernel
theorem d_RE_count_19 : decode b_RE_count 19 = .ok (.iinc 1 1, 3) := by decide +kernel
theorem d_RE_count_22 : decode b_RE_count 22 = .ok (.iinc 2 1, 3) := by decide +kernel
theorem d_RE_count_25 : decode b_RE_count 25 = .ok (.goto (-21), 3) := by decide +kernel
theorem d_RE_count_28 : decode b_RE_count 28 = .ok (.iload_n 1, 1) := by decide +kernel
theorem d_RE_count_29 : decode b_RE_count 29 = .ok (.ireturn, 1) := by decide +kernel
theorem d_DR_row_0 : decode b_DR_row 0 = .ok (.aload_n 0, 1) := by decide +kernel
theorem d_DR_row_1 : decode b_DR_row 1 = .ok (.getfield 61, 3) := by decide +kernel
theorem d_DR_row_4 : decode b_DR_row 4 = .ok (.ifnonnull 7, 3) := by decide +kernel
theorem d_DR_row_7 : decode b_DR_row 7 = .ok (.ldc2_w 180, 3) := by decide +kernel
theorem d_DR_row_10 : decode b_DR_row 10 = .ok (.lreturn, 1) := by decide +kernel
theorem d_DR_row_11 : decode b_DR_row 11 = .ok (.aload_n 0, 1) := by decide +kernel
theorem d_DR_row_12 : decode b_DR_row 12 = .ok (.getfield 61, 3) := by decide +kernel
theorem d_DR_row_15 : decode b_DR_row 15 = .ok (.iload_n 1, 1) := by decide +kernel
theorem d_DR_row_16 : decode b_DR_row 16 = .ok (.invokevirtual 215, 3) := by decide +kernel
theorem d_DR_row_19 : decode b_DR_row 19 = .ok (.istore_n 3, 1) := by decide +kernel
theorem d_DR_row_20 : decode b_DR_row 20 = .ok (.iload_n 3, 1) := by decide +kernel
theorem d_DR_row_21 : decode b_DR_row 21 = .ok (.iconst (-1), 1) := by decide +kernel
theorem d_DR_row_22 : decode b_DR_row 22 = .ok (.if_icmp .ne 7, 3) := by decide +kernel
theorem d_DR_row_25 : decode b_DR_row 25 = .ok (.ldc2_w 180, 3) := by decide +kernel
theorem d_DR_row_28 : decode b_DR_row 28 = .ok (.lreturn, 1) := by decide +kernel
theorem d_DR_row_29 : decode b_DR_row 29 = .ok (.iload_n 2, 1) := by decide +kernel
theorem d_DR_row_30 : decode b_DR_row 30 = .ok (.tableswitch 49 0 2 #[26, 29, 39], 26) := by decide +kernel
theorem d_DR_row_56 : decode b_DR_row 56 = .ok (.iload_n 3, 1) := by decide +kernel
theorem d_DR_row_57 : decode b_DR_row 57 = .ok (.i2l, 1) := by decide +kernel
theorem d_DR_row_58 : decode b_DR_row 58 = .ok (.lreturn, 1) := by decide +kernel
theorem d_DR_row_59 : decode b_DR_row 59 = .ok (.aload_n 0, 1) := by decide +kernel
theorem d_DR_row_60 : decode b_DR_row 60 = .ok (.getfield 61, 3) := by decide +kernel
theorem d_DR_row_63 : decode b_DR_row 63 = .ok (.getfield 218, 3) := by decide +kernel
theorem d_DR_row_66 : decode b_DR_row 66 = .ok (.iload_n 3, 1) := by decide +kernel
theorem d_DR_row_67 : decode b_DR_row 67 = .ok (.laload, 1) := by decide +kernel
theorem d_DR_row_68 : decode b_DR_row 68 = .ok (.lreturn, 1) := by decide +kernel
theorem d_DR_row_69 : decode b_DR_row 69 = .ok (.aload_n 0, 1) := by decide +kernel
theorem d_DR_row_70 : decode b_DR_row 70 = .ok (.getfield 61, 3) := by decide +kernel
theorem d_DR_row_73 : decode b_DR_row 73 = .ok (.getfield 221, 3) := by decide +kernel
theorem d_DR_row_76 : decode b_DR_row 76 = .ok (.iload_n 3, 1) := by decide +kernel
theorem d_DR_row_77 : decode b_DR_row 77 = .ok (.laload, 1) := by decide +kernel
theorem d_DR_row_78 : decode b_DR_row 78 = .ok (.lreturn, 1) := by decide +kernel
theorem d_DR_row_79 : decode b_DR_row 79 = .ok (.ldc2_w 180, 3) := by decide +kernel
theorem d_DR_row_82 : decode b_DR_row 82 = .ok (.lreturn, 1) := by decide +kernel
theorem d_RE_lotOfRow_0 : decode b_RE_lotOfRow 0 = .ok (.iconst 0, 1) := by decide +kernel
theorem d_RE_lotOfRow_1 : decode b_RE_lotOfRow 1 = .ok (.istore_n 2, 1) := by decide +kernel
theorem d_RE_lotOfRow_2 : decode b_RE_lotOfRow 2 = .ok (.iconst 0, 1) := by decide +kernel
theorem d_RE_lotOfRow_3 : decode b_RE_lotOfRow 3 = .ok (.istore_n 3, 1) := by decide +kernel
theorem d_RE_lotOfRow_4 : decode b_RE_lotOfRow 4 = .ok (.iload_n 3, 1) := by decide +kernel
theorem d_RE_lotOfRow_5 : decode b_RE_lotOfRow 5 = .ok (.bipush 30, 2) := by decide +kernel
theorem d_RE_lotOfRow_7 : decode b_RE_lotOfRow 7 = .ok (.if_icmp .ge 28, 3) := by decide +kernel
theorem d_RE_lotOfRow_10 : decode b_RE_lotOfRow 10 = .ok (.aload_n 0, 1) := by decide +kernel
theorem d_RE_lotOfRow_11 : decode b_RE_lotOfRow 11 = .ok (.getfield 19, 3) := by decide +kernel
theorem d_RE_lotOfRow_14 : decode b_RE_lotOfRow 14 = .ok (.iload_n 3, 1) := by decide +kernel
theorem d_RE_lotOfRow_15 : decode b_RE_lotOfRow 15 = .ok (.baload, 1) := by decide +kernel
theorem d_RE_lotOfRow_16 : decode b_RE_lotOfRow 16 = .ok (.ifCond .eq 13, 3) := by decide +kernel
theorem d_RE_lotOfRow_19 : decode b_RE_lotOfRow 19 = .ok (.iload_n 2, 1) := by decide +kernel
theorem d_RE_lotOfRow_20 : decode b_RE_lotOfRow 20 = .ok (.iload_n 1, 1) := by decide +kernel
theorem d_RE_lotOfRow_21 : decode b_RE_lotOfRow 21 = .ok (.if_icmp .ne 5, 3) := by decide +kernel
theorem d_RE_lotOfRow_24 : decode b_RE_lotOfRow 24 = .ok (.iload_n 3, 1) := by decide +kernel
theorem d_RE_lotOfRow_25 : decode b_RE_lotOfRow 25 = .ok (.ireturn, 1) := by decide +kernel
theorem d_RE_lotOfRow_26 : decode b_RE_lotOfRow 26 = .ok (.iinc 2 1, 3) := by decide +kernel
theorem d_RE_lotOfRow_29 : decode b_RE_lotOfRow 29 = .ok (.iinc 3 1, 3) := by decide +kernel
theorem d_RE_lotOfRow_32 : decode b_RE_lotOfRow 32 = .ok (.goto (-28), 3) := by decide +kernel
theorem d_RE_lotOfRow_35 : decode b_RE_lotOfRow 35 = .ok (.iconst (-1), 1) := by decide +kernel
theorem d_RE_lotOfRow_36 : decode b_RE_lotOfRow 36 = .ok (.ireturn, 1) := by decide +kernel
theorem d_DR_difference_0 : decode b_DR_difference 0 = .ok (.aload_n 0, 1) := by decide +kernel
theorem d_DR_difference_1 : decode b_DR_difference 1 = .ok (.iload_n 1, 1) := by decide +kernel
theorem d_DR_difference_2 : decode b_DR_difference 2 = .ok (.invokevirtual 190, 3) := by decide +kernel
theorem d_DR_difference_5 : decode b_DR_difference 5 = .ok (.astore 4, 2) := by decide +kernel
theorem d_DR_difference_7 : decode b_DR_difference 7 = .ok (.aload 4, 2) := by decide +kernel
theorem d_DR_difference_9 : decode b_DR_difference 9 = .ok (.ifnull 10, 3) := by decide +kernel
theorem d_DR_difference_12 : decode b_DR_difference 12 = .ok (.lload_n 2, 1) := by decide +kernel
theorem d_DR_difference_13 : decode b_DR_difference 13 = .ok (.invokestatic 102, 3) := by decide +kernel
theorem d_DR_difference_16 : decode b_DR_difference 16 = .ok (.ifCond .ne 5, 3) := by decide +kernel
theorem d_DR_difference_19 : decode b_DR_difference 19 = .ok (.lconst 0, 1) := by decide +kernel
theorem d_DR_difference_20 : decode b_DR_difference 20 = .ok (.lreturn, 1) := by decide +kernel
theorem d_DR_difference_21 : decode b_DR_difference 21 = .ok (.lconst 0, 1) := by decide +kernel
theorem d_DR_difference_22 : decode b_DR_difference 22 = .ok (.lstore 5, 2) := by decide +kernel
theorem d_DR_difference_24 : decode b_DR_difference 24 = .ok (.iconst 0, 1) := by decide +kernel
theorem d_DR_difference_25 : decode b_DR_difference 25 = .ok (.istore 7, 2) := by decide +kernel
theorem d_DR_difference_27 : decode b_DR_difference 27 = .ok (.iload 7, 2) := by decide +kernel
theorem d_DR_difference_29 : decode b_DR_difference 29 = .ok (.bipush 30, 2) := by decide +kernel
theorem d_DR_difference_31 : decode b_DR_difference 31 = .ok (.if_icmp .ge 62, 3) := by decide +kernel
theorem d_DR_difference_34 : decode b_DR_difference 34 = .ok (.aload 4, 2) := by decide +kernel
theorem d_DR_difference_36 : decode b_DR_difference 36 = .ok (.iload 7, 2) := by decide +kernel
theorem d_DR_difference_38 : decode b_DR_difference 38 = .ok (.invokevirtual 224, 3) := by decide +kernel
theorem d_DR_difference_41 : decode b_DR_difference 41 = .ok (.ifCond .eq 46, 3) := by decide +kernel
theorem d_DR_difference_44 : decode b_DR_difference 44 = .ok (.aload_n 0, 1) := by decide +kernel
theorem d_DR_difference_45 : decode b_DR_difference 45 = .ok (.iload 7, 2) := by decide +kernel
theorem d_DR_difference_47 : decode b_DR_difference 47 = .ok (.iload_n 1, 1) := by decide +kernel
theorem d_DR_difference_48 : decode b_DR_difference 48 = .ok (.invokestatic 182, 3) := by decide +kernel
theorem d_DR_difference_51 : decode b_DR_difference 51 = .ok (.lload_n 2, 1) := by decide +kernel
theorem d_DR_difference_52 : decode b_DR_difference 52 = .ok (.l2i, 1) := by decide +kernel
theorem d_DR_difference_53 : decode b_DR_difference 53 = .ok (.invokevirtual 205, 3) := by decide +kernel
theorem d_DR_difference_56 : decode b_DR_difference 56 = .ok (.lstore 8, 2) := by decide +kernel
theorem d_DR_difference_58 : decode b_DR_difference 58 = .ok (.lload 5, 2) := by decide +kernel
theorem d_DR_difference_60 : decode b_DR_difference 60 = .ok (.lload 8, 2) := by decide +kernel
theorem d_DR_difference_62 : decode b_DR_difference 62 = .ok (.ldc2_w 133, 3) := by decide +kernel
theorem d_DR_difference_65 : decode b_DR_difference 65 = .ok (.lcmp, 1) := by decide +kernel
theorem d_DR_difference_66 : decode b_DR_difference 66 = .ok (.ifCond .ne 7, 3) := by decide +kernel
theorem d_DR_difference_69 : decode b_DR_difference 69 = .ok (.lconst 0, 1) := by decide +kernel
theorem d_DR_difference_70 : decode b_DR_difference 70 = .ok (.goto 5, 3) := by decide +kernel
theorem d_DR_difference_73 : decode b_DR_difference 73 = .ok (.lload 8, 2) := by decide +kernel
theorem d_DR_difference_75 : decode b_DR_difference 75 = .ok (.aload 4, 2) := by decide +kernel
theorem d_DR_difference_77 : decode b_DR_difference 77 = .ok (.getfield 218, 3) := by decide +kernel
theorem d_DR_difference_80 : decode b_DR_difference 80 = .ok (.iload 7, 2) := by decide +kernel
theorem d_DR_difference_82 : decode b_DR_difference 82 = .ok (.laload, 1) := by decide +kernel
theorem d_DR_difference_83 : decode b_DR_difference 83 = .ok (.lsub, 1) := by decide +kernel
theorem d_DR_difference_84 : decode b_DR_difference 84 = .ok (.ladd, 1) := by decide +kernel
theorem d_DR_difference_85 : decode b_DR_difference 85 = .ok (.lstore 5, 2) := by decide +kernel
theorem d_DR_difference_87 : decode b_DR_difference 87 = .ok (.iinc 7 1, 3) := by decide +kernel
theorem d_DR_difference_90 : decode b_DR_difference 90 = .ok (.goto (-63), 3) := by decide +kernel
theorem d_DR_difference_93 : decode b_DR_difference 93 = .ok (.lload 5, 2) := by decide +kernel
theorem d_DR_difference_95 : decode b_DR_difference 95 = .ok (.lreturn, 1) := by decide +kernel
theorem d_DR_write_0 : decode b_DR_write 0 = .ok (.iload_n 1, 1) := by decide +kernel
theorem d_DR_write_1 : decode b_DR_write 1 = .ok (.ifCond .lt 25, 3) := by decide +kernel
theorem d_DR_write_4 : decode b_DR_write 4 = .ok (.iload_n 1, 1) := by decide +kernel
theorem d_DR_write_5 : decode b_DR_write 5 = .ok (.aload_n 0, 1) := by decide +kernel
theorem d_DR_write_6 : decode b_DR_write 6 = .ok (.getfield 49, 3) := by decide +kernel
theorem d_DR_write_9 : decode b_DR_write 9 = .ok (.invokevirtual 227, 3) := by decide +kernel
theorem d_DR_write_12 : decode b_DR_write 12 = .ok (.if_icmp .ge 14, 3) := by decide +kernel
theorem d_DR_write_15 : decode b_DR_write 15 = .ok (.aload_n 0, 1) := by decide +kernel
theorem d_DR_write_16 : decode b_DR_write 16 = .ok (.getfield 49, 3) := by decide +kernel
theorem d_DR_write_19 : decode b_DR_write 19 = .ok (.iload_n 1, 1) := by decide +kernel
theorem d_DR_write_20 : decode b_DR_write 20 = .ok (.invokevirtual 230, 3) := by decide +kernel
theorem d_DR_write_23 : decode b_DR_write 23 = .ok (.goto 4, 3) := by decide +kernel
theorem d_DR_write_26 : decode b_DR_write 26 = .ok (.iconst (-1), 1) := by decide +kernel
theorem d_DR_write_27 : decode b_DR_write 27 = .ok (.ireturn, 1) := by decide +kernel
theorem d_DR_interest_0 : decode b_DR_interest 0 = .ok (.aload_n 0, 1) := by decide +kernel
theorem d_DR_interest_1 : decode b_DR_interest 1 = .ok (.iload_n 1, 1) := by decide +kernel
theorem d_DR_interest_2 : decode b_DR_interest 2 = .ok (.invokevirtual 190, 3) := by decide +kernel
theorem d_DR_interest_5 : decode b_DR_interest 5 = .ok (.astore 5, 2) := by decide +kernel
theorem d_DR_interest_7 : decode b_DR_interest 7 = .ok (.aload 5, 2) := by decide +kernel
theorem d_DR_interest_9 : decode b_DR_interest 9 = .ok (.ifnull 18, 3) := by decide +kernel
theorem d_DR_interest_12 : decode b_DR_interest 12 = .ok (.lload_n 2, 1) := by decide +kernel
theorem d_DR_interest_13 : decode b_DR_interest 13 = .ok (.invokestatic 102, 3) := by decide +kernel
theorem d_DR_interest_16 : decode b_DR_interest 16 = .ok (.ifCond .eq 11, 3) := by decide +kernel
theorem d_DR_interest_19 : decode b_DR_interest 19 = .ok (.iload 4, 2) := by decide +kernel
theorem d_DR_interest_21 : decode b_DR_interest 21 = .ok (.invokestatic 130, 3) := by decide +kernel
theorem d_DR_interest_24 : decode b_DR_interest 24 = .ok (.ifCond .ne 7, 3) := by decide +kernel
theorem d_DR_interest_27 : decode b_DR_interest 27 = .ok (.ldc2_w 133, 3) := by decide +kernel
theorem d_DR_interest_30 : decode b_DR_interest 30 = .ok (.lreturn, 1) := by decide +kernel
theorem d_DR_interest_31 : decode b_DR_interest 31 = .ok (.iload_n 1, 1) := by decide +kernel
theorem d_DR_interest_32 : decode b_DR_interest 32 = .ok (.invokestatic 182, 3) := by decide +kernel
theorem d_DR_interest_35 : decode b_DR_interest 35 = .ok (.istore 6, 2) := by decide +kernel
theorem d_DR_interest_37 : decode b_DR_interest 37 = .ok (.lload_n 2, 1) := by decide +kernel
theorem d_DR_interest_38 : decode b_DR_interest 38 = .ok (.iload 6, 2) := by decide +kernel
theorem d_DR_interest_40 : decode b_DR_interest 40 = .ok (.i2l, 1) := by decide +kernel
theorem d_DR_interest_41 : decode b_DR_interest 41 = .ok (.lsub, 1) := by decide +kernel
theorem d_DR_interest_42 : decode b_DR_interest 42 = .ok (.lconst 0, 1) := by decide +kernel
theorem d_DR_interest_43 : decode b_DR_interest 43 = .ok (.invokestatic 234, 3) := by decide +kernel
theorem d_DR_interest_46 : decode b_DR_interest 46 = .ok (.lstore 7, 2) := by decide +kernel
theorem d_DR_interest_48 : decode b_DR_interest 48 = .ok (.aload 5, 2) := by decide +kernel
theorem d_DR_interest_50 : decode b_DR_interest 50 = .ok (.invokevirtual 237, 3) := by decide +kernel
theorem d_DR_interest_53 : decode b_DR_interest 53 = .ok (.aload_n 0, 1) := by decide +kernel
theorem d_DR_interest_54 : decode b_DR_interest 54 = .ok (.iload 6, 2) := by decide +kernel
theorem d_DR_interest_56 : decode b_DR_interest 56 = .ok (.invokevirtual 241, 3) := by decide +kernel
theorem d_DR_interest_59 : decode b_DR_interest 59 = .ok (.lmul, 1) := by decide +kernel
theorem d_DR_interest_60 : decode b_DR_interest 60 = .ok (.lload 7, 2) := by decide +kernel
theorem d_DR_interest_62 : decode b_DR_interest 62 = .ok (.lmul, 1) := by decide +kernel
theorem d_DR_interest_63 : decode b_DR_interest 63 = .ok (.ldc2_w 117, 3) := by decide +kernel
theorem d_DR_interest_66 : decode b_DR_interest 66 = .ok (.iload 4, 2) := by decide +kernel
theorem d_DR_interest_68 : decode b_DR_interest 68 = .ok (.invokestatic 148, 3) := by decide +kernel
theorem d_DR_interest_71 : decode b_DR_interest 71 = .ok (.lreturn, 1) := by decide +kernel
theorem d_RE_settledSum_0 : decode b_RE_settledSum 0 = .ok (.lconst 0, 1) := by decide +kernel
theorem d_RE_settledSum_1 : decode b_RE_settledSum 1 = .ok (.lstore_n 1, 1) := by decide +kernel
theorem d_RE_settledSum_2 : decode b_RE_settledSum 2 = .ok (.iconst 0, 1) := by decide +kernel
theorem d_RE_settledSum_3 : decode b_RE_settledSum 3 = .ok (.istore_n 3, 1) := by decide +kernel
theorem d_RE_settledSum_4 : decode b_RE_settledSum 4 = .ok (.iload_n 3, 1) := by decide +kernel
theorem d_RE_settledSum_5 : decode b_RE_settledSum 5 = .ok (.bipush 30, 2) := by decide +kernel
theorem d_RE_settledSum_7 : decode b_RE_settledSum 7 = .ok (.if_icmp .ge 26, 3) := by decide +kernel
theorem d_RE_settledSum_10 : decode b_RE_settledSum 10 = .ok (.aload_n 0, 1) := by decide +kernel
theorem d_RE_settledSum_11 : decode b_RE_settledSum 11 = .ok (.iload_n 3, 1) := by decide +kernel
theorem d_RE_settledSum_12 : decode b_RE_settledSum 12 = .ok (.invokevirtual 34, 3) := by decide +kernel
theorem d_RE_settledSum_15 : decode b_RE_settledSum 15 = .ok (.ifCond .eq 12, 3) := by decide +kernel
theorem d_RE_settledSum_18 : decode b_RE_settledSum 18 = .ok (.lload_n 1, 1) := by decide +kernel
theorem d_RE_settledSum_19 : decode b_RE_settledSum 19 = .ok (.aload_n 0, 1) := by decide +kernel
theorem d_RE_settledSum_20 : decode b_RE_settledSum 20 = .ok (.getfield 23, 3) := by decide +kernel
theorem d_RE_settledSum_23 : decode b_RE_settledSum 23 = .ok (.iload_n 3, 1) := by decide +kernel
theorem d_RE_settledSum_24 : decode b_RE_settledSum 24 = .ok (.laload, 1) := by decide +kernel
theorem d_RE_settledSum_25 : decode b_RE_settledSum 25 = .ok (.ladd, 1) := by decide +kernel
theorem d_RE_settledSum_26 : decode b_RE_settledSum 26 = .ok (.lstore_n 1, 1) := by decide +kernel
theorem d_RE_settledSum_27 : decode b_RE_settledSum 27 = .ok (.iinc 3 1, 3) := by decide +kernel
theorem d_RE_settledSum_30 : decode b_RE_settledSum 30 = .ok (.goto (-26), 3) := by decide +kernel
theorem d_RE_settledSum_33 : decode b_RE_settledSum 33 = .ok (.lload_n 1, 1) := by decide +kernel
theorem d_RE_settledSum_34 : decode b_RE_settledSum 34 = .ok (.lreturn, 1) := by decide +kernel
theorem d_DR_lateShare_0 : decode b_DR_lateShare 0 = .ok (.aload_n 0, 1) := by decide +kernel
theorem d_DR_lateShare_1 : decode b_DR_lateShare 1 = .ok (.getfield 19, 3) := by decide +kernel
theorem d_DR_lateShare_4 : decode b_DR_lateShare 4 = .ok (.iload_n 1, 1) := by decide +kernel
theorem d_DR_lateShare_5 : decode b_DR_lateShare 5 = .ok (.invokevirtual 258, 3) := by decide +kernel
theorem d_DR_lateShare_8 : decode b_DR_lateShare 8 = .ok (.astore_n 2, 1) := by decide +kernel
theorem d_DR_lateShare_9 : decode b_DR_lateShare 9 = .ok (.aload_n 2, 1) := by decide +kernel
theorem d_DR_lateShare_10 : decode b_DR_lateShare 10 = .ok (.ifnonnull 5, 3) := by decide +kernel
theorem d_DR_lateShare_13 : decode b_DR_lateShare 13 = .ok (.lconst 0, 1) := by decide +kernel
theorem d_DR_lateShare_14 : decode b_DR_lateShare 14 = .ok (.lreturn, 1) := by decide +kernel
theorem d_DR_lateShare_15 : decode b_DR_lateShare 15 = .ok (.aload_n 2, 1) := by decide +kernel
theorem d_DR_lateShare_16 : decode b_DR_lateShare 16 = .ok (.iconst 5, 1) := by decide +kernel
theorem d_DR_lateShare_17 : decode b_DR_lateShare 17 = .ok (.invokevirtual 262, 3) := by decide +kernel
theorem d_DR_lateShare_20 : decode b_DR_lateShare 20 = .ok (.istore_n 3, 1) := by decide +kernel
theorem d_DR_lateShare_21 : decode b_DR_lateShare 21 = .ok (.iload_n 3, 1) := by decide +kernel
theorem d_DR_lateShare_22 : decode b_DR_lateShare 22 = .ok (.iconst (-1), 1) := by decide +kernel
theorem d_DR_lateShare_23 : decode b_DR_lateShare 23 = .ok (.if_icmp .ne 7, 3) := by decide +kernel
theorem d_DR_lateShare_26 : decode b_DR_lateShare 26 = .ok (.lconst 0, 1) := by decide +kernel
theorem d_DR_lateShare_27 : decode b_DR_lateShare 27 = .ok (.goto 10, 3) := by decide +kernel
theorem d_DR_lateShare_30 : decode b_DR_lateShare 30 = .ok (.aload_n 2, 1) := by decide +kernel
theorem d_DR_lateShare_31 : decode b_DR_lateShare 31 = .ok (.iload_n 3, 1) := by decide +kernel
theorem d_DR_lateShare_32 : decode b_DR_lateShare 32 = .ok (.iconst 0, 1) := by decide +kernel
theorem d_DR_lateShare_33 : decode b_DR_lateShare 33 = .ok (.invokevirtual 265, 3) := by decide +kernel
theorem d_DR_lateShare_36 : decode b_DR_lateShare 36 = .ok (.i2l, 1) := by decide +kernel
theorem d_DR_lateShare_37 : decode b_DR_lateShare 37 = .ok (.lreturn, 1) := by decide +kernel
