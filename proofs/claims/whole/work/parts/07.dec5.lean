theorem d_SB_init_0 : decode b_SB_init 0 = .ok (.aload_n 0, 1) := by decide +kernel
theorem d_SB_init_1 : decode b_SB_init 1 = .ok (.bipush 16, 2) := by decide +kernel
theorem d_SB_init_3 : decode b_SB_init 3 = .ok (.invokespecial 1, 3) := by decide +kernel
theorem d_SB_init_6 : decode b_SB_init 6 = .ok (.return_, 1) := by decide +kernel
theorem d_AB_init_0 : decode b_AB_init 0 = .ok (.aload_n 0, 1) := by decide +kernel
theorem d_AB_init_1 : decode b_AB_init 1 = .ok (.invokespecial 3, 3) := by decide +kernel
theorem d_AB_init_4 : decode b_AB_init 4 = .ok (.getstatic 18, 3) := by decide +kernel
theorem d_AB_init_7 : decode b_AB_init 7 = .ok (.ifCond .eq 18, 3) := by decide +kernel
theorem d_AB_init_10 : decode b_AB_init 10 = .ok (.aload_n 0, 1) := by decide +kernel
theorem d_AB_init_11 : decode b_AB_init 11 = .ok (.iload_n 1, 1) := by decide +kernel
theorem d_AB_init_12 : decode b_AB_init 12 = .ok (.newarray .byte, 2) := by decide +kernel
theorem d_AB_init_14 : decode b_AB_init 14 = .ok (.putfield 15, 3) := by decide +kernel
theorem d_AB_init_17 : decode b_AB_init 17 = .ok (.aload_n 0, 1) := by decide +kernel
theorem d_AB_init_18 : decode b_AB_init 18 = .ok (.iconst 0, 1) := by decide +kernel
theorem d_AB_init_19 : decode b_AB_init 19 = .ok (.putfield 22, 3) := by decide +kernel
theorem d_AB_init_22 : decode b_AB_init 22 = .ok (.goto 16, 3) := by decide +kernel
theorem d_AB_init_25 : decode b_AB_init 25 = .ok (.aload_n 0, 1) := by decide +kernel
theorem d_AB_init_26 : decode b_AB_init 26 = .ok (.iload_n 1, 1) := by decide +kernel
theorem d_AB_init_27 : decode b_AB_init 27 = .ok (.invokestatic 26, 3) := by decide +kernel
theorem d_AB_init_30 : decode b_AB_init 30 = .ok (.putfield 15, 3) := by decide +kernel
theorem d_AB_init_33 : decode b_AB_init 33 = .ok (.aload_n 0, 1) := by decide +kernel
theorem d_AB_init_34 : decode b_AB_init 34 = .ok (.iconst 1, 1) := by decide +kernel
theorem d_AB_init_35 : decode b_AB_init 35 = .ok (.putfield 22, 3) := by decide +kernel
theorem d_AB_init_38 : decode b_AB_init 38 = .ok (.return_, 1) := by decide +kernel
theorem d_SB_length_0 : decode b_SB_length 0 = .ok (.aload_n 0, 1) := by decide +kernel
theorem d_SB_length_1 : decode b_SB_length 1 = .ok (.invokespecial 343, 3) := by decide +kernel
theorem d_SB_length_4 : decode b_SB_length 4 = .ok (.ireturn, 1) := by decide +kernel
theorem d_AB_length_0 : decode b_AB_length 0 = .ok (.aload_n 0, 1) := by decide +kernel
theorem d_AB_length_1 : decode b_AB_length 1 = .ok (.getfield 79, 3) := by decide +kernel
theorem d_AB_length_4 : decode b_AB_length 4 = .ok (.ireturn, 1) := by decide +kernel
theorem d_SB_append_0 : decode b_SB_append 0 = .ok (.aload_n 0, 1) := by decide +kernel
theorem d_SB_append_1 : decode b_SB_append 1 = .ok (.iload_n 1, 1) := by decide +kernel
theorem d_SB_append_2 : decode b_SB_append 2 = .ok (.invokespecial 50, 3) := by decide +kernel
theorem d_SB_append_5 : decode b_SB_append 5 = .ok (.pop, 1) := by decide +kernel
theorem d_SB_append_6 : decode b_SB_append 6 = .ok (.aload_n 0, 1) := by decide +kernel
theorem d_SB_append_7 : decode b_SB_append 7 = .ok (.areturn, 1) := by decide +kernel
theorem d_AB_append_0 : decode b_AB_append 0 = .ok (.aload_n 0, 1) := by decide +kernel
theorem d_AB_append_1 : decode b_AB_append 1 = .ok (.aload_n 0, 1) := by decide +kernel
theorem d_AB_append_2 : decode b_AB_append 2 = .ok (.getfield 79, 3) := by decide +kernel
theorem d_AB_append_5 : decode b_AB_append 5 = .ok (.iconst 1, 1) := by decide +kernel
theorem d_AB_append_6 : decode b_AB_append 6 = .ok (.iadd, 1) := by decide +kernel
theorem d_AB_append_7 : decode b_AB_append 7 = .ok (.invokevirtual 100, 3) := by decide +kernel
theorem d_AB_append_10 : decode b_AB_append 10 = .ok (.aload_n 0, 1) := by decide +kernel
theorem d_AB_append_11 : decode b_AB_append 11 = .ok (.invokevirtual 83, 3) := by decide +kernel
theorem d_AB_append_14 : decode b_AB_append 14 = .ok (.ifCond .eq 31, 3) := by decide +kernel
theorem d_AB_append_17 : decode b_AB_append 17 = .ok (.iload_n 1, 1) := by decide +kernel
theorem d_AB_append_18 : decode b_AB_append 18 = .ok (.invokestatic 191, 3) := by decide +kernel
theorem d_AB_append_21 : decode b_AB_append 21 = .ok (.ifCond .eq 24, 3) := by decide +kernel
theorem d_AB_append_24 : decode b_AB_append 24 = .ok (.aload_n 0, 1) := by decide +kernel
theorem d_AB_append_25 : decode b_AB_append 25 = .ok (.getfield 15, 3) := by decide +kernel
theorem d_AB_append_28 : decode b_AB_append 28 = .ok (.aload_n 0, 1) := by decide +kernel
theorem d_AB_append_29 : decode b_AB_append 29 = .ok (.dup, 1) := by decide +kernel
theorem d_AB_append_30 : decode b_AB_append 30 = .ok (.getfield 79, 3) := by decide +kernel
theorem d_AB_append_33 : decode b_AB_append 33 = .ok (.dup_x1, 1) := by decide +kernel
theorem d_AB_append_34 : decode b_AB_append 34 = .ok (.iconst 1, 1) := by decide +kernel
theorem d_AB_append_35 : decode b_AB_append 35 = .ok (.iadd, 1) := by decide +kernel
theorem d_AB_append_36 : decode b_AB_append 36 = .ok (.putfield 79, 3) := by decide +kernel
theorem d_AB_append_39 : decode b_AB_append 39 = .ok (.iload_n 1, 1) := by decide +kernel
theorem d_AB_append_40 : decode b_AB_append 40 = .ok (.i2b, 1) := by decide +kernel
theorem d_AB_append_41 : decode b_AB_append 41 = .ok (.bastore, 1) := by decide +kernel
theorem d_AB_append_42 : decode b_AB_append 42 = .ok (.goto 33, 3) := by decide +kernel
theorem d_AB_append_45 : decode b_AB_append 45 = .ok (.aload_n 0, 1) := by decide +kernel
theorem d_AB_append_46 : decode b_AB_append 46 = .ok (.invokevirtual 83, 3) := by decide +kernel
theorem d_AB_append_49 : decode b_AB_append 49 = .ok (.ifCond .eq 7, 3) := by decide +kernel
theorem d_AB_append_52 : decode b_AB_append 52 = .ok (.aload_n 0, 1) := by decide +kernel
theorem d_AB_append_53 : decode b_AB_append 53 = .ok (.invokevirtual 195, 3) := by decide +kernel
theorem d_AB_append_56 : decode b_AB_append 56 = .ok (.aload_n 0, 1) := by decide +kernel
theorem d_AB_append_57 : decode b_AB_append 57 = .ok (.getfield 15, 3) := by decide +kernel
theorem d_AB_append_60 : decode b_AB_append 60 = .ok (.aload_n 0, 1) := by decide +kernel
theorem d_AB_append_61 : decode b_AB_append 61 = .ok (.dup, 1) := by decide +kernel
theorem d_AB_append_62 : decode b_AB_append 62 = .ok (.getfield 79, 3) := by decide +kernel
theorem d_AB_append_65 : decode b_AB_append 65 = .ok (.dup_x1, 1) := by decide +kernel
theorem d_AB_append_66 : decode b_AB_append 66 = .ok (.iconst 1, 1) := by decide +kernel
theorem d_AB_append_67 : decode b_AB_append 67 = .ok (.iadd, 1) := by decide +kernel
theorem d_AB_append_68 : decode b_AB_append 68 = .ok (.putfield 79, 3) := by decide +kernel
theorem d_AB_append_71 : decode b_AB_append 71 = .ok (.iload_n 1, 1) := by decide +kernel
theorem d_AB_append_72 : decode b_AB_append 72 = .ok (.invokestatic 197, 3) := by decide +kernel
theorem d_AB_append_75 : decode b_AB_append 75 = .ok (.aload_n 0, 1) := by decide +kernel
theorem d_AB_append_76 : decode b_AB_append 76 = .ok (.areturn, 1) := by decide +kernel
theorem d_AB_ensureCapacityInternal_0 : decode b_AB_ensureCapacityInternal 0 = .ok (.aload_n 0, 1) := by decide +kernel
theorem d_AB_ensureCapacityInternal_1 : decode b_AB_ensureCapacityInternal 1 = .ok (.getfield 15, 3) := by decide +kernel
theorem d_AB_ensureCapacityInternal_4 : decode b_AB_ensureCapacityInternal 4 = .ok (.arraylength, 1) := by decide +kernel
theorem d_AB_ensureCapacityInternal_5 : decode b_AB_ensureCapacityInternal 5 = .ok (.aload_n 0, 1) := by decide +kernel
theorem d_AB_ensureCapacityInternal_6 : decode b_AB_ensureCapacityInternal 6 = .ok (.getfield 22, 3) := by decide +kernel
theorem d_AB_ensureCapacityInternal_9 : decode b_AB_ensureCapacityInternal 9 = .ok (.ishr, 1) := by decide +kernel
theorem d_AB_ensureCapacityInternal_10 : decode b_AB_ensureCapacityInternal 10 = .ok (.istore_n 2, 1) := by decide +kernel
theorem d_AB_ensureCapacityInternal_11 : decode b_AB_ensureCapacityInternal 11 = .ok (.iload_n 1, 1) := by decide +kernel
theorem d_AB_ensureCapacityInternal_12 : decode b_AB_ensureCapacityInternal 12 = .ok (.iload_n 2, 1) := by decide +kernel
theorem d_AB_ensureCapacityInternal_13 : decode b_AB_ensureCapacityInternal 13 = .ok (.isub, 1) := by decide +kernel
theorem d_AB_ensureCapacityInternal_14 : decode b_AB_ensureCapacityInternal 14 = .ok (.ifCond .le 24, 3) := by decide +kernel
theorem d_AB_ensureCapacityInternal_17 : decode b_AB_ensureCapacityInternal 17 = .ok (.aload_n 0, 1) := by decide +kernel
theorem d_AB_ensureCapacityInternal_18 : decode b_AB_ensureCapacityInternal 18 = .ok (.aload_n 0, 1) := by decide +kernel
theorem d_AB_ensureCapacityInternal_19 : decode b_AB_ensureCapacityInternal 19 = .ok (.getfield 15, 3) := by decide +kernel
theorem d_AB_ensureCapacityInternal_22 : decode b_AB_ensureCapacityInternal 22 = .ok (.aload_n 0, 1) := by decide +kernel
theorem d_AB_ensureCapacityInternal_23 : decode b_AB_ensureCapacityInternal 23 = .ok (.iload_n 1, 1) := by decide +kernel
theorem d_AB_ensureCapacityInternal_24 : decode b_AB_ensureCapacityInternal 24 = .ok (.invokevirtual 104, 3) := by decide +kernel
theorem d_AB_ensureCapacityInternal_27 : decode b_AB_ensureCapacityInternal 27 = .ok (.aload_n 0, 1) := by decide +kernel
theorem d_AB_ensureCapacityInternal_28 : decode b_AB_ensureCapacityInternal 28 = .ok (.getfield 22, 3) := by decide +kernel
theorem d_AB_ensureCapacityInternal_31 : decode b_AB_ensureCapacityInternal 31 = .ok (.ishl, 1) := by decide +kernel
theorem d_AB_ensureCapacityInternal_32 : decode b_AB_ensureCapacityInternal 32 = .ok (.invokestatic 108, 3) := by decide +kernel
theorem d_AB_ensureCapacityInternal_35 : decode b_AB_ensureCapacityInternal 35 = .ok (.putfield 15, 3) := by decide +kernel
theorem d_AB_ensureCapacityInternal_38 : decode b_AB_ensureCapacityInternal 38 = .ok (.return_, 1) := by decide +kernel
theorem d_AB_newCapacity_0 : decode b_AB_newCapacity 0 = .ok (.aload_n 0, 1) := by decide +kernel
theorem d_AB_newCapacity_1 : decode b_AB_newCapacity 1 = .ok (.getfield 15, 3) := by decide +kernel
theorem d_AB_newCapacity_4 : decode b_AB_newCapacity 4 = .ok (.arraylength, 1) := by decide +kernel
theorem d_AB_newCapacity_5 : decode b_AB_newCapacity 5 = .ok (.istore_n 2, 1) := by decide +kernel
theorem d_AB_newCapacity_6 : decode b_AB_newCapacity 6 = .ok (.iload_n 1, 1) := by decide +kernel
theorem d_AB_newCapacity_7 : decode b_AB_newCapacity 7 = .ok (.aload_n 0, 1) := by decide +kernel
theorem d_AB_newCapacity_8 : decode b_AB_newCapacity 8 = .ok (.getfield 22, 3) := by decide +kernel
theorem d_AB_newCapacity_11 : decode b_AB_newCapacity 11 = .ok (.ishl, 1) := by decide +kernel
theorem d_AB_newCapacity_12 : decode b_AB_newCapacity 12 = .ok (.istore_n 3, 1) := by decide +kernel
theorem d_AB_newCapacity_13 : decode b_AB_newCapacity 13 = .ok (.iload_n 3, 1) := by decide +kernel
theorem d_AB_newCapacity_14 : decode b_AB_newCapacity 14 = .ok (.iload_n 2, 1) := by decide +kernel
theorem d_AB_newCapacity_15 : decode b_AB_newCapacity 15 = .ok (.isub, 1) := by decide +kernel
theorem d_AB_newCapacity_16 : decode b_AB_newCapacity 16 = .ok (.istore 4, 2) := by decide +kernel
theorem d_AB_newCapacity_18 : decode b_AB_newCapacity 18 = .ok (.iload_n 2, 1) := by decide +kernel
theorem d_AB_newCapacity_19 : decode b_AB_newCapacity 19 = .ok (.iload 4, 2) := by decide +kernel
theorem d_AB_newCapacity_21 : decode b_AB_newCapacity 21 = .ok (.iload_n 2, 1) := by decide +kernel
theorem d_AB_newCapacity_22 : decode b_AB_newCapacity 22 = .ok (.iconst 2, 1) := by decide +kernel
theorem d_AB_newCapacity_23 : decode b_AB_newCapacity 23 = .ok (.aload_n 0, 1) := by decide +kernel
theorem d_AB_newCapacity_24 : decode b_AB_newCapacity 24 = .ok (.getfield 22, 3) := by decide +kernel
theorem d_AB_newCapacity_27 : decode b_AB_newCapacity 27 = .ok (.ishl, 1) := by decide +kernel
theorem d_AB_newCapacity_28 : decode b_AB_newCapacity 28 = .ok (.iadd, 1) := by decide +kernel
theorem d_AB_newCapacity_29 : decode b_AB_newCapacity 29 = .ok (.invokestatic 114, 3) := by decide +kernel
theorem d_AB_newCapacity_32 : decode b_AB_newCapacity 32 = .ok (.istore 5, 2) := by decide +kernel
theorem d_AB_newCapacity_34 : decode b_AB_newCapacity 34 = .ok (.iload 5, 2) := by decide +kernel
theorem d_AB_newCapacity_36 : decode b_AB_newCapacity 36 = .ok (.ldc 39, 2) := by decide +kernel
theorem d_AB_newCapacity_38 : decode b_AB_newCapacity 38 = .ok (.if_icmp .ne 13, 3) := by decide +kernel
theorem d_AB_newCapacity_41 : decode b_AB_newCapacity 41 = .ok (.new 120, 3) := by decide +kernel
theorem d_AB_newCapacity_44 : decode b_AB_newCapacity 44 = .ok (.dup, 1) := by decide +kernel
theorem d_AB_newCapacity_45 : decode b_AB_newCapacity 45 = .ok (.ldc 122, 2) := by decide +kernel
theorem d_AB_newCapacity_47 : decode b_AB_newCapacity 47 = .ok (.invokespecial 124, 3) := by decide +kernel
theorem d_AB_newCapacity_50 : decode b_AB_newCapacity 50 = .ok (.athrow, 1) := by decide +kernel
theorem d_AB_newCapacity_51 : decode b_AB_newCapacity 51 = .ok (.iload 5, 2) := by decide +kernel
theorem d_AB_newCapacity_53 : decode b_AB_newCapacity 53 = .ok (.aload_n 0, 1) := by decide +kernel
theorem d_AB_newCapacity_54 : decode b_AB_newCapacity 54 = .ok (.getfield 22, 3) := by decide +kernel
theorem d_AB_newCapacity_57 : decode b_AB_newCapacity 57 = .ok (.ishr, 1) := by decide +kernel
theorem d_AB_newCapacity_58 : decode b_AB_newCapacity 58 = .ok (.ireturn, 1) := by decide +kernel
theorem d_AS_newLength_0 : decode b_AS_newLength 0 = .ok (.iload_n 0, 1) := by decide +kernel
theorem d_AS_newLength_1 : decode b_AS_newLength 1 = .ok (.iload_n 1, 1) := by decide +kernel
theorem d_AS_newLength_2 : decode b_AS_newLength 2 = .ok (.iload_n 2, 1) := by decide +kernel
theorem d_AS_newLength_3 : decode b_AS_newLength 3 = .ok (.invokestatic 194, 3) := by decide +kernel
theorem d_AS_newLength_6 : decode b_AS_newLength 6 = .ok (.iadd, 1) := by decide +kernel
theorem d_AS_newLength_7 : decode b_AS_newLength 7 = .ok (.istore_n 3, 1) := by decide +kernel
theorem d_AS_newLength_8 : decode b_AS_newLength 8 = .ok (.iconst 0, 1) := by decide +kernel
theorem d_AS_newLength_9 : decode b_AS_newLength 9 = .ok (.iload_n 3, 1) := by decide +kernel
theorem d_AS_newLength_10 : decode b_AS_newLength 10 = .ok (.if_icmp .ge 11, 3) := by decide +kernel
theorem d_AS_newLength_13 : decode b_AS_newLength 13 = .ok (.iload_n 3, 1) := by decide +kernel
theorem d_AS_newLength_14 : decode b_AS_newLength 14 = .ok (.ldc 200, 2) := by decide +kernel
theorem d_AS_newLength_16 : decode b_AS_newLength 16 = .ok (.if_icmp .gt 5, 3) := by decide +kernel
theorem d_AS_newLength_19 : decode b_AS_newLength 19 = .ok (.iload_n 3, 1) := by decide +kernel
theorem d_AS_newLength_20 : decode b_AS_newLength 20 = .ok (.ireturn, 1) := by decide +kernel
theorem d_AS_newLength_21 : decode b_AS_newLength 21 = .ok (.iload_n 0, 1) := by decide +kernel
theorem d_AS_newLength_22 : decode b_AS_newLength 22 = .ok (.iload_n 1, 1) := by decide +kernel
theorem d_AS_newLength_23 : decode b_AS_newLength 23 = .ok (.invokestatic 201, 3) := by decide +kernel
theorem d_AS_newLength_26 : decode b_AS_newLength 26 = .ok (.ireturn, 1) := by decide +kernel
theorem d_MA_max_0 : decode b_MA_max 0 = .ok (.iload_n 0, 1) := by decide +kernel
theorem d_MA_max_1 : decode b_MA_max 1 = .ok (.iload_n 1, 1) := by decide +kernel
theorem d_MA_max_2 : decode b_MA_max 2 = .ok (.if_icmp .lt 7, 3) := by decide +kernel
theorem d_MA_max_5 : decode b_MA_max 5 = .ok (.iload_n 0, 1) := by decide +kernel
theorem d_MA_max_6 : decode b_MA_max 6 = .ok (.goto 4, 3) := by decide +kernel
theorem d_MA_max_9 : decode b_MA_max 9 = .ok (.iload_n 1, 1) := by decide +kernel
theorem d_MA_max_10 : decode b_MA_max 10 = .ok (.ireturn, 1) := by decide +kernel
theorem d_AS_hugeLength_0 : decode b_AS_hugeLength 0 = .ok (.iload_n 0, 1) := by decide +kernel
theorem d_AS_hugeLength_1 : decode b_AS_hugeLength 1 = .ok (.iload_n 1, 1) := by decide +kernel
theorem d_AS_hugeLength_2 : decode b_AS_hugeLength 2 = .ok (.iadd, 1) := by decide +kernel
theorem d_AS_hugeLength_3 : decode b_AS_hugeLength 3 = .ok (.istore_n 2, 1) := by decide +kernel
theorem d_AS_hugeLength_4 : decode b_AS_hugeLength 4 = .ok (.iload_n 2, 1) := by decide +kernel
theorem d_AS_hugeLength_5 : decode b_AS_hugeLength 5 = .ok (.ifCond .ge 44, 3) := by decide +kernel
theorem d_AS_hugeLength_8 : decode b_AS_hugeLength 8 = .ok (.new 204, 3) := by decide +kernel
theorem d_AS_hugeLength_11 : decode b_AS_hugeLength 11 = .ok (.dup, 1) := by decide +kernel
theorem d_AS_hugeLength_12 : decode b_AS_hugeLength 12 = .ok (.new 89, 3) := by decide +kernel
theorem d_AS_hugeLength_15 : decode b_AS_hugeLength 15 = .ok (.dup, 1) := by decide +kernel
theorem d_AS_hugeLength_16 : decode b_AS_hugeLength 16 = .ok (.invokespecial 91, 3) := by decide +kernel
theorem d_AS_hugeLength_19 : decode b_AS_hugeLength 19 = .ok (.ldc 206, 2) := by decide +kernel
theorem d_AS_hugeLength_21 : decode b_AS_hugeLength 21 = .ok (.invokevirtual 94, 3) := by decide +kernel
theorem d_AS_hugeLength_24 : decode b_AS_hugeLength 24 = .ok (.iload_n 0, 1) := by decide +kernel
theorem d_AS_hugeLength_25 : decode b_AS_hugeLength 25 = .ok (.invokevirtual 98, 3) := by decide +kernel
theorem d_AS_hugeLength_28 : decode b_AS_hugeLength 28 = .ok (.ldc 208, 2) := by decide +kernel
theorem d_AS_hugeLength_30 : decode b_AS_hugeLength 30 = .ok (.invokevirtual 94, 3) := by decide +kernel
theorem d_AS_hugeLength_33 : decode b_AS_hugeLength 33 = .ok (.iload_n 1, 1) := by decide +kernel
theorem d_AS_hugeLength_34 : decode b_AS_hugeLength 34 = .ok (.invokevirtual 98, 3) := by decide +kernel
theorem d_AS_hugeLength_37 : decode b_AS_hugeLength 37 = .ok (.ldc 210, 2) := by decide +kernel
theorem d_AS_hugeLength_39 : decode b_AS_hugeLength 39 = .ok (.invokevirtual 94, 3) := by decide +kernel
theorem d_AS_hugeLength_42 : decode b_AS_hugeLength 42 = .ok (.invokevirtual 101, 3) := by decide +kernel
theorem d_AS_hugeLength_45 : decode b_AS_hugeLength 45 = .ok (.invokespecial 212, 3) := by decide +kernel
theorem d_AS_hugeLength_48 : decode b_AS_hugeLength 48 = .ok (.athrow, 1) := by decide +kernel
theorem d_AS_hugeLength_49 : decode b_AS_hugeLength 49 = .ok (.iload_n 2, 1) := by decide +kernel
theorem d_AS_hugeLength_50 : decode b_AS_hugeLength 50 = .ok (.ldc 200, 2) := by decide +kernel
theorem d_AS_hugeLength_52 : decode b_AS_hugeLength 52 = .ok (.if_icmp .gt 6, 3) := by decide +kernel
theorem d_AS_hugeLength_55 : decode b_AS_hugeLength 55 = .ok (.ldc 200, 2) := by decide +kernel
theorem d_AS_hugeLength_57 : decode b_AS_hugeLength 57 = .ok (.ireturn, 1) := by decide +kernel
theorem d_AS_hugeLength_58 : decode b_AS_hugeLength 58 = .ok (.iload_n 2, 1) := by decide +kernel
theorem d_AS_hugeLength_59 : decode b_AS_hugeLength 59 = .ok (.ireturn, 1) := by decide +kernel
theorem d_AR_copyOf_0 : decode b_AR_copyOf 0 = .ok (.iload_n 1, 1) := by decide +kernel
theorem d_AR_copyOf_1 : decode b_AR_copyOf 1 = .ok (.aload_n 0, 1) := by decide +kernel
theorem d_AR_copyOf_2 : decode b_AR_copyOf 2 = .ok (.arraylength, 1) := by decide +kernel
theorem d_AR_copyOf_3 : decode b_AR_copyOf 3 = .ok (.if_icmp .ne 11, 3) := by decide +kernel
theorem d_AR_copyOf_6 : decode b_AR_copyOf 6 = .ok (.aload_n 0, 1) := by decide +kernel
theorem d_AR_copyOf_7 : decode b_AR_copyOf 7 = .ok (.invokevirtual 310, 3) := by decide +kernel
theorem d_AR_copyOf_10 : decode b_AR_copyOf 10 = .ok (.checkcast 311, 3) := by decide +kernel
theorem d_AR_copyOf_13 : decode b_AR_copyOf 13 = .ok (.areturn, 1) := by decide +kernel
theorem d_AR_copyOf_14 : decode b_AR_copyOf 14 = .ok (.iload_n 1, 1) := by decide +kernel
theorem d_AR_copyOf_15 : decode b_AR_copyOf 15 = .ok (.newarray .byte, 2) := by decide +kernel
theorem d_AR_copyOf_17 : decode b_AR_copyOf 17 = .ok (.astore_n 2, 1) := by decide +kernel
theorem d_AR_copyOf_18 : decode b_AR_copyOf 18 = .ok (.aload_n 0, 1) := by decide +kernel
theorem d_AR_copyOf_19 : decode b_AR_copyOf 19 = .ok (.iconst 0, 1) := by decide +kernel
theorem d_AR_copyOf_20 : decode b_AR_copyOf 20 = .ok (.aload_n 2, 1) := by decide +kernel
theorem d_AR_copyOf_21 : decode b_AR_copyOf 21 = .ok (.iconst 0, 1) := by decide +kernel
theorem d_AR_copyOf_22 : decode b_AR_copyOf 22 = .ok (.aload_n 0, 1) := by decide +kernel
theorem d_AR_copyOf_23 : decode b_AR_copyOf 23 = .ok (.arraylength, 1) := by decide +kernel
theorem d_AR_copyOf_24 : decode b_AR_copyOf 24 = .ok (.iload_n 1, 1) := by decide +kernel
theorem d_AR_copyOf_25 : decode b_AR_copyOf 25 = .ok (.invokestatic 304, 3) := by decide +kernel
theorem d_AR_copyOf_28 : decode b_AR_copyOf 28 = .ok (.invokestatic 150, 3) := by decide +kernel
theorem d_AR_copyOf_31 : decode b_AR_copyOf 31 = .ok (.aload_n 2, 1) := by decide +kernel
theorem d_AR_copyOf_32 : decode b_AR_copyOf 32 = .ok (.areturn, 1) := by decide +kernel
theorem d_MA_min_0 : decode b_MA_min 0 = .ok (.iload_n 0, 1) := by decide +kernel
theorem d_MA_min_1 : decode b_MA_min 1 = .ok (.iload_n 1, 1) := by decide +kernel
theorem d_MA_min_2 : decode b_MA_min 2 = .ok (.if_icmp .gt 7, 3) := by decide +kernel
theorem d_MA_min_5 : decode b_MA_min 5 = .ok (.iload_n 0, 1) := by decide +kernel
theorem d_MA_min_6 : decode b_MA_min 6 = .ok (.goto 4, 3) := by decide +kernel
theorem d_MA_min_9 : decode b_MA_min 9 = .ok (.iload_n 1, 1) := by decide +kernel
theorem d_MA_min_10 : decode b_MA_min 10 = .ok (.ireturn, 1) := by decide +kernel
theorem d_AB_isLatin1_0 : decode b_AB_isLatin1 0 = .ok (.getstatic 18, 3) := by decide +kernel
theorem d_AB_isLatin1_3 : decode b_AB_isLatin1 3 = .ok (.ifCond .eq 14, 3) := by decide +kernel
theorem d_AB_isLatin1_6 : decode b_AB_isLatin1 6 = .ok (.aload_n 0, 1) := by decide +kernel
theorem d_AB_isLatin1_7 : decode b_AB_isLatin1 7 = .ok (.getfield 22, 3) := by decide +kernel
theorem d_AB_isLatin1_10 : decode b_AB_isLatin1 10 = .ok (.ifCond .ne 7, 3) := by decide +kernel
theorem d_AB_isLatin1_13 : decode b_AB_isLatin1 13 = .ok (.iconst 1, 1) := by decide +kernel
theorem d_AB_isLatin1_14 : decode b_AB_isLatin1 14 = .ok (.goto 4, 3) := by decide +kernel
theorem d_AB_isLatin1_17 : decode b_AB_isLatin1 17 = .ok (.iconst 0, 1) := by decide +kernel
theorem d_AB_isLatin1_18 : decode b_AB_isLatin1 18 = .ok (.ireturn, 1) := by decide +kernel
theorem d_L1_canEncode_0 : decode b_L1_canEncode 0 = .ok (.iload_n 0, 1) := by decide +kernel
theorem d_L1_canEncode_1 : decode b_L1_canEncode 1 = .ok (.sipush 255, 3) := by decide +kernel
theorem d_L1_canEncode_4 : decode b_L1_canEncode 4 = .ok (.if_icmp .gt 7, 3) := by decide +kernel
theorem d_L1_canEncode_7 : decode b_L1_canEncode 7 = .ok (.iconst 1, 1) := by decide +kernel
theorem d_L1_canEncode_8 : decode b_L1_canEncode 8 = .ok (.goto 4, 3) := by decide +kernel
theorem d_L1_canEncode_11 : decode b_L1_canEncode 11 = .ok (.iconst 0, 1) := by decide +kernel
theorem d_L1_canEncode_12 : decode b_L1_canEncode 12 = .ok (.ireturn, 1) := by decide +kernel
theorem d_AB_inflate_0 : decode b_AB_inflate 0 = .ok (.aload_n 0, 1) := by decide +kernel
theorem d_AB_inflate_1 : decode b_AB_inflate 1 = .ok (.invokevirtual 83, 3) := by decide +kernel
theorem d_AB_inflate_4 : decode b_AB_inflate 4 = .ok (.ifCond .ne 4, 3) := by decide +kernel
theorem d_AB_inflate_7 : decode b_AB_inflate 7 = .ok (.return_, 1) := by decide +kernel
theorem d_AB_inflate_8 : decode b_AB_inflate 8 = .ok (.aload_n 0, 1) := by decide +kernel
theorem d_AB_inflate_9 : decode b_AB_inflate 9 = .ok (.getfield 15, 3) := by decide +kernel
theorem d_AB_inflate_12 : decode b_AB_inflate 12 = .ok (.arraylength, 1) := by decide +kernel
theorem d_AB_inflate_13 : decode b_AB_inflate 13 = .ok (.invokestatic 26, 3) := by decide +kernel
theorem d_AB_inflate_16 : decode b_AB_inflate 16 = .ok (.astore_n 1, 1) := by decide +kernel
theorem d_AB_inflate_17 : decode b_AB_inflate 17 = .ok (.aload_n 0, 1) := by decide +kernel
theorem d_AB_inflate_18 : decode b_AB_inflate 18 = .ok (.getfield 15, 3) := by decide +kernel
theorem d_AB_inflate_21 : decode b_AB_inflate 21 = .ok (.iconst 0, 1) := by decide +kernel
theorem d_AB_inflate_22 : decode b_AB_inflate 22 = .ok (.aload_n 1, 1) := by decide +kernel
theorem d_AB_inflate_23 : decode b_AB_inflate 23 = .ok (.iconst 0, 1) := by decide +kernel
theorem d_AB_inflate_24 : decode b_AB_inflate 24 = .ok (.aload_n 0, 1) := by decide +kernel
theorem d_AB_inflate_25 : decode b_AB_inflate 25 = .ok (.getfield 79, 3) := by decide +kernel
theorem d_AB_inflate_28 : decode b_AB_inflate 28 = .ok (.invokestatic 125, 3) := by decide +kernel
theorem d_AB_inflate_31 : decode b_AB_inflate 31 = .ok (.aload_n 0, 1) := by decide +kernel
theorem d_AB_inflate_32 : decode b_AB_inflate 32 = .ok (.aload_n 1, 1) := by decide +kernel
theorem d_AB_inflate_33 : decode b_AB_inflate 33 = .ok (.putfield 15, 3) := by decide +kernel
theorem d_AB_inflate_36 : decode b_AB_inflate 36 = .ok (.aload_n 0, 1) := by decide +kernel
theorem d_AB_inflate_37 : decode b_AB_inflate 37 = .ok (.iconst 1, 1) := by decide +kernel
theorem d_AB_inflate_38 : decode b_AB_inflate 38 = .ok (.putfield 22, 3) := by decide +kernel
theorem d_AB_inflate_41 : decode b_AB_inflate 41 = .ok (.return_, 1) := by decide +kernel
theorem d_L1_inflate_0 : decode b_L1_inflate 0 = .ok (.aload_n 0, 1) := by decide +kernel
theorem d_L1_inflate_1 : decode b_L1_inflate 1 = .ok (.iload_n 1, 1) := by decide +kernel
theorem d_L1_inflate_2 : decode b_L1_inflate 2 = .ok (.aload_n 2, 1) := by decide +kernel
theorem d_L1_inflate_3 : decode b_L1_inflate 3 = .ok (.iload_n 3, 1) := by decide +kernel
theorem d_L1_inflate_4 : decode b_L1_inflate 4 = .ok (.iload 4, 2) := by decide +kernel
theorem d_L1_inflate_6 : decode b_L1_inflate 6 = .ok (.invokestatic 240, 3) := by decide +kernel
theorem d_L1_inflate_9 : decode b_L1_inflate 9 = .ok (.return_, 1) := by decide +kernel
theorem d_ST_checkBoundsOffCount_0 : decode b_ST_checkBoundsOffCount 0 = .ok (.iload_n 0, 1) := by decide +kernel
theorem d_ST_checkBoundsOffCount_1 : decode b_ST_checkBoundsOffCount 1 = .ok (.iload_n 1, 1) := by decide +kernel
theorem d_ST_checkBoundsOffCount_2 : decode b_ST_checkBoundsOffCount 2 = .ok (.iload_n 2, 1) := by decide +kernel
theorem d_ST_checkBoundsOffCount_3 : decode b_ST_checkBoundsOffCount 3 = .ok (.getstatic 1053, 3) := by decide +kernel
theorem d_ST_checkBoundsOffCount_6 : decode b_ST_checkBoundsOffCount 6 = .ok (.invokestatic 1065, 3) := by decide +kernel
theorem d_ST_checkBoundsOffCount_9 : decode b_ST_checkBoundsOffCount 9 = .ok (.ireturn, 1) := by decide +kernel
theorem d_PR_checkFromIndexSize_0 : decode b_PR_checkFromIndexSize 0 = .ok (.iload_n 2, 1) := by decide +kernel
theorem d_PR_checkFromIndexSize_1 : decode b_PR_checkFromIndexSize 1 = .ok (.iload_n 0, 1) := by decide +kernel
theorem d_PR_checkFromIndexSize_2 : decode b_PR_checkFromIndexSize 2 = .ok (.ior, 1) := by decide +kernel
theorem d_PR_checkFromIndexSize_3 : decode b_PR_checkFromIndexSize 3 = .ok (.iload_n 1, 1) := by decide +kernel
theorem d_PR_checkFromIndexSize_4 : decode b_PR_checkFromIndexSize 4 = .ok (.ior, 1) := by decide +kernel
theorem d_PR_checkFromIndexSize_5 : decode b_PR_checkFromIndexSize 5 = .ok (.ifCond .lt 10, 3) := by decide +kernel
theorem d_PR_checkFromIndexSize_8 : decode b_PR_checkFromIndexSize 8 = .ok (.iload_n 1, 1) := by decide +kernel
theorem d_PR_checkFromIndexSize_9 : decode b_PR_checkFromIndexSize 9 = .ok (.iload_n 2, 1) := by decide +kernel
theorem d_PR_checkFromIndexSize_10 : decode b_PR_checkFromIndexSize 10 = .ok (.iload_n 0, 1) := by decide +kernel
theorem d_PR_checkFromIndexSize_11 : decode b_PR_checkFromIndexSize 11 = .ok (.isub, 1) := by decide +kernel
theorem d_PR_checkFromIndexSize_12 : decode b_PR_checkFromIndexSize 12 = .ok (.if_icmp .le 11, 3) := by decide +kernel
theorem d_PR_checkFromIndexSize_15 : decode b_PR_checkFromIndexSize 15 = .ok (.aload_n 3, 1) := by decide +kernel
theorem d_PR_checkFromIndexSize_16 : decode b_PR_checkFromIndexSize 16 = .ok (.iload_n 0, 1) := by decide +kernel
theorem d_PR_checkFromIndexSize_17 : decode b_PR_checkFromIndexSize 17 = .ok (.iload_n 1, 1) := by decide +kernel
theorem d_PR_checkFromIndexSize_18 : decode b_PR_checkFromIndexSize 18 = .ok (.iload_n 2, 1) := by decide +kernel
theorem d_PR_checkFromIndexSize_19 : decode b_PR_checkFromIndexSize 19 = .ok (.invokestatic 103, 3) := by decide +kernel
theorem d_PR_checkFromIndexSize_22 : decode b_PR_checkFromIndexSize 22 = .ok (.athrow, 1) := by decide +kernel
theorem d_PR_checkFromIndexSize_23 : decode b_PR_checkFromIndexSize 23 = .ok (.iload_n 0, 1) := by decide +kernel
theorem d_PR_checkFromIndexSize_24 : decode b_PR_checkFromIndexSize 24 = .ok (.ireturn, 1) := by decide +kernel
theorem d_ST_checkIndex_0 : decode b_ST_checkIndex 0 = .ok (.iload_n 0, 1) := by decide +kernel
theorem d_ST_checkIndex_1 : decode b_ST_checkIndex 1 = .ok (.iload_n 1, 1) := by decide +kernel
theorem d_ST_checkIndex_2 : decode b_ST_checkIndex 2 = .ok (.getstatic 1053, 3) := by decide +kernel
theorem d_ST_checkIndex_5 : decode b_ST_checkIndex 5 = .ok (.invokestatic 1059, 3) := by decide +kernel
theorem d_ST_checkIndex_8 : decode b_ST_checkIndex 8 = .ok (.pop, 1) := by decide +kernel
theorem d_ST_checkIndex_9 : decode b_ST_checkIndex 9 = .ok (.return_, 1) := by decide +kernel
theorem d_PR_checkIndex_0 : decode b_PR_checkIndex 0 = .ok (.iload_n 0, 1) := by decide +kernel
theorem d_PR_checkIndex_1 : decode b_PR_checkIndex 1 = .ok (.ifCond .lt 8, 3) := by decide +kernel
theorem d_PR_checkIndex_4 : decode b_PR_checkIndex 4 = .ok (.iload_n 0, 1) := by decide +kernel
theorem d_PR_checkIndex_5 : decode b_PR_checkIndex 5 = .ok (.iload_n 1, 1) := by decide +kernel
theorem d_PR_checkIndex_6 : decode b_PR_checkIndex 6 = .ok (.if_icmp .lt 10, 3) := by decide +kernel
theorem d_PR_checkIndex_9 : decode b_PR_checkIndex 9 = .ok (.aload_n 2, 1) := by decide +kernel
theorem d_PR_checkIndex_10 : decode b_PR_checkIndex 10 = .ok (.iload_n 0, 1) := by decide +kernel
theorem d_PR_checkIndex_11 : decode b_PR_checkIndex 11 = .ok (.iload_n 1, 1) := by decide +kernel
theorem d_PR_checkIndex_12 : decode b_PR_checkIndex 12 = .ok (.invokestatic 95, 3) := by decide +kernel
theorem d_PR_checkIndex_15 : decode b_PR_checkIndex 15 = .ok (.athrow, 1) := by decide +kernel
theorem d_PR_checkIndex_16 : decode b_PR_checkIndex 16 = .ok (.iload_n 0, 1) := by decide +kernel
theorem d_PR_checkIndex_17 : decode b_PR_checkIndex 17 = .ok (.ireturn, 1) := by decide +kernel
theorem d_SB_toString_0 : decode b_SB_toString 0 = .ok (.new 18, 3) := by decide +kernel
theorem d_SB_toString_3 : decode b_SB_toString 3 = .ok (.dup, 1) := by decide +kernel
theorem d_SB_toString_4 : decode b_SB_toString 4 = .ok (.aload_n 0, 1) := by decide +kernel
theorem d_SB_toString_5 : decode b_SB_toString 5 = .ok (.invokespecial 137, 3) := by decide +kernel
theorem d_SB_toString_8 : decode b_SB_toString 8 = .ok (.areturn, 1) := by decide +kernel
theorem d_ST_init_0 : decode b_ST_init 0 = .ok (.aload_n 0, 1) := by decide +kernel
theorem d_ST_init_1 : decode b_ST_init 1 = .ok (.aload_n 1, 1) := by decide +kernel
theorem d_ST_init_2 : decode b_ST_init 2 = .ok (.aconst_null, 1) := by decide +kernel
theorem d_ST_init_3 : decode b_ST_init 3 = .ok (.invokespecial 489, 3) := by decide +kernel
theorem d_ST_init_6 : decode b_ST_init 6 = .ok (.return_, 1) := by decide +kernel
theorem d_ST_init2_0 : decode b_ST_init2 0 = .ok (.aload_n 0, 1) := by decide +kernel
theorem d_ST_init2_1 : decode b_ST_init2 1 = .ok (.invokespecial 1, 3) := by decide +kernel
theorem d_ST_init2_4 : decode b_ST_init2 4 = .ok (.aload_n 1, 1) := by decide +kernel
theorem d_ST_init2_5 : decode b_ST_init2 5 = .ok (.invokevirtual 552, 3) := by decide +kernel
theorem d_ST_init2_8 : decode b_ST_init2 8 = .ok (.astore_n 3, 1) := by decide +kernel
theorem d_ST_init2_9 : decode b_ST_init2 9 = .ok (.aload_n 1, 1) := by decide +kernel
theorem d_ST_init2_10 : decode b_ST_init2 10 = .ok (.invokevirtual 549, 3) := by decide +kernel
theorem d_ST_init2_13 : decode b_ST_init2 13 = .ok (.istore 4, 2) := by decide +kernel
theorem d_ST_init2_15 : decode b_ST_init2 15 = .ok (.aload_n 1, 1) := by decide +kernel
theorem d_ST_init2_16 : decode b_ST_init2 16 = .ok (.invokevirtual 1047, 3) := by decide +kernel
theorem d_ST_init2_19 : decode b_ST_init2 19 = .ok (.ifCond .eq 22, 3) := by decide +kernel
theorem d_ST_init2_22 : decode b_ST_init2 22 = .ok (.aload_n 0, 1) := by decide +kernel
theorem d_ST_init2_23 : decode b_ST_init2 23 = .ok (.iconst 0, 1) := by decide +kernel
theorem d_ST_init2_24 : decode b_ST_init2 24 = .ok (.putfield 15, 3) := by decide +kernel
theorem d_ST_init2_27 : decode b_ST_init2 27 = .ok (.aload_n 0, 1) := by decide +kernel
theorem d_ST_init2_28 : decode b_ST_init2 28 = .ok (.aload_n 3, 1) := by decide +kernel
theorem d_ST_init2_29 : decode b_ST_init2 29 = .ok (.iconst 0, 1) := by decide +kernel
theorem d_ST_init2_30 : decode b_ST_init2 30 = .ok (.iload 4, 2) := by decide +kernel
theorem d_ST_init2_32 : decode b_ST_init2 32 = .ok (.invokestatic 54, 3) := by decide +kernel
theorem d_ST_init2_35 : decode b_ST_init2 35 = .ok (.putfield 9, 3) := by decide +kernel
theorem d_ST_init2_38 : decode b_ST_init2 38 = .ok (.goto 59, 3) := by decide +kernel
theorem d_ST_init2_41 : decode b_ST_init2 41 = .ok (.getstatic 38, 3) := by decide +kernel
theorem d_ST_init2_44 : decode b_ST_init2 44 = .ok (.ifCond .eq 35, 3) := by decide +kernel
theorem d_ST_init2_47 : decode b_ST_init2 47 = .ok (.aload_n 1, 1) := by decide +kernel
theorem d_ST_init2_48 : decode b_ST_init2 48 = .ok (.getfield 1048, 3) := by decide +kernel
theorem d_ST_init2_51 : decode b_ST_init2 51 = .ok (.ifCond .eq 28, 3) := by decide +kernel
theorem d_ST_init2_54 : decode b_ST_init2 54 = .ok (.aload_n 0, 1) := by decide +kernel
theorem d_ST_init2_55 : decode b_ST_init2 55 = .ok (.aload_n 3, 1) := by decide +kernel
theorem d_ST_init2_56 : decode b_ST_init2 56 = .ok (.iconst 0, 1) := by decide +kernel
theorem d_ST_init2_57 : decode b_ST_init2 57 = .ok (.iload 4, 2) := by decide +kernel
theorem d_ST_init2_59 : decode b_ST_init2 59 = .ok (.invokestatic 1051, 3) := by decide +kernel
theorem d_ST_init2_62 : decode b_ST_init2 62 = .ok (.putfield 9, 3) := by decide +kernel
theorem d_ST_init2_65 : decode b_ST_init2 65 = .ok (.aload_n 0, 1) := by decide +kernel
theorem d_ST_init2_66 : decode b_ST_init2 66 = .ok (.aload_n 0, 1) := by decide +kernel
theorem d_ST_init2_67 : decode b_ST_init2 67 = .ok (.getfield 9, 3) := by decide +kernel
theorem d_ST_init2_70 : decode b_ST_init2 70 = .ok (.iload 4, 2) := by decide +kernel
theorem d_ST_init2_72 : decode b_ST_init2 72 = .ok (.invokestatic 47, 3) := by decide +kernel
theorem d_ST_init2_75 : decode b_ST_init2 75 = .ok (.putfield 15, 3) := by decide +kernel
theorem d_ST_init2_78 : decode b_ST_init2 78 = .ok (.return_, 1) := by decide +kernel
theorem d_ST_init2_79 : decode b_ST_init2 79 = .ok (.aload_n 0, 1) := by decide +kernel
theorem d_ST_init2_80 : decode b_ST_init2 80 = .ok (.iconst 1, 1) := by decide +kernel
theorem d_ST_init2_81 : decode b_ST_init2 81 = .ok (.putfield 15, 3) := by decide +kernel
theorem d_ST_init2_84 : decode b_ST_init2 84 = .ok (.aload_n 0, 1) := by decide +kernel
theorem d_ST_init2_85 : decode b_ST_init2 85 = .ok (.aload_n 3, 1) := by decide +kernel
theorem d_ST_init2_86 : decode b_ST_init2 86 = .ok (.iconst 0, 1) := by decide +kernel
theorem d_ST_init2_87 : decode b_ST_init2 87 = .ok (.iload 4, 2) := by decide +kernel
theorem d_ST_init2_89 : decode b_ST_init2 89 = .ok (.iconst 1, 1) := by decide +kernel
theorem d_ST_init2_90 : decode b_ST_init2 90 = .ok (.ishl, 1) := by decide +kernel
theorem d_ST_init2_91 : decode b_ST_init2 91 = .ok (.invokestatic 54, 3) := by decide +kernel
theorem d_ST_init2_94 : decode b_ST_init2 94 = .ok (.putfield 9, 3) := by decide +kernel
theorem d_ST_init2_97 : decode b_ST_init2 97 = .ok (.return_, 1) := by decide +kernel
theorem d_AB_getValue_0 : decode b_AB_getValue 0 = .ok (.aload_n 0, 1) := by decide +kernel
theorem d_AB_getValue_1 : decode b_AB_getValue 1 = .ok (.getfield 15, 3) := by decide +kernel
theorem d_AB_getValue_4 : decode b_AB_getValue 4 = .ok (.areturn, 1) := by decide +kernel
theorem d_AR_copyOfRange_0 : decode b_AR_copyOfRange 0 = .ok (.iload_n 1, 1) := by decide +kernel
theorem d_AR_copyOfRange_1 : decode b_AR_copyOfRange 1 = .ok (.ifCond .ne 9, 3) := by decide +kernel
theorem d_AR_copyOfRange_4 : decode b_AR_copyOfRange 4 = .ok (.iload_n 2, 1) := by decide +kernel
theorem d_AR_copyOfRange_5 : decode b_AR_copyOfRange 5 = .ok (.aload_n 0, 1) := by decide +kernel
theorem d_AR_copyOfRange_6 : decode b_AR_copyOfRange 6 = .ok (.arraylength, 1) := by decide +kernel
theorem d_AR_copyOfRange_7 : decode b_AR_copyOfRange 7 = .ok (.if_icmp .eq 10, 3) := by decide +kernel
theorem d_AR_copyOfRange_10 : decode b_AR_copyOfRange 10 = .ok (.aload_n 0, 1) := by decide +kernel
theorem d_AR_copyOfRange_11 : decode b_AR_copyOfRange 11 = .ok (.iload_n 1, 1) := by decide +kernel
theorem d_AR_copyOfRange_12 : decode b_AR_copyOfRange 12 = .ok (.iload_n 2, 1) := by decide +kernel
theorem d_AR_copyOfRange_13 : decode b_AR_copyOfRange 13 = .ok (.invokestatic 339, 3) := by decide +kernel
theorem d_AR_copyOfRange_16 : decode b_AR_copyOfRange 16 = .ok (.areturn, 1) := by decide +kernel
theorem d_AR_copyOfRange_17 : decode b_AR_copyOfRange 17 = .ok (.aload_n 0, 1) := by decide +kernel
theorem d_AR_copyOfRange_18 : decode b_AR_copyOfRange 18 = .ok (.invokevirtual 310, 3) := by decide +kernel
theorem d_AR_copyOfRange_21 : decode b_AR_copyOfRange 21 = .ok (.checkcast 311, 3) := by decide +kernel
theorem d_AR_copyOfRange_24 : decode b_AR_copyOfRange 24 = .ok (.areturn, 1) := by decide +kernel
theorem d_AR_copyOfRangeByte_0 : decode b_AR_copyOfRangeByte 0 = .ok (.iload_n 1, 1) := by decide +kernel
theorem d_AR_copyOfRangeByte_1 : decode b_AR_copyOfRangeByte 1 = .ok (.iload_n 2, 1) := by decide +kernel
theorem d_AR_copyOfRangeByte_2 : decode b_AR_copyOfRangeByte 2 = .ok (.invokestatic 343, 3) := by decide +kernel
theorem d_AR_copyOfRangeByte_5 : decode b_AR_copyOfRangeByte 5 = .ok (.iload_n 2, 1) := by decide +kernel
theorem d_AR_copyOfRangeByte_6 : decode b_AR_copyOfRangeByte 6 = .ok (.iload_n 1, 1) := by decide +kernel
theorem d_AR_copyOfRangeByte_7 : decode b_AR_copyOfRangeByte 7 = .ok (.isub, 1) := by decide +kernel
theorem d_AR_copyOfRangeByte_8 : decode b_AR_copyOfRangeByte 8 = .ok (.istore_n 3, 1) := by decide +kernel
theorem d_AR_copyOfRangeByte_9 : decode b_AR_copyOfRangeByte 9 = .ok (.iload_n 3, 1) := by decide +kernel
theorem d_AR_copyOfRangeByte_10 : decode b_AR_copyOfRangeByte 10 = .ok (.newarray .byte, 2) := by decide +kernel
theorem d_AR_copyOfRangeByte_12 : decode b_AR_copyOfRangeByte 12 = .ok (.astore 4, 2) := by decide +kernel
theorem d_AR_copyOfRangeByte_14 : decode b_AR_copyOfRangeByte 14 = .ok (.aload_n 0, 1) := by decide +kernel
theorem d_AR_copyOfRangeByte_15 : decode b_AR_copyOfRangeByte 15 = .ok (.iload_n 1, 1) := by decide +kernel
theorem d_AR_copyOfRangeByte_16 : decode b_AR_copyOfRangeByte 16 = .ok (.aload 4, 2) := by decide +kernel
theorem d_AR_copyOfRangeByte_18 : decode b_AR_copyOfRangeByte 18 = .ok (.iconst 0, 1) := by decide +kernel
theorem d_AR_copyOfRangeByte_19 : decode b_AR_copyOfRangeByte 19 = .ok (.aload_n 0, 1) := by decide +kernel
theorem d_AR_copyOfRangeByte_20 : decode b_AR_copyOfRangeByte 20 = .ok (.arraylength, 1) := by decide +kernel
theorem d_AR_copyOfRangeByte_21 : decode b_AR_copyOfRangeByte 21 = .ok (.iload_n 1, 1) := by decide +kernel
theorem d_AR_copyOfRangeByte_22 : decode b_AR_copyOfRangeByte 22 = .ok (.isub, 1) := by decide +kernel
theorem d_AR_copyOfRangeByte_23 : decode b_AR_copyOfRangeByte 23 = .ok (.iload_n 3, 1) := by decide +kernel
theorem d_AR_copyOfRangeByte_24 : decode b_AR_copyOfRangeByte 24 = .ok (.invokestatic 304, 3) := by decide +kernel
theorem d_AR_copyOfRangeByte_27 : decode b_AR_copyOfRangeByte 27 = .ok (.invokestatic 150, 3) := by decide +kernel
theorem d_AR_copyOfRangeByte_30 : decode b_AR_copyOfRangeByte 30 = .ok (.aload 4, 2) := by decide +kernel
theorem d_AR_copyOfRangeByte_32 : decode b_AR_copyOfRangeByte 32 = .ok (.areturn, 1) := by decide +kernel
theorem d_AR_checkLength_0 : decode b_AR_checkLength 0 = .ok (.iload_n 1, 1) := by decide +kernel
theorem d_AR_checkLength_1 : decode b_AR_checkLength 1 = .ok (.iload_n 0, 1) := by decide +kernel
theorem d_AR_checkLength_2 : decode b_AR_checkLength 2 = .ok (.if_icmp .ge 35, 3) := by decide +kernel
theorem d_AR_checkLength_5 : decode b_AR_checkLength 5 = .ok (.new 43, 3) := by decide +kernel
theorem d_AR_checkLength_8 : decode b_AR_checkLength 8 = .ok (.dup, 1) := by decide +kernel
theorem d_AR_checkLength_9 : decode b_AR_checkLength 9 = .ok (.new 45, 3) := by decide +kernel
theorem d_AR_checkLength_12 : decode b_AR_checkLength 12 = .ok (.dup, 1) := by decide +kernel
theorem d_AR_checkLength_13 : decode b_AR_checkLength 13 = .ok (.invokespecial 47, 3) := by decide +kernel
theorem d_AR_checkLength_16 : decode b_AR_checkLength 16 = .ok (.iload_n 0, 1) := by decide +kernel
theorem d_AR_checkLength_17 : decode b_AR_checkLength 17 = .ok (.invokevirtual 54, 3) := by decide +kernel
theorem d_AR_checkLength_20 : decode b_AR_checkLength 20 = .ok (.ldc_w 337, 3) := by decide +kernel
theorem d_AR_checkLength_23 : decode b_AR_checkLength 23 = .ok (.invokevirtual 50, 3) := by decide +kernel
theorem d_AR_checkLength_26 : decode b_AR_checkLength 26 = .ok (.iload_n 1, 1) := by decide +kernel
theorem d_AR_checkLength_27 : decode b_AR_checkLength 27 = .ok (.invokevirtual 54, 3) := by decide +kernel
theorem d_AR_checkLength_30 : decode b_AR_checkLength 30 = .ok (.invokevirtual 61, 3) := by decide +kernel
theorem d_AR_checkLength_33 : decode b_AR_checkLength 33 = .ok (.invokespecial 65, 3) := by decide +kernel
theorem d_AR_checkLength_36 : decode b_AR_checkLength 36 = .ok (.athrow, 1) := by decide +kernel
theorem d_AR_checkLength_37 : decode b_AR_checkLength 37 = .ok (.return_, 1) := by decide +kernel
theorem d_ST_length_0 : decode b_ST_length 0 = .ok (.aload_n 0, 1) := by decide +kernel
theorem d_ST_length_1 : decode b_ST_length 1 = .ok (.getfield 9, 3) := by decide +kernel
theorem d_ST_length_4 : decode b_ST_length 4 = .ok (.arraylength, 1) := by decide +kernel
theorem d_ST_length_5 : decode b_ST_length 5 = .ok (.aload_n 0, 1) := by decide +kernel
theorem d_ST_length_6 : decode b_ST_length 6 = .ok (.invokevirtual 335, 3) := by decide +kernel
theorem d_ST_length_9 : decode b_ST_length 9 = .ok (.ishr, 1) := by decide +kernel
theorem d_ST_length_10 : decode b_ST_length 10 = .ok (.ireturn, 1) := by decide +kernel
theorem d_ST_coder_0 : decode b_ST_coder 0 = .ok (.getstatic 38, 3) := by decide +kernel
theorem d_ST_coder_3 : decode b_ST_coder 3 = .ok (.ifCond .eq 10, 3) := by decide +kernel
theorem d_ST_coder_6 : decode b_ST_coder 6 = .ok (.aload_n 0, 1) := by decide +kernel
theorem d_ST_coder_7 : decode b_ST_coder 7 = .ok (.getfield 15, 3) := by decide +kernel
theorem d_ST_coder_10 : decode b_ST_coder 10 = .ok (.goto 4, 3) := by decide +kernel
theorem d_ST_coder_13 : decode b_ST_coder 13 = .ok (.iconst 1, 1) := by decide +kernel
theorem d_ST_coder_14 : decode b_ST_coder 14 = .ok (.ireturn, 1) := by decide +kernel
theorem d_ST_charAt_0 : decode b_ST_charAt 0 = .ok (.aload_n 0, 1) := by decide +kernel
theorem d_ST_charAt_1 : decode b_ST_charAt 1 = .ok (.invokevirtual 492, 3) := by decide +kernel
theorem d_ST_charAt_4 : decode b_ST_charAt 4 = .ok (.ifCond .eq 12, 3) := by decide +kernel
theorem d_ST_charAt_7 : decode b_ST_charAt 7 = .ok (.aload_n 0, 1) := by decide +kernel
theorem d_ST_charAt_8 : decode b_ST_charAt 8 = .ok (.getfield 9, 3) := by decide +kernel
theorem d_ST_charAt_11 : decode b_ST_charAt 11 = .ok (.iload_n 1, 1) := by decide +kernel
theorem d_ST_charAt_12 : decode b_ST_charAt 12 = .ok (.invokestatic 495, 3) := by decide +kernel
theorem d_ST_charAt_15 : decode b_ST_charAt 15 = .ok (.ireturn, 1) := by decide +kernel
theorem d_ST_charAt_16 : decode b_ST_charAt 16 = .ok (.aload_n 0, 1) := by decide +kernel
theorem d_ST_charAt_17 : decode b_ST_charAt 17 = .ok (.getfield 9, 3) := by decide +kernel
theorem d_ST_charAt_20 : decode b_ST_charAt 20 = .ok (.iload_n 1, 1) := by decide +kernel
theorem d_ST_charAt_21 : decode b_ST_charAt 21 = .ok (.invokestatic 498, 3) := by decide +kernel
theorem d_ST_charAt_24 : decode b_ST_charAt 24 = .ok (.ireturn, 1) := by decide +kernel
theorem d_ST_isLatin1_0 : decode b_ST_isLatin1 0 = .ok (.getstatic 38, 3) := by decide +kernel
theorem d_ST_isLatin1_3 : decode b_ST_isLatin1 3 = .ok (.ifCond .eq 14, 3) := by decide +kernel
theorem d_ST_isLatin1_6 : decode b_ST_isLatin1 6 = .ok (.aload_n 0, 1) := by decide +kernel
theorem d_ST_isLatin1_7 : decode b_ST_isLatin1 7 = .ok (.getfield 15, 3) := by decide +kernel
theorem d_ST_isLatin1_10 : decode b_ST_isLatin1 10 = .ok (.ifCond .ne 7, 3) := by decide +kernel
theorem d_ST_isLatin1_13 : decode b_ST_isLatin1 13 = .ok (.iconst 1, 1) := by decide +kernel
theorem d_ST_isLatin1_14 : decode b_ST_isLatin1 14 = .ok (.goto 4, 3) := by decide +kernel
theorem d_ST_isLatin1_17 : decode b_ST_isLatin1 17 = .ok (.iconst 0, 1) := by decide +kernel
theorem d_ST_isLatin1_18 : decode b_ST_isLatin1 18 = .ok (.ireturn, 1) := by decide +kernel
theorem d_L1_charAt_0 : decode b_L1_charAt 0 = .ok (.iload_n 1, 1) := by decide +kernel
theorem d_L1_charAt_1 : decode b_L1_charAt 1 = .ok (.aload_n 0, 1) := by decide +kernel
theorem d_L1_charAt_2 : decode b_L1_charAt 2 = .ok (.arraylength, 1) := by decide +kernel
theorem d_L1_charAt_3 : decode b_L1_charAt 3 = .ok (.invokestatic 9, 3) := by decide +kernel
theorem d_L1_charAt_6 : decode b_L1_charAt 6 = .ok (.aload_n 0, 1) := by decide +kernel
theorem d_L1_charAt_7 : decode b_L1_charAt 7 = .ok (.iload_n 1, 1) := by decide +kernel
theorem d_L1_charAt_8 : decode b_L1_charAt 8 = .ok (.baload, 1) := by decide +kernel
theorem d_L1_charAt_9 : decode b_L1_charAt 9 = .ok (.sipush 255, 3) := by decide +kernel
theorem d_L1_charAt_12 : decode b_L1_charAt 12 = .ok (.iand, 1) := by decide +kernel
theorem d_L1_charAt_13 : decode b_L1_charAt 13 = .ok (.i2c, 1) := by decide +kernel
theorem d_L1_charAt_14 : decode b_L1_charAt 14 = .ok (.ireturn, 1) := by decide +kernel
theorem d_SB_setLength_0 : decode b_SB_setLength 0 = .ok (.aload_n 0, 1) := by decide +kernel
theorem d_SB_setLength_1 : decode b_SB_setLength 1 = .ok (.iload_n 1, 1) := by decide +kernel
theorem d_SB_setLength_2 : decode b_SB_setLength 2 = .ok (.invokespecial 333, 3) := by decide +kernel
theorem d_SB_setLength_5 : decode b_SB_setLength 5 = .ok (.return_, 1) := by decide +kernel
theorem d_AB_setLength_0 : decode b_AB_setLength 0 = .ok (.iload_n 1, 1) := by decide +kernel
theorem d_AB_setLength_1 : decode b_AB_setLength 1 = .ok (.ifCond .ge 12, 3) := by decide +kernel
theorem d_AB_setLength_4 : decode b_AB_setLength 4 = .ok (.new 129, 3) := by decide +kernel
theorem d_AB_setLength_7 : decode b_AB_setLength 7 = .ok (.dup, 1) := by decide +kernel
theorem d_AB_setLength_8 : decode b_AB_setLength 8 = .ok (.iload_n 1, 1) := by decide +kernel
theorem d_AB_setLength_9 : decode b_AB_setLength 9 = .ok (.invokespecial 131, 3) := by decide +kernel
theorem d_AB_setLength_12 : decode b_AB_setLength 12 = .ok (.athrow, 1) := by decide +kernel
theorem d_AB_setLength_13 : decode b_AB_setLength 13 = .ok (.aload_n 0, 1) := by decide +kernel
theorem d_AB_setLength_14 : decode b_AB_setLength 14 = .ok (.iload_n 1, 1) := by decide +kernel
theorem d_AB_setLength_15 : decode b_AB_setLength 15 = .ok (.invokevirtual 100, 3) := by decide +kernel
theorem d_AB_setLength_18 : decode b_AB_setLength 18 = .ok (.aload_n 0, 1) := by decide +kernel
theorem d_AB_setLength_19 : decode b_AB_setLength 19 = .ok (.getfield 79, 3) := by decide +kernel
theorem d_AB_setLength_22 : decode b_AB_setLength 22 = .ok (.iload_n 1, 1) := by decide +kernel
theorem d_AB_setLength_23 : decode b_AB_setLength 23 = .ok (.if_icmp .ge 40, 3) := by decide +kernel
theorem d_AB_setLength_26 : decode b_AB_setLength 26 = .ok (.aload_n 0, 1) := by decide +kernel
theorem d_AB_setLength_27 : decode b_AB_setLength 27 = .ok (.invokevirtual 83, 3) := by decide +kernel
theorem d_AB_setLength_30 : decode b_AB_setLength 30 = .ok (.ifCond .eq 18, 3) := by decide +kernel
theorem d_AB_setLength_33 : decode b_AB_setLength 33 = .ok (.aload_n 0, 1) := by decide +kernel
theorem d_AB_setLength_34 : decode b_AB_setLength 34 = .ok (.getfield 15, 3) := by decide +kernel
theorem d_AB_setLength_37 : decode b_AB_setLength 37 = .ok (.aload_n 0, 1) := by decide +kernel
theorem d_AB_setLength_38 : decode b_AB_setLength 38 = .ok (.getfield 79, 3) := by decide +kernel
theorem d_AB_setLength_41 : decode b_AB_setLength 41 = .ok (.iload_n 1, 1) := by decide +kernel
theorem d_AB_setLength_42 : decode b_AB_setLength 42 = .ok (.invokestatic 133, 3) := by decide +kernel
theorem d_AB_setLength_45 : decode b_AB_setLength 45 = .ok (.goto 31, 3) := by decide +kernel
theorem d_AB_setLength_48 : decode b_AB_setLength 48 = .ok (.aload_n 0, 1) := by decide +kernel
theorem d_AB_setLength_49 : decode b_AB_setLength 49 = .ok (.getfield 15, 3) := by decide +kernel
theorem d_AB_setLength_52 : decode b_AB_setLength 52 = .ok (.aload_n 0, 1) := by decide +kernel
theorem d_AB_setLength_53 : decode b_AB_setLength 53 = .ok (.getfield 79, 3) := by decide +kernel
theorem d_AB_setLength_56 : decode b_AB_setLength 56 = .ok (.iload_n 1, 1) := by decide +kernel
theorem d_AB_setLength_57 : decode b_AB_setLength 57 = .ok (.invokestatic 137, 3) := by decide +kernel
theorem d_AB_setLength_60 : decode b_AB_setLength 60 = .ok (.goto 16, 3) := by decide +kernel
theorem d_AB_setLength_63 : decode b_AB_setLength 63 = .ok (.aload_n 0, 1) := by decide +kernel
theorem d_AB_setLength_64 : decode b_AB_setLength 64 = .ok (.getfield 79, 3) := by decide +kernel
theorem d_AB_setLength_67 : decode b_AB_setLength 67 = .ok (.iload_n 1, 1) := by decide +kernel
theorem d_AB_setLength_68 : decode b_AB_setLength 68 = .ok (.if_icmp .le 8, 3) := by decide +kernel
theorem d_AB_setLength_71 : decode b_AB_setLength 71 = .ok (.aload_n 0, 1) := by decide +kernel
theorem d_AB_setLength_72 : decode b_AB_setLength 72 = .ok (.iconst 1, 1) := by decide +kernel
theorem d_AB_setLength_73 : decode b_AB_setLength 73 = .ok (.putfield 73, 3) := by decide +kernel
theorem d_AB_setLength_76 : decode b_AB_setLength 76 = .ok (.aload_n 0, 1) := by decide +kernel
theorem d_AB_setLength_77 : decode b_AB_setLength 77 = .ok (.iload_n 1, 1) := by decide +kernel
theorem d_AB_setLength_78 : decode b_AB_setLength 78 = .ok (.putfield 79, 3) := by decide +kernel
theorem d_AB_setLength_81 : decode b_AB_setLength 81 = .ok (.return_, 1) := by decide +kernel
theorem d_L1_fillNull_0 : decode b_L1_fillNull 0 = .ok (.aload_n 0, 1) := by decide +kernel
theorem d_L1_fillNull_1 : decode b_L1_fillNull 1 = .ok (.iload_n 1, 1) := by decide +kernel
theorem d_L1_fillNull_2 : decode b_L1_fillNull 2 = .ok (.iload_n 2, 1) := by decide +kernel
theorem d_L1_fillNull_3 : decode b_L1_fillNull 3 = .ok (.iconst 0, 1) := by decide +kernel
theorem d_L1_fillNull_4 : decode b_L1_fillNull 4 = .ok (.invokestatic 236, 3) := by decide +kernel
theorem d_L1_fillNull_7 : decode b_L1_fillNull 7 = .ok (.return_, 1) := by decide +kernel
theorem d_AR_fill_0 : decode b_AR_fill 0 = .ok (.aload_n 0, 1) := by decide +kernel
theorem d_AR_fill_1 : decode b_AR_fill 1 = .ok (.arraylength, 1) := by decide +kernel
theorem d_AR_fill_2 : decode b_AR_fill 2 = .ok (.iload_n 1, 1) := by decide +kernel
theorem d_AR_fill_3 : decode b_AR_fill 3 = .ok (.iload_n 2, 1) := by decide +kernel
theorem d_AR_fill_4 : decode b_AR_fill 4 = .ok (.invokestatic 13, 3) := by decide +kernel
theorem d_AR_fill_7 : decode b_AR_fill 7 = .ok (.iload_n 1, 1) := by decide +kernel
theorem d_AR_fill_8 : decode b_AR_fill 8 = .ok (.istore 4, 2) := by decide +kernel
theorem d_AR_fill_10 : decode b_AR_fill 10 = .ok (.iload 4, 2) := by decide +kernel
theorem d_AR_fill_12 : decode b_AR_fill 12 = .ok (.iload_n 2, 1) := by decide +kernel
theorem d_AR_fill_13 : decode b_AR_fill 13 = .ok (.if_icmp .ge 14, 3) := by decide +kernel
theorem d_AR_fill_16 : decode b_AR_fill 16 = .ok (.aload_n 0, 1) := by decide +kernel
theorem d_AR_fill_17 : decode b_AR_fill 17 = .ok (.iload 4, 2) := by decide +kernel
theorem d_AR_fill_19 : decode b_AR_fill 19 = .ok (.iload_n 3, 1) := by decide +kernel
theorem d_AR_fill_20 : decode b_AR_fill 20 = .ok (.bastore, 1) := by decide +kernel
theorem d_AR_fill_21 : decode b_AR_fill 21 = .ok (.iinc 4 1, 3) := by decide +kernel
theorem d_AR_fill_24 : decode b_AR_fill 24 = .ok (.goto (-14), 3) := by decide +kernel
theorem d_AR_fill_27 : decode b_AR_fill 27 = .ok (.return_, 1) := by decide +kernel
theorem d_AR_rangeCheck_0 : decode b_AR_rangeCheck 0 = .ok (.iload_n 1, 1) := by decide +kernel
theorem d_AR_rangeCheck_1 : decode b_AR_rangeCheck 1 = .ok (.iload_n 2, 1) := by decide +kernel
theorem d_AR_rangeCheck_2 : decode b_AR_rangeCheck 2 = .ok (.if_icmp .le 44, 3) := by decide +kernel
theorem d_AR_rangeCheck_5 : decode b_AR_rangeCheck 5 = .ok (.new 43, 3) := by decide +kernel
theorem d_AR_rangeCheck_8 : decode b_AR_rangeCheck 8 = .ok (.dup, 1) := by decide +kernel
theorem d_AR_rangeCheck_9 : decode b_AR_rangeCheck 9 = .ok (.new 45, 3) := by decide +kernel
theorem d_AR_rangeCheck_12 : decode b_AR_rangeCheck 12 = .ok (.dup, 1) := by decide +kernel
theorem d_AR_rangeCheck_13 : decode b_AR_rangeCheck 13 = .ok (.invokespecial 47, 3) := by decide +kernel
theorem d_AR_rangeCheck_16 : decode b_AR_rangeCheck 16 = .ok (.ldc 48, 2) := by decide +kernel
theorem d_AR_rangeCheck_18 : decode b_AR_rangeCheck 18 = .ok (.invokevirtual 50, 3) := by decide +kernel
theorem d_AR_rangeCheck_21 : decode b_AR_rangeCheck 21 = .ok (.iload_n 1, 1) := by decide +kernel
theorem d_AR_rangeCheck_22 : decode b_AR_rangeCheck 22 = .ok (.invokevirtual 54, 3) := by decide +kernel
theorem d_AR_rangeCheck_25 : decode b_AR_rangeCheck 25 = .ok (.ldc 57, 2) := by decide +kernel
theorem d_AR_rangeCheck_27 : decode b_AR_rangeCheck 27 = .ok (.invokevirtual 50, 3) := by decide +kernel
theorem d_AR_rangeCheck_30 : decode b_AR_rangeCheck 30 = .ok (.iload_n 2, 1) := by decide +kernel
theorem d_AR_rangeCheck_31 : decode b_AR_rangeCheck 31 = .ok (.invokevirtual 54, 3) := by decide +kernel
theorem d_AR_rangeCheck_34 : decode b_AR_rangeCheck 34 = .ok (.ldc 59, 2) := by decide +kernel
theorem d_AR_rangeCheck_36 : decode b_AR_rangeCheck 36 = .ok (.invokevirtual 50, 3) := by decide +kernel
theorem d_AR_rangeCheck_39 : decode b_AR_rangeCheck 39 = .ok (.invokevirtual 61, 3) := by decide +kernel
theorem d_AR_rangeCheck_42 : decode b_AR_rangeCheck 42 = .ok (.invokespecial 65, 3) := by decide +kernel
theorem d_AR_rangeCheck_45 : decode b_AR_rangeCheck 45 = .ok (.athrow, 1) := by decide +kernel
theorem d_AR_rangeCheck_46 : decode b_AR_rangeCheck 46 = .ok (.iload_n 1, 1) := by decide +kernel
theorem d_AR_rangeCheck_47 : decode b_AR_rangeCheck 47 = .ok (.ifCond .ge 12, 3) := by decide +kernel
theorem d_AR_rangeCheck_50 : decode b_AR_rangeCheck 50 = .ok (.new 68, 3) := by decide +kernel
theorem d_AR_rangeCheck_53 : decode b_AR_rangeCheck 53 = .ok (.dup, 1) := by decide +kernel
theorem d_AR_rangeCheck_54 : decode b_AR_rangeCheck 54 = .ok (.iload_n 1, 1) := by decide +kernel
theorem d_AR_rangeCheck_55 : decode b_AR_rangeCheck 55 = .ok (.invokespecial 70, 3) := by decide +kernel
theorem d_AR_rangeCheck_58 : decode b_AR_rangeCheck 58 = .ok (.athrow, 1) := by decide +kernel
theorem d_AR_rangeCheck_59 : decode b_AR_rangeCheck 59 = .ok (.iload_n 2, 1) := by decide +kernel
theorem d_AR_rangeCheck_60 : decode b_AR_rangeCheck 60 = .ok (.iload_n 0, 1) := by decide +kernel
theorem d_AR_rangeCheck_61 : decode b_AR_rangeCheck 61 = .ok (.if_icmp .le 12, 3) := by decide +kernel
theorem d_AR_rangeCheck_64 : decode b_AR_rangeCheck 64 = .ok (.new 68, 3) := by decide +kernel
theorem d_AR_rangeCheck_67 : decode b_AR_rangeCheck 67 = .ok (.dup, 1) := by decide +kernel
theorem d_AR_rangeCheck_68 : decode b_AR_rangeCheck 68 = .ok (.iload_n 2, 1) := by decide +kernel
theorem d_AR_rangeCheck_69 : decode b_AR_rangeCheck 69 = .ok (.invokespecial 70, 3) := by decide +kernel
theorem d_AR_rangeCheck_72 : decode b_AR_rangeCheck 72 = .ok (.athrow, 1) := by decide +kernel
theorem d_AR_rangeCheck_73 : decode b_AR_rangeCheck 73 = .ok (.return_, 1) := by decide +kernel
theorem d_SB_append2_0 : decode b_SB_append2 0 = .ok (.aload_n 0, 1) := by decide +kernel
theorem d_SB_append2_1 : decode b_SB_append2 1 = .ok (.iload_n 1, 1) := by decide +kernel
theorem d_SB_append2_2 : decode b_SB_append2 2 = .ok (.invokespecial 53, 3) := by decide +kernel
theorem d_SB_append2_5 : decode b_SB_append2 5 = .ok (.pop, 1) := by decide +kernel
theorem d_SB_append2_6 : decode b_SB_append2 6 = .ok (.aload_n 0, 1) := by decide +kernel
theorem d_SB_append2_7 : decode b_SB_append2 7 = .ok (.areturn, 1) := by decide +kernel
theorem d_AB_append2_0 : decode b_AB_append2 0 = .ok (.aload_n 0, 1) := by decide +kernel
theorem d_AB_append2_1 : decode b_AB_append2 1 = .ok (.getfield 79, 3) := by decide +kernel
theorem d_AB_append2_4 : decode b_AB_append2 4 = .ok (.istore_n 2, 1) := by decide +kernel
theorem d_AB_append2_5 : decode b_AB_append2 5 = .ok (.iload_n 2, 1) := by decide +kernel
theorem d_AB_append2_6 : decode b_AB_append2 6 = .ok (.iload_n 1, 1) := by decide +kernel
theorem d_AB_append2_7 : decode b_AB_append2 7 = .ok (.invokestatic 245, 3) := by decide +kernel
theorem d_AB_append2_10 : decode b_AB_append2 10 = .ok (.iadd, 1) := by decide +kernel
theorem d_AB_append2_11 : decode b_AB_append2 11 = .ok (.istore_n 3, 1) := by decide +kernel
theorem d_AB_append2_12 : decode b_AB_append2 12 = .ok (.aload_n 0, 1) := by decide +kernel
theorem d_AB_append2_13 : decode b_AB_append2 13 = .ok (.iload_n 3, 1) := by decide +kernel
theorem d_AB_append2_14 : decode b_AB_append2 14 = .ok (.invokevirtual 100, 3) := by decide +kernel
theorem d_AB_append2_17 : decode b_AB_append2 17 = .ok (.aload_n 0, 1) := by decide +kernel
theorem d_AB_append2_18 : decode b_AB_append2 18 = .ok (.invokevirtual 83, 3) := by decide +kernel
theorem d_AB_append2_21 : decode b_AB_append2 21 = .ok (.ifCond .eq 16, 3) := by decide +kernel
theorem d_AB_append2_24 : decode b_AB_append2 24 = .ok (.iload_n 1, 1) := by decide +kernel
theorem d_AB_append2_25 : decode b_AB_append2 25 = .ok (.iload_n 3, 1) := by decide +kernel
theorem d_AB_append2_26 : decode b_AB_append2 26 = .ok (.aload_n 0, 1) := by decide +kernel
theorem d_AB_append2_27 : decode b_AB_append2 27 = .ok (.getfield 15, 3) := by decide +kernel
theorem d_AB_append2_30 : decode b_AB_append2 30 = .ok (.invokestatic 248, 3) := by decide +kernel
theorem d_AB_append2_33 : decode b_AB_append2 33 = .ok (.pop, 1) := by decide +kernel
theorem d_AB_append2_34 : decode b_AB_append2 34 = .ok (.goto 14, 3) := by decide +kernel
theorem d_AB_append2_37 : decode b_AB_append2 37 = .ok (.iload_n 1, 1) := by decide +kernel
theorem d_AB_append2_38 : decode b_AB_append2 38 = .ok (.iload_n 2, 1) := by decide +kernel
theorem d_AB_append2_39 : decode b_AB_append2 39 = .ok (.iload_n 3, 1) := by decide +kernel
theorem d_AB_append2_40 : decode b_AB_append2 40 = .ok (.aload_n 0, 1) := by decide +kernel
theorem d_AB_append2_41 : decode b_AB_append2 41 = .ok (.getfield 15, 3) := by decide +kernel
theorem d_AB_append2_44 : decode b_AB_append2 44 = .ok (.invokestatic 251, 3) := by decide +kernel
theorem d_AB_append2_47 : decode b_AB_append2 47 = .ok (.pop, 1) := by decide +kernel
theorem d_AB_append2_48 : decode b_AB_append2 48 = .ok (.aload_n 0, 1) := by decide +kernel
theorem d_AB_append2_49 : decode b_AB_append2 49 = .ok (.iload_n 3, 1) := by decide +kernel
theorem d_AB_append2_50 : decode b_AB_append2 50 = .ok (.putfield 79, 3) := by decide +kernel
theorem d_AB_append2_53 : decode b_AB_append2 53 = .ok (.aload_n 0, 1) := by decide +kernel
theorem d_AB_append2_54 : decode b_AB_append2 54 = .ok (.areturn, 1) := by decide +kernel
theorem d_IN_stringSize_0 : decode b_IN_stringSize 0 = .ok (.iconst 1, 1) := by decide +kernel
theorem d_IN_stringSize_1 : decode b_IN_stringSize 1 = .ok (.istore_n 1, 1) := by decide +kernel
theorem d_IN_stringSize_2 : decode b_IN_stringSize 2 = .ok (.iload_n 0, 1) := by decide +kernel
theorem d_IN_stringSize_3 : decode b_IN_stringSize 3 = .ok (.ifCond .lt 8, 3) := by decide +kernel
theorem d_IN_stringSize_6 : decode b_IN_stringSize 6 = .ok (.iconst 0, 1) := by decide +kernel
theorem d_IN_stringSize_7 : decode b_IN_stringSize 7 = .ok (.istore_n 1, 1) := by decide +kernel
theorem d_IN_stringSize_8 : decode b_IN_stringSize 8 = .ok (.iload_n 0, 1) := by decide +kernel
theorem d_IN_stringSize_9 : decode b_IN_stringSize 9 = .ok (.ineg, 1) := by decide +kernel
theorem d_IN_stringSize_10 : decode b_IN_stringSize 10 = .ok (.istore_n 0, 1) := by decide +kernel
theorem d_IN_stringSize_11 : decode b_IN_stringSize 11 = .ok (.bipush (-10), 2) := by decide +kernel
theorem d_IN_stringSize_13 : decode b_IN_stringSize 13 = .ok (.istore_n 2, 1) := by decide +kernel
theorem d_IN_stringSize_14 : decode b_IN_stringSize 14 = .ok (.iconst 1, 1) := by decide +kernel
theorem d_IN_stringSize_15 : decode b_IN_stringSize 15 = .ok (.istore_n 3, 1) := by decide +kernel
theorem d_IN_stringSize_16 : decode b_IN_stringSize 16 = .ok (.iload_n 3, 1) := by decide +kernel
theorem d_IN_stringSize_17 : decode b_IN_stringSize 17 = .ok (.bipush 10, 2) := by decide +kernel
theorem d_IN_stringSize_19 : decode b_IN_stringSize 19 = .ok (.if_icmp .ge 23, 3) := by decide +kernel
theorem d_IN_stringSize_22 : decode b_IN_stringSize 22 = .ok (.iload_n 0, 1) := by decide +kernel
theorem d_IN_stringSize_23 : decode b_IN_stringSize 23 = .ok (.iload_n 2, 1) := by decide +kernel
theorem d_IN_stringSize_24 : decode b_IN_stringSize 24 = .ok (.if_icmp .le 7, 3) := by decide +kernel
theorem d_IN_stringSize_27 : decode b_IN_stringSize 27 = .ok (.iload_n 3, 1) := by decide +kernel
theorem d_IN_stringSize_28 : decode b_IN_stringSize 28 = .ok (.iload_n 1, 1) := by decide +kernel
theorem d_IN_stringSize_29 : decode b_IN_stringSize 29 = .ok (.iadd, 1) := by decide +kernel
theorem d_IN_stringSize_30 : decode b_IN_stringSize 30 = .ok (.ireturn, 1) := by decide +kernel
theorem d_IN_stringSize_31 : decode b_IN_stringSize 31 = .ok (.bipush 10, 2) := by decide +kernel
theorem d_IN_stringSize_33 : decode b_IN_stringSize 33 = .ok (.iload_n 2, 1) := by decide +kernel
theorem d_IN_stringSize_34 : decode b_IN_stringSize 34 = .ok (.imul, 1) := by decide +kernel
theorem d_IN_stringSize_35 : decode b_IN_stringSize 35 = .ok (.istore_n 2, 1) := by decide +kernel
theorem d_IN_stringSize_36 : decode b_IN_stringSize 36 = .ok (.iinc 3 1, 3) := by decide +kernel
theorem d_IN_stringSize_39 : decode b_IN_stringSize 39 = .ok (.goto (-23), 3) := by decide +kernel
theorem d_IN_stringSize_42 : decode b_IN_stringSize 42 = .ok (.bipush 10, 2) := by decide +kernel
theorem d_IN_stringSize_44 : decode b_IN_stringSize 44 = .ok (.iload_n 1, 1) := by decide +kernel
theorem d_IN_stringSize_45 : decode b_IN_stringSize 45 = .ok (.iadd, 1) := by decide +kernel
theorem d_IN_stringSize_46 : decode b_IN_stringSize 46 = .ok (.ireturn, 1) := by decide +kernel
theorem d_IN_getChars_0 : decode b_IN_getChars 0 = .ok (.iload_n 1, 1) := by decide +kernel
theorem d_IN_getChars_1 : decode b_IN_getChars 1 = .ok (.istore 5, 2) := by decide +kernel
theorem d_IN_getChars_3 : decode b_IN_getChars 3 = .ok (.iload_n 0, 1) := by decide +kernel
theorem d_IN_getChars_4 : decode b_IN_getChars 4 = .ok (.ifCond .ge 7, 3) := by decide +kernel
theorem d_IN_getChars_7 : decode b_IN_getChars 7 = .ok (.iconst 1, 1) := by decide +kernel
theorem d_IN_getChars_8 : decode b_IN_getChars 8 = .ok (.goto 4, 3) := by decide +kernel
theorem d_IN_getChars_11 : decode b_IN_getChars 11 = .ok (.iconst 0, 1) := by decide +kernel
theorem d_IN_getChars_12 : decode b_IN_getChars 12 = .ok (.istore 6, 2) := by decide +kernel
theorem d_IN_getChars_14 : decode b_IN_getChars 14 = .ok (.iload 6, 2) := by decide +kernel
theorem d_IN_getChars_16 : decode b_IN_getChars 16 = .ok (.ifCond .ne 6, 3) := by decide +kernel
theorem d_IN_getChars_19 : decode b_IN_getChars 19 = .ok (.iload_n 0, 1) := by decide +kernel
theorem d_IN_getChars_20 : decode b_IN_getChars 20 = .ok (.ineg, 1) := by decide +kernel
theorem d_IN_getChars_21 : decode b_IN_getChars 21 = .ok (.istore_n 0, 1) := by decide +kernel
theorem d_IN_getChars_22 : decode b_IN_getChars 22 = .ok (.iload_n 0, 1) := by decide +kernel
theorem d_IN_getChars_23 : decode b_IN_getChars 23 = .ok (.bipush (-100), 2) := by decide +kernel
theorem d_IN_getChars_25 : decode b_IN_getChars 25 = .ok (.if_icmp .gt 47, 3) := by decide +kernel
theorem d_IN_getChars_28 : decode b_IN_getChars 28 = .ok (.iload_n 0, 1) := by decide +kernel
theorem d_IN_getChars_29 : decode b_IN_getChars 29 = .ok (.bipush 100, 2) := by decide +kernel
theorem d_IN_getChars_31 : decode b_IN_getChars 31 = .ok (.idiv, 1) := by decide +kernel
theorem d_IN_getChars_32 : decode b_IN_getChars 32 = .ok (.istore_n 3, 1) := by decide +kernel
theorem d_IN_getChars_33 : decode b_IN_getChars 33 = .ok (.iload_n 3, 1) := by decide +kernel
theorem d_IN_getChars_34 : decode b_IN_getChars 34 = .ok (.bipush 100, 2) := by decide +kernel
theorem d_IN_getChars_36 : decode b_IN_getChars 36 = .ok (.imul, 1) := by decide +kernel
theorem d_IN_getChars_37 : decode b_IN_getChars 37 = .ok (.iload_n 0, 1) := by decide +kernel
theorem d_IN_getChars_38 : decode b_IN_getChars 38 = .ok (.isub, 1) := by decide +kernel
theorem d_IN_getChars_39 : decode b_IN_getChars 39 = .ok (.istore 4, 2) := by decide +kernel
theorem d_IN_getChars_41 : decode b_IN_getChars 41 = .ok (.iload_n 3, 1) := by decide +kernel
theorem d_IN_getChars_42 : decode b_IN_getChars 42 = .ok (.istore_n 0, 1) := by decide +kernel
theorem d_IN_getChars_43 : decode b_IN_getChars 43 = .ok (.aload_n 2, 1) := by decide +kernel
theorem d_IN_getChars_44 : decode b_IN_getChars 44 = .ok (.iinc 5 (-1), 3) := by decide +kernel
theorem d_IN_getChars_47 : decode b_IN_getChars 47 = .ok (.iload 5, 2) := by decide +kernel
theorem d_IN_getChars_49 : decode b_IN_getChars 49 = .ok (.getstatic 83, 3) := by decide +kernel
theorem d_IN_getChars_52 : decode b_IN_getChars 52 = .ok (.iload 4, 2) := by decide +kernel
theorem d_IN_getChars_54 : decode b_IN_getChars 54 = .ok (.baload, 1) := by decide +kernel
theorem d_IN_getChars_55 : decode b_IN_getChars 55 = .ok (.bastore, 1) := by decide +kernel
theorem d_IN_getChars_56 : decode b_IN_getChars 56 = .ok (.aload_n 2, 1) := by decide +kernel
theorem d_IN_getChars_57 : decode b_IN_getChars 57 = .ok (.iinc 5 (-1), 3) := by decide +kernel
theorem d_IN_getChars_60 : decode b_IN_getChars 60 = .ok (.iload 5, 2) := by decide +kernel
theorem d_IN_getChars_62 : decode b_IN_getChars 62 = .ok (.getstatic 87, 3) := by decide +kernel
theorem d_IN_getChars_65 : decode b_IN_getChars 65 = .ok (.iload 4, 2) := by decide +kernel
theorem d_IN_getChars_67 : decode b_IN_getChars 67 = .ok (.baload, 1) := by decide +kernel
theorem d_IN_getChars_68 : decode b_IN_getChars 68 = .ok (.bastore, 1) := by decide +kernel
theorem d_IN_getChars_69 : decode b_IN_getChars 69 = .ok (.goto (-47), 3) := by decide +kernel
theorem d_IN_getChars_72 : decode b_IN_getChars 72 = .ok (.aload_n 2, 1) := by decide +kernel
theorem d_IN_getChars_73 : decode b_IN_getChars 73 = .ok (.iinc 5 (-1), 3) := by decide +kernel
theorem d_IN_getChars_76 : decode b_IN_getChars 76 = .ok (.iload 5, 2) := by decide +kernel
theorem d_IN_getChars_78 : decode b_IN_getChars 78 = .ok (.getstatic 83, 3) := by decide +kernel
theorem d_IN_getChars_81 : decode b_IN_getChars 81 = .ok (.iload_n 0, 1) := by decide +kernel
theorem d_IN_getChars_82 : decode b_IN_getChars 82 = .ok (.ineg, 1) := by decide +kernel
theorem d_IN_getChars_83 : decode b_IN_getChars 83 = .ok (.baload, 1) := by decide +kernel
theorem d_IN_getChars_84 : decode b_IN_getChars 84 = .ok (.bastore, 1) := by decide +kernel
theorem d_IN_getChars_85 : decode b_IN_getChars 85 = .ok (.iload_n 0, 1) := by decide +kernel
theorem d_IN_getChars_86 : decode b_IN_getChars 86 = .ok (.bipush (-9), 2) := by decide +kernel
theorem d_IN_getChars_88 : decode b_IN_getChars 88 = .ok (.if_icmp .ge 16, 3) := by decide +kernel
theorem d_IN_getChars_91 : decode b_IN_getChars 91 = .ok (.aload_n 2, 1) := by decide +kernel
theorem d_IN_getChars_92 : decode b_IN_getChars 92 = .ok (.iinc 5 (-1), 3) := by decide +kernel
theorem d_IN_getChars_95 : decode b_IN_getChars 95 = .ok (.iload 5, 2) := by decide +kernel
theorem d_IN_getChars_97 : decode b_IN_getChars 97 = .ok (.getstatic 87, 3) := by decide +kernel
theorem d_IN_getChars_100 : decode b_IN_getChars 100 = .ok (.iload_n 0, 1) := by decide +kernel
theorem d_IN_getChars_101 : decode b_IN_getChars 101 = .ok (.ineg, 1) := by decide +kernel
theorem d_IN_getChars_102 : decode b_IN_getChars 102 = .ok (.baload, 1) := by decide +kernel
theorem d_IN_getChars_103 : decode b_IN_getChars 103 = .ok (.bastore, 1) := by decide +kernel
theorem d_IN_getChars_104 : decode b_IN_getChars 104 = .ok (.iload 6, 2) := by decide +kernel
theorem d_IN_getChars_106 : decode b_IN_getChars 106 = .ok (.ifCond .eq 12, 3) := by decide +kernel
theorem d_IN_getChars_109 : decode b_IN_getChars 109 = .ok (.aload_n 2, 1) := by decide +kernel
theorem d_IN_getChars_110 : decode b_IN_getChars 110 = .ok (.iinc 5 (-1), 3) := by decide +kernel
theorem d_IN_getChars_113 : decode b_IN_getChars 113 = .ok (.iload 5, 2) := by decide +kernel
theorem d_IN_getChars_115 : decode b_IN_getChars 115 = .ok (.bipush 45, 2) := by decide +kernel
theorem d_IN_getChars_117 : decode b_IN_getChars 117 = .ok (.bastore, 1) := by decide +kernel
theorem d_IN_getChars_118 : decode b_IN_getChars 118 = .ok (.iload 5, 2) := by decide +kernel
theorem d_IN_getChars_120 : decode b_IN_getChars 120 = .ok (.ireturn, 1) := by decide +kernel
theorem d_ST_checkBoundsBeginEnd_0 : decode b_ST_checkBoundsBeginEnd 0 = .ok (.iload_n 0, 1) := by decide +kernel
theorem d_ST_checkBoundsBeginEnd_1 : decode b_ST_checkBoundsBeginEnd 1 = .ok (.iload_n 1, 1) := by decide +kernel
theorem d_ST_checkBoundsBeginEnd_2 : decode b_ST_checkBoundsBeginEnd 2 = .ok (.iload_n 2, 1) := by decide +kernel
theorem d_ST_checkBoundsBeginEnd_3 : decode b_ST_checkBoundsBeginEnd 3 = .ok (.getstatic 1053, 3) := by decide +kernel
theorem d_ST_checkBoundsBeginEnd_6 : decode b_ST_checkBoundsBeginEnd 6 = .ok (.invokestatic 1062, 3) := by decide +kernel
theorem d_ST_checkBoundsBeginEnd_9 : decode b_ST_checkBoundsBeginEnd 9 = .ok (.pop, 1) := by decide +kernel
theorem d_ST_checkBoundsBeginEnd_10 : decode b_ST_checkBoundsBeginEnd 10 = .ok (.return_, 1) := by decide +kernel
theorem d_PR_checkFromToIndex_0 : decode b_PR_checkFromToIndex 0 = .ok (.iload_n 0, 1) := by decide +kernel
theorem d_PR_checkFromToIndex_1 : decode b_PR_checkFromToIndex 1 = .ok (.ifCond .lt 13, 3) := by decide +kernel
theorem d_PR_checkFromToIndex_4 : decode b_PR_checkFromToIndex 4 = .ok (.iload_n 0, 1) := by decide +kernel
theorem d_PR_checkFromToIndex_5 : decode b_PR_checkFromToIndex 5 = .ok (.iload_n 1, 1) := by decide +kernel
theorem d_PR_checkFromToIndex_6 : decode b_PR_checkFromToIndex 6 = .ok (.if_icmp .gt 8, 3) := by decide +kernel
theorem d_PR_checkFromToIndex_9 : decode b_PR_checkFromToIndex 9 = .ok (.iload_n 1, 1) := by decide +kernel
theorem d_PR_checkFromToIndex_10 : decode b_PR_checkFromToIndex 10 = .ok (.iload_n 2, 1) := by decide +kernel
theorem d_PR_checkFromToIndex_11 : decode b_PR_checkFromToIndex 11 = .ok (.if_icmp .le 11, 3) := by decide +kernel
theorem d_PR_checkFromToIndex_14 : decode b_PR_checkFromToIndex 14 = .ok (.aload_n 3, 1) := by decide +kernel
theorem d_PR_checkFromToIndex_15 : decode b_PR_checkFromToIndex 15 = .ok (.iload_n 0, 1) := by decide +kernel
theorem d_PR_checkFromToIndex_16 : decode b_PR_checkFromToIndex 16 = .ok (.iload_n 1, 1) := by decide +kernel
theorem d_PR_checkFromToIndex_17 : decode b_PR_checkFromToIndex 17 = .ok (.iload_n 2, 1) := by decide +kernel
theorem d_PR_checkFromToIndex_18 : decode b_PR_checkFromToIndex 18 = .ok (.invokestatic 99, 3) := by decide +kernel
theorem d_PR_checkFromToIndex_21 : decode b_PR_checkFromToIndex 21 = .ok (.athrow, 1) := by decide +kernel
theorem d_PR_checkFromToIndex_22 : decode b_PR_checkFromToIndex 22 = .ok (.iload_n 0, 1) := by decide +kernel
theorem d_PR_checkFromToIndex_23 : decode b_PR_checkFromToIndex 23 = .ok (.ireturn, 1) := by decide +kernel
theorem d_MA_min2_0 : decode b_MA_min2 0 = .ok (.lload_n 0, 1) := by decide +kernel
theorem d_MA_min2_1 : decode b_MA_min2 1 = .ok (.lload_n 2, 1) := by decide +kernel
theorem d_MA_min2_2 : decode b_MA_min2 2 = .ok (.lcmp, 1) := by decide +kernel
theorem d_MA_min2_3 : decode b_MA_min2 3 = .ok (.ifCond .gt 7, 3) := by decide +kernel
theorem d_MA_min2_6 : decode b_MA_min2 6 = .ok (.lload_n 0, 1) := by decide +kernel
theorem d_MA_min2_7 : decode b_MA_min2 7 = .ok (.goto 4, 3) := by decide +kernel
theorem d_MA_min2_10 : decode b_MA_min2 10 = .ok (.lload_n 2, 1) := by decide +kernel
theorem d_MA_min2_11 : decode b_MA_min2 11 = .ok (.lreturn, 1) := by decide +kernel
theorem d_MA_max2_0 : decode b_MA_max2 0 = .ok (.lload_n 0, 1) := by decide +kernel
theorem d_MA_max2_1 : decode b_MA_max2 1 = .ok (.lload_n 2, 1) := by decide +kernel
theorem d_MA_max2_2 : decode b_MA_max2 2 = .ok (.lcmp, 1) := by decide +kernel
theorem d_MA_max2_3 : decode b_MA_max2 3 = .ok (.ifCond .lt 7, 3) := by decide +kernel
theorem d_MA_max2_6 : decode b_MA_max2 6 = .ok (.lload_n 0, 1) := by decide +kernel
theorem d_MA_max2_7 : decode b_MA_max2 7 = .ok (.goto 4, 3) := by decide +kernel
theorem d_MA_max2_10 : decode b_MA_max2 10 = .ok (.lload_n 2, 1) := by decide +kernel
theorem d_MA_max2_11 : decode b_MA_max2 11 = .ok (.lreturn, 1) := by decide +kernel
