theorem dX0_init_0 : decode cX0_init 0 = .ok (.aload_n 0, 1) := by decide +kernel
theorem dX0_init_1 : decode cX0_init 1 = .ok (.invokespecial 3, 3) := by decide +kernel
theorem dX0_init_4 : decode cX0_init 4 = .ok (.aload_n 0, 1) := by decide +kernel
theorem dX0_init_5 : decode cX0_init 5 = .ok (.iload_n 1, 1) := by decide +kernel
theorem dX0_init_6 : decode cX0_init 6 = .ok (.putfield 9, 3) := by decide +kernel
theorem dX0_init_9 : decode cX0_init 9 = .ok (.aload_n 0, 1) := by decide +kernel
theorem dX0_init_10 : decode cX0_init 10 = .ok (.iload_n 2, 1) := by decide +kernel
theorem dX0_init_11 : decode cX0_init 11 = .ok (.putfield 15, 3) := by decide +kernel
theorem dX0_init_14 : decode cX0_init 14 = .ok (.aload_n 0, 1) := by decide +kernel
theorem dX0_init_15 : decode cX0_init 15 = .ok (.iload_n 3, 1) := by decide +kernel
theorem dX0_init_16 : decode cX0_init 16 = .ok (.putfield 18, 3) := by decide +kernel
theorem dX0_init_19 : decode cX0_init 19 = .ok (.aload_n 0, 1) := by decide +kernel
theorem dX0_init_20 : decode cX0_init 20 = .ok (.iload 4, 2) := by decide +kernel
theorem dX0_init_22 : decode cX0_init 22 = .ok (.putfield 21, 3) := by decide +kernel
theorem dX0_init_25 : decode cX0_init 25 = .ok (.aload_n 0, 1) := by decide +kernel
theorem dX0_init_26 : decode cX0_init 26 = .ok (.iload 5, 2) := by decide +kernel
theorem dX0_init_28 : decode cX0_init 28 = .ok (.putfield 24, 3) := by decide +kernel
theorem dX0_init_31 : decode cX0_init 31 = .ok (.aload_n 0, 1) := by decide +kernel
theorem dX0_init_32 : decode cX0_init 32 = .ok (.bipush 111, 2) := by decide +kernel
theorem dX0_init_34 : decode cX0_init 34 = .ok (.putfield 27, 3) := by decide +kernel
theorem dX0_init_37 : decode cX0_init 37 = .ok (.aload_n 0, 1) := by decide +kernel
theorem dX0_init_38 : decode cX0_init 38 = .ok (.iconst (-1), 1) := by decide +kernel
theorem dX0_init_39 : decode cX0_init 39 = .ok (.putfield 31, 3) := by decide +kernel
theorem dX0_init_42 : decode cX0_init 42 = .ok (.return_, 1) := by decide +kernel
theorem dX0_isOpenFor_0 : decode cX0_isOpenFor 0 = .ok (.aload_n 0, 1) := by decide +kernel
theorem dX0_isOpenFor_1 : decode cX0_isOpenFor 1 = .ok (.getfield 27, 3) := by decide +kernel
theorem dX0_isOpenFor_4 : decode cX0_isOpenFor 4 = .ok (.bipush 111, 2) := by decide +kernel
theorem dX0_isOpenFor_6 : decode cX0_isOpenFor 6 = .ok (.if_icmp .ne 15, 3) := by decide +kernel
theorem dX0_isOpenFor_9 : decode cX0_isOpenFor 9 = .ok (.aload_n 0, 1) := by decide +kernel
theorem dX0_isOpenFor_10 : decode cX0_isOpenFor 10 = .ok (.getfield 18, 3) := by decide +kernel
theorem dX0_isOpenFor_13 : decode cX0_isOpenFor 13 = .ok (.iload_n 1, 1) := by decide +kernel
theorem dX0_isOpenFor_14 : decode cX0_isOpenFor 14 = .ok (.if_icmp .ne 7, 3) := by decide +kernel
theorem dX0_isOpenFor_17 : decode cX0_isOpenFor 17 = .ok (.iconst 1, 1) := by decide +kernel
theorem dX0_isOpenFor_18 : decode cX0_isOpenFor 18 = .ok (.goto 4, 3) := by decide +kernel
theorem dX0_isOpenFor_21 : decode cX0_isOpenFor 21 = .ok (.iconst 0, 1) := by decide +kernel
theorem dX0_isOpenFor_22 : decode cX0_isOpenFor 22 = .ok (.ireturn, 1) := by decide +kernel
theorem dX1_init_0 : decode cX1_init 0 = .ok (.aload_n 0, 1) := by decide +kernel
theorem dX1_init_1 : decode cX1_init 1 = .ok (.invokespecial 3, 3) := by decide +kernel
theorem dX1_init_4 : decode cX1_init 4 = .ok (.aload_n 0, 1) := by decide +kernel
theorem dX1_init_5 : decode cX1_init 5 = .ok (.iload_n 1, 1) := by decide +kernel
theorem dX1_init_6 : decode cX1_init 6 = .ok (.putfield 9, 3) := by decide +kernel
theorem dX1_init_9 : decode cX1_init 9 = .ok (.aload_n 0, 1) := by decide +kernel
theorem dX1_init_10 : decode cX1_init 10 = .ok (.new 15, 3) := by decide +kernel
theorem dX1_init_13 : decode cX1_init 13 = .ok (.dup, 1) := by decide +kernel
theorem dX1_init_14 : decode cX1_init 14 = .ok (.invokespecial 17, 3) := by decide +kernel
theorem dX1_init_17 : decode cX1_init 17 = .ok (.putfield 18, 3) := by decide +kernel
theorem dX1_init_20 : decode cX1_init 20 = .ok (.aload_n 0, 1) := by decide +kernel
theorem dX1_init_21 : decode cX1_init 21 = .ok (.iconst (-1), 1) := by decide +kernel
theorem dX1_init_22 : decode cX1_init 22 = .ok (.putfield 22, 3) := by decide +kernel
theorem dX1_init_25 : decode cX1_init 25 = .ok (.aload_n 0, 1) := by decide +kernel
theorem dX1_init_26 : decode cX1_init 26 = .ok (.iconst (-1), 1) := by decide +kernel
theorem dX1_init_27 : decode cX1_init 27 = .ok (.putfield 25, 3) := by decide +kernel
theorem dX1_init_30 : decode cX1_init 30 = .ok (.return_, 1) := by decide +kernel
theorem dX1_keepFor_0 : decode cX1_keepFor 0 = .ok (.aload_n 0, 1) := by decide +kernel
theorem dX1_keepFor_1 : decode cX1_keepFor 1 = .ok (.iload_n 1, 1) := by decide +kernel
theorem dX1_keepFor_2 : decode cX1_keepFor 2 = .ok (.putfield 22, 3) := by decide +kernel
theorem dX1_keepFor_5 : decode cX1_keepFor 5 = .ok (.aload_n 0, 1) := by decide +kernel
theorem dX1_keepFor_6 : decode cX1_keepFor 6 = .ok (.iload_n 2, 1) := by decide +kernel
theorem dX1_keepFor_7 : decode cX1_keepFor 7 = .ok (.putfield 25, 3) := by decide +kernel
theorem dX1_keepFor_10 : decode cX1_keepFor 10 = .ok (.aload_n 0, 1) := by decide +kernel
theorem dX1_keepFor_11 : decode cX1_keepFor 11 = .ok (.getfield 18, 3) := by decide +kernel
theorem dX1_keepFor_14 : decode cX1_keepFor 14 = .ok (.iload_n 2, 1) := by decide +kernel
theorem dX1_keepFor_15 : decode cX1_keepFor 15 = .ok (.iconst (-1), 1) := by decide +kernel
theorem dX1_keepFor_16 : decode cX1_keepFor 16 = .ok (.invokevirtual 28, 3) := by decide +kernel
theorem dX1_keepFor_19 : decode cX1_keepFor 19 = .ok (.return_, 1) := by decide +kernel
theorem dX1_makeVoid_0 : decode cX1_makeVoid 0 = .ok (.aload_n 0, 1) := by decide +kernel
theorem dX1_makeVoid_1 : decode cX1_makeVoid 1 = .ok (.iconst (-1), 1) := by decide +kernel
theorem dX1_makeVoid_2 : decode cX1_makeVoid 2 = .ok (.putfield 22, 3) := by decide +kernel
theorem dX1_makeVoid_5 : decode cX1_makeVoid 5 = .ok (.aload_n 0, 1) := by decide +kernel
theorem dX1_makeVoid_6 : decode cX1_makeVoid 6 = .ok (.getfield 18, 3) := by decide +kernel
theorem dX1_makeVoid_9 : decode cX1_makeVoid 9 = .ok (.iload_n 1, 1) := by decide +kernel
theorem dX1_makeVoid_10 : decode cX1_makeVoid 10 = .ok (.iconst (-1), 1) := by decide +kernel
theorem dX1_makeVoid_11 : decode cX1_makeVoid 11 = .ok (.invokevirtual 28, 3) := by decide +kernel
theorem dX1_makeVoid_14 : decode cX1_makeVoid 14 = .ok (.return_, 1) := by decide +kernel
theorem dX1_isKept_0 : decode cX1_isKept 0 = .ok (.aload_n 0, 1) := by decide +kernel
theorem dX1_isKept_1 : decode cX1_isKept 1 = .ok (.getfield 22, 3) := by decide +kernel
theorem dX1_isKept_4 : decode cX1_isKept 4 = .ok (.iconst (-1), 1) := by decide +kernel
theorem dX1_isKept_5 : decode cX1_isKept 5 = .ok (.if_icmp .eq 15, 3) := by decide +kernel
theorem dX1_isKept_8 : decode cX1_isKept 8 = .ok (.iload_n 1, 1) := by decide +kernel
theorem dX1_isKept_9 : decode cX1_isKept 9 = .ok (.aload_n 0, 1) := by decide +kernel
theorem dX1_isKept_10 : decode cX1_isKept 10 = .ok (.invokevirtual 32, 3) := by decide +kernel
theorem dX1_isKept_13 : decode cX1_isKept 13 = .ok (.if_icmp .ge 7, 3) := by decide +kernel
theorem dX1_isKept_16 : decode cX1_isKept 16 = .ok (.iconst 1, 1) := by decide +kernel
theorem dX1_isKept_17 : decode cX1_isKept 17 = .ok (.goto 4, 3) := by decide +kernel
theorem dX1_isKept_20 : decode cX1_isKept 20 = .ok (.iconst 0, 1) := by decide +kernel
theorem dX1_isKept_21 : decode cX1_isKept 21 = .ok (.ireturn, 1) := by decide +kernel
theorem dX1_voidDay_0 : decode cX1_voidDay 0 = .ok (.aload_n 0, 1) := by decide +kernel
theorem dX1_voidDay_1 : decode cX1_voidDay 1 = .ok (.getfield 25, 3) := by decide +kernel
theorem dX1_voidDay_4 : decode cX1_voidDay 4 = .ok (.sipush 361, 3) := by decide +kernel
theorem dX1_voidDay_7 : decode cX1_voidDay 7 = .ok (.iadd, 1) := by decide +kernel
theorem dX1_voidDay_8 : decode cX1_voidDay 8 = .ok (.ireturn, 1) := by decide +kernel
theorem dX2_init_0 : decode cX2_init 0 = .ok (.aload_n 0, 1) := by decide +kernel
theorem dX2_init_1 : decode cX2_init 1 = .ok (.invokespecial 3, 3) := by decide +kernel
theorem dX2_init_4 : decode cX2_init 4 = .ok (.aload_n 0, 1) := by decide +kernel
theorem dX2_init_5 : decode cX2_init 5 = .ok (.iconst 4, 1) := by decide +kernel
theorem dX2_init_6 : decode cX2_init 6 = .ok (.newarray .int, 2) := by decide +kernel
theorem dX2_init_8 : decode cX2_init 8 = .ok (.putfield 11, 3) := by decide +kernel
theorem dX2_init_11 : decode cX2_init 11 = .ok (.aload_n 0, 1) := by decide +kernel
theorem dX2_init_12 : decode cX2_init 12 = .ok (.iconst 4, 1) := by decide +kernel
theorem dX2_init_13 : decode cX2_init 13 = .ok (.newarray .int, 2) := by decide +kernel
theorem dX2_init_15 : decode cX2_init 15 = .ok (.putfield 15, 3) := by decide +kernel
theorem dX2_init_18 : decode cX2_init 18 = .ok (.return_, 1) := by decide +kernel
theorem dX2_append_0 : decode cX2_append 0 = .ok (.aload_n 0, 1) := by decide +kernel
theorem dX2_append_1 : decode cX2_append 1 = .ok (.getfield 18, 3) := by decide +kernel
theorem dX2_append_4 : decode cX2_append 4 = .ok (.aload_n 0, 1) := by decide +kernel
theorem dX2_append_5 : decode cX2_append 5 = .ok (.getfield 11, 3) := by decide +kernel
theorem dX2_append_8 : decode cX2_append 8 = .ok (.arraylength, 1) := by decide +kernel
theorem dX2_append_9 : decode cX2_append 9 = .ok (.if_icmp .lt 7, 3) := by decide +kernel
theorem dX2_append_12 : decode cX2_append 12 = .ok (.aload_n 0, 1) := by decide +kernel
theorem dX2_append_13 : decode cX2_append 13 = .ok (.invokevirtual 22, 3) := by decide +kernel
theorem dX2_append_16 : decode cX2_append 16 = .ok (.aload_n 0, 1) := by decide +kernel
theorem dX2_append_17 : decode cX2_append 17 = .ok (.getfield 18, 3) := by decide +kernel
theorem dX2_append_20 : decode cX2_append 20 = .ok (.aload_n 0, 1) := by decide +kernel
theorem dX2_append_21 : decode cX2_append 21 = .ok (.getfield 11, 3) := by decide +kernel
theorem dX2_append_24 : decode cX2_append 24 = .ok (.arraylength, 1) := by decide +kernel
theorem dX2_append_25 : decode cX2_append 25 = .ok (.if_icmp .ge 45, 3) := by decide +kernel
theorem dX2_append_28 : decode cX2_append 28 = .ok (.aload_n 0, 1) := by decide +kernel
theorem dX2_append_29 : decode cX2_append 29 = .ok (.getfield 18, 3) := by decide +kernel
theorem dX2_append_32 : decode cX2_append 32 = .ok (.aload_n 0, 1) := by decide +kernel
theorem dX2_append_33 : decode cX2_append 33 = .ok (.getfield 15, 3) := by decide +kernel
theorem dX2_append_36 : decode cX2_append 36 = .ok (.arraylength, 1) := by decide +kernel
theorem dX2_append_37 : decode cX2_append 37 = .ok (.if_icmp .ge 33, 3) := by decide +kernel
theorem dX2_append_40 : decode cX2_append 40 = .ok (.aload_n 0, 1) := by decide +kernel
theorem dX2_append_41 : decode cX2_append 41 = .ok (.getfield 11, 3) := by decide +kernel
theorem dX2_append_44 : decode cX2_append 44 = .ok (.aload_n 0, 1) := by decide +kernel
theorem dX2_append_45 : decode cX2_append 45 = .ok (.getfield 18, 3) := by decide +kernel
theorem dX2_append_48 : decode cX2_append 48 = .ok (.iload_n 1, 1) := by decide +kernel
theorem dX2_append_49 : decode cX2_append 49 = .ok (.iastore, 1) := by decide +kernel
theorem dX2_append_50 : decode cX2_append 50 = .ok (.aload_n 0, 1) := by decide +kernel
theorem dX2_append_51 : decode cX2_append 51 = .ok (.getfield 15, 3) := by decide +kernel
theorem dX2_append_54 : decode cX2_append 54 = .ok (.aload_n 0, 1) := by decide +kernel
theorem dX2_append_55 : decode cX2_append 55 = .ok (.getfield 18, 3) := by decide +kernel
theorem dX2_append_58 : decode cX2_append 58 = .ok (.iload_n 2, 1) := by decide +kernel
theorem dX2_append_59 : decode cX2_append 59 = .ok (.iastore, 1) := by decide +kernel
theorem dX2_append_60 : decode cX2_append 60 = .ok (.aload_n 0, 1) := by decide +kernel
theorem dX2_append_61 : decode cX2_append 61 = .ok (.dup, 1) := by decide +kernel
theorem dX2_append_62 : decode cX2_append 62 = .ok (.getfield 18, 3) := by decide +kernel
theorem dX2_append_65 : decode cX2_append 65 = .ok (.iconst 1, 1) := by decide +kernel
theorem dX2_append_66 : decode cX2_append 66 = .ok (.iadd, 1) := by decide +kernel
theorem dX2_append_67 : decode cX2_append 67 = .ok (.putfield 18, 3) := by decide +kernel
theorem dX2_append_70 : decode cX2_append 70 = .ok (.return_, 1) := by decide +kernel
theorem dX2_set_0 : decode cX2_set 0 = .ok (.aload_n 0, 1) := by decide +kernel
theorem dX2_set_1 : decode cX2_set 1 = .ok (.getfield 18, 3) := by decide +kernel
theorem dX2_set_4 : decode cX2_set 4 = .ok (.iconst 1, 1) := by decide +kernel
theorem dX2_set_5 : decode cX2_set 5 = .ok (.isub, 1) := by decide +kernel
theorem dX2_set_6 : decode cX2_set 6 = .ok (.istore_n 3, 1) := by decide +kernel
theorem dX2_set_7 : decode cX2_set 7 = .ok (.iload_n 3, 1) := by decide +kernel
theorem dX2_set_8 : decode cX2_set 8 = .ok (.ifCond .lt 31, 3) := by decide +kernel
theorem dX2_set_11 : decode cX2_set 11 = .ok (.iload_n 3, 1) := by decide +kernel
theorem dX2_set_12 : decode cX2_set 12 = .ok (.aload_n 0, 1) := by decide +kernel
theorem dX2_set_13 : decode cX2_set 13 = .ok (.getfield 15, 3) := by decide +kernel
theorem dX2_set_16 : decode cX2_set 16 = .ok (.arraylength, 1) := by decide +kernel
theorem dX2_set_17 : decode cX2_set 17 = .ok (.if_icmp .ge 22, 3) := by decide +kernel
theorem dX2_set_20 : decode cX2_set 20 = .ok (.aload_n 0, 1) := by decide +kernel
theorem dX2_set_21 : decode cX2_set 21 = .ok (.iload_n 3, 1) := by decide +kernel
theorem dX2_set_22 : decode cX2_set 22 = .ok (.invokevirtual 25, 3) := by decide +kernel
theorem dX2_set_25 : decode cX2_set 25 = .ok (.iload_n 1, 1) := by decide +kernel
theorem dX2_set_26 : decode cX2_set 26 = .ok (.if_icmp .ne 13, 3) := by decide +kernel
theorem dX2_set_29 : decode cX2_set 29 = .ok (.aload_n 0, 1) := by decide +kernel
theorem dX2_set_30 : decode cX2_set 30 = .ok (.getfield 15, 3) := by decide +kernel
theorem dX2_set_33 : decode cX2_set 33 = .ok (.iload_n 3, 1) := by decide +kernel
theorem dX2_set_34 : decode cX2_set 34 = .ok (.iload_n 2, 1) := by decide +kernel
theorem dX2_set_35 : decode cX2_set 35 = .ok (.iastore, 1) := by decide +kernel
theorem dX2_set_36 : decode cX2_set 36 = .ok (.goto 9, 3) := by decide +kernel
theorem dX2_set_39 : decode cX2_set 39 = .ok (.aload_n 0, 1) := by decide +kernel
theorem dX2_set_40 : decode cX2_set 40 = .ok (.iload_n 1, 1) := by decide +kernel
theorem dX2_set_41 : decode cX2_set 41 = .ok (.iload_n 2, 1) := by decide +kernel
theorem dX2_set_42 : decode cX2_set 42 = .ok (.invokevirtual 29, 3) := by decide +kernel
theorem dX2_set_45 : decode cX2_set 45 = .ok (.return_, 1) := by decide +kernel
theorem dX2_widen_0 : decode cX2_widen 0 = .ok (.aload_n 0, 1) := by decide +kernel
theorem dX2_widen_1 : decode cX2_widen 1 = .ok (.getfield 11, 3) := by decide +kernel
theorem dX2_widen_4 : decode cX2_widen 4 = .ok (.arraylength, 1) := by decide +kernel
theorem dX2_widen_5 : decode cX2_widen 5 = .ok (.sipush 2048, 3) := by decide +kernel
theorem dX2_widen_8 : decode cX2_widen 8 = .ok (.if_icmp .ge 13, 3) := by decide +kernel
theorem dX2_widen_11 : decode cX2_widen 11 = .ok (.aload_n 0, 1) := by decide +kernel
theorem dX2_widen_12 : decode cX2_widen 12 = .ok (.getfield 11, 3) := by decide +kernel
theorem dX2_widen_15 : decode cX2_widen 15 = .ok (.arraylength, 1) := by decide +kernel
theorem dX2_widen_16 : decode cX2_widen 16 = .ok (.iconst 2, 1) := by decide +kernel
theorem dX2_widen_17 : decode cX2_widen 17 = .ok (.imul, 1) := by decide +kernel
theorem dX2_widen_18 : decode cX2_widen 18 = .ok (.goto 6, 3) := by decide +kernel
theorem dX2_widen_21 : decode cX2_widen 21 = .ok (.sipush 4096, 3) := by decide +kernel
theorem dX2_widen_24 : decode cX2_widen 24 = .ok (.istore_n 1, 1) := by decide +kernel
theorem dX2_widen_25 : decode cX2_widen 25 = .ok (.aload_n 0, 1) := by decide +kernel
theorem dX2_widen_26 : decode cX2_widen 26 = .ok (.aload_n 0, 1) := by decide +kernel
theorem dX2_widen_27 : decode cX2_widen 27 = .ok (.getfield 11, 3) := by decide +kernel
theorem dX2_widen_30 : decode cX2_widen 30 = .ok (.iload_n 1, 1) := by decide +kernel
theorem dX2_widen_31 : decode cX2_widen 31 = .ok (.invokestatic 33, 3) := by decide +kernel
theorem dX2_widen_34 : decode cX2_widen 34 = .ok (.putfield 11, 3) := by decide +kernel
theorem dX2_widen_37 : decode cX2_widen 37 = .ok (.aload_n 0, 1) := by decide +kernel
theorem dX2_widen_38 : decode cX2_widen 38 = .ok (.aload_n 0, 1) := by decide +kernel
theorem dX2_widen_39 : decode cX2_widen 39 = .ok (.getfield 15, 3) := by decide +kernel
theorem dX2_widen_42 : decode cX2_widen 42 = .ok (.iload_n 1, 1) := by decide +kernel
theorem dX2_widen_43 : decode cX2_widen 43 = .ok (.invokestatic 33, 3) := by decide +kernel
theorem dX2_widen_46 : decode cX2_widen 46 = .ok (.putfield 15, 3) := by decide +kernel
theorem dX2_widen_49 : decode cX2_widen 49 = .ok (.return_, 1) := by decide +kernel
theorem dX2_dayAt_0 : decode cX2_dayAt 0 = .ok (.iload_n 1, 1) := by decide +kernel
theorem dX2_dayAt_1 : decode cX2_dayAt 1 = .ok (.ifCond .lt 29, 3) := by decide +kernel
theorem dX2_dayAt_4 : decode cX2_dayAt 4 = .ok (.iload_n 1, 1) := by decide +kernel
theorem dX2_dayAt_5 : decode cX2_dayAt 5 = .ok (.aload_n 0, 1) := by decide +kernel
theorem dX2_dayAt_6 : decode cX2_dayAt 6 = .ok (.getfield 18, 3) := by decide +kernel
theorem dX2_dayAt_9 : decode cX2_dayAt 9 = .ok (.if_icmp .ge 21, 3) := by decide +kernel
theorem dX2_dayAt_12 : decode cX2_dayAt 12 = .ok (.iload_n 1, 1) := by decide +kernel
theorem dX2_dayAt_13 : decode cX2_dayAt 13 = .ok (.aload_n 0, 1) := by decide +kernel
theorem dX2_dayAt_14 : decode cX2_dayAt 14 = .ok (.getfield 11, 3) := by decide +kernel
theorem dX2_dayAt_17 : decode cX2_dayAt 17 = .ok (.arraylength, 1) := by decide +kernel
theorem dX2_dayAt_18 : decode cX2_dayAt 18 = .ok (.if_icmp .ge 12, 3) := by decide +kernel
theorem dX2_dayAt_21 : decode cX2_dayAt 21 = .ok (.aload_n 0, 1) := by decide +kernel
theorem dX2_dayAt_22 : decode cX2_dayAt 22 = .ok (.getfield 11, 3) := by decide +kernel
theorem dX2_dayAt_25 : decode cX2_dayAt 25 = .ok (.iload_n 1, 1) := by decide +kernel
theorem dX2_dayAt_26 : decode cX2_dayAt 26 = .ok (.iaload, 1) := by decide +kernel
theorem dX2_dayAt_27 : decode cX2_dayAt 27 = .ok (.goto 4, 3) := by decide +kernel
theorem dX2_dayAt_30 : decode cX2_dayAt 30 = .ok (.iconst (-1), 1) := by decide +kernel
theorem dX2_dayAt_31 : decode cX2_dayAt 31 = .ok (.ireturn, 1) := by decide +kernel
theorem dX2_valueAt_0 : decode cX2_valueAt 0 = .ok (.iload_n 1, 1) := by decide +kernel
theorem dX2_valueAt_1 : decode cX2_valueAt 1 = .ok (.ifCond .lt 29, 3) := by decide +kernel
theorem dX2_valueAt_4 : decode cX2_valueAt 4 = .ok (.iload_n 1, 1) := by decide +kernel
theorem dX2_valueAt_5 : decode cX2_valueAt 5 = .ok (.aload_n 0, 1) := by decide +kernel
theorem dX2_valueAt_6 : decode cX2_valueAt 6 = .ok (.getfield 18, 3) := by decide +kernel
theorem dX2_valueAt_9 : decode cX2_valueAt 9 = .ok (.if_icmp .ge 21, 3) := by decide +kernel
theorem dX2_valueAt_12 : decode cX2_valueAt 12 = .ok (.iload_n 1, 1) := by decide +kernel
theorem dX2_valueAt_13 : decode cX2_valueAt 13 = .ok (.aload_n 0, 1) := by decide +kernel
theorem dX2_valueAt_14 : decode cX2_valueAt 14 = .ok (.getfield 15, 3) := by decide +kernel
theorem dX2_valueAt_17 : decode cX2_valueAt 17 = .ok (.arraylength, 1) := by decide +kernel
theorem dX2_valueAt_18 : decode cX2_valueAt 18 = .ok (.if_icmp .ge 12, 3) := by decide +kernel
theorem dX2_valueAt_21 : decode cX2_valueAt 21 = .ok (.aload_n 0, 1) := by decide +kernel
theorem dX2_valueAt_22 : decode cX2_valueAt 22 = .ok (.getfield 15, 3) := by decide +kernel
theorem dX2_valueAt_25 : decode cX2_valueAt 25 = .ok (.iload_n 1, 1) := by decide +kernel
theorem dX2_valueAt_26 : decode cX2_valueAt 26 = .ok (.iaload, 1) := by decide +kernel
theorem dX2_valueAt_27 : decode cX2_valueAt 27 = .ok (.goto 4, 3) := by decide +kernel
theorem dX2_valueAt_30 : decode cX2_valueAt 30 = .ok (.iconst (-1), 1) := by decide +kernel
theorem dX2_valueAt_31 : decode cX2_valueAt 31 = .ok (.ireturn, 1) := by decide +kernel
theorem dX2_lastDay_0 : decode cX2_lastDay 0 = .ok (.aload_n 0, 1) := by decide +kernel
theorem dX2_lastDay_1 : decode cX2_lastDay 1 = .ok (.aload_n 0, 1) := by decide +kernel
theorem dX2_lastDay_2 : decode cX2_lastDay 2 = .ok (.getfield 18, 3) := by decide +kernel
theorem dX2_lastDay_5 : decode cX2_lastDay 5 = .ok (.iconst 1, 1) := by decide +kernel
theorem dX2_lastDay_6 : decode cX2_lastDay 6 = .ok (.isub, 1) := by decide +kernel
theorem dX2_lastDay_7 : decode cX2_lastDay 7 = .ok (.invokevirtual 25, 3) := by decide +kernel
theorem dX2_lastDay_10 : decode cX2_lastDay 10 = .ok (.ireturn, 1) := by decide +kernel
theorem dX2_lastValue_0 : decode cX2_lastValue 0 = .ok (.aload_n 0, 1) := by decide +kernel
theorem dX2_lastValue_1 : decode cX2_lastValue 1 = .ok (.aload_n 0, 1) := by decide +kernel
theorem dX2_lastValue_2 : decode cX2_lastValue 2 = .ok (.getfield 18, 3) := by decide +kernel
theorem dX2_lastValue_5 : decode cX2_lastValue 5 = .ok (.iconst 1, 1) := by decide +kernel
theorem dX2_lastValue_6 : decode cX2_lastValue 6 = .ok (.isub, 1) := by decide +kernel
theorem dX2_lastValue_7 : decode cX2_lastValue 7 = .ok (.invokevirtual 39, 3) := by decide +kernel
theorem dX2_lastValue_10 : decode cX2_lastValue 10 = .ok (.ireturn, 1) := by decide +kernel
theorem dX2_at_0 : decode cX2_at 0 = .ok (.aload_n 0, 1) := by decide +kernel
theorem dX2_at_1 : decode cX2_at 1 = .ok (.aload_n 0, 1) := by decide +kernel
theorem dX2_at_2 : decode cX2_at 2 = .ok (.iload_n 1, 1) := by decide +kernel
theorem dX2_at_3 : decode cX2_at 3 = .ok (.invokevirtual 42, 3) := by decide +kernel
theorem dX2_at_6 : decode cX2_at 6 = .ok (.invokevirtual 39, 3) := by decide +kernel
theorem dX2_at_9 : decode cX2_at 9 = .ok (.ireturn, 1) := by decide +kernel
theorem dX2_atByGoing_0 : decode cX2_atByGoing 0 = .ok (.aload_n 0, 1) := by decide +kernel
theorem dX2_atByGoing_1 : decode cX2_atByGoing 1 = .ok (.aload_n 0, 1) := by decide +kernel
theorem dX2_atByGoing_2 : decode cX2_atByGoing 2 = .ok (.iconst (-1), 1) := by decide +kernel
theorem dX2_atByGoing_3 : decode cX2_atByGoing 3 = .ok (.iload_n 1, 1) := by decide +kernel
theorem dX2_atByGoing_4 : decode cX2_atByGoing 4 = .ok (.invokevirtual 45, 3) := by decide +kernel
theorem dX2_atByGoing_7 : decode cX2_atByGoing 7 = .ok (.invokevirtual 39, 3) := by decide +kernel
theorem dX2_atByGoing_10 : decode cX2_atByGoing 10 = .ok (.ireturn, 1) := by decide +kernel
theorem dX2_advance_0 : decode cX2_advance 0 = .ok (.iload_n 1, 1) := by decide +kernel
theorem dX2_advance_1 : decode cX2_advance 1 = .ok (.istore_n 3, 1) := by decide +kernel
theorem dX2_advance_2 : decode cX2_advance 2 = .ok (.iload_n 1, 1) := by decide +kernel
theorem dX2_advance_3 : decode cX2_advance 3 = .ok (.iconst 1, 1) := by decide +kernel
theorem dX2_advance_4 : decode cX2_advance 4 = .ok (.iadd, 1) := by decide +kernel
theorem dX2_advance_5 : decode cX2_advance 5 = .ok (.istore 4, 2) := by decide +kernel
theorem dX2_advance_7 : decode cX2_advance 7 = .ok (.iload 4, 2) := by decide +kernel
theorem dX2_advance_9 : decode cX2_advance 9 = .ok (.aload_n 0, 1) := by decide +kernel
theorem dX2_advance_10 : decode cX2_advance 10 = .ok (.getfield 18, 3) := by decide +kernel
theorem dX2_advance_13 : decode cX2_advance 13 = .ok (.if_icmp .ge 22, 3) := by decide +kernel
theorem dX2_advance_16 : decode cX2_advance 16 = .ok (.aload_n 0, 1) := by decide +kernel
theorem dX2_advance_17 : decode cX2_advance 17 = .ok (.iload 4, 2) := by decide +kernel
theorem dX2_advance_19 : decode cX2_advance 19 = .ok (.invokevirtual 25, 3) := by decide +kernel
theorem dX2_advance_22 : decode cX2_advance 22 = .ok (.iload_n 2, 1) := by decide +kernel
theorem dX2_advance_23 : decode cX2_advance 23 = .ok (.if_icmp .gt 12, 3) := by decide +kernel
theorem dX2_advance_26 : decode cX2_advance 26 = .ok (.iload 4, 2) := by decide +kernel
theorem dX2_advance_28 : decode cX2_advance 28 = .ok (.istore_n 3, 1) := by decide +kernel
theorem dX2_advance_29 : decode cX2_advance 29 = .ok (.iinc 4 1, 3) := by decide +kernel
theorem dX2_advance_32 : decode cX2_advance 32 = .ok (.goto (-25), 3) := by decide +kernel
theorem dX2_advance_35 : decode cX2_advance 35 = .ok (.iload_n 3, 1) := by decide +kernel
theorem dX2_advance_36 : decode cX2_advance 36 = .ok (.ireturn, 1) := by decide +kernel
theorem dX2_indexByHalving_0 : decode cX2_indexByHalving 0 = .ok (.iconst 0, 1) := by decide +kernel
theorem dX2_indexByHalving_1 : decode cX2_indexByHalving 1 = .ok (.istore_n 2, 1) := by decide +kernel
theorem dX2_indexByHalving_2 : decode cX2_indexByHalving 2 = .ok (.aload_n 0, 1) := by decide +kernel
theorem dX2_indexByHalving_3 : decode cX2_indexByHalving 3 = .ok (.getfield 18, 3) := by decide +kernel
theorem dX2_indexByHalving_6 : decode cX2_indexByHalving 6 = .ok (.istore_n 3, 1) := by decide +kernel
theorem dX2_indexByHalving_7 : decode cX2_indexByHalving 7 = .ok (.iconst 0, 1) := by decide +kernel
theorem dX2_indexByHalving_8 : decode cX2_indexByHalving 8 = .ok (.istore 4, 2) := by decide +kernel
theorem dX2_indexByHalving_10 : decode cX2_indexByHalving 10 = .ok (.iload 4, 2) := by decide +kernel
theorem dX2_indexByHalving_12 : decode cX2_indexByHalving 12 = .ok (.bipush 32, 2) := by decide +kernel
theorem dX2_indexByHalving_14 : decode cX2_indexByHalving 14 = .ok (.if_icmp .ge 44, 3) := by decide +kernel
theorem dX2_indexByHalving_17 : decode cX2_indexByHalving 17 = .ok (.iload_n 2, 1) := by decide +kernel
theorem dX2_indexByHalving_18 : decode cX2_indexByHalving 18 = .ok (.iload_n 3, 1) := by decide +kernel
theorem dX2_indexByHalving_19 : decode cX2_indexByHalving 19 = .ok (.if_icmp .ge 39, 3) := by decide +kernel
theorem dX2_indexByHalving_22 : decode cX2_indexByHalving 22 = .ok (.iload_n 2, 1) := by decide +kernel
theorem dX2_indexByHalving_23 : decode cX2_indexByHalving 23 = .ok (.iload_n 3, 1) := by decide +kernel
theorem dX2_indexByHalving_24 : decode cX2_indexByHalving 24 = .ok (.iload_n 2, 1) := by decide +kernel
theorem dX2_indexByHalving_25 : decode cX2_indexByHalving 25 = .ok (.isub, 1) := by decide +kernel
theorem dX2_indexByHalving_26 : decode cX2_indexByHalving 26 = .ok (.iconst 2, 1) := by decide +kernel
theorem dX2_indexByHalving_27 : decode cX2_indexByHalving 27 = .ok (.idiv, 1) := by decide +kernel
theorem dX2_indexByHalving_28 : decode cX2_indexByHalving 28 = .ok (.iadd, 1) := by decide +kernel
theorem dX2_indexByHalving_29 : decode cX2_indexByHalving 29 = .ok (.istore 5, 2) := by decide +kernel
theorem dX2_indexByHalving_31 : decode cX2_indexByHalving 31 = .ok (.aload_n 0, 1) := by decide +kernel
theorem dX2_indexByHalving_32 : decode cX2_indexByHalving 32 = .ok (.iload 5, 2) := by decide +kernel
theorem dX2_indexByHalving_34 : decode cX2_indexByHalving 34 = .ok (.invokevirtual 25, 3) := by decide +kernel
theorem dX2_indexByHalving_37 : decode cX2_indexByHalving 37 = .ok (.iload_n 1, 1) := by decide +kernel
theorem dX2_indexByHalving_38 : decode cX2_indexByHalving 38 = .ok (.if_icmp .gt 11, 3) := by decide +kernel
theorem dX2_indexByHalving_41 : decode cX2_indexByHalving 41 = .ok (.iload 5, 2) := by decide +kernel
theorem dX2_indexByHalving_43 : decode cX2_indexByHalving 43 = .ok (.iconst 1, 1) := by decide +kernel
theorem dX2_indexByHalving_44 : decode cX2_indexByHalving 44 = .ok (.iadd, 1) := by decide +kernel
theorem dX2_indexByHalving_45 : decode cX2_indexByHalving 45 = .ok (.istore_n 2, 1) := by decide +kernel
theorem dX2_indexByHalving_46 : decode cX2_indexByHalving 46 = .ok (.goto 6, 3) := by decide +kernel
theorem dX2_indexByHalving_49 : decode cX2_indexByHalving 49 = .ok (.iload 5, 2) := by decide +kernel
theorem dX2_indexByHalving_51 : decode cX2_indexByHalving 51 = .ok (.istore_n 3, 1) := by decide +kernel
theorem dX2_indexByHalving_52 : decode cX2_indexByHalving 52 = .ok (.iinc 4 1, 3) := by decide +kernel
theorem dX2_indexByHalving_55 : decode cX2_indexByHalving 55 = .ok (.goto (-45), 3) := by decide +kernel
theorem dX2_indexByHalving_58 : decode cX2_indexByHalving 58 = .ok (.iload_n 2, 1) := by decide +kernel
theorem dX2_indexByHalving_59 : decode cX2_indexByHalving 59 = .ok (.iconst 1, 1) := by decide +kernel
theorem dX2_indexByHalving_60 : decode cX2_indexByHalving 60 = .ok (.isub, 1) := by decide +kernel
theorem dX2_indexByHalving_61 : decode cX2_indexByHalving 61 = .ok (.ireturn, 1) := by decide +kernel
theorem dX2_firstDayWith_0 : decode cX2_firstDayWith 0 = .ok (.iconst 0, 1) := by decide +kernel
theorem dX2_firstDayWith_1 : decode cX2_firstDayWith 1 = .ok (.aload_n 0, 1) := by decide +kernel
theorem dX2_firstDayWith_2 : decode cX2_firstDayWith 2 = .ok (.iload_n 2, 1) := by decide +kernel
theorem dX2_firstDayWith_3 : decode cX2_firstDayWith 3 = .ok (.invokevirtual 42, 3) := by decide +kernel
theorem dX2_firstDayWith_6 : decode cX2_firstDayWith 6 = .ok (.invokestatic 49, 3) := by decide +kernel
theorem dX2_firstDayWith_9 : decode cX2_firstDayWith 9 = .ok (.istore 4, 2) := by decide +kernel
theorem dX2_firstDayWith_11 : decode cX2_firstDayWith 11 = .ok (.iload 4, 2) := by decide +kernel
theorem dX2_firstDayWith_13 : decode cX2_firstDayWith 13 = .ok (.aload_n 0, 1) := by decide +kernel
theorem dX2_firstDayWith_14 : decode cX2_firstDayWith 14 = .ok (.getfield 18, 3) := by decide +kernel
theorem dX2_firstDayWith_17 : decode cX2_firstDayWith 17 = .ok (.if_icmp .ge 40, 3) := by decide +kernel
theorem dX2_firstDayWith_20 : decode cX2_firstDayWith 20 = .ok (.aload_n 0, 1) := by decide +kernel
theorem dX2_firstDayWith_21 : decode cX2_firstDayWith 21 = .ok (.iload 4, 2) := by decide +kernel
theorem dX2_firstDayWith_23 : decode cX2_firstDayWith 23 = .ok (.invokevirtual 25, 3) := by decide +kernel
theorem dX2_firstDayWith_26 : decode cX2_firstDayWith 26 = .ok (.iload_n 3, 1) := by decide +kernel
theorem dX2_firstDayWith_27 : decode cX2_firstDayWith 27 = .ok (.if_icmp .gt 30, 3) := by decide +kernel
theorem dX2_firstDayWith_30 : decode cX2_firstDayWith 30 = .ok (.aload_n 0, 1) := by decide +kernel
theorem dX2_firstDayWith_31 : decode cX2_firstDayWith 31 = .ok (.iload 4, 2) := by decide +kernel
theorem dX2_firstDayWith_33 : decode cX2_firstDayWith 33 = .ok (.invokevirtual 39, 3) := by decide +kernel
theorem dX2_firstDayWith_36 : decode cX2_firstDayWith 36 = .ok (.iload_n 1, 1) := by decide +kernel
theorem dX2_firstDayWith_37 : decode cX2_firstDayWith 37 = .ok (.if_icmp .ne 14, 3) := by decide +kernel
theorem dX2_firstDayWith_40 : decode cX2_firstDayWith 40 = .ok (.aload_n 0, 1) := by decide +kernel
theorem dX2_firstDayWith_41 : decode cX2_firstDayWith 41 = .ok (.iload 4, 2) := by decide +kernel
theorem dX2_firstDayWith_43 : decode cX2_firstDayWith 43 = .ok (.invokevirtual 25, 3) := by decide +kernel
theorem dX2_firstDayWith_46 : decode cX2_firstDayWith 46 = .ok (.iload_n 2, 1) := by decide +kernel
theorem dX2_firstDayWith_47 : decode cX2_firstDayWith 47 = .ok (.invokestatic 49, 3) := by decide +kernel
theorem dX2_firstDayWith_50 : decode cX2_firstDayWith 50 = .ok (.ireturn, 1) := by decide +kernel
theorem dX2_firstDayWith_51 : decode cX2_firstDayWith 51 = .ok (.iinc 4 1, 3) := by decide +kernel
theorem dX2_firstDayWith_54 : decode cX2_firstDayWith 54 = .ok (.goto (-43), 3) := by decide +kernel
theorem dX2_firstDayWith_57 : decode cX2_firstDayWith 57 = .ok (.iconst (-1), 1) := by decide +kernel
theorem dX2_firstDayWith_58 : decode cX2_firstDayWith 58 = .ok (.ireturn, 1) := by decide +kernel
theorem dX3_init_0 : decode cX3_init 0 = .ok (.aload_n 0, 1) := by decide +kernel
theorem dX3_init_1 : decode cX3_init 1 = .ok (.invokespecial 3, 3) := by decide +kernel
theorem dX3_init_4 : decode cX3_init 4 = .ok (.aload_n 0, 1) := by decide +kernel
theorem dX3_init_5 : decode cX3_init 5 = .ok (.iload_n 1, 1) := by decide +kernel
theorem dX3_init_6 : decode cX3_init 6 = .ok (.putfield 9, 3) := by decide +kernel
theorem dX3_init_9 : decode cX3_init 9 = .ok (.aload_n 0, 1) := by decide +kernel
theorem dX3_init_10 : decode cX3_init 10 = .ok (.iload_n 2, 1) := by decide +kernel
theorem dX3_init_11 : decode cX3_init 11 = .ok (.putfield 15, 3) := by decide +kernel
theorem dX3_init_14 : decode cX3_init 14 = .ok (.aload_n 0, 1) := by decide +kernel
theorem dX3_init_15 : decode cX3_init 15 = .ok (.new 19, 3) := by decide +kernel
theorem dX3_init_18 : decode cX3_init 18 = .ok (.dup, 1) := by decide +kernel
theorem dX3_init_19 : decode cX3_init 19 = .ok (.invokespecial 21, 3) := by decide +kernel
theorem dX3_init_22 : decode cX3_init 22 = .ok (.putfield 22, 3) := by decide +kernel
theorem dX3_init_25 : decode cX3_init 25 = .ok (.aload_n 0, 1) := by decide +kernel
theorem dX3_init_26 : decode cX3_init 26 = .ok (.new 19, 3) := by decide +kernel
theorem dX3_init_29 : decode cX3_init 29 = .ok (.dup, 1) := by decide +kernel
theorem dX3_init_30 : decode cX3_init 30 = .ok (.invokespecial 21, 3) := by decide +kernel
theorem dX3_init_33 : decode cX3_init 33 = .ok (.putfield 26, 3) := by decide +kernel
theorem dX3_init_36 : decode cX3_init 36 = .ok (.aload_n 0, 1) := by decide +kernel
theorem dX3_init_37 : decode cX3_init 37 = .ok (.new 19, 3) := by decide +kernel
theorem dX3_init_40 : decode cX3_init 40 = .ok (.dup, 1) := by decide +kernel
theorem dX3_init_41 : decode cX3_init 41 = .ok (.invokespecial 21, 3) := by decide +kernel
theorem dX3_init_44 : decode cX3_init 44 = .ok (.putfield 29, 3) := by decide +kernel
theorem dX3_init_47 : decode cX3_init 47 = .ok (.aload_n 0, 1) := by decide +kernel
theorem dX3_init_48 : decode cX3_init 48 = .ok (.bipush 6, 2) := by decide +kernel
theorem dX3_init_50 : decode cX3_init 50 = .ok (.newarray .int, 2) := by decide +kernel
theorem dX3_init_52 : decode cX3_init 52 = .ok (.putfield 32, 3) := by decide +kernel
theorem dX3_init_55 : decode cX3_init 55 = .ok (.return_, 1) := by decide +kernel
theorem dX3_isOnRoadNow_0 : decode cX3_isOnRoadNow 0 = .ok (.aload_n 0, 1) := by decide +kernel
theorem dX3_isOnRoadNow_1 : decode cX3_isOnRoadNow 1 = .ok (.getfield 29, 3) := by decide +kernel
theorem dX3_isOnRoadNow_4 : decode cX3_isOnRoadNow 4 = .ok (.invokevirtual 36, 3) := by decide +kernel
theorem dX3_isOnRoadNow_7 : decode cX3_isOnRoadNow 7 = .ok (.iconst 1, 1) := by decide +kernel
theorem dX3_isOnRoadNow_8 : decode cX3_isOnRoadNow 8 = .ok (.if_icmp .ne 7, 3) := by decide +kernel
theorem dX3_isOnRoadNow_11 : decode cX3_isOnRoadNow 11 = .ok (.iconst 1, 1) := by decide +kernel
theorem dX3_isOnRoadNow_12 : decode cX3_isOnRoadNow 12 = .ok (.goto 4, 3) := by decide +kernel
theorem dX3_isOnRoadNow_15 : decode cX3_isOnRoadNow 15 = .ok (.iconst 0, 1) := by decide +kernel
theorem dX3_isOnRoadNow_16 : decode cX3_isOnRoadNow 16 = .ok (.ireturn, 1) := by decide +kernel
theorem dX3_hasPlate_0 : decode cX3_hasPlate 0 = .ok (.aload_n 0, 1) := by decide +kernel
theorem dX3_hasPlate_1 : decode cX3_hasPlate 1 = .ok (.getfield 26, 3) := by decide +kernel
theorem dX3_hasPlate_4 : decode cX3_hasPlate 4 = .ok (.invokevirtual 36, 3) := by decide +kernel
theorem dX3_hasPlate_7 : decode cX3_hasPlate 7 = .ok (.iconst (-1), 1) := by decide +kernel
theorem dX3_hasPlate_8 : decode cX3_hasPlate 8 = .ok (.if_icmp .eq 7, 3) := by decide +kernel
theorem dX3_hasPlate_11 : decode cX3_hasPlate 11 = .ok (.iconst 1, 1) := by decide +kernel
theorem dX3_hasPlate_12 : decode cX3_hasPlate 12 = .ok (.goto 4, 3) := by decide +kernel
theorem dX3_hasPlate_15 : decode cX3_hasPlate 15 = .ok (.iconst 0, 1) := by decide +kernel
theorem dX3_hasPlate_16 : decode cX3_hasPlate 16 = .ok (.ireturn, 1) := by decide +kernel
theorem dX3_lienLeft_0 : decode cX3_lienLeft 0 = .ok (.aload_n 0, 1) := by decide +kernel
theorem dX3_lienLeft_1 : decode cX3_lienLeft 1 = .ok (.getfield 32, 3) := by decide +kernel
theorem dX3_lienLeft_4 : decode cX3_lienLeft 4 = .ok (.iload_n 1, 1) := by decide +kernel
theorem dX3_lienLeft_5 : decode cX3_lienLeft 5 = .ok (.bipush 97, 2) := by decide +kernel
theorem dX3_lienLeft_7 : decode cX3_lienLeft 7 = .ok (.isub, 1) := by decide +kernel
theorem dX3_lienLeft_8 : decode cX3_lienLeft 8 = .ok (.invokestatic 40, 3) := by decide +kernel
theorem dX3_lienLeft_11 : decode cX3_lienLeft 11 = .ok (.ireturn, 1) := by decide +kernel
theorem dX3_isBlockedNow_0 : decode cX3_isBlockedNow 0 = .ok (.aload_n 0, 1) := by decide +kernel
theorem dX3_isBlockedNow_1 : decode cX3_isBlockedNow 1 = .ok (.getfield 32, 3) := by decide +kernel
theorem dX3_isBlockedNow_4 : decode cX3_isBlockedNow 4 = .ok (.astore_n 1, 1) := by decide +kernel
theorem dX3_isBlockedNow_5 : decode cX3_isBlockedNow 5 = .ok (.aload_n 1, 1) := by decide +kernel
theorem dX3_isBlockedNow_6 : decode cX3_isBlockedNow 6 = .ok (.arraylength, 1) := by decide +kernel
theorem dX3_isBlockedNow_7 : decode cX3_isBlockedNow 7 = .ok (.istore_n 2, 1) := by decide +kernel
theorem dX3_isBlockedNow_8 : decode cX3_isBlockedNow 8 = .ok (.iconst 0, 1) := by decide +kernel
theorem dX3_isBlockedNow_9 : decode cX3_isBlockedNow 9 = .ok (.istore_n 3, 1) := by decide +kernel
theorem dX3_isBlockedNow_10 : decode cX3_isBlockedNow 10 = .ok (.iload_n 3, 1) := by decide +kernel
theorem dX3_isBlockedNow_11 : decode cX3_isBlockedNow 11 = .ok (.iload_n 2, 1) := by decide +kernel
theorem dX3_isBlockedNow_12 : decode cX3_isBlockedNow 12 = .ok (.if_icmp .ge 21, 3) := by decide +kernel
theorem dX3_isBlockedNow_15 : decode cX3_isBlockedNow 15 = .ok (.aload_n 1, 1) := by decide +kernel
theorem dX3_isBlockedNow_16 : decode cX3_isBlockedNow 16 = .ok (.iload_n 3, 1) := by decide +kernel
theorem dX3_isBlockedNow_17 : decode cX3_isBlockedNow 17 = .ok (.iaload, 1) := by decide +kernel
theorem dX3_isBlockedNow_18 : decode cX3_isBlockedNow 18 = .ok (.istore 4, 2) := by decide +kernel
theorem dX3_isBlockedNow_20 : decode cX3_isBlockedNow 20 = .ok (.iload 4, 2) := by decide +kernel
theorem dX3_isBlockedNow_22 : decode cX3_isBlockedNow 22 = .ok (.ifCond .le 5, 3) := by decide +kernel
theorem dX3_isBlockedNow_25 : decode cX3_isBlockedNow 25 = .ok (.iconst 1, 1) := by decide +kernel
theorem dX3_isBlockedNow_26 : decode cX3_isBlockedNow 26 = .ok (.ireturn, 1) := by decide +kernel
theorem dX3_isBlockedNow_27 : decode cX3_isBlockedNow 27 = .ok (.iinc 3 1, 3) := by decide +kernel
theorem dX3_isBlockedNow_30 : decode cX3_isBlockedNow 30 = .ok (.goto (-20), 3) := by decide +kernel
theorem dX3_isBlockedNow_33 : decode cX3_isBlockedNow 33 = .ok (.aload_n 0, 1) := by decide +kernel
theorem dX3_isBlockedNow_34 : decode cX3_isBlockedNow 34 = .ok (.getfield 44, 3) := by decide +kernel
theorem dX3_isBlockedNow_37 : decode cX3_isBlockedNow 37 = .ok (.ireturn, 1) := by decide +kernel
theorem dX4_init_0 : decode cX4_init 0 = .ok (.aload_n 0, 1) := by decide +kernel
theorem dX4_init_1 : decode cX4_init 1 = .ok (.invokespecial 1, 3) := by decide +kernel
theorem dX4_init_4 : decode cX4_init 4 = .ok (.aload_n 0, 1) := by decide +kernel
theorem dX4_init_5 : decode cX4_init 5 = .ok (.bipush 15, 2) := by decide +kernel
theorem dX4_init_7 : decode cX4_init 7 = .ok (.anewarray 9, 3) := by decide +kernel
theorem dX4_init_10 : decode cX4_init 10 = .ok (.putfield 11, 3) := by decide +kernel
theorem dX4_init_13 : decode cX4_init 13 = .ok (.aload_n 0, 1) := by decide +kernel
theorem dX4_init_14 : decode cX4_init 14 = .ok (.bipush 40, 2) := by decide +kernel
theorem dX4_init_16 : decode cX4_init 16 = .ok (.anewarray 15, 3) := by decide +kernel
theorem dX4_init_19 : decode cX4_init 19 = .ok (.putfield 17, 3) := by decide +kernel
theorem dX4_init_22 : decode cX4_init 22 = .ok (.aload_n 0, 1) := by decide +kernel
theorem dX4_init_23 : decode cX4_init 23 = .ok (.bipush 120, 2) := by decide +kernel
theorem dX4_init_25 : decode cX4_init 25 = .ok (.anewarray 21, 3) := by decide +kernel
theorem dX4_init_28 : decode cX4_init 28 = .ok (.putfield 23, 3) := by decide +kernel
theorem dX4_init_31 : decode cX4_init 31 = .ok (.aload_n 0, 1) := by decide +kernel
theorem dX4_init_32 : decode cX4_init 32 = .ok (.bipush 12, 2) := by decide +kernel
theorem dX4_init_34 : decode cX4_init 34 = .ok (.newarray .int, 2) := by decide +kernel
theorem dX4_init_36 : decode cX4_init 36 = .ok (.putfield 27, 3) := by decide +kernel
theorem dX4_init_39 : decode cX4_init 39 = .ok (.aload_n 0, 1) := by decide +kernel
theorem dX4_init_40 : decode cX4_init 40 = .ok (.bipush 12, 2) := by decide +kernel
theorem dX4_init_42 : decode cX4_init 42 = .ok (.newarray .int, 2) := by decide +kernel
theorem dX4_init_44 : decode cX4_init 44 = .ok (.putfield 31, 3) := by decide +kernel
theorem dX4_init_47 : decode cX4_init 47 = .ok (.aload_n 0, 1) := by decide +kernel
theorem dX4_init_48 : decode cX4_init 48 = .ok (.bipush 12, 2) := by decide +kernel
theorem dX4_init_50 : decode cX4_init 50 = .ok (.newarray .int, 2) := by decide +kernel
theorem dX4_init_52 : decode cX4_init 52 = .ok (.putfield 34, 3) := by decide +kernel
theorem dX4_init_55 : decode cX4_init 55 = .ok (.return_, 1) := by decide +kernel
theorem dX4_addKeeper_0 : decode cX4_addKeeper 0 = .ok (.aload_n 0, 1) := by decide +kernel
theorem dX4_addKeeper_1 : decode cX4_addKeeper 1 = .ok (.getfield 37, 3) := by decide +kernel
theorem dX4_addKeeper_4 : decode cX4_addKeeper 4 = .ok (.bipush 12, 2) := by decide +kernel
theorem dX4_addKeeper_6 : decode cX4_addKeeper 6 = .ok (.if_icmp .lt 13, 3) := by decide +kernel
theorem dX4_addKeeper_9 : decode cX4_addKeeper 9 = .ok (.new 41, 3) := by decide +kernel
theorem dX4_addKeeper_12 : decode cX4_addKeeper 12 = .ok (.dup, 1) := by decide +kernel
theorem dX4_addKeeper_13 : decode cX4_addKeeper 13 = .ok (.ldc 43, 2) := by decide +kernel
theorem dX4_addKeeper_15 : decode cX4_addKeeper 15 = .ok (.invokespecial 45, 3) := by decide +kernel
theorem dX4_addKeeper_18 : decode cX4_addKeeper 18 = .ok (.athrow, 1) := by decide +kernel
theorem dX4_addKeeper_19 : decode cX4_addKeeper 19 = .ok (.aload_n 0, 1) := by decide +kernel
theorem dX4_addKeeper_20 : decode cX4_addKeeper 20 = .ok (.dup, 1) := by decide +kernel
theorem dX4_addKeeper_21 : decode cX4_addKeeper 21 = .ok (.getfield 37, 3) := by decide +kernel
theorem dX4_addKeeper_24 : decode cX4_addKeeper 24 = .ok (.iconst 1, 1) := by decide +kernel
theorem dX4_addKeeper_25 : decode cX4_addKeeper 25 = .ok (.iadd, 1) := by decide +kernel
theorem dX4_addKeeper_26 : decode cX4_addKeeper 26 = .ok (.putfield 37, 3) := by decide +kernel
theorem dX4_addKeeper_29 : decode cX4_addKeeper 29 = .ok (.aload_n 0, 1) := by decide +kernel
theorem dX4_addKeeper_30 : decode cX4_addKeeper 30 = .ok (.getfield 37, 3) := by decide +kernel
theorem dX4_addKeeper_33 : decode cX4_addKeeper 33 = .ok (.iconst 1, 1) := by decide +kernel
theorem dX4_addKeeper_34 : decode cX4_addKeeper 34 = .ok (.isub, 1) := by decide +kernel
theorem dX4_addKeeper_35 : decode cX4_addKeeper 35 = .ok (.ireturn, 1) := by decide +kernel
theorem dX4_pass_0 : decode cX4_pass 0 = .ok (.iload_n 1, 1) := by decide +kernel
theorem dX4_pass_1 : decode cX4_pass 1 = .ok (.iconst 1, 1) := by decide +kernel
theorem dX4_pass_2 : decode cX4_pass 2 = .ok (.if_icmp .lt 21, 3) := by decide +kernel
theorem dX4_pass_5 : decode cX4_pass 5 = .ok (.iload_n 1, 1) := by decide +kernel
theorem dX4_pass_6 : decode cX4_pass 6 = .ok (.bipush 99, 2) := by decide +kernel
theorem dX4_pass_8 : decode cX4_pass 8 = .ok (.if_icmp .gt 15, 3) := by decide +kernel
theorem dX4_pass_11 : decode cX4_pass 11 = .ok (.aload_n 0, 1) := by decide +kernel
theorem dX4_pass_12 : decode cX4_pass 12 = .ok (.getfield 48, 3) := by decide +kernel
theorem dX4_pass_15 : decode cX4_pass 15 = .ok (.iload_n 1, 1) := by decide +kernel
theorem dX4_pass_16 : decode cX4_pass 16 = .ok (.iadd, 1) := by decide +kernel
theorem dX4_pass_17 : decode cX4_pass 17 = .ok (.sipush 3000, 3) := by decide +kernel
theorem dX4_pass_20 : decode cX4_pass 20 = .ok (.if_icmp .le 13, 3) := by decide +kernel
theorem dX4_pass_23 : decode cX4_pass 23 = .ok (.new 51, 3) := by decide +kernel
theorem dX4_pass_26 : decode cX4_pass 26 = .ok (.dup, 1) := by decide +kernel
theorem dX4_pass_27 : decode cX4_pass 27 = .ok (.ldc 53, 2) := by decide +kernel
theorem dX4_pass_29 : decode cX4_pass 29 = .ok (.invokespecial 55, 3) := by decide +kernel
theorem dX4_pass_32 : decode cX4_pass 32 = .ok (.athrow, 1) := by decide +kernel
theorem dX4_pass_33 : decode cX4_pass 33 = .ok (.aload_n 0, 1) := by decide +kernel
theorem dX4_pass_34 : decode cX4_pass 34 = .ok (.dup, 1) := by decide +kernel
theorem dX4_pass_35 : decode cX4_pass 35 = .ok (.getfield 48, 3) := by decide +kernel
theorem dX4_pass_38 : decode cX4_pass 38 = .ok (.iload_n 1, 1) := by decide +kernel
theorem dX4_pass_39 : decode cX4_pass 39 = .ok (.iadd, 1) := by decide +kernel
theorem dX4_pass_40 : decode cX4_pass 40 = .ok (.putfield 48, 3) := by decide +kernel
theorem dX4_pass_43 : decode cX4_pass 43 = .ok (.aload_n 0, 1) := by decide +kernel
theorem dX4_pass_44 : decode cX4_pass 44 = .ok (.getfield 48, 3) := by decide +kernel
theorem dX4_pass_47 : decode cX4_pass 47 = .ok (.ireturn, 1) := by decide +kernel
theorem dX4_day_0 : decode cX4_day 0 = .ok (.aload_n 0, 1) := by decide +kernel
theorem dX4_day_1 : decode cX4_day 1 = .ok (.getfield 48, 3) := by decide +kernel
theorem dX4_day_4 : decode cX4_day 4 = .ok (.ireturn, 1) := by decide +kernel
theorem dX4_register_0 : decode cX4_register 0 = .ok (.aload_n 0, 1) := by decide +kernel
theorem dX4_register_1 : decode cX4_register 1 = .ok (.iload_n 1, 1) := by decide +kernel
theorem dX4_register_2 : decode cX4_register 2 = .ok (.invokevirtual 56, 3) := by decide +kernel
theorem dX4_register_5 : decode cX4_register 5 = .ok (.iload_n 2, 1) := by decide +kernel
theorem dX4_register_6 : decode cX4_register 6 = .ok (.invokestatic 60, 3) := by decide +kernel
theorem dX4_register_9 : decode cX4_register 9 = .ok (.aload_n 0, 1) := by decide +kernel
theorem dX4_register_10 : decode cX4_register 10 = .ok (.invokevirtual 64, 3) := by decide +kernel
theorem dX4_register_13 : decode cX4_register 13 = .ok (.aload_n 0, 1) := by decide +kernel
theorem dX4_register_14 : decode cX4_register 14 = .ok (.invokevirtual 67, 3) := by decide +kernel
theorem dX4_register_17 : decode cX4_register 17 = .ok (.aload_n 0, 1) := by decide +kernel
theorem dX4_register_18 : decode cX4_register 18 = .ok (.iload_n 1, 1) := by decide +kernel
theorem dX4_register_19 : decode cX4_register 19 = .ok (.iload_n 2, 1) := by decide +kernel
theorem dX4_register_20 : decode cX4_register 20 = .ok (.invokevirtual 70, 3) := by decide +kernel
theorem dX4_register_23 : decode cX4_register 23 = .ok (.astore_n 3, 1) := by decide +kernel
theorem dX4_register_24 : decode cX4_register 24 = .ok (.aload_n 0, 1) := by decide +kernel
theorem dX4_register_25 : decode cX4_register 25 = .ok (.aload_n 3, 1) := by decide +kernel
theorem dX4_register_26 : decode cX4_register 26 = .ok (.invokevirtual 74, 3) := by decide +kernel
theorem dX4_register_29 : decode cX4_register 29 = .ok (.aload_n 3, 1) := by decide +kernel
theorem dX4_register_30 : decode cX4_register 30 = .ok (.getfield 78, 3) := by decide +kernel
theorem dX4_register_33 : decode cX4_register 33 = .ok (.ireturn, 1) := by decide +kernel
theorem dX4_bringIn_0 : decode cX4_bringIn 0 = .ok (.aload_n 0, 1) := by decide +kernel
theorem dX4_bringIn_1 : decode cX4_bringIn 1 = .ok (.iload_n 1, 1) := by decide +kernel
theorem dX4_bringIn_2 : decode cX4_bringIn 2 = .ok (.invokevirtual 56, 3) := by decide +kernel
theorem dX4_bringIn_5 : decode cX4_bringIn 5 = .ok (.iload_n 2, 1) := by decide +kernel
theorem dX4_bringIn_6 : decode cX4_bringIn 6 = .ok (.invokestatic 60, 3) := by decide +kernel
theorem dX4_bringIn_9 : decode cX4_bringIn 9 = .ok (.aload_n 0, 1) := by decide +kernel
theorem dX4_bringIn_10 : decode cX4_bringIn 10 = .ok (.invokevirtual 64, 3) := by decide +kernel
theorem dX4_bringIn_13 : decode cX4_bringIn 13 = .ok (.aload_n 0, 1) := by decide +kernel
theorem dX4_bringIn_14 : decode cX4_bringIn 14 = .ok (.iload_n 1, 1) := by decide +kernel
theorem dX4_bringIn_15 : decode cX4_bringIn 15 = .ok (.iload_n 2, 1) := by decide +kernel
theorem dX4_bringIn_16 : decode cX4_bringIn 16 = .ok (.invokevirtual 70, 3) := by decide +kernel
theorem dX4_bringIn_19 : decode cX4_bringIn 19 = .ok (.getfield 78, 3) := by decide +kernel
theorem dX4_bringIn_22 : decode cX4_bringIn 22 = .ok (.ireturn, 1) := by decide +kernel
theorem dX4_admit_0 : decode cX4_admit 0 = .ok (.aload_n 0, 1) := by decide +kernel
theorem dX4_admit_1 : decode cX4_admit 1 = .ok (.iload_n 1, 1) := by decide +kernel
theorem dX4_admit_2 : decode cX4_admit 2 = .ok (.invokevirtual 81, 3) := by decide +kernel
theorem dX4_admit_5 : decode cX4_admit 5 = .ok (.astore_n 2, 1) := by decide +kernel
theorem dX4_admit_6 : decode cX4_admit 6 = .ok (.aload_n 2, 1) := by decide +kernel
theorem dX4_admit_7 : decode cX4_admit 7 = .ok (.getfield 85, 3) := by decide +kernel
theorem dX4_admit_10 : decode cX4_admit 10 = .ok (.ifCond .eq 13, 3) := by decide +kernel
theorem dX4_admit_13 : decode cX4_admit 13 = .ok (.new 89, 3) := by decide +kernel
theorem dX4_admit_16 : decode cX4_admit 16 = .ok (.dup, 1) := by decide +kernel
theorem dX4_admit_17 : decode cX4_admit 17 = .ok (.ldc 91, 2) := by decide +kernel
theorem dX4_admit_19 : decode cX4_admit 19 = .ok (.invokespecial 93, 3) := by decide +kernel
theorem dX4_admit_22 : decode cX4_admit 22 = .ok (.athrow, 1) := by decide +kernel
theorem dX4_admit_23 : decode cX4_admit 23 = .ok (.aload_n 2, 1) := by decide +kernel
theorem dX4_admit_24 : decode cX4_admit 24 = .ok (.getfield 94, 3) := by decide +kernel
theorem dX4_admit_27 : decode cX4_admit 27 = .ok (.ifCond .eq 13, 3) := by decide +kernel
theorem dX4_admit_30 : decode cX4_admit 30 = .ok (.new 41, 3) := by decide +kernel
theorem dX4_admit_33 : decode cX4_admit 33 = .ok (.dup, 1) := by decide +kernel
theorem dX4_admit_34 : decode cX4_admit 34 = .ok (.ldc 97, 2) := by decide +kernel
theorem dX4_admit_36 : decode cX4_admit 36 = .ok (.invokespecial 45, 3) := by decide +kernel
theorem dX4_admit_39 : decode cX4_admit 39 = .ok (.athrow, 1) := by decide +kernel
theorem dX4_admit_40 : decode cX4_admit 40 = .ok (.aload_n 0, 1) := by decide +kernel
theorem dX4_admit_41 : decode cX4_admit 41 = .ok (.invokevirtual 67, 3) := by decide +kernel
theorem dX4_admit_44 : decode cX4_admit 44 = .ok (.aload_n 0, 1) := by decide +kernel
theorem dX4_admit_45 : decode cX4_admit 45 = .ok (.aload_n 2, 1) := by decide +kernel
theorem dX4_admit_46 : decode cX4_admit 46 = .ok (.invokevirtual 74, 3) := by decide +kernel
theorem dX4_admit_49 : decode cX4_admit 49 = .ok (.aload_n 2, 1) := by decide +kernel
theorem dX4_admit_50 : decode cX4_admit 50 = .ok (.getfield 99, 3) := by decide +kernel
theorem dX4_admit_53 : decode cX4_admit 53 = .ok (.invokevirtual 103, 3) := by decide +kernel
theorem dX4_admit_56 : decode cX4_admit 56 = .ok (.ireturn, 1) := by decide +kernel
theorem dX4_setOnRoad_0 : decode cX4_setOnRoad 0 = .ok (.aload_n 0, 1) := by decide +kernel
theorem dX4_setOnRoad_1 : decode cX4_setOnRoad 1 = .ok (.iload_n 1, 1) := by decide +kernel
theorem dX4_setOnRoad_2 : decode cX4_setOnRoad 2 = .ok (.invokevirtual 81, 3) := by decide +kernel
theorem dX4_setOnRoad_5 : decode cX4_setOnRoad 5 = .ok (.astore_n 3, 1) := by decide +kernel
theorem dX4_setOnRoad_6 : decode cX4_setOnRoad 6 = .ok (.aload_n 3, 1) := by decide +kernel
theorem dX4_setOnRoad_7 : decode cX4_setOnRoad 7 = .ok (.getfield 94, 3) := by decide +kernel
theorem dX4_setOnRoad_10 : decode cX4_setOnRoad 10 = .ok (.ifCond .ne 10, 3) := by decide +kernel
theorem dX4_setOnRoad_13 : decode cX4_setOnRoad 13 = .ok (.aload_n 3, 1) := by decide +kernel
theorem dX4_setOnRoad_14 : decode cX4_setOnRoad 14 = .ok (.invokevirtual 109, 3) := by decide +kernel
theorem dX4_setOnRoad_17 : decode cX4_setOnRoad 17 = .ok (.ifCond .ne 13, 3) := by decide +kernel
theorem dX4_setOnRoad_20 : decode cX4_setOnRoad 20 = .ok (.new 89, 3) := by decide +kernel
theorem dX4_setOnRoad_23 : decode cX4_setOnRoad 23 = .ok (.dup, 1) := by decide +kernel
theorem dX4_setOnRoad_24 : decode cX4_setOnRoad 24 = .ok (.ldc 113, 2) := by decide +kernel
theorem dX4_setOnRoad_26 : decode cX4_setOnRoad 26 = .ok (.invokespecial 93, 3) := by decide +kernel
theorem dX4_setOnRoad_29 : decode cX4_setOnRoad 29 = .ok (.athrow, 1) := by decide +kernel
theorem dX4_setOnRoad_30 : decode cX4_setOnRoad 30 = .ok (.aload_n 3, 1) := by decide +kernel
theorem dX4_setOnRoad_31 : decode cX4_setOnRoad 31 = .ok (.invokevirtual 115, 3) := by decide +kernel
theorem dX4_setOnRoad_34 : decode cX4_setOnRoad 34 = .ok (.istore 4, 2) := by decide +kernel
theorem dX4_setOnRoad_36 : decode cX4_setOnRoad 36 = .ok (.aload_n 3, 1) := by decide +kernel
theorem dX4_setOnRoad_37 : decode cX4_setOnRoad 37 = .ok (.getfield 118, 3) := by decide +kernel
theorem dX4_setOnRoad_40 : decode cX4_setOnRoad 40 = .ok (.aload_n 0, 1) := by decide +kernel
theorem dX4_setOnRoad_41 : decode cX4_setOnRoad 41 = .ok (.getfield 48, 3) := by decide +kernel
theorem dX4_setOnRoad_44 : decode cX4_setOnRoad 44 = .ok (.iload_n 2, 1) := by decide +kernel
theorem dX4_setOnRoad_45 : decode cX4_setOnRoad 45 = .ok (.ifCond .eq 7, 3) := by decide +kernel
theorem dX4_setOnRoad_48 : decode cX4_setOnRoad 48 = .ok (.iconst 1, 1) := by decide +kernel
theorem dX4_setOnRoad_49 : decode cX4_setOnRoad 49 = .ok (.goto 4, 3) := by decide +kernel
theorem dX4_setOnRoad_52 : decode cX4_setOnRoad 52 = .ok (.iconst 0, 1) := by decide +kernel
theorem dX4_setOnRoad_53 : decode cX4_setOnRoad 53 = .ok (.invokevirtual 121, 3) := by decide +kernel
theorem dX4_setOnRoad_56 : decode cX4_setOnRoad 56 = .ok (.iload 4, 2) := by decide +kernel
theorem dX4_setOnRoad_58 : decode cX4_setOnRoad 58 = .ok (.ireturn, 1) := by decide +kernel
theorem dX4_isOnRoad_0 : decode cX4_isOnRoad 0 = .ok (.aload_n 0, 1) := by decide +kernel
theorem dX4_isOnRoad_1 : decode cX4_isOnRoad 1 = .ok (.iload_n 1, 1) := by decide +kernel
theorem dX4_isOnRoad_2 : decode cX4_isOnRoad 2 = .ok (.invokevirtual 81, 3) := by decide +kernel
theorem dX4_isOnRoad_5 : decode cX4_isOnRoad 5 = .ok (.astore_n 3, 1) := by decide +kernel
theorem dX4_isOnRoad_6 : decode cX4_isOnRoad 6 = .ok (.aload_n 0, 1) := by decide +kernel
theorem dX4_isOnRoad_7 : decode cX4_isOnRoad 7 = .ok (.iload_n 2, 1) := by decide +kernel
theorem dX4_isOnRoad_8 : decode cX4_isOnRoad 8 = .ok (.invokevirtual 125, 3) := by decide +kernel
theorem dX4_isOnRoad_11 : decode cX4_isOnRoad 11 = .ok (.aload_n 3, 1) := by decide +kernel
theorem dX4_isOnRoad_12 : decode cX4_isOnRoad 12 = .ok (.getfield 118, 3) := by decide +kernel
theorem dX4_isOnRoad_15 : decode cX4_isOnRoad 15 = .ok (.iload_n 2, 1) := by decide +kernel
theorem dX4_isOnRoad_16 : decode cX4_isOnRoad 16 = .ok (.invokevirtual 128, 3) := by decide +kernel
theorem dX4_isOnRoad_19 : decode cX4_isOnRoad 19 = .ok (.iconst 1, 1) := by decide +kernel
theorem dX4_isOnRoad_20 : decode cX4_isOnRoad 20 = .ok (.if_icmp .ne 7, 3) := by decide +kernel
theorem dX4_isOnRoad_23 : decode cX4_isOnRoad 23 = .ok (.iconst 1, 1) := by decide +kernel
theorem dX4_isOnRoad_24 : decode cX4_isOnRoad 24 = .ok (.goto 4, 3) := by decide +kernel
theorem dX4_isOnRoad_27 : decode cX4_isOnRoad 27 = .ok (.iconst 0, 1) := by decide +kernel
theorem dX4_isOnRoad_28 : decode cX4_isOnRoad 28 = .ok (.ireturn, 1) := by decide +kernel
theorem dX4_scrap_0 : decode cX4_scrap 0 = .ok (.aload_n 0, 1) := by decide +kernel
theorem dX4_scrap_1 : decode cX4_scrap 1 = .ok (.iload_n 1, 1) := by decide +kernel
theorem dX4_scrap_2 : decode cX4_scrap 2 = .ok (.invokevirtual 81, 3) := by decide +kernel
theorem dX4_scrap_5 : decode cX4_scrap 5 = .ok (.astore_n 2, 1) := by decide +kernel
theorem dX4_scrap_6 : decode cX4_scrap 6 = .ok (.aload_n 2, 1) := by decide +kernel
theorem dX4_scrap_7 : decode cX4_scrap 7 = .ok (.invokestatic 132, 3) := by decide +kernel
theorem dX4_scrap_10 : decode cX4_scrap 10 = .ok (.aload_n 2, 1) := by decide +kernel
theorem dX4_scrap_11 : decode cX4_scrap 11 = .ok (.iconst 1, 1) := by decide +kernel
theorem dX4_scrap_12 : decode cX4_scrap 12 = .ok (.putfield 94, 3) := by decide +kernel
theorem dX4_scrap_15 : decode cX4_scrap 15 = .ok (.aload_n 2, 1) := by decide +kernel
theorem dX4_scrap_16 : decode cX4_scrap 16 = .ok (.getfield 118, 3) := by decide +kernel
theorem dX4_scrap_19 : decode cX4_scrap 19 = .ok (.aload_n 0, 1) := by decide +kernel
theorem dX4_scrap_20 : decode cX4_scrap 20 = .ok (.getfield 48, 3) := by decide +kernel
theorem dX4_scrap_23 : decode cX4_scrap 23 = .ok (.iconst 0, 1) := by decide +kernel
theorem dX4_scrap_24 : decode cX4_scrap 24 = .ok (.invokevirtual 121, 3) := by decide +kernel
theorem dX4_scrap_27 : decode cX4_scrap 27 = .ok (.aload_n 0, 1) := by decide +kernel
theorem dX4_scrap_28 : decode cX4_scrap 28 = .ok (.aload_n 2, 1) := by decide +kernel
theorem dX4_scrap_29 : decode cX4_scrap 29 = .ok (.invokevirtual 135, 3) := by decide +kernel
theorem dX4_scrap_32 : decode cX4_scrap 32 = .ok (.astore_n 3, 1) := by decide +kernel
theorem dX4_scrap_33 : decode cX4_scrap 33 = .ok (.aload_n 3, 1) := by decide +kernel
theorem dX4_scrap_34 : decode cX4_scrap 34 = .ok (.ifnull 11, 3) := by decide +kernel
theorem dX4_scrap_37 : decode cX4_scrap 37 = .ok (.aload_n 3, 1) := by decide +kernel
theorem dX4_scrap_38 : decode cX4_scrap 38 = .ok (.aload_n 0, 1) := by decide +kernel
theorem dX4_scrap_39 : decode cX4_scrap 39 = .ok (.getfield 48, 3) := by decide +kernel
theorem dX4_scrap_42 : decode cX4_scrap 42 = .ok (.invokevirtual 139, 3) := by decide +kernel
theorem dX4_scrap_45 : decode cX4_scrap 45 = .ok (.aload_n 2, 1) := by decide +kernel
theorem dX4_scrap_46 : decode cX4_scrap 46 = .ok (.getfield 99, 3) := by decide +kernel
theorem dX4_scrap_49 : decode cX4_scrap 49 = .ok (.aload_n 0, 1) := by decide +kernel
theorem dX4_scrap_50 : decode cX4_scrap 50 = .ok (.getfield 48, 3) := by decide +kernel
theorem dX4_scrap_53 : decode cX4_scrap 53 = .ok (.iconst (-1), 1) := by decide +kernel
theorem dX4_scrap_54 : decode cX4_scrap 54 = .ok (.invokevirtual 121, 3) := by decide +kernel
theorem dX4_scrap_57 : decode cX4_scrap 57 = .ok (.aload_n 0, 1) := by decide +kernel
theorem dX4_scrap_58 : decode cX4_scrap 58 = .ok (.invokevirtual 142, 3) := by decide +kernel
theorem dX4_scrap_61 : decode cX4_scrap 61 = .ok (.ireturn, 1) := by decide +kernel
theorem dX4_kindOf_0 : decode cX4_kindOf 0 = .ok (.aload_n 0, 1) := by decide +kernel
theorem dX4_kindOf_1 : decode cX4_kindOf 1 = .ok (.iload_n 1, 1) := by decide +kernel
theorem dX4_kindOf_2 : decode cX4_kindOf 2 = .ok (.invokevirtual 81, 3) := by decide +kernel
theorem dX4_kindOf_5 : decode cX4_kindOf 5 = .ok (.getfield 145, 3) := by decide +kernel
theorem dX4_kindOf_8 : decode cX4_kindOf 8 = .ok (.ireturn, 1) := by decide +kernel
theorem dX4_vehicles_0 : decode cX4_vehicles 0 = .ok (.aload_n 0, 1) := by decide +kernel
theorem dX4_vehicles_1 : decode cX4_vehicles 1 = .ok (.getfield 149, 3) := by decide +kernel
theorem dX4_vehicles_4 : decode cX4_vehicles 4 = .ok (.ireturn, 1) := by decide +kernel
theorem dX4_sell_0 : decode cX4_sell 0 = .ok (.aload_n 0, 1) := by decide +kernel
theorem dX4_sell_1 : decode cX4_sell 1 = .ok (.iload_n 1, 1) := by decide +kernel
theorem dX4_sell_2 : decode cX4_sell 2 = .ok (.invokevirtual 56, 3) := by decide +kernel
theorem dX4_sell_5 : decode cX4_sell 5 = .ok (.aload_n 0, 1) := by decide +kernel
theorem dX4_sell_6 : decode cX4_sell 6 = .ok (.iload_n 3, 1) := by decide +kernel
theorem dX4_sell_7 : decode cX4_sell 7 = .ok (.invokevirtual 56, 3) := by decide +kernel
theorem dX4_sell_10 : decode cX4_sell 10 = .ok (.aload_n 0, 1) := by decide +kernel
theorem dX4_sell_11 : decode cX4_sell 11 = .ok (.iload_n 2, 1) := by decide +kernel
theorem dX4_sell_12 : decode cX4_sell 12 = .ok (.invokevirtual 81, 3) := by decide +kernel
theorem dX4_sell_15 : decode cX4_sell 15 = .ok (.astore 5, 2) := by decide +kernel
theorem dX4_sell_17 : decode cX4_sell 17 = .ok (.aload_n 0, 1) := by decide +kernel
theorem dX4_sell_18 : decode cX4_sell 18 = .ok (.iload 4, 2) := by decide +kernel
theorem dX4_sell_20 : decode cX4_sell 20 = .ok (.invokevirtual 125, 3) := by decide +kernel
theorem dX4_sell_23 : decode cX4_sell 23 = .ok (.iload_n 1, 1) := by decide +kernel
theorem dX4_sell_24 : decode cX4_sell 24 = .ok (.iload_n 3, 1) := by decide +kernel
theorem dX4_sell_25 : decode cX4_sell 25 = .ok (.if_icmp .ne 13, 3) := by decide +kernel
theorem dX4_sell_28 : decode cX4_sell 28 = .ok (.new 89, 3) := by decide +kernel
theorem dX4_sell_31 : decode cX4_sell 31 = .ok (.dup, 1) := by decide +kernel
theorem dX4_sell_32 : decode cX4_sell 32 = .ok (.ldc 152, 2) := by decide +kernel
theorem dX4_sell_34 : decode cX4_sell 34 = .ok (.invokespecial 93, 3) := by decide +kernel
theorem dX4_sell_37 : decode cX4_sell 37 = .ok (.athrow, 1) := by decide +kernel
theorem dX4_sell_38 : decode cX4_sell 38 = .ok (.aload_n 0, 1) := by decide +kernel
theorem dX4_sell_39 : decode cX4_sell 39 = .ok (.invokevirtual 154, 3) := by decide +kernel
theorem dX4_sell_42 : decode cX4_sell 42 = .ok (.aload_n 0, 1) := by decide +kernel
theorem dX4_sell_43 : decode cX4_sell 43 = .ok (.iload_n 1, 1) := by decide +kernel
theorem dX4_sell_44 : decode cX4_sell 44 = .ok (.aload 5, 2) := by decide +kernel
theorem dX4_sell_46 : decode cX4_sell 46 = .ok (.iload_n 3, 1) := by decide +kernel
theorem dX4_sell_47 : decode cX4_sell 47 = .ok (.iload 4, 2) := by decide +kernel
theorem dX4_sell_49 : decode cX4_sell 49 = .ok (.invokevirtual 157, 3) := by decide +kernel
theorem dX4_sell_52 : decode cX4_sell 52 = .ok (.ireturn, 1) := by decide +kernel
theorem dX4_buy_0 : decode cX4_buy 0 = .ok (.aload_n 0, 1) := by decide +kernel
theorem dX4_buy_1 : decode cX4_buy 1 = .ok (.iload_n 1, 1) := by decide +kernel
theorem dX4_buy_2 : decode cX4_buy 2 = .ok (.invokevirtual 56, 3) := by decide +kernel
theorem dX4_buy_5 : decode cX4_buy 5 = .ok (.aload_n 0, 1) := by decide +kernel
theorem dX4_buy_6 : decode cX4_buy 6 = .ok (.iload_n 2, 1) := by decide +kernel
theorem dX4_buy_7 : decode cX4_buy 7 = .ok (.invokevirtual 81, 3) := by decide +kernel
theorem dX4_buy_10 : decode cX4_buy 10 = .ok (.astore 4, 2) := by decide +kernel
theorem dX4_buy_12 : decode cX4_buy 12 = .ok (.aload_n 0, 1) := by decide +kernel
theorem dX4_buy_13 : decode cX4_buy 13 = .ok (.iload_n 3, 1) := by decide +kernel
theorem dX4_buy_14 : decode cX4_buy 14 = .ok (.invokevirtual 125, 3) := by decide +kernel
theorem dX4_buy_17 : decode cX4_buy 17 = .ok (.aload_n 0, 1) := by decide +kernel
theorem dX4_buy_18 : decode cX4_buy 18 = .ok (.invokevirtual 154, 3) := by decide +kernel
theorem dX4_buy_21 : decode cX4_buy 21 = .ok (.aload_n 0, 1) := by decide +kernel
theorem dX4_buy_22 : decode cX4_buy 22 = .ok (.iconst (-1), 1) := by decide +kernel
theorem dX4_buy_23 : decode cX4_buy 23 = .ok (.aload 4, 2) := by decide +kernel
theorem dX4_buy_25 : decode cX4_buy 25 = .ok (.iload_n 1, 1) := by decide +kernel
theorem dX4_buy_26 : decode cX4_buy 26 = .ok (.iload_n 3, 1) := by decide +kernel
theorem dX4_buy_27 : decode cX4_buy 27 = .ok (.invokevirtual 157, 3) := by decide +kernel
theorem dX4_buy_30 : decode cX4_buy 30 = .ok (.ireturn, 1) := by decide +kernel
theorem dX4_withdraw_0 : decode cX4_withdraw 0 = .ok (.aload_n 0, 1) := by decide +kernel
theorem dX4_withdraw_1 : decode cX4_withdraw 1 = .ok (.iload_n 1, 1) := by decide +kernel
theorem dX4_withdraw_2 : decode cX4_withdraw 2 = .ok (.invokevirtual 161, 3) := by decide +kernel
theorem dX4_withdraw_5 : decode cX4_withdraw 5 = .ok (.astore_n 2, 1) := by decide +kernel
theorem dX4_withdraw_6 : decode cX4_withdraw 6 = .ok (.aload_n 2, 1) := by decide +kernel
theorem dX4_withdraw_7 : decode cX4_withdraw 7 = .ok (.getfield 165, 3) := by decide +kernel
theorem dX4_withdraw_10 : decode cX4_withdraw 10 = .ok (.bipush 111, 2) := by decide +kernel
theorem dX4_withdraw_12 : decode cX4_withdraw 12 = .ok (.if_icmp .eq 13, 3) := by decide +kernel
theorem dX4_withdraw_15 : decode cX4_withdraw 15 = .ok (.new 41, 3) := by decide +kernel
theorem dX4_withdraw_18 : decode cX4_withdraw 18 = .ok (.dup, 1) := by decide +kernel
theorem dX4_withdraw_19 : decode cX4_withdraw 19 = .ok (.ldc 168, 2) := by decide +kernel
theorem dX4_withdraw_21 : decode cX4_withdraw 21 = .ok (.invokespecial 45, 3) := by decide +kernel
theorem dX4_withdraw_24 : decode cX4_withdraw 24 = .ok (.athrow, 1) := by decide +kernel
theorem dX4_withdraw_25 : decode cX4_withdraw 25 = .ok (.aload_n 2, 1) := by decide +kernel
theorem dX4_withdraw_26 : decode cX4_withdraw 26 = .ok (.bipush 119, 2) := by decide +kernel
theorem dX4_withdraw_28 : decode cX4_withdraw 28 = .ok (.putfield 165, 3) := by decide +kernel
theorem dX4_withdraw_31 : decode cX4_withdraw 31 = .ok (.aload_n 0, 1) := by decide +kernel
theorem dX4_withdraw_32 : decode cX4_withdraw 32 = .ok (.invokevirtual 170, 3) := by decide +kernel
theorem dX4_withdraw_35 : decode cX4_withdraw 35 = .ok (.ireturn, 1) := by decide +kernel
theorem dX4_stateOf_0 : decode cX4_stateOf 0 = .ok (.aload_n 0, 1) := by decide +kernel
theorem dX4_stateOf_1 : decode cX4_stateOf 1 = .ok (.iload_n 1, 1) := by decide +kernel
theorem dX4_stateOf_2 : decode cX4_stateOf 2 = .ok (.invokevirtual 161, 3) := by decide +kernel
theorem dX4_stateOf_5 : decode cX4_stateOf 5 = .ok (.getfield 165, 3) := by decide +kernel
theorem dX4_stateOf_8 : decode cX4_stateOf 8 = .ok (.ireturn, 1) := by decide +kernel
theorem dX4_partnerOf_0 : decode cX4_partnerOf 0 = .ok (.aload_n 0, 1) := by decide +kernel
theorem dX4_partnerOf_1 : decode cX4_partnerOf 1 = .ok (.iload_n 1, 1) := by decide +kernel
theorem dX4_partnerOf_2 : decode cX4_partnerOf 2 = .ok (.invokevirtual 161, 3) := by decide +kernel
theorem dX4_partnerOf_5 : decode cX4_partnerOf 5 = .ok (.astore_n 2, 1) := by decide +kernel
theorem dX4_partnerOf_6 : decode cX4_partnerOf 6 = .ok (.aload_n 2, 1) := by decide +kernel
theorem dX4_partnerOf_7 : decode cX4_partnerOf 7 = .ok (.getfield 165, 3) := by decide +kernel
theorem dX4_partnerOf_10 : decode cX4_partnerOf 10 = .ok (.bipush 117, 2) := by decide +kernel
theorem dX4_partnerOf_12 : decode cX4_partnerOf 12 = .ok (.if_icmp .eq 13, 3) := by decide +kernel
theorem dX4_partnerOf_15 : decode cX4_partnerOf 15 = .ok (.new 41, 3) := by decide +kernel
theorem dX4_partnerOf_18 : decode cX4_partnerOf 18 = .ok (.dup, 1) := by decide +kernel
theorem dX4_partnerOf_19 : decode cX4_partnerOf 19 = .ok (.ldc 173, 2) := by decide +kernel
theorem dX4_partnerOf_21 : decode cX4_partnerOf 21 = .ok (.invokespecial 45, 3) := by decide +kernel
theorem dX4_partnerOf_24 : decode cX4_partnerOf 24 = .ok (.athrow, 1) := by decide +kernel
theorem dX4_partnerOf_25 : decode cX4_partnerOf 25 = .ok (.aload_n 2, 1) := by decide +kernel
theorem dX4_partnerOf_26 : decode cX4_partnerOf 26 = .ok (.getfield 175, 3) := by decide +kernel
theorem dX4_partnerOf_29 : decode cX4_partnerOf 29 = .ok (.ireturn, 1) := by decide +kernel
theorem dX4_openNotices_0 : decode cX4_openNotices 0 = .ok (.aload_n 0, 1) := by decide +kernel
theorem dX4_openNotices_1 : decode cX4_openNotices 1 = .ok (.iload_n 1, 1) := by decide +kernel
theorem dX4_openNotices_2 : decode cX4_openNotices 2 = .ok (.invokevirtual 81, 3) := by decide +kernel
theorem dX4_openNotices_5 : decode cX4_openNotices 5 = .ok (.astore_n 2, 1) := by decide +kernel
theorem dX4_openNotices_6 : decode cX4_openNotices 6 = .ok (.iconst 0, 1) := by decide +kernel
theorem dX4_openNotices_7 : decode cX4_openNotices 7 = .ok (.istore_n 3, 1) := by decide +kernel
theorem dX4_openNotices_8 : decode cX4_openNotices 8 = .ok (.aload_n 0, 1) := by decide +kernel
theorem dX4_openNotices_9 : decode cX4_openNotices 9 = .ok (.getfield 23, 3) := by decide +kernel
theorem dX4_openNotices_12 : decode cX4_openNotices 12 = .ok (.astore 4, 2) := by decide +kernel
theorem dX4_openNotices_14 : decode cX4_openNotices 14 = .ok (.aload 4, 2) := by decide +kernel
theorem dX4_openNotices_16 : decode cX4_openNotices 16 = .ok (.arraylength, 1) := by decide +kernel
theorem dX4_openNotices_17 : decode cX4_openNotices 17 = .ok (.istore 5, 2) := by decide +kernel
theorem dX4_openNotices_19 : decode cX4_openNotices 19 = .ok (.iconst 0, 1) := by decide +kernel
theorem dX4_openNotices_20 : decode cX4_openNotices 20 = .ok (.istore 6, 2) := by decide +kernel
theorem dX4_openNotices_22 : decode cX4_openNotices 22 = .ok (.iload 6, 2) := by decide +kernel
theorem dX4_openNotices_24 : decode cX4_openNotices 24 = .ok (.iload 5, 2) := by decide +kernel
theorem dX4_openNotices_26 : decode cX4_openNotices 26 = .ok (.if_icmp .ge 36, 3) := by decide +kernel
theorem dX4_openNotices_29 : decode cX4_openNotices 29 = .ok (.aload 4, 2) := by decide +kernel
theorem dX4_openNotices_31 : decode cX4_openNotices 31 = .ok (.iload 6, 2) := by decide +kernel
theorem dX4_openNotices_33 : decode cX4_openNotices 33 = .ok (.aaload, 1) := by decide +kernel
theorem dX4_openNotices_34 : decode cX4_openNotices 34 = .ok (.astore 7, 2) := by decide +kernel
theorem dX4_openNotices_36 : decode cX4_openNotices 36 = .ok (.aload 7, 2) := by decide +kernel
theorem dX4_openNotices_38 : decode cX4_openNotices 38 = .ok (.ifnull 18, 3) := by decide +kernel
theorem dX4_openNotices_41 : decode cX4_openNotices 41 = .ok (.aload 7, 2) := by decide +kernel
theorem dX4_openNotices_43 : decode cX4_openNotices 43 = .ok (.aload_n 2, 1) := by decide +kernel
theorem dX4_openNotices_44 : decode cX4_openNotices 44 = .ok (.getfield 78, 3) := by decide +kernel
theorem dX4_openNotices_47 : decode cX4_openNotices 47 = .ok (.invokevirtual 178, 3) := by decide +kernel
theorem dX4_openNotices_50 : decode cX4_openNotices 50 = .ok (.ifCond .eq 6, 3) := by decide +kernel
theorem dX4_openNotices_53 : decode cX4_openNotices 53 = .ok (.iinc 3 1, 3) := by decide +kernel
theorem dX4_openNotices_56 : decode cX4_openNotices 56 = .ok (.iinc 6 1, 3) := by decide +kernel
theorem dX4_openNotices_59 : decode cX4_openNotices 59 = .ok (.goto (-37), 3) := by decide +kernel
theorem dX4_openNotices_62 : decode cX4_openNotices 62 = .ok (.iload_n 3, 1) := by decide +kernel
theorem dX4_openNotices_63 : decode cX4_openNotices 63 = .ok (.ireturn, 1) := by decide +kernel
theorem dX4_keeperOn_0 : decode cX4_keeperOn 0 = .ok (.aload_n 0, 1) := by decide +kernel
theorem dX4_keeperOn_1 : decode cX4_keeperOn 1 = .ok (.iload_n 1, 1) := by decide +kernel
theorem dX4_keeperOn_2 : decode cX4_keeperOn 2 = .ok (.invokevirtual 81, 3) := by decide +kernel
theorem dX4_keeperOn_5 : decode cX4_keeperOn 5 = .ok (.astore_n 3, 1) := by decide +kernel
theorem dX4_keeperOn_6 : decode cX4_keeperOn 6 = .ok (.aload_n 0, 1) := by decide +kernel
theorem dX4_keeperOn_7 : decode cX4_keeperOn 7 = .ok (.iload_n 2, 1) := by decide +kernel
theorem dX4_keeperOn_8 : decode cX4_keeperOn 8 = .ok (.invokevirtual 125, 3) := by decide +kernel
theorem dX4_keeperOn_11 : decode cX4_keeperOn 11 = .ok (.aload_n 3, 1) := by decide +kernel
theorem dX4_keeperOn_12 : decode cX4_keeperOn 12 = .ok (.getfield 182, 3) := by decide +kernel
theorem dX4_keeperOn_15 : decode cX4_keeperOn 15 = .ok (.iload_n 2, 1) := by decide +kernel
theorem dX4_keeperOn_16 : decode cX4_keeperOn 16 = .ok (.invokevirtual 128, 3) := by decide +kernel
theorem dX4_keeperOn_19 : decode cX4_keeperOn 19 = .ok (.invokestatic 185, 3) := by decide +kernel
theorem dX4_keeperOn_22 : decode cX4_keeperOn 22 = .ok (.ireturn, 1) := by decide +kernel
theorem dX4_keeperByGoing_0 : decode cX4_keeperByGoing 0 = .ok (.aload_n 0, 1) := by decide +kernel
theorem dX4_keeperByGoing_1 : decode cX4_keeperByGoing 1 = .ok (.iload_n 1, 1) := by decide +kernel
theorem dX4_keeperByGoing_2 : decode cX4_keeperByGoing 2 = .ok (.invokevirtual 81, 3) := by decide +kernel
theorem dX4_keeperByGoing_5 : decode cX4_keeperByGoing 5 = .ok (.astore_n 3, 1) := by decide +kernel
theorem dX4_keeperByGoing_6 : decode cX4_keeperByGoing 6 = .ok (.aload_n 0, 1) := by decide +kernel
theorem dX4_keeperByGoing_7 : decode cX4_keeperByGoing 7 = .ok (.iload_n 2, 1) := by decide +kernel
theorem dX4_keeperByGoing_8 : decode cX4_keeperByGoing 8 = .ok (.invokevirtual 125, 3) := by decide +kernel
theorem dX4_keeperByGoing_11 : decode cX4_keeperByGoing 11 = .ok (.aload_n 3, 1) := by decide +kernel
theorem dX4_keeperByGoing_12 : decode cX4_keeperByGoing 12 = .ok (.getfield 182, 3) := by decide +kernel
theorem dX4_keeperByGoing_15 : decode cX4_keeperByGoing 15 = .ok (.iload_n 2, 1) := by decide +kernel
theorem dX4_keeperByGoing_16 : decode cX4_keeperByGoing 16 = .ok (.invokevirtual 188, 3) := by decide +kernel
theorem dX4_keeperByGoing_19 : decode cX4_keeperByGoing 19 = .ok (.invokestatic 185, 3) := by decide +kernel
theorem dX4_keeperByGoing_22 : decode cX4_keeperByGoing 22 = .ok (.ireturn, 1) := by decide +kernel
theorem dX4_transfers_0 : decode cX4_transfers 0 = .ok (.aload_n 0, 1) := by decide +kernel
theorem dX4_transfers_1 : decode cX4_transfers 1 = .ok (.iload_n 1, 1) := by decide +kernel
theorem dX4_transfers_2 : decode cX4_transfers 2 = .ok (.invokevirtual 81, 3) := by decide +kernel
theorem dX4_transfers_5 : decode cX4_transfers 5 = .ok (.getfield 182, 3) := by decide +kernel
theorem dX4_transfers_8 : decode cX4_transfers 8 = .ok (.getfield 191, 3) := by decide +kernel
theorem dX4_transfers_11 : decode cX4_transfers 11 = .ok (.ireturn, 1) := by decide +kernel
theorem dX4_transferDay_0 : decode cX4_transferDay 0 = .ok (.aload_n 0, 1) := by decide +kernel
theorem dX4_transferDay_1 : decode cX4_transferDay 1 = .ok (.iload_n 1, 1) := by decide +kernel
theorem dX4_transferDay_2 : decode cX4_transferDay 2 = .ok (.invokevirtual 81, 3) := by decide +kernel
theorem dX4_transferDay_5 : decode cX4_transferDay 5 = .ok (.getfield 182, 3) := by decide +kernel
theorem dX4_transferDay_8 : decode cX4_transferDay 8 = .ok (.astore_n 3, 1) := by decide +kernel
theorem dX4_transferDay_9 : decode cX4_transferDay 9 = .ok (.iload_n 2, 1) := by decide +kernel
theorem dX4_transferDay_10 : decode cX4_transferDay 10 = .ok (.ifCond .lt 11, 3) := by decide +kernel
theorem dX4_transferDay_13 : decode cX4_transferDay 13 = .ok (.iload_n 2, 1) := by decide +kernel
theorem dX4_transferDay_14 : decode cX4_transferDay 14 = .ok (.aload_n 3, 1) := by decide +kernel
theorem dX4_transferDay_15 : decode cX4_transferDay 15 = .ok (.getfield 191, 3) := by decide +kernel
theorem dX4_transferDay_18 : decode cX4_transferDay 18 = .ok (.if_icmp .lt 13, 3) := by decide +kernel
theorem dX4_transferDay_21 : decode cX4_transferDay 21 = .ok (.new 194, 3) := by decide +kernel
theorem dX4_transferDay_24 : decode cX4_transferDay 24 = .ok (.dup, 1) := by decide +kernel
theorem dX4_transferDay_25 : decode cX4_transferDay 25 = .ok (.ldc 196, 2) := by decide +kernel
theorem dX4_transferDay_27 : decode cX4_transferDay 27 = .ok (.invokespecial 198, 3) := by decide +kernel
theorem dX4_transferDay_30 : decode cX4_transferDay 30 = .ok (.athrow, 1) := by decide +kernel
theorem dX4_transferDay_31 : decode cX4_transferDay 31 = .ok (.aload_n 3, 1) := by decide +kernel
theorem dX4_transferDay_32 : decode cX4_transferDay 32 = .ok (.iload_n 2, 1) := by decide +kernel
theorem dX4_transferDay_33 : decode cX4_transferDay 33 = .ok (.invokevirtual 199, 3) := by decide +kernel
theorem dX4_transferDay_36 : decode cX4_transferDay 36 = .ok (.ireturn, 1) := by decide +kernel
theorem dX4_keptBy_0 : decode cX4_keptBy 0 = .ok (.aload_n 0, 1) := by decide +kernel
theorem dX4_keptBy_1 : decode cX4_keptBy 1 = .ok (.iload_n 1, 1) := by decide +kernel
theorem dX4_keptBy_2 : decode cX4_keptBy 2 = .ok (.invokevirtual 56, 3) := by decide +kernel
theorem dX4_keptBy_5 : decode cX4_keptBy 5 = .ok (.iconst 0, 1) := by decide +kernel
theorem dX4_keptBy_6 : decode cX4_keptBy 6 = .ok (.istore_n 2, 1) := by decide +kernel
theorem dX4_keptBy_7 : decode cX4_keptBy 7 = .ok (.aload_n 0, 1) := by decide +kernel
theorem dX4_keptBy_8 : decode cX4_keptBy 8 = .ok (.getfield 11, 3) := by decide +kernel
theorem dX4_keptBy_11 : decode cX4_keptBy 11 = .ok (.astore_n 3, 1) := by decide +kernel
theorem dX4_keptBy_12 : decode cX4_keptBy 12 = .ok (.aload_n 3, 1) := by decide +kernel
theorem dX4_keptBy_13 : decode cX4_keptBy 13 = .ok (.arraylength, 1) := by decide +kernel
theorem dX4_keptBy_14 : decode cX4_keptBy 14 = .ok (.istore 4, 2) := by decide +kernel
theorem dX4_keptBy_16 : decode cX4_keptBy 16 = .ok (.iconst 0, 1) := by decide +kernel
theorem dX4_keptBy_17 : decode cX4_keptBy 17 = .ok (.istore 5, 2) := by decide +kernel
theorem dX4_keptBy_19 : decode cX4_keptBy 19 = .ok (.iload 5, 2) := by decide +kernel
theorem dX4_keptBy_21 : decode cX4_keptBy 21 = .ok (.iload 4, 2) := by decide +kernel
theorem dX4_keptBy_23 : decode cX4_keptBy 23 = .ok (.if_icmp .ge 43, 3) := by decide +kernel
theorem dX4_keptBy_26 : decode cX4_keptBy 26 = .ok (.aload_n 3, 1) := by decide +kernel
theorem dX4_keptBy_27 : decode cX4_keptBy 27 = .ok (.iload 5, 2) := by decide +kernel
theorem dX4_keptBy_29 : decode cX4_keptBy 29 = .ok (.aaload, 1) := by decide +kernel
theorem dX4_keptBy_30 : decode cX4_keptBy 30 = .ok (.astore 6, 2) := by decide +kernel
theorem dX4_keptBy_32 : decode cX4_keptBy 32 = .ok (.aload 6, 2) := by decide +kernel
theorem dX4_keptBy_34 : decode cX4_keptBy 34 = .ok (.ifnull 26, 3) := by decide +kernel
theorem dX4_keptBy_37 : decode cX4_keptBy 37 = .ok (.aload 6, 2) := by decide +kernel
theorem dX4_keptBy_39 : decode cX4_keptBy 39 = .ok (.getfield 94, 3) := by decide +kernel
theorem dX4_keptBy_42 : decode cX4_keptBy 42 = .ok (.ifCond .ne 18, 3) := by decide +kernel
theorem dX4_keptBy_45 : decode cX4_keptBy 45 = .ok (.aload 6, 2) := by decide +kernel
theorem dX4_keptBy_47 : decode cX4_keptBy 47 = .ok (.getfield 182, 3) := by decide +kernel
theorem dX4_keptBy_50 : decode cX4_keptBy 50 = .ok (.invokevirtual 103, 3) := by decide +kernel
theorem dX4_keptBy_53 : decode cX4_keptBy 53 = .ok (.iload_n 1, 1) := by decide +kernel
theorem dX4_keptBy_54 : decode cX4_keptBy 54 = .ok (.if_icmp .ne 6, 3) := by decide +kernel
theorem dX4_keptBy_57 : decode cX4_keptBy 57 = .ok (.iinc 2 1, 3) := by decide +kernel
theorem dX4_keptBy_60 : decode cX4_keptBy 60 = .ok (.iinc 5 1, 3) := by decide +kernel
theorem dX4_keptBy_63 : decode cX4_keptBy 63 = .ok (.goto (-44), 3) := by decide +kernel
theorem dX4_keptBy_66 : decode cX4_keptBy 66 = .ok (.iload_n 2, 1) := by decide +kernel
theorem dX4_keptBy_67 : decode cX4_keptBy 67 = .ok (.ireturn, 1) := by decide +kernel
theorem dX4_addLien_0 : decode cX4_addLien 0 = .ok (.aload_n 0, 1) := by decide +kernel
theorem dX4_addLien_1 : decode cX4_addLien 1 = .ok (.iload_n 1, 1) := by decide +kernel
theorem dX4_addLien_2 : decode cX4_addLien 2 = .ok (.invokevirtual 81, 3) := by decide +kernel
theorem dX4_addLien_5 : decode cX4_addLien 5 = .ok (.astore 4, 2) := by decide +kernel
theorem dX4_addLien_7 : decode cX4_addLien 7 = .ok (.iload_n 2, 1) := by decide +kernel
theorem dX4_addLien_8 : decode cX4_addLien 8 = .ok (.invokestatic 202, 3) := by decide +kernel
theorem dX4_addLien_11 : decode cX4_addLien 11 = .ok (.ifCond .eq 15, 3) := by decide +kernel
theorem dX4_addLien_14 : decode cX4_addLien 14 = .ok (.iload_n 3, 1) := by decide +kernel
theorem dX4_addLien_15 : decode cX4_addLien 15 = .ok (.iconst 1, 1) := by decide +kernel
theorem dX4_addLien_16 : decode cX4_addLien 16 = .ok (.if_icmp .lt 10, 3) := by decide +kernel
theorem dX4_addLien_19 : decode cX4_addLien 19 = .ok (.iload_n 3, 1) := by decide +kernel
theorem dX4_addLien_20 : decode cX4_addLien 20 = .ok (.sipush 9999, 3) := by decide +kernel
theorem dX4_addLien_23 : decode cX4_addLien 23 = .ok (.if_icmp .le 13, 3) := by decide +kernel
theorem dX4_addLien_26 : decode cX4_addLien 26 = .ok (.new 51, 3) := by decide +kernel
theorem dX4_addLien_29 : decode cX4_addLien 29 = .ok (.dup, 1) := by decide +kernel
theorem dX4_addLien_30 : decode cX4_addLien 30 = .ok (.ldc 206, 2) := by decide +kernel
theorem dX4_addLien_32 : decode cX4_addLien 32 = .ok (.invokespecial 55, 3) := by decide +kernel
theorem dX4_addLien_35 : decode cX4_addLien 35 = .ok (.athrow, 1) := by decide +kernel
theorem dX4_addLien_36 : decode cX4_addLien 36 = .ok (.aload 4, 2) := by decide +kernel
theorem dX4_addLien_38 : decode cX4_addLien 38 = .ok (.getfield 94, 3) := by decide +kernel
theorem dX4_addLien_41 : decode cX4_addLien 41 = .ok (.ifCond .eq 13, 3) := by decide +kernel
theorem dX4_addLien_44 : decode cX4_addLien 44 = .ok (.new 41, 3) := by decide +kernel
theorem dX4_addLien_47 : decode cX4_addLien 47 = .ok (.dup, 1) := by decide +kernel
theorem dX4_addLien_48 : decode cX4_addLien 48 = .ok (.ldc 97, 2) := by decide +kernel
theorem dX4_addLien_50 : decode cX4_addLien 50 = .ok (.invokespecial 45, 3) := by decide +kernel
theorem dX4_addLien_53 : decode cX4_addLien 53 = .ok (.athrow, 1) := by decide +kernel
theorem dX4_addLien_54 : decode cX4_addLien 54 = .ok (.aload 4, 2) := by decide +kernel
theorem dX4_addLien_56 : decode cX4_addLien 56 = .ok (.getfield 208, 3) := by decide +kernel
theorem dX4_addLien_59 : decode cX4_addLien 59 = .ok (.iload_n 2, 1) := by decide +kernel
theorem dX4_addLien_60 : decode cX4_addLien 60 = .ok (.bipush 97, 2) := by decide +kernel
theorem dX4_addLien_62 : decode cX4_addLien 62 = .ok (.isub, 1) := by decide +kernel
theorem dX4_addLien_63 : decode cX4_addLien 63 = .ok (.iload_n 3, 1) := by decide +kernel
theorem dX4_addLien_64 : decode cX4_addLien 64 = .ok (.invokestatic 211, 3) := by decide +kernel
theorem dX4_addLien_67 : decode cX4_addLien 67 = .ok (.aload 4, 2) := by decide +kernel
theorem dX4_addLien_69 : decode cX4_addLien 69 = .ok (.iload_n 2, 1) := by decide +kernel
theorem dX4_addLien_70 : decode cX4_addLien 70 = .ok (.invokevirtual 215, 3) := by decide +kernel
theorem dX4_addLien_73 : decode cX4_addLien 73 = .ok (.ireturn, 1) := by decide +kernel
theorem dX4_payLien_0 : decode cX4_payLien 0 = .ok (.aload_n 0, 1) := by decide +kernel
theorem dX4_payLien_1 : decode cX4_payLien 1 = .ok (.iload_n 1, 1) := by decide +kernel
theorem dX4_payLien_2 : decode cX4_payLien 2 = .ok (.invokevirtual 81, 3) := by decide +kernel
theorem dX4_payLien_5 : decode cX4_payLien 5 = .ok (.astore 4, 2) := by decide +kernel
theorem dX4_payLien_7 : decode cX4_payLien 7 = .ok (.aload 4, 2) := by decide +kernel
theorem dX4_payLien_9 : decode cX4_payLien 9 = .ok (.iload_n 2, 1) := by decide +kernel
theorem dX4_payLien_10 : decode cX4_payLien 10 = .ok (.invokestatic 219, 3) := by decide +kernel
theorem dX4_payLien_13 : decode cX4_payLien 13 = .ok (.istore 5, 2) := by decide +kernel
theorem dX4_payLien_15 : decode cX4_payLien 15 = .ok (.iload_n 3, 1) := by decide +kernel
theorem dX4_payLien_16 : decode cX4_payLien 16 = .ok (.iconst 1, 1) := by decide +kernel
theorem dX4_payLien_17 : decode cX4_payLien 17 = .ok (.if_icmp .lt 9, 3) := by decide +kernel
theorem dX4_payLien_20 : decode cX4_payLien 20 = .ok (.iload_n 3, 1) := by decide +kernel
theorem dX4_payLien_21 : decode cX4_payLien 21 = .ok (.iload 5, 2) := by decide +kernel
theorem dX4_payLien_23 : decode cX4_payLien 23 = .ok (.if_icmp .le 13, 3) := by decide +kernel
theorem dX4_payLien_26 : decode cX4_payLien 26 = .ok (.new 51, 3) := by decide +kernel
theorem dX4_payLien_29 : decode cX4_payLien 29 = .ok (.dup, 1) := by decide +kernel
theorem dX4_payLien_30 : decode cX4_payLien 30 = .ok (.ldc 223, 2) := by decide +kernel
theorem dX4_payLien_32 : decode cX4_payLien 32 = .ok (.invokespecial 55, 3) := by decide +kernel
theorem dX4_payLien_35 : decode cX4_payLien 35 = .ok (.athrow, 1) := by decide +kernel
theorem dX4_payLien_36 : decode cX4_payLien 36 = .ok (.aload 4, 2) := by decide +kernel
theorem dX4_payLien_38 : decode cX4_payLien 38 = .ok (.getfield 208, 3) := by decide +kernel
theorem dX4_payLien_41 : decode cX4_payLien 41 = .ok (.iload_n 2, 1) := by decide +kernel
theorem dX4_payLien_42 : decode cX4_payLien 42 = .ok (.bipush 97, 2) := by decide +kernel
theorem dX4_payLien_44 : decode cX4_payLien 44 = .ok (.isub, 1) := by decide +kernel
theorem dX4_payLien_45 : decode cX4_payLien 45 = .ok (.iload_n 3, 1) := by decide +kernel
theorem dX4_payLien_46 : decode cX4_payLien 46 = .ok (.ineg, 1) := by decide +kernel
theorem dX4_payLien_47 : decode cX4_payLien 47 = .ok (.invokestatic 211, 3) := by decide +kernel
theorem dX4_payLien_50 : decode cX4_payLien 50 = .ok (.iload_n 3, 1) := by decide +kernel
theorem dX4_payLien_51 : decode cX4_payLien 51 = .ok (.iload 5, 2) := by decide +kernel
theorem dX4_payLien_53 : decode cX4_payLien 53 = .ok (.if_icmp .ne 9, 3) := by decide +kernel
theorem dX4_payLien_56 : decode cX4_payLien 56 = .ok (.aload_n 0, 1) := by decide +kernel
theorem dX4_payLien_57 : decode cX4_payLien 57 = .ok (.aload 4, 2) := by decide +kernel
theorem dX4_payLien_59 : decode cX4_payLien 59 = .ok (.invokevirtual 225, 3) := by decide +kernel
theorem dX4_payLien_62 : decode cX4_payLien 62 = .ok (.iload 5, 2) := by decide +kernel
theorem dX4_payLien_64 : decode cX4_payLien 64 = .ok (.iload_n 3, 1) := by decide +kernel
theorem dX4_payLien_65 : decode cX4_payLien 65 = .ok (.isub, 1) := by decide +kernel
theorem dX4_payLien_66 : decode cX4_payLien 66 = .ok (.ireturn, 1) := by decide +kernel
theorem dX4_lienOf_0 : decode cX4_lienOf 0 = .ok (.aload_n 0, 1) := by decide +kernel
theorem dX4_lienOf_1 : decode cX4_lienOf 1 = .ok (.iload_n 1, 1) := by decide +kernel
theorem dX4_lienOf_2 : decode cX4_lienOf 2 = .ok (.invokevirtual 81, 3) := by decide +kernel
theorem dX4_lienOf_5 : decode cX4_lienOf 5 = .ok (.iload_n 2, 1) := by decide +kernel
theorem dX4_lienOf_6 : decode cX4_lienOf 6 = .ok (.invokestatic 219, 3) := by decide +kernel
theorem dX4_lienOf_9 : decode cX4_lienOf 9 = .ok (.ireturn, 1) := by decide +kernel
theorem dX4_isBlocked_0 : decode cX4_isBlocked 0 = .ok (.aload_n 0, 1) := by decide +kernel
theorem dX4_isBlocked_1 : decode cX4_isBlocked 1 = .ok (.iload_n 1, 1) := by decide +kernel
theorem dX4_isBlocked_2 : decode cX4_isBlocked 2 = .ok (.invokevirtual 81, 3) := by decide +kernel
theorem dX4_isBlocked_5 : decode cX4_isBlocked 5 = .ok (.invokevirtual 228, 3) := by decide +kernel
theorem dX4_isBlocked_8 : decode cX4_isBlocked 8 = .ok (.ireturn, 1) := by decide +kernel
theorem dX4_keepPlate_0 : decode cX4_keepPlate 0 = .ok (.aload_n 0, 1) := by decide +kernel
theorem dX4_keepPlate_1 : decode cX4_keepPlate 1 = .ok (.iload_n 1, 1) := by decide +kernel
theorem dX4_keepPlate_2 : decode cX4_keepPlate 2 = .ok (.invokevirtual 81, 3) := by decide +kernel
theorem dX4_keepPlate_5 : decode cX4_keepPlate 5 = .ok (.astore_n 2, 1) := by decide +kernel
theorem dX4_keepPlate_6 : decode cX4_keepPlate 6 = .ok (.aload_n 0, 1) := by decide +kernel
theorem dX4_keepPlate_7 : decode cX4_keepPlate 7 = .ok (.aload_n 2, 1) := by decide +kernel
theorem dX4_keepPlate_8 : decode cX4_keepPlate 8 = .ok (.invokevirtual 135, 3) := by decide +kernel
theorem dX4_keepPlate_11 : decode cX4_keepPlate 11 = .ok (.astore_n 3, 1) := by decide +kernel
theorem dX4_keepPlate_12 : decode cX4_keepPlate 12 = .ok (.aload_n 3, 1) := by decide +kernel
theorem dX4_keepPlate_13 : decode cX4_keepPlate 13 = .ok (.ifnonnull 13, 3) := by decide +kernel
theorem dX4_keepPlate_16 : decode cX4_keepPlate 16 = .ok (.new 231, 3) := by decide +kernel
theorem dX4_keepPlate_19 : decode cX4_keepPlate 19 = .ok (.dup, 1) := by decide +kernel
theorem dX4_keepPlate_20 : decode cX4_keepPlate 20 = .ok (.ldc 233, 2) := by decide +kernel
theorem dX4_keepPlate_22 : decode cX4_keepPlate 22 = .ok (.invokespecial 235, 3) := by decide +kernel
theorem dX4_keepPlate_25 : decode cX4_keepPlate 25 = .ok (.athrow, 1) := by decide +kernel
theorem dX4_keepPlate_26 : decode cX4_keepPlate 26 = .ok (.aload_n 2, 1) := by decide +kernel
theorem dX4_keepPlate_27 : decode cX4_keepPlate 27 = .ok (.invokestatic 132, 3) := by decide +kernel
theorem dX4_keepPlate_30 : decode cX4_keepPlate 30 = .ok (.aload_n 0, 1) := by decide +kernel
theorem dX4_keepPlate_31 : decode cX4_keepPlate 31 = .ok (.invokevirtual 67, 3) := by decide +kernel
theorem dX4_keepPlate_34 : decode cX4_keepPlate 34 = .ok (.aload_n 3, 1) := by decide +kernel
theorem dX4_keepPlate_35 : decode cX4_keepPlate 35 = .ok (.aload_n 2, 1) := by decide +kernel
theorem dX4_keepPlate_36 : decode cX4_keepPlate 36 = .ok (.getfield 182, 3) := by decide +kernel
theorem dX4_keepPlate_39 : decode cX4_keepPlate 39 = .ok (.invokevirtual 103, 3) := by decide +kernel
theorem dX4_keepPlate_42 : decode cX4_keepPlate 42 = .ok (.aload_n 0, 1) := by decide +kernel
theorem dX4_keepPlate_43 : decode cX4_keepPlate 43 = .ok (.getfield 48, 3) := by decide +kernel
theorem dX4_keepPlate_46 : decode cX4_keepPlate 46 = .ok (.invokevirtual 236, 3) := by decide +kernel
theorem dX4_keepPlate_49 : decode cX4_keepPlate 49 = .ok (.aload_n 0, 1) := by decide +kernel
theorem dX4_keepPlate_50 : decode cX4_keepPlate 50 = .ok (.invokevirtual 239, 3) := by decide +kernel
theorem dX4_keepPlate_53 : decode cX4_keepPlate 53 = .ok (.astore 4, 2) := by decide +kernel
theorem dX4_keepPlate_55 : decode cX4_keepPlate 55 = .ok (.aload_n 0, 1) := by decide +kernel
theorem dX4_keepPlate_56 : decode cX4_keepPlate 56 = .ok (.aload 4, 2) := by decide +kernel
theorem dX4_keepPlate_58 : decode cX4_keepPlate 58 = .ok (.aload_n 2, 1) := by decide +kernel
theorem dX4_keepPlate_59 : decode cX4_keepPlate 59 = .ok (.invokevirtual 243, 3) := by decide +kernel
theorem dX4_keepPlate_62 : decode cX4_keepPlate 62 = .ok (.aload 4, 2) := by decide +kernel
theorem dX4_keepPlate_64 : decode cX4_keepPlate 64 = .ok (.getfield 247, 3) := by decide +kernel
theorem dX4_keepPlate_67 : decode cX4_keepPlate 67 = .ok (.ireturn, 1) := by decide +kernel
theorem dX4_putOn_0 : decode cX4_putOn 0 = .ok (.aload_n 0, 1) := by decide +kernel
theorem dX4_putOn_1 : decode cX4_putOn 1 = .ok (.iload_n 1, 1) := by decide +kernel
theorem dX4_putOn_2 : decode cX4_putOn 2 = .ok (.invokevirtual 248, 3) := by decide +kernel
theorem dX4_putOn_5 : decode cX4_putOn 5 = .ok (.astore_n 3, 1) := by decide +kernel
theorem dX4_putOn_6 : decode cX4_putOn 6 = .ok (.aload_n 0, 1) := by decide +kernel
theorem dX4_putOn_7 : decode cX4_putOn 7 = .ok (.iload_n 2, 1) := by decide +kernel
theorem dX4_putOn_8 : decode cX4_putOn 8 = .ok (.invokevirtual 81, 3) := by decide +kernel
theorem dX4_putOn_11 : decode cX4_putOn 11 = .ok (.astore 4, 2) := by decide +kernel
theorem dX4_putOn_13 : decode cX4_putOn 13 = .ok (.aload_n 3, 1) := by decide +kernel
theorem dX4_putOn_14 : decode cX4_putOn 14 = .ok (.aload_n 0, 1) := by decide +kernel
theorem dX4_putOn_15 : decode cX4_putOn 15 = .ok (.getfield 48, 3) := by decide +kernel
theorem dX4_putOn_18 : decode cX4_putOn 18 = .ok (.invokevirtual 252, 3) := by decide +kernel
theorem dX4_putOn_21 : decode cX4_putOn 21 = .ok (.ifCond .eq 18, 3) := by decide +kernel
theorem dX4_putOn_24 : decode cX4_putOn 24 = .ok (.aload_n 3, 1) := by decide +kernel
theorem dX4_putOn_25 : decode cX4_putOn 25 = .ok (.getfield 255, 3) := by decide +kernel
theorem dX4_putOn_28 : decode cX4_putOn 28 = .ok (.aload 4, 2) := by decide +kernel
theorem dX4_putOn_30 : decode cX4_putOn 30 = .ok (.getfield 182, 3) := by decide +kernel
theorem dX4_putOn_33 : decode cX4_putOn 33 = .ok (.invokevirtual 103, 3) := by decide +kernel
theorem dX4_putOn_36 : decode cX4_putOn 36 = .ok (.if_icmp .eq 14, 3) := by decide +kernel
theorem dX4_putOn_39 : decode cX4_putOn 39 = .ok (.new 89, 3) := by decide +kernel
theorem dX4_putOn_42 : decode cX4_putOn 42 = .ok (.dup, 1) := by decide +kernel
theorem dX4_putOn_43 : decode cX4_putOn 43 = .ok (.ldc_w 258, 3) := by decide +kernel
theorem dX4_putOn_46 : decode cX4_putOn 46 = .ok (.invokespecial 93, 3) := by decide +kernel
theorem dX4_putOn_49 : decode cX4_putOn 49 = .ok (.athrow, 1) := by decide +kernel
theorem dX4_putOn_50 : decode cX4_putOn 50 = .ok (.aload_n 0, 1) := by decide +kernel
theorem dX4_putOn_51 : decode cX4_putOn 51 = .ok (.aload 4, 2) := by decide +kernel
theorem dX4_putOn_53 : decode cX4_putOn 53 = .ok (.invokevirtual 260, 3) := by decide +kernel
theorem dX4_putOn_56 : decode cX4_putOn 56 = .ok (.astore 5, 2) := by decide +kernel
theorem dX4_putOn_58 : decode cX4_putOn 58 = .ok (.aload 5, 2) := by decide +kernel
theorem dX4_putOn_60 : decode cX4_putOn 60 = .ok (.aload_n 0, 1) := by decide +kernel
theorem dX4_putOn_61 : decode cX4_putOn 61 = .ok (.getfield 48, 3) := by decide +kernel
theorem dX4_putOn_64 : decode cX4_putOn 64 = .ok (.invokevirtual 139, 3) := by decide +kernel
theorem dX4_putOn_67 : decode cX4_putOn 67 = .ok (.aload_n 0, 1) := by decide +kernel
theorem dX4_putOn_68 : decode cX4_putOn 68 = .ok (.aload_n 3, 1) := by decide +kernel
theorem dX4_putOn_69 : decode cX4_putOn 69 = .ok (.aload 4, 2) := by decide +kernel
theorem dX4_putOn_71 : decode cX4_putOn 71 = .ok (.invokevirtual 243, 3) := by decide +kernel
theorem dX4_putOn_74 : decode cX4_putOn 74 = .ok (.aload 5, 2) := by decide +kernel
theorem dX4_putOn_76 : decode cX4_putOn 76 = .ok (.getfield 247, 3) := by decide +kernel
theorem dX4_putOn_79 : decode cX4_putOn 79 = .ok (.ireturn, 1) := by decide +kernel
theorem dX4_swapPlates_0 : decode cX4_swapPlates 0 = .ok (.aload_n 0, 1) := by decide +kernel
theorem dX4_swapPlates_1 : decode cX4_swapPlates 1 = .ok (.iload_n 1, 1) := by decide +kernel
theorem dX4_swapPlates_2 : decode cX4_swapPlates 2 = .ok (.invokevirtual 81, 3) := by decide +kernel
theorem dX4_swapPlates_5 : decode cX4_swapPlates 5 = .ok (.astore_n 3, 1) := by decide +kernel
theorem dX4_swapPlates_6 : decode cX4_swapPlates 6 = .ok (.aload_n 0, 1) := by decide +kernel
theorem dX4_swapPlates_7 : decode cX4_swapPlates 7 = .ok (.iload_n 2, 1) := by decide +kernel
theorem dX4_swapPlates_8 : decode cX4_swapPlates 8 = .ok (.invokevirtual 81, 3) := by decide +kernel
theorem dX4_swapPlates_11 : decode cX4_swapPlates 11 = .ok (.astore 4, 2) := by decide +kernel
theorem dX4_swapPlates_13 : decode cX4_swapPlates 13 = .ok (.iload_n 1, 1) := by decide +kernel
theorem dX4_swapPlates_14 : decode cX4_swapPlates 14 = .ok (.iload_n 2, 1) := by decide +kernel
theorem dX4_swapPlates_15 : decode cX4_swapPlates 15 = .ok (.if_icmp .eq 21, 3) := by decide +kernel
theorem dX4_swapPlates_18 : decode cX4_swapPlates 18 = .ok (.aload_n 3, 1) := by decide +kernel
theorem dX4_swapPlates_19 : decode cX4_swapPlates 19 = .ok (.getfield 182, 3) := by decide +kernel
theorem dX4_swapPlates_22 : decode cX4_swapPlates 22 = .ok (.invokevirtual 103, 3) := by decide +kernel
theorem dX4_swapPlates_25 : decode cX4_swapPlates 25 = .ok (.aload 4, 2) := by decide +kernel
theorem dX4_swapPlates_27 : decode cX4_swapPlates 27 = .ok (.getfield 182, 3) := by decide +kernel
theorem dX4_swapPlates_30 : decode cX4_swapPlates 30 = .ok (.invokevirtual 103, 3) := by decide +kernel
theorem dX4_swapPlates_33 : decode cX4_swapPlates 33 = .ok (.if_icmp .eq 14, 3) := by decide +kernel
theorem dX4_swapPlates_36 : decode cX4_swapPlates 36 = .ok (.new 89, 3) := by decide +kernel
theorem dX4_swapPlates_39 : decode cX4_swapPlates 39 = .ok (.dup, 1) := by decide +kernel
theorem dX4_swapPlates_40 : decode cX4_swapPlates 40 = .ok (.ldc_w 263, 3) := by decide +kernel
theorem dX4_swapPlates_43 : decode cX4_swapPlates 43 = .ok (.invokespecial 93, 3) := by decide +kernel
theorem dX4_swapPlates_46 : decode cX4_swapPlates 46 = .ok (.athrow, 1) := by decide +kernel
theorem dX4_swapPlates_47 : decode cX4_swapPlates 47 = .ok (.aload_n 0, 1) := by decide +kernel
theorem dX4_swapPlates_48 : decode cX4_swapPlates 48 = .ok (.aload_n 3, 1) := by decide +kernel
theorem dX4_swapPlates_49 : decode cX4_swapPlates 49 = .ok (.invokevirtual 260, 3) := by decide +kernel
theorem dX4_swapPlates_52 : decode cX4_swapPlates 52 = .ok (.astore 5, 2) := by decide +kernel
theorem dX4_swapPlates_54 : decode cX4_swapPlates 54 = .ok (.aload_n 0, 1) := by decide +kernel
theorem dX4_swapPlates_55 : decode cX4_swapPlates 55 = .ok (.aload 4, 2) := by decide +kernel
theorem dX4_swapPlates_57 : decode cX4_swapPlates 57 = .ok (.invokevirtual 260, 3) := by decide +kernel
theorem dX4_swapPlates_60 : decode cX4_swapPlates 60 = .ok (.astore 6, 2) := by decide +kernel
theorem dX4_swapPlates_62 : decode cX4_swapPlates 62 = .ok (.aload_n 0, 1) := by decide +kernel
theorem dX4_swapPlates_63 : decode cX4_swapPlates 63 = .ok (.aload 6, 2) := by decide +kernel
theorem dX4_swapPlates_65 : decode cX4_swapPlates 65 = .ok (.aload_n 3, 1) := by decide +kernel
theorem dX4_swapPlates_66 : decode cX4_swapPlates 66 = .ok (.invokevirtual 243, 3) := by decide +kernel
theorem dX4_swapPlates_69 : decode cX4_swapPlates 69 = .ok (.aload_n 0, 1) := by decide +kernel
theorem dX4_swapPlates_70 : decode cX4_swapPlates 70 = .ok (.aload 5, 2) := by decide +kernel
theorem dX4_swapPlates_72 : decode cX4_swapPlates 72 = .ok (.aload 4, 2) := by decide +kernel
theorem dX4_swapPlates_74 : decode cX4_swapPlates 74 = .ok (.invokevirtual 243, 3) := by decide +kernel
theorem dX4_swapPlates_77 : decode cX4_swapPlates 77 = .ok (.aload 6, 2) := by decide +kernel
theorem dX4_swapPlates_79 : decode cX4_swapPlates 79 = .ok (.getfield 247, 3) := by decide +kernel
theorem dX4_swapPlates_82 : decode cX4_swapPlates 82 = .ok (.ireturn, 1) := by decide +kernel
theorem dX4_plateState_0 : decode cX4_plateState 0 = .ok (.aload_n 0, 1) := by decide +kernel
theorem dX4_plateState_1 : decode cX4_plateState 1 = .ok (.iload_n 1, 1) := by decide +kernel
theorem dX4_plateState_2 : decode cX4_plateState 2 = .ok (.invokevirtual 248, 3) := by decide +kernel
theorem dX4_plateState_5 : decode cX4_plateState 5 = .ok (.astore_n 2, 1) := by decide +kernel
theorem dX4_plateState_6 : decode cX4_plateState 6 = .ok (.aload_n 2, 1) := by decide +kernel
theorem dX4_plateState_7 : decode cX4_plateState 7 = .ok (.getfield 265, 3) := by decide +kernel
theorem dX4_plateState_10 : decode cX4_plateState 10 = .ok (.invokevirtual 103, 3) := by decide +kernel
theorem dX4_plateState_13 : decode cX4_plateState 13 = .ok (.iconst (-1), 1) := by decide +kernel
theorem dX4_plateState_14 : decode cX4_plateState 14 = .ok (.if_icmp .eq 6, 3) := by decide +kernel
theorem dX4_plateState_17 : decode cX4_plateState 17 = .ok (.bipush 118, 2) := by decide +kernel
theorem dX4_plateState_19 : decode cX4_plateState 19 = .ok (.ireturn, 1) := by decide +kernel
theorem dX4_plateState_20 : decode cX4_plateState 20 = .ok (.aload_n 2, 1) := by decide +kernel
theorem dX4_plateState_21 : decode cX4_plateState 21 = .ok (.aload_n 0, 1) := by decide +kernel
theorem dX4_plateState_22 : decode cX4_plateState 22 = .ok (.getfield 48, 3) := by decide +kernel
theorem dX4_plateState_25 : decode cX4_plateState 25 = .ok (.invokevirtual 252, 3) := by decide +kernel
theorem dX4_plateState_28 : decode cX4_plateState 28 = .ok (.ifCond .eq 8, 3) := by decide +kernel
theorem dX4_plateState_31 : decode cX4_plateState 31 = .ok (.bipush 107, 2) := by decide +kernel
theorem dX4_plateState_33 : decode cX4_plateState 33 = .ok (.goto 5, 3) := by decide +kernel
theorem dX4_plateState_36 : decode cX4_plateState 36 = .ok (.bipush 120, 2) := by decide +kernel
theorem dX4_plateState_38 : decode cX4_plateState 38 = .ok (.ireturn, 1) := by decide +kernel
theorem dX4_daysKept_0 : decode cX4_daysKept 0 = .ok (.aload_n 0, 1) := by decide +kernel
theorem dX4_daysKept_1 : decode cX4_daysKept 1 = .ok (.iload_n 1, 1) := by decide +kernel
theorem dX4_daysKept_2 : decode cX4_daysKept 2 = .ok (.invokevirtual 248, 3) := by decide +kernel
theorem dX4_daysKept_5 : decode cX4_daysKept 5 = .ok (.astore_n 2, 1) := by decide +kernel
theorem dX4_daysKept_6 : decode cX4_daysKept 6 = .ok (.aload_n 2, 1) := by decide +kernel
theorem dX4_daysKept_7 : decode cX4_daysKept 7 = .ok (.aload_n 0, 1) := by decide +kernel
theorem dX4_daysKept_8 : decode cX4_daysKept 8 = .ok (.getfield 48, 3) := by decide +kernel
theorem dX4_daysKept_11 : decode cX4_daysKept 11 = .ok (.invokevirtual 252, 3) := by decide +kernel
theorem dX4_daysKept_14 : decode cX4_daysKept 14 = .ok (.ifCond .ne 14, 3) := by decide +kernel
theorem dX4_daysKept_17 : decode cX4_daysKept 17 = .ok (.new 41, 3) := by decide +kernel
theorem dX4_daysKept_20 : decode cX4_daysKept 20 = .ok (.dup, 1) := by decide +kernel
theorem dX4_daysKept_21 : decode cX4_daysKept 21 = .ok (.ldc_w 268, 3) := by decide +kernel
theorem dX4_daysKept_24 : decode cX4_daysKept 24 = .ok (.invokespecial 45, 3) := by decide +kernel
theorem dX4_daysKept_27 : decode cX4_daysKept 27 = .ok (.athrow, 1) := by decide +kernel
theorem dX4_daysKept_28 : decode cX4_daysKept 28 = .ok (.aload_n 2, 1) := by decide +kernel
theorem dX4_daysKept_29 : decode cX4_daysKept 29 = .ok (.invokevirtual 270, 3) := by decide +kernel
theorem dX4_daysKept_32 : decode cX4_daysKept 32 = .ok (.aload_n 0, 1) := by decide +kernel
theorem dX4_daysKept_33 : decode cX4_daysKept 33 = .ok (.getfield 48, 3) := by decide +kernel
theorem dX4_daysKept_36 : decode cX4_daysKept 36 = .ok (.isub, 1) := by decide +kernel
theorem dX4_daysKept_37 : decode cX4_daysKept 37 = .ok (.ireturn, 1) := by decide +kernel
theorem dX4_plates_0 : decode cX4_plates 0 = .ok (.aload_n 0, 1) := by decide +kernel
theorem dX4_plates_1 : decode cX4_plates 1 = .ok (.getfield 273, 3) := by decide +kernel
theorem dX4_plates_4 : decode cX4_plates 4 = .ok (.ireturn, 1) := by decide +kernel
theorem dX4_plateOn_0 : decode cX4_plateOn 0 = .ok (.aload_n 0, 1) := by decide +kernel
theorem dX4_plateOn_1 : decode cX4_plateOn 1 = .ok (.iload_n 1, 1) := by decide +kernel
theorem dX4_plateOn_2 : decode cX4_plateOn 2 = .ok (.invokevirtual 81, 3) := by decide +kernel
theorem dX4_plateOn_5 : decode cX4_plateOn 5 = .ok (.astore_n 3, 1) := by decide +kernel
theorem dX4_plateOn_6 : decode cX4_plateOn 6 = .ok (.aload_n 0, 1) := by decide +kernel
theorem dX4_plateOn_7 : decode cX4_plateOn 7 = .ok (.iload_n 2, 1) := by decide +kernel
theorem dX4_plateOn_8 : decode cX4_plateOn 8 = .ok (.invokevirtual 125, 3) := by decide +kernel
theorem dX4_plateOn_11 : decode cX4_plateOn 11 = .ok (.aload_n 3, 1) := by decide +kernel
theorem dX4_plateOn_12 : decode cX4_plateOn 12 = .ok (.getfield 99, 3) := by decide +kernel
theorem dX4_plateOn_15 : decode cX4_plateOn 15 = .ok (.iload_n 2, 1) := by decide +kernel
theorem dX4_plateOn_16 : decode cX4_plateOn 16 = .ok (.invokevirtual 128, 3) := by decide +kernel
theorem dX4_plateOn_19 : decode cX4_plateOn 19 = .ok (.invokestatic 185, 3) := by decide +kernel
theorem dX4_plateOn_22 : decode cX4_plateOn 22 = .ok (.ireturn, 1) := by decide +kernel
theorem dX4_vehicleWith_0 : decode cX4_vehicleWith 0 = .ok (.aload_n 0, 1) := by decide +kernel
theorem dX4_vehicleWith_1 : decode cX4_vehicleWith 1 = .ok (.iload_n 1, 1) := by decide +kernel
theorem dX4_vehicleWith_2 : decode cX4_vehicleWith 2 = .ok (.invokevirtual 248, 3) := by decide +kernel
theorem dX4_vehicleWith_5 : decode cX4_vehicleWith 5 = .ok (.astore_n 3, 1) := by decide +kernel
theorem dX4_vehicleWith_6 : decode cX4_vehicleWith 6 = .ok (.aload_n 0, 1) := by decide +kernel
theorem dX4_vehicleWith_7 : decode cX4_vehicleWith 7 = .ok (.iload_n 2, 1) := by decide +kernel
theorem dX4_vehicleWith_8 : decode cX4_vehicleWith 8 = .ok (.invokevirtual 125, 3) := by decide +kernel
theorem dX4_vehicleWith_11 : decode cX4_vehicleWith 11 = .ok (.aload_n 3, 1) := by decide +kernel
theorem dX4_vehicleWith_12 : decode cX4_vehicleWith 12 = .ok (.getfield 265, 3) := by decide +kernel
theorem dX4_vehicleWith_15 : decode cX4_vehicleWith 15 = .ok (.iload_n 2, 1) := by decide +kernel
theorem dX4_vehicleWith_16 : decode cX4_vehicleWith 16 = .ok (.invokevirtual 128, 3) := by decide +kernel
theorem dX4_vehicleWith_19 : decode cX4_vehicleWith 19 = .ok (.invokestatic 276, 3) := by decide +kernel
theorem dX4_vehicleWith_22 : decode cX4_vehicleWith 22 = .ok (.ireturn, 1) := by decide +kernel
theorem dX4_vehicleByVehicles_0 : decode cX4_vehicleByVehicles 0 = .ok (.aload_n 0, 1) := by decide +kernel
theorem dX4_vehicleByVehicles_1 : decode cX4_vehicleByVehicles 1 = .ok (.iload_n 1, 1) := by decide +kernel
theorem dX4_vehicleByVehicles_2 : decode cX4_vehicleByVehicles 2 = .ok (.invokevirtual 248, 3) := by decide +kernel
theorem dX4_vehicleByVehicles_5 : decode cX4_vehicleByVehicles 5 = .ok (.astore_n 3, 1) := by decide +kernel
theorem dX4_vehicleByVehicles_6 : decode cX4_vehicleByVehicles 6 = .ok (.aload_n 0, 1) := by decide +kernel
theorem dX4_vehicleByVehicles_7 : decode cX4_vehicleByVehicles 7 = .ok (.iload_n 2, 1) := by decide +kernel
theorem dX4_vehicleByVehicles_8 : decode cX4_vehicleByVehicles 8 = .ok (.invokevirtual 125, 3) := by decide +kernel
theorem dX4_vehicleByVehicles_11 : decode cX4_vehicleByVehicles 11 = .ok (.aload_n 0, 1) := by decide +kernel
theorem dX4_vehicleByVehicles_12 : decode cX4_vehicleByVehicles 12 = .ok (.aload_n 3, 1) := by decide +kernel
theorem dX4_vehicleByVehicles_13 : decode cX4_vehicleByVehicles 13 = .ok (.getfield 247, 3) := by decide +kernel
theorem dX4_vehicleByVehicles_16 : decode cX4_vehicleByVehicles 16 = .ok (.iload_n 2, 1) := by decide +kernel
theorem dX4_vehicleByVehicles_17 : decode cX4_vehicleByVehicles 17 = .ok (.invokevirtual 279, 3) := by decide +kernel
theorem dX4_vehicleByVehicles_20 : decode cX4_vehicleByVehicles 20 = .ok (.invokestatic 276, 3) := by decide +kernel
theorem dX4_vehicleByVehicles_23 : decode cX4_vehicleByVehicles 23 = .ok (.ireturn, 1) := by decide +kernel
theorem dX4_due_0 : decode cX4_due 0 = .ok (.aload_n 0, 1) := by decide +kernel
theorem dX4_due_1 : decode cX4_due 1 = .ok (.iload_n 1, 1) := by decide +kernel
theorem dX4_due_2 : decode cX4_due 2 = .ok (.invokevirtual 81, 3) := by decide +kernel
theorem dX4_due_5 : decode cX4_due 5 = .ok (.astore_n 3, 1) := by decide +kernel
theorem dX4_due_6 : decode cX4_due 6 = .ok (.iload_n 2, 1) := by decide +kernel
theorem dX4_due_7 : decode cX4_due 7 = .ok (.ifCond .lt 14, 3) := by decide +kernel
theorem dX4_due_10 : decode cX4_due 10 = .ok (.iload_n 2, 1) := by decide +kernel
theorem dX4_due_11 : decode cX4_due 11 = .ok (.aload_n 0, 1) := by decide +kernel
theorem dX4_due_12 : decode cX4_due 12 = .ok (.getfield 48, 3) := by decide +kernel
theorem dX4_due_15 : decode cX4_due 15 = .ok (.bipush 90, 2) := by decide +kernel
theorem dX4_due_17 : decode cX4_due 17 = .ok (.idiv, 1) := by decide +kernel
theorem dX4_due_18 : decode cX4_due 18 = .ok (.if_icmp .le 14, 3) := by decide +kernel
theorem dX4_due_21 : decode cX4_due 21 = .ok (.new 51, 3) := by decide +kernel
theorem dX4_due_24 : decode cX4_due 24 = .ok (.dup, 1) := by decide +kernel
theorem dX4_due_25 : decode cX4_due 25 = .ok (.ldc_w 283, 3) := by decide +kernel
theorem dX4_due_28 : decode cX4_due 28 = .ok (.invokespecial 55, 3) := by decide +kernel
theorem dX4_due_31 : decode cX4_due 31 = .ok (.athrow, 1) := by decide +kernel
theorem dX4_due_32 : decode cX4_due 32 = .ok (.aload_n 0, 1) := by decide +kernel
theorem dX4_due_33 : decode cX4_due 33 = .ok (.aload_n 3, 1) := by decide +kernel
theorem dX4_due_34 : decode cX4_due 34 = .ok (.iload_n 2, 1) := by decide +kernel
theorem dX4_due_35 : decode cX4_due 35 = .ok (.invokevirtual 285, 3) := by decide +kernel
theorem dX4_due_38 : decode cX4_due 38 = .ok (.iconst (-1), 1) := by decide +kernel
theorem dX4_due_39 : decode cX4_due 39 = .ok (.if_icmp .ne 7, 3) := by decide +kernel
theorem dX4_due_42 : decode cX4_due 42 = .ok (.iconst 0, 1) := by decide +kernel
theorem dX4_due_43 : decode cX4_due 43 = .ok (.goto 10, 3) := by decide +kernel
theorem dX4_due_46 : decode cX4_due 46 = .ok (.aload_n 3, 1) := by decide +kernel
theorem dX4_due_47 : decode cX4_due 47 = .ok (.getfield 145, 3) := by decide +kernel
theorem dX4_due_50 : decode cX4_due 50 = .ok (.invokestatic 289, 3) := by decide +kernel
theorem dX4_due_53 : decode cX4_due 53 = .ok (.ireturn, 1) := by decide +kernel
theorem dX4_owes_0 : decode cX4_owes 0 = .ok (.aload_n 0, 1) := by decide +kernel
theorem dX4_owes_1 : decode cX4_owes 1 = .ok (.iload_n 1, 1) := by decide +kernel
theorem dX4_owes_2 : decode cX4_owes 2 = .ok (.invokevirtual 56, 3) := by decide +kernel
theorem dX4_owes_5 : decode cX4_owes 5 = .ok (.aload_n 0, 1) := by decide +kernel
theorem dX4_owes_6 : decode cX4_owes 6 = .ok (.invokevirtual 292, 3) := by decide +kernel
theorem dX4_owes_9 : decode cX4_owes 9 = .ok (.aload_n 0, 1) := by decide +kernel
theorem dX4_owes_10 : decode cX4_owes 10 = .ok (.getfield 31, 3) := by decide +kernel
theorem dX4_owes_13 : decode cX4_owes 13 = .ok (.iload_n 1, 1) := by decide +kernel
theorem dX4_owes_14 : decode cX4_owes 14 = .ok (.invokestatic 295, 3) := by decide +kernel
theorem dX4_owes_17 : decode cX4_owes 17 = .ok (.ireturn, 1) := by decide +kernel
theorem dX4_owesByDays_0 : decode cX4_owesByDays 0 = .ok (.aload_n 0, 1) := by decide +kernel
theorem dX4_owesByDays_1 : decode cX4_owesByDays 1 = .ok (.iload_n 1, 1) := by decide +kernel
theorem dX4_owesByDays_2 : decode cX4_owesByDays 2 = .ok (.invokevirtual 56, 3) := by decide +kernel
theorem dX4_owesByDays_5 : decode cX4_owesByDays 5 = .ok (.aload_n 0, 1) := by decide +kernel
theorem dX4_owesByDays_6 : decode cX4_owesByDays 6 = .ok (.invokevirtual 299, 3) := by decide +kernel
theorem dX4_owesByDays_9 : decode cX4_owesByDays 9 = .ok (.aload_n 0, 1) := by decide +kernel
theorem dX4_owesByDays_10 : decode cX4_owesByDays 10 = .ok (.getfield 34, 3) := by decide +kernel
theorem dX4_owesByDays_13 : decode cX4_owesByDays 13 = .ok (.iload_n 1, 1) := by decide +kernel
theorem dX4_owesByDays_14 : decode cX4_owesByDays 14 = .ok (.invokestatic 295, 3) := by decide +kernel
theorem dX4_owesByDays_17 : decode cX4_owesByDays 17 = .ok (.ireturn, 1) := by decide +kernel
theorem dX4_pay_0 : decode cX4_pay 0 = .ok (.aload_n 0, 1) := by decide +kernel
theorem dX4_pay_1 : decode cX4_pay 1 = .ok (.iload_n 1, 1) := by decide +kernel
theorem dX4_pay_2 : decode cX4_pay 2 = .ok (.invokevirtual 56, 3) := by decide +kernel
theorem dX4_pay_5 : decode cX4_pay 5 = .ok (.iload_n 2, 1) := by decide +kernel
theorem dX4_pay_6 : decode cX4_pay 6 = .ok (.iconst 1, 1) := by decide +kernel
theorem dX4_pay_7 : decode cX4_pay 7 = .ok (.if_icmp .lt 10, 3) := by decide +kernel
theorem dX4_pay_10 : decode cX4_pay 10 = .ok (.iload_n 2, 1) := by decide +kernel
theorem dX4_pay_11 : decode cX4_pay 11 = .ok (.sipush 9999, 3) := by decide +kernel
theorem dX4_pay_14 : decode cX4_pay 14 = .ok (.if_icmp .le 13, 3) := by decide +kernel
theorem dX4_pay_17 : decode cX4_pay 17 = .ok (.new 51, 3) := by decide +kernel
theorem dX4_pay_20 : decode cX4_pay 20 = .ok (.dup, 1) := by decide +kernel
theorem dX4_pay_21 : decode cX4_pay 21 = .ok (.ldc 223, 2) := by decide +kernel
theorem dX4_pay_23 : decode cX4_pay 23 = .ok (.invokespecial 55, 3) := by decide +kernel
theorem dX4_pay_26 : decode cX4_pay 26 = .ok (.athrow, 1) := by decide +kernel
theorem dX4_pay_27 : decode cX4_pay 27 = .ok (.aload_n 0, 1) := by decide +kernel
theorem dX4_pay_28 : decode cX4_pay 28 = .ok (.getfield 27, 3) := by decide +kernel
theorem dX4_pay_31 : decode cX4_pay 31 = .ok (.iload_n 1, 1) := by decide +kernel
theorem dX4_pay_32 : decode cX4_pay 32 = .ok (.iload_n 2, 1) := by decide +kernel
theorem dX4_pay_33 : decode cX4_pay 33 = .ok (.invokestatic 211, 3) := by decide +kernel
theorem dX4_pay_36 : decode cX4_pay 36 = .ok (.aload_n 0, 1) := by decide +kernel
theorem dX4_pay_37 : decode cX4_pay 37 = .ok (.dup, 1) := by decide +kernel
theorem dX4_pay_38 : decode cX4_pay 38 = .ok (.getfield 302, 3) := by decide +kernel
theorem dX4_pay_41 : decode cX4_pay 41 = .ok (.iload_n 2, 1) := by decide +kernel
theorem dX4_pay_42 : decode cX4_pay 42 = .ok (.i2l, 1) := by decide +kernel
theorem dX4_pay_43 : decode cX4_pay 43 = .ok (.ladd, 1) := by decide +kernel
theorem dX4_pay_44 : decode cX4_pay 44 = .ok (.putfield 302, 3) := by decide +kernel
theorem dX4_pay_47 : decode cX4_pay 47 = .ok (.aload_n 0, 1) := by decide +kernel
theorem dX4_pay_48 : decode cX4_pay 48 = .ok (.invokevirtual 292, 3) := by decide +kernel
theorem dX4_pay_51 : decode cX4_pay 51 = .ok (.aload_n 0, 1) := by decide +kernel
theorem dX4_pay_52 : decode cX4_pay 52 = .ok (.getfield 31, 3) := by decide +kernel
theorem dX4_pay_55 : decode cX4_pay 55 = .ok (.iload_n 1, 1) := by decide +kernel
theorem dX4_pay_56 : decode cX4_pay 56 = .ok (.invokestatic 295, 3) := by decide +kernel
theorem dX4_pay_59 : decode cX4_pay 59 = .ok (.ireturn, 1) := by decide +kernel
theorem dX4_mostOwing_0 : decode cX4_mostOwing 0 = .ok (.aload_n 0, 1) := by decide +kernel
theorem dX4_mostOwing_1 : decode cX4_mostOwing 1 = .ok (.invokevirtual 292, 3) := by decide +kernel
theorem dX4_mostOwing_4 : decode cX4_mostOwing 4 = .ok (.iconst (-1), 1) := by decide +kernel
theorem dX4_mostOwing_5 : decode cX4_mostOwing 5 = .ok (.istore_n 1, 1) := by decide +kernel
theorem dX4_mostOwing_6 : decode cX4_mostOwing 6 = .ok (.iconst 0, 1) := by decide +kernel
theorem dX4_mostOwing_7 : decode cX4_mostOwing 7 = .ok (.istore_n 2, 1) := by decide +kernel
theorem dX4_mostOwing_8 : decode cX4_mostOwing 8 = .ok (.iconst 0, 1) := by decide +kernel
theorem dX4_mostOwing_9 : decode cX4_mostOwing 9 = .ok (.istore_n 3, 1) := by decide +kernel
theorem dX4_mostOwing_10 : decode cX4_mostOwing 10 = .ok (.iload_n 3, 1) := by decide +kernel
theorem dX4_mostOwing_11 : decode cX4_mostOwing 11 = .ok (.aload_n 0, 1) := by decide +kernel
theorem dX4_mostOwing_12 : decode cX4_mostOwing 12 = .ok (.getfield 37, 3) := by decide +kernel
theorem dX4_mostOwing_15 : decode cX4_mostOwing 15 = .ok (.if_icmp .ge 32, 3) := by decide +kernel
theorem dX4_mostOwing_18 : decode cX4_mostOwing 18 = .ok (.aload_n 0, 1) := by decide +kernel
theorem dX4_mostOwing_19 : decode cX4_mostOwing 19 = .ok (.getfield 31, 3) := by decide +kernel
theorem dX4_mostOwing_22 : decode cX4_mostOwing 22 = .ok (.iload_n 3, 1) := by decide +kernel
theorem dX4_mostOwing_23 : decode cX4_mostOwing 23 = .ok (.invokestatic 295, 3) := by decide +kernel
theorem dX4_mostOwing_26 : decode cX4_mostOwing 26 = .ok (.iload_n 2, 1) := by decide +kernel
theorem dX4_mostOwing_27 : decode cX4_mostOwing 27 = .ok (.if_icmp .le 14, 3) := by decide +kernel
theorem dX4_mostOwing_30 : decode cX4_mostOwing 30 = .ok (.iload_n 3, 1) := by decide +kernel
theorem dX4_mostOwing_31 : decode cX4_mostOwing 31 = .ok (.istore_n 1, 1) := by decide +kernel
theorem dX4_mostOwing_32 : decode cX4_mostOwing 32 = .ok (.aload_n 0, 1) := by decide +kernel
theorem dX4_mostOwing_33 : decode cX4_mostOwing 33 = .ok (.getfield 31, 3) := by decide +kernel
theorem dX4_mostOwing_36 : decode cX4_mostOwing 36 = .ok (.iload_n 3, 1) := by decide +kernel
theorem dX4_mostOwing_37 : decode cX4_mostOwing 37 = .ok (.invokestatic 295, 3) := by decide +kernel
theorem dX4_mostOwing_40 : decode cX4_mostOwing 40 = .ok (.istore_n 2, 1) := by decide +kernel
theorem dX4_mostOwing_41 : decode cX4_mostOwing 41 = .ok (.iinc 3 1, 3) := by decide +kernel
theorem dX4_mostOwing_44 : decode cX4_mostOwing 44 = .ok (.goto (-34), 3) := by decide +kernel
theorem dX4_mostOwing_47 : decode cX4_mostOwing 47 = .ok (.iload_n 1, 1) := by decide +kernel
theorem dX4_mostOwing_48 : decode cX4_mostOwing 48 = .ok (.invokestatic 185, 3) := by decide +kernel
theorem dX4_mostOwing_51 : decode cX4_mostOwing 51 = .ok (.ireturn, 1) := by decide +kernel
theorem dX4_collected_0 : decode cX4_collected 0 = .ok (.aload_n 0, 1) := by decide +kernel
theorem dX4_collected_1 : decode cX4_collected 1 = .ok (.getfield 302, 3) := by decide +kernel
theorem dX4_collected_4 : decode cX4_collected 4 = .ok (.lreturn, 1) := by decide +kernel
theorem dX4_roadShare_0 : decode cX4_roadShare 0 = .ok (.aload_n 0, 1) := by decide +kernel
theorem dX4_roadShare_1 : decode cX4_roadShare 1 = .ok (.invokevirtual 306, 3) := by decide +kernel
theorem dX4_roadShare_4 : decode cX4_roadShare 4 = .ok (.iconst 0, 1) := by decide +kernel
theorem dX4_roadShare_5 : decode cX4_roadShare 5 = .ok (.istore_n 1, 1) := by decide +kernel
theorem dX4_roadShare_6 : decode cX4_roadShare 6 = .ok (.aload_n 0, 1) := by decide +kernel
theorem dX4_roadShare_7 : decode cX4_roadShare 7 = .ok (.getfield 11, 3) := by decide +kernel
theorem dX4_roadShare_10 : decode cX4_roadShare 10 = .ok (.astore_n 2, 1) := by decide +kernel
theorem dX4_roadShare_11 : decode cX4_roadShare 11 = .ok (.aload_n 2, 1) := by decide +kernel
theorem dX4_roadShare_12 : decode cX4_roadShare 12 = .ok (.arraylength, 1) := by decide +kernel
theorem dX4_roadShare_13 : decode cX4_roadShare 13 = .ok (.istore_n 3, 1) := by decide +kernel
theorem dX4_roadShare_14 : decode cX4_roadShare 14 = .ok (.iconst 0, 1) := by decide +kernel
theorem dX4_roadShare_15 : decode cX4_roadShare 15 = .ok (.istore 4, 2) := by decide +kernel
theorem dX4_roadShare_17 : decode cX4_roadShare 17 = .ok (.iload 4, 2) := by decide +kernel
theorem dX4_roadShare_19 : decode cX4_roadShare 19 = .ok (.iload_n 3, 1) := by decide +kernel
theorem dX4_roadShare_20 : decode cX4_roadShare 20 = .ok (.if_icmp .ge 31, 3) := by decide +kernel
theorem dX4_roadShare_23 : decode cX4_roadShare 23 = .ok (.aload_n 2, 1) := by decide +kernel
theorem dX4_roadShare_24 : decode cX4_roadShare 24 = .ok (.iload 4, 2) := by decide +kernel
theorem dX4_roadShare_26 : decode cX4_roadShare 26 = .ok (.aaload, 1) := by decide +kernel
theorem dX4_roadShare_27 : decode cX4_roadShare 27 = .ok (.astore 5, 2) := by decide +kernel
theorem dX4_roadShare_29 : decode cX4_roadShare 29 = .ok (.aload 5, 2) := by decide +kernel
theorem dX4_roadShare_31 : decode cX4_roadShare 31 = .ok (.ifnull 14, 3) := by decide +kernel
theorem dX4_roadShare_34 : decode cX4_roadShare 34 = .ok (.aload 5, 2) := by decide +kernel
theorem dX4_roadShare_36 : decode cX4_roadShare 36 = .ok (.invokevirtual 115, 3) := by decide +kernel
theorem dX4_roadShare_39 : decode cX4_roadShare 39 = .ok (.ifCond .eq 6, 3) := by decide +kernel
theorem dX4_roadShare_42 : decode cX4_roadShare 42 = .ok (.iinc 1 1, 3) := by decide +kernel
theorem dX4_roadShare_45 : decode cX4_roadShare 45 = .ok (.iinc 4 1, 3) := by decide +kernel
theorem dX4_roadShare_48 : decode cX4_roadShare 48 = .ok (.goto (-31), 3) := by decide +kernel
theorem dX4_roadShare_51 : decode cX4_roadShare 51 = .ok (.iload_n 1, 1) := by decide +kernel
theorem dX4_roadShare_52 : decode cX4_roadShare 52 = .ok (.i2f, 1) := by decide +kernel
theorem dX4_roadShare_53 : decode cX4_roadShare 53 = .ok (.aload_n 0, 1) := by decide +kernel
theorem dX4_roadShare_54 : decode cX4_roadShare 54 = .ok (.getfield 149, 3) := by decide +kernel
theorem dX4_roadShare_57 : decode cX4_roadShare 57 = .ok (.i2f, 1) := by decide +kernel
theorem dX4_roadShare_58 : decode cX4_roadShare 58 = .ok (.fdiv, 1) := by decide +kernel
theorem dX4_roadShare_59 : decode cX4_roadShare 59 = .ok (.freturn, 1) := by decide +kernel
theorem dX4_meanTransfers_0 : decode cX4_meanTransfers 0 = .ok (.aload_n 0, 1) := by decide +kernel
theorem dX4_meanTransfers_1 : decode cX4_meanTransfers 1 = .ok (.invokevirtual 306, 3) := by decide +kernel
theorem dX4_meanTransfers_4 : decode cX4_meanTransfers 4 = .ok (.iconst 0, 1) := by decide +kernel
theorem dX4_meanTransfers_5 : decode cX4_meanTransfers 5 = .ok (.istore_n 1, 1) := by decide +kernel
theorem dX4_meanTransfers_6 : decode cX4_meanTransfers 6 = .ok (.aload_n 0, 1) := by decide +kernel
theorem dX4_meanTransfers_7 : decode cX4_meanTransfers 7 = .ok (.getfield 11, 3) := by decide +kernel
theorem dX4_meanTransfers_10 : decode cX4_meanTransfers 10 = .ok (.astore_n 2, 1) := by decide +kernel
theorem dX4_meanTransfers_11 : decode cX4_meanTransfers 11 = .ok (.aload_n 2, 1) := by decide +kernel
theorem dX4_meanTransfers_12 : decode cX4_meanTransfers 12 = .ok (.arraylength, 1) := by decide +kernel
theorem dX4_meanTransfers_13 : decode cX4_meanTransfers 13 = .ok (.istore_n 3, 1) := by decide +kernel
theorem dX4_meanTransfers_14 : decode cX4_meanTransfers 14 = .ok (.iconst 0, 1) := by decide +kernel
theorem dX4_meanTransfers_15 : decode cX4_meanTransfers 15 = .ok (.istore 4, 2) := by decide +kernel
theorem dX4_meanTransfers_17 : decode cX4_meanTransfers 17 = .ok (.iload 4, 2) := by decide +kernel
theorem dX4_meanTransfers_19 : decode cX4_meanTransfers 19 = .ok (.iload_n 3, 1) := by decide +kernel
theorem dX4_meanTransfers_20 : decode cX4_meanTransfers 20 = .ok (.if_icmp .ge 31, 3) := by decide +kernel
theorem dX4_meanTransfers_23 : decode cX4_meanTransfers 23 = .ok (.aload_n 2, 1) := by decide +kernel
theorem dX4_meanTransfers_24 : decode cX4_meanTransfers 24 = .ok (.iload 4, 2) := by decide +kernel
theorem dX4_meanTransfers_26 : decode cX4_meanTransfers 26 = .ok (.aaload, 1) := by decide +kernel
theorem dX4_meanTransfers_27 : decode cX4_meanTransfers 27 = .ok (.astore 5, 2) := by decide +kernel
theorem dX4_meanTransfers_29 : decode cX4_meanTransfers 29 = .ok (.aload 5, 2) := by decide +kernel
theorem dX4_meanTransfers_31 : decode cX4_meanTransfers 31 = .ok (.ifnull 14, 3) := by decide +kernel
theorem dX4_meanTransfers_34 : decode cX4_meanTransfers 34 = .ok (.iload_n 1, 1) := by decide +kernel
theorem dX4_meanTransfers_35 : decode cX4_meanTransfers 35 = .ok (.aload 5, 2) := by decide +kernel
theorem dX4_meanTransfers_37 : decode cX4_meanTransfers 37 = .ok (.getfield 182, 3) := by decide +kernel
theorem dX4_meanTransfers_40 : decode cX4_meanTransfers 40 = .ok (.getfield 191, 3) := by decide +kernel
theorem dX4_meanTransfers_43 : decode cX4_meanTransfers 43 = .ok (.iadd, 1) := by decide +kernel
theorem dX4_meanTransfers_44 : decode cX4_meanTransfers 44 = .ok (.istore_n 1, 1) := by decide +kernel
theorem dX4_meanTransfers_45 : decode cX4_meanTransfers 45 = .ok (.iinc 4 1, 3) := by decide +kernel
theorem dX4_meanTransfers_48 : decode cX4_meanTransfers 48 = .ok (.goto (-31), 3) := by decide +kernel
theorem dX4_meanTransfers_51 : decode cX4_meanTransfers 51 = .ok (.iload_n 1, 1) := by decide +kernel
theorem dX4_meanTransfers_52 : decode cX4_meanTransfers 52 = .ok (.i2d, 1) := by decide +kernel
theorem dX4_meanTransfers_53 : decode cX4_meanTransfers 53 = .ok (.aload_n 0, 1) := by decide +kernel
theorem dX4_meanTransfers_54 : decode cX4_meanTransfers 54 = .ok (.getfield 149, 3) := by decide +kernel
theorem dX4_meanTransfers_57 : decode cX4_meanTransfers 57 = .ok (.i2d, 1) := by decide +kernel
theorem dX4_meanTransfers_58 : decode cX4_meanTransfers 58 = .ok (.ddiv, 1) := by decide +kernel
theorem dX4_meanTransfers_59 : decode cX4_meanTransfers 59 = .ok (.dreturn, 1) := by decide +kernel
theorem dX4_isSound_0 : decode cX4_isSound 0 = .ok (.aload_n 0, 1) := by decide +kernel
theorem dX4_isSound_1 : decode cX4_isSound 1 = .ok (.invokevirtual 309, 3) := by decide +kernel
theorem dX4_isSound_4 : decode cX4_isSound 4 = .ok (.ifCond .eq 14, 3) := by decide +kernel
theorem dX4_isSound_7 : decode cX4_isSound 7 = .ok (.aload_n 0, 1) := by decide +kernel
theorem dX4_isSound_8 : decode cX4_isSound 8 = .ok (.invokevirtual 312, 3) := by decide +kernel
theorem dX4_isSound_11 : decode cX4_isSound 11 = .ok (.ifCond .eq 7, 3) := by decide +kernel
theorem dX4_isSound_14 : decode cX4_isSound 14 = .ok (.iconst 1, 1) := by decide +kernel
theorem dX4_isSound_15 : decode cX4_isSound 15 = .ok (.goto 4, 3) := by decide +kernel
theorem dX4_isSound_18 : decode cX4_isSound 18 = .ok (.iconst 0, 1) := by decide +kernel
theorem dX4_isSound_19 : decode cX4_isSound 19 = .ok (.ireturn, 1) := by decide +kernel
theorem dX4_requireKeeper_0 : decode cX4_requireKeeper 0 = .ok (.iload_n 1, 1) := by decide +kernel
theorem dX4_requireKeeper_1 : decode cX4_requireKeeper 1 = .ok (.ifCond .lt 11, 3) := by decide +kernel
theorem dX4_requireKeeper_4 : decode cX4_requireKeeper 4 = .ok (.iload_n 1, 1) := by decide +kernel
theorem dX4_requireKeeper_5 : decode cX4_requireKeeper 5 = .ok (.aload_n 0, 1) := by decide +kernel
theorem dX4_requireKeeper_6 : decode cX4_requireKeeper 6 = .ok (.getfield 37, 3) := by decide +kernel
theorem dX4_requireKeeper_9 : decode cX4_requireKeeper 9 = .ok (.if_icmp .lt 14, 3) := by decide +kernel
theorem dX4_requireKeeper_12 : decode cX4_requireKeeper 12 = .ok (.new 194, 3) := by decide +kernel
theorem dX4_requireKeeper_15 : decode cX4_requireKeeper 15 = .ok (.dup, 1) := by decide +kernel
theorem dX4_requireKeeper_16 : decode cX4_requireKeeper 16 = .ok (.ldc_w 315, 3) := by decide +kernel
theorem dX4_requireKeeper_19 : decode cX4_requireKeeper 19 = .ok (.invokespecial 198, 3) := by decide +kernel
theorem dX4_requireKeeper_22 : decode cX4_requireKeeper 22 = .ok (.athrow, 1) := by decide +kernel
theorem dX4_requireKeeper_23 : decode cX4_requireKeeper 23 = .ok (.return_, 1) := by decide +kernel
theorem dX4_vehicleAt_0 : decode cX4_vehicleAt 0 = .ok (.iload_n 1, 1) := by decide +kernel
theorem dX4_vehicleAt_1 : decode cX4_vehicleAt 1 = .ok (.ifCond .lt 12, 3) := by decide +kernel
theorem dX4_vehicleAt_4 : decode cX4_vehicleAt 4 = .ok (.iload_n 1, 1) := by decide +kernel
theorem dX4_vehicleAt_5 : decode cX4_vehicleAt 5 = .ok (.aload_n 0, 1) := by decide +kernel
theorem dX4_vehicleAt_6 : decode cX4_vehicleAt 6 = .ok (.getfield 11, 3) := by decide +kernel
theorem dX4_vehicleAt_9 : decode cX4_vehicleAt 9 = .ok (.arraylength, 1) := by decide +kernel
theorem dX4_vehicleAt_10 : decode cX4_vehicleAt 10 = .ok (.if_icmp .lt 7, 3) := by decide +kernel
theorem dX4_vehicleAt_13 : decode cX4_vehicleAt 13 = .ok (.aconst_null, 1) := by decide +kernel
theorem dX4_vehicleAt_14 : decode cX4_vehicleAt 14 = .ok (.goto 9, 3) := by decide +kernel
theorem dX4_vehicleAt_17 : decode cX4_vehicleAt 17 = .ok (.aload_n 0, 1) := by decide +kernel
theorem dX4_vehicleAt_18 : decode cX4_vehicleAt 18 = .ok (.getfield 11, 3) := by decide +kernel
theorem dX4_vehicleAt_21 : decode cX4_vehicleAt 21 = .ok (.iload_n 1, 1) := by decide +kernel
theorem dX4_vehicleAt_22 : decode cX4_vehicleAt 22 = .ok (.aaload, 1) := by decide +kernel
theorem dX4_vehicleAt_23 : decode cX4_vehicleAt 23 = .ok (.astore_n 2, 1) := by decide +kernel
theorem dX4_vehicleAt_24 : decode cX4_vehicleAt 24 = .ok (.aload_n 2, 1) := by decide +kernel
theorem dX4_vehicleAt_25 : decode cX4_vehicleAt 25 = .ok (.ifnonnull 14, 3) := by decide +kernel
theorem dX4_vehicleAt_28 : decode cX4_vehicleAt 28 = .ok (.new 194, 3) := by decide +kernel
theorem dX4_vehicleAt_31 : decode cX4_vehicleAt 31 = .ok (.dup, 1) := by decide +kernel
theorem dX4_vehicleAt_32 : decode cX4_vehicleAt 32 = .ok (.ldc_w 317, 3) := by decide +kernel
theorem dX4_vehicleAt_35 : decode cX4_vehicleAt 35 = .ok (.invokespecial 198, 3) := by decide +kernel
theorem dX4_vehicleAt_38 : decode cX4_vehicleAt 38 = .ok (.athrow, 1) := by decide +kernel
theorem dX4_vehicleAt_39 : decode cX4_vehicleAt 39 = .ok (.aload_n 2, 1) := by decide +kernel
theorem dX4_vehicleAt_40 : decode cX4_vehicleAt 40 = .ok (.areturn, 1) := by decide +kernel
theorem dX4_plateAt_0 : decode cX4_plateAt 0 = .ok (.aload_n 0, 1) := by decide +kernel
theorem dX4_plateAt_1 : decode cX4_plateAt 1 = .ok (.iload_n 1, 1) := by decide +kernel
theorem dX4_plateAt_2 : decode cX4_plateAt 2 = .ok (.invokevirtual 319, 3) := by decide +kernel
theorem dX4_plateAt_5 : decode cX4_plateAt 5 = .ok (.astore_n 2, 1) := by decide +kernel
theorem dX4_plateAt_6 : decode cX4_plateAt 6 = .ok (.aload_n 2, 1) := by decide +kernel
theorem dX4_plateAt_7 : decode cX4_plateAt 7 = .ok (.ifnonnull 14, 3) := by decide +kernel
theorem dX4_plateAt_10 : decode cX4_plateAt 10 = .ok (.new 231, 3) := by decide +kernel
theorem dX4_plateAt_13 : decode cX4_plateAt 13 = .ok (.dup, 1) := by decide +kernel
theorem dX4_plateAt_14 : decode cX4_plateAt 14 = .ok (.ldc_w 322, 3) := by decide +kernel
theorem dX4_plateAt_17 : decode cX4_plateAt 17 = .ok (.invokespecial 235, 3) := by decide +kernel
theorem dX4_plateAt_20 : decode cX4_plateAt 20 = .ok (.athrow, 1) := by decide +kernel
theorem dX4_plateAt_21 : decode cX4_plateAt 21 = .ok (.aload_n 2, 1) := by decide +kernel
theorem dX4_plateAt_22 : decode cX4_plateAt 22 = .ok (.areturn, 1) := by decide +kernel
theorem dX4_noticeAt_0 : decode cX4_noticeAt 0 = .ok (.iload_n 1, 1) := by decide +kernel
theorem dX4_noticeAt_1 : decode cX4_noticeAt 1 = .ok (.ifCond .lt 12, 3) := by decide +kernel
theorem dX4_noticeAt_4 : decode cX4_noticeAt 4 = .ok (.iload_n 1, 1) := by decide +kernel
theorem dX4_noticeAt_5 : decode cX4_noticeAt 5 = .ok (.aload_n 0, 1) := by decide +kernel
theorem dX4_noticeAt_6 : decode cX4_noticeAt 6 = .ok (.getfield 23, 3) := by decide +kernel
theorem dX4_noticeAt_9 : decode cX4_noticeAt 9 = .ok (.arraylength, 1) := by decide +kernel
theorem dX4_noticeAt_10 : decode cX4_noticeAt 10 = .ok (.if_icmp .lt 7, 3) := by decide +kernel
theorem dX4_noticeAt_13 : decode cX4_noticeAt 13 = .ok (.aconst_null, 1) := by decide +kernel
theorem dX4_noticeAt_14 : decode cX4_noticeAt 14 = .ok (.goto 9, 3) := by decide +kernel
theorem dX4_noticeAt_17 : decode cX4_noticeAt 17 = .ok (.aload_n 0, 1) := by decide +kernel
theorem dX4_noticeAt_18 : decode cX4_noticeAt 18 = .ok (.getfield 23, 3) := by decide +kernel
theorem dX4_noticeAt_21 : decode cX4_noticeAt 21 = .ok (.iload_n 1, 1) := by decide +kernel
theorem dX4_noticeAt_22 : decode cX4_noticeAt 22 = .ok (.aaload, 1) := by decide +kernel
theorem dX4_noticeAt_23 : decode cX4_noticeAt 23 = .ok (.astore_n 2, 1) := by decide +kernel
theorem dX4_noticeAt_24 : decode cX4_noticeAt 24 = .ok (.aload_n 2, 1) := by decide +kernel
theorem dX4_noticeAt_25 : decode cX4_noticeAt 25 = .ok (.ifnonnull 14, 3) := by decide +kernel
theorem dX4_noticeAt_28 : decode cX4_noticeAt 28 = .ok (.new 231, 3) := by decide +kernel
theorem dX4_noticeAt_31 : decode cX4_noticeAt 31 = .ok (.dup, 1) := by decide +kernel
theorem dX4_noticeAt_32 : decode cX4_noticeAt 32 = .ok (.ldc_w 324, 3) := by decide +kernel
theorem dX4_noticeAt_35 : decode cX4_noticeAt 35 = .ok (.invokespecial 235, 3) := by decide +kernel
theorem dX4_noticeAt_38 : decode cX4_noticeAt 38 = .ok (.athrow, 1) := by decide +kernel
theorem dX4_noticeAt_39 : decode cX4_noticeAt 39 = .ok (.aload_n 2, 1) := by decide +kernel
theorem dX4_noticeAt_40 : decode cX4_noticeAt 40 = .ok (.areturn, 1) := by decide +kernel
theorem dX4_requireDay_0 : decode cX4_requireDay 0 = .ok (.iload_n 1, 1) := by decide +kernel
theorem dX4_requireDay_1 : decode cX4_requireDay 1 = .ok (.ifCond .lt 11, 3) := by decide +kernel
theorem dX4_requireDay_4 : decode cX4_requireDay 4 = .ok (.iload_n 1, 1) := by decide +kernel
theorem dX4_requireDay_5 : decode cX4_requireDay 5 = .ok (.aload_n 0, 1) := by decide +kernel
theorem dX4_requireDay_6 : decode cX4_requireDay 6 = .ok (.getfield 48, 3) := by decide +kernel
theorem dX4_requireDay_9 : decode cX4_requireDay 9 = .ok (.if_icmp .le 14, 3) := by decide +kernel
theorem dX4_requireDay_12 : decode cX4_requireDay 12 = .ok (.new 51, 3) := by decide +kernel
theorem dX4_requireDay_15 : decode cX4_requireDay 15 = .ok (.dup, 1) := by decide +kernel
theorem dX4_requireDay_16 : decode cX4_requireDay 16 = .ok (.ldc_w 326, 3) := by decide +kernel
theorem dX4_requireDay_19 : decode cX4_requireDay 19 = .ok (.invokespecial 55, 3) := by decide +kernel
theorem dX4_requireDay_22 : decode cX4_requireDay 22 = .ok (.athrow, 1) := by decide +kernel
theorem dX4_requireDay_23 : decode cX4_requireDay 23 = .ok (.return_, 1) := by decide +kernel
theorem dX4_requireKind_0 : decode cX4_requireKind 0 = .ok (.iload_n 0, 1) := by decide +kernel
theorem dX4_requireKind_1 : decode cX4_requireKind 1 = .ok (.bipush 99, 2) := by decide +kernel
theorem dX4_requireKind_3 : decode cX4_requireKind 3 = .ok (.if_icmp .eq 32, 3) := by decide +kernel
theorem dX4_requireKind_6 : decode cX4_requireKind 6 = .ok (.iload_n 0, 1) := by decide +kernel
theorem dX4_requireKind_7 : decode cX4_requireKind 7 = .ok (.bipush 109, 2) := by decide +kernel
theorem dX4_requireKind_9 : decode cX4_requireKind 9 = .ok (.if_icmp .eq 26, 3) := by decide +kernel
theorem dX4_requireKind_12 : decode cX4_requireKind 12 = .ok (.iload_n 0, 1) := by decide +kernel
theorem dX4_requireKind_13 : decode cX4_requireKind 13 = .ok (.bipush 108, 2) := by decide +kernel
theorem dX4_requireKind_15 : decode cX4_requireKind 15 = .ok (.if_icmp .eq 20, 3) := by decide +kernel
theorem dX4_requireKind_18 : decode cX4_requireKind 18 = .ok (.iload_n 0, 1) := by decide +kernel
theorem dX4_requireKind_19 : decode cX4_requireKind 19 = .ok (.bipush 104, 2) := by decide +kernel
theorem dX4_requireKind_21 : decode cX4_requireKind 21 = .ok (.if_icmp .eq 14, 3) := by decide +kernel
theorem dX4_requireKind_24 : decode cX4_requireKind 24 = .ok (.new 51, 3) := by decide +kernel
theorem dX4_requireKind_27 : decode cX4_requireKind 27 = .ok (.dup, 1) := by decide +kernel
theorem dX4_requireKind_28 : decode cX4_requireKind 28 = .ok (.ldc_w 328, 3) := by decide +kernel
theorem dX4_requireKind_31 : decode cX4_requireKind 31 = .ok (.invokespecial 55, 3) := by decide +kernel
theorem dX4_requireKind_34 : decode cX4_requireKind 34 = .ok (.athrow, 1) := by decide +kernel
theorem dX4_requireKind_35 : decode cX4_requireKind 35 = .ok (.return_, 1) := by decide +kernel
theorem dX4_requireRoomForVehicle_0 : decode cX4_requireRoomForVehicle 0 = .ok (.aload_n 0, 1) := by decide +kernel
theorem dX4_requireRoomForVehicle_1 : decode cX4_requireRoomForVehicle 1 = .ok (.getfield 149, 3) := by decide +kernel
theorem dX4_requireRoomForVehicle_4 : decode cX4_requireRoomForVehicle 4 = .ok (.bipush 15, 2) := by decide +kernel
theorem dX4_requireRoomForVehicle_6 : decode cX4_requireRoomForVehicle 6 = .ok (.if_icmp .lt 14, 3) := by decide +kernel
theorem dX4_requireRoomForVehicle_9 : decode cX4_requireRoomForVehicle 9 = .ok (.new 41, 3) := by decide +kernel
theorem dX4_requireRoomForVehicle_12 : decode cX4_requireRoomForVehicle 12 = .ok (.dup, 1) := by decide +kernel
theorem dX4_requireRoomForVehicle_13 : decode cX4_requireRoomForVehicle 13 = .ok (.ldc_w 330, 3) := by decide +kernel
theorem dX4_requireRoomForVehicle_16 : decode cX4_requireRoomForVehicle 16 = .ok (.invokespecial 45, 3) := by decide +kernel
theorem dX4_requireRoomForVehicle_19 : decode cX4_requireRoomForVehicle 19 = .ok (.athrow, 1) := by decide +kernel
theorem dX4_requireRoomForVehicle_20 : decode cX4_requireRoomForVehicle 20 = .ok (.return_, 1) := by decide +kernel
theorem dX4_requireRoomForPlate_0 : decode cX4_requireRoomForPlate 0 = .ok (.aload_n 0, 1) := by decide +kernel
theorem dX4_requireRoomForPlate_1 : decode cX4_requireRoomForPlate 1 = .ok (.getfield 273, 3) := by decide +kernel
theorem dX4_requireRoomForPlate_4 : decode cX4_requireRoomForPlate 4 = .ok (.bipush 40, 2) := by decide +kernel
theorem dX4_requireRoomForPlate_6 : decode cX4_requireRoomForPlate 6 = .ok (.if_icmp .lt 14, 3) := by decide +kernel
theorem dX4_requireRoomForPlate_9 : decode cX4_requireRoomForPlate 9 = .ok (.new 41, 3) := by decide +kernel
theorem dX4_requireRoomForPlate_12 : decode cX4_requireRoomForPlate 12 = .ok (.dup, 1) := by decide +kernel
theorem dX4_requireRoomForPlate_13 : decode cX4_requireRoomForPlate 13 = .ok (.ldc_w 332, 3) := by decide +kernel
theorem dX4_requireRoomForPlate_16 : decode cX4_requireRoomForPlate 16 = .ok (.invokespecial 45, 3) := by decide +kernel
theorem dX4_requireRoomForPlate_19 : decode cX4_requireRoomForPlate 19 = .ok (.athrow, 1) := by decide +kernel
theorem dX4_requireRoomForPlate_20 : decode cX4_requireRoomForPlate 20 = .ok (.return_, 1) := by decide +kernel
theorem dX4_requireRoomForNotice_0 : decode cX4_requireRoomForNotice 0 = .ok (.aload_n 0, 1) := by decide +kernel
theorem dX4_requireRoomForNotice_1 : decode cX4_requireRoomForNotice 1 = .ok (.getfield 334, 3) := by decide +kernel
theorem dX4_requireRoomForNotice_4 : decode cX4_requireRoomForNotice 4 = .ok (.bipush 120, 2) := by decide +kernel
theorem dX4_requireRoomForNotice_6 : decode cX4_requireRoomForNotice 6 = .ok (.if_icmp .lt 14, 3) := by decide +kernel
theorem dX4_requireRoomForNotice_9 : decode cX4_requireRoomForNotice 9 = .ok (.new 41, 3) := by decide +kernel
theorem dX4_requireRoomForNotice_12 : decode cX4_requireRoomForNotice 12 = .ok (.dup, 1) := by decide +kernel
theorem dX4_requireRoomForNotice_13 : decode cX4_requireRoomForNotice 13 = .ok (.ldc_w 337, 3) := by decide +kernel
theorem dX4_requireRoomForNotice_16 : decode cX4_requireRoomForNotice 16 = .ok (.invokespecial 45, 3) := by decide +kernel
theorem dX4_requireRoomForNotice_19 : decode cX4_requireRoomForNotice 19 = .ok (.athrow, 1) := by decide +kernel
theorem dX4_requireRoomForNotice_20 : decode cX4_requireRoomForNotice 20 = .ok (.return_, 1) := by decide +kernel
theorem dX4_requireUnblocked_0 : decode cX4_requireUnblocked 0 = .ok (.aload_n 0, 1) := by decide +kernel
theorem dX4_requireUnblocked_1 : decode cX4_requireUnblocked 1 = .ok (.invokevirtual 228, 3) := by decide +kernel
theorem dX4_requireUnblocked_4 : decode cX4_requireUnblocked 4 = .ok (.ifCond .eq 14, 3) := by decide +kernel
theorem dX4_requireUnblocked_7 : decode cX4_requireUnblocked 7 = .ok (.new 41, 3) := by decide +kernel
theorem dX4_requireUnblocked_10 : decode cX4_requireUnblocked 10 = .ok (.dup, 1) := by decide +kernel
theorem dX4_requireUnblocked_11 : decode cX4_requireUnblocked 11 = .ok (.ldc_w 339, 3) := by decide +kernel
theorem dX4_requireUnblocked_14 : decode cX4_requireUnblocked 14 = .ok (.invokespecial 45, 3) := by decide +kernel
theorem dX4_requireUnblocked_17 : decode cX4_requireUnblocked 17 = .ok (.athrow, 1) := by decide +kernel
theorem dX4_requireUnblocked_18 : decode cX4_requireUnblocked 18 = .ok (.return_, 1) := by decide +kernel
theorem dX4_requirePlateToChange_0 : decode cX4_requirePlateToChange 0 = .ok (.aload_n 0, 1) := by decide +kernel
theorem dX4_requirePlateToChange_1 : decode cX4_requirePlateToChange 1 = .ok (.aload_n 1, 1) := by decide +kernel
theorem dX4_requirePlateToChange_2 : decode cX4_requirePlateToChange 2 = .ok (.invokevirtual 135, 3) := by decide +kernel
theorem dX4_requirePlateToChange_5 : decode cX4_requirePlateToChange 5 = .ok (.astore_n 2, 1) := by decide +kernel
theorem dX4_requirePlateToChange_6 : decode cX4_requirePlateToChange 6 = .ok (.aload_n 2, 1) := by decide +kernel
theorem dX4_requirePlateToChange_7 : decode cX4_requirePlateToChange 7 = .ok (.ifnull 10, 3) := by decide +kernel
theorem dX4_requirePlateToChange_10 : decode cX4_requirePlateToChange 10 = .ok (.aload_n 1, 1) := by decide +kernel
theorem dX4_requirePlateToChange_11 : decode cX4_requirePlateToChange 11 = .ok (.invokevirtual 228, 3) := by decide +kernel
theorem dX4_requirePlateToChange_14 : decode cX4_requirePlateToChange 14 = .ok (.ifCond .eq 14, 3) := by decide +kernel
theorem dX4_requirePlateToChange_17 : decode cX4_requirePlateToChange 17 = .ok (.new 41, 3) := by decide +kernel
theorem dX4_requirePlateToChange_20 : decode cX4_requirePlateToChange 20 = .ok (.dup, 1) := by decide +kernel
theorem dX4_requirePlateToChange_21 : decode cX4_requirePlateToChange 21 = .ok (.ldc_w 341, 3) := by decide +kernel
theorem dX4_requirePlateToChange_24 : decode cX4_requirePlateToChange 24 = .ok (.invokespecial 45, 3) := by decide +kernel
theorem dX4_requirePlateToChange_27 : decode cX4_requirePlateToChange 27 = .ok (.athrow, 1) := by decide +kernel
theorem dX4_requirePlateToChange_28 : decode cX4_requirePlateToChange 28 = .ok (.aload_n 2, 1) := by decide +kernel
theorem dX4_requirePlateToChange_29 : decode cX4_requirePlateToChange 29 = .ok (.areturn, 1) := by decide +kernel
theorem dX4_requireLien_0 : decode cX4_requireLien 0 = .ok (.aload_n 0, 1) := by decide +kernel
theorem dX4_requireLien_1 : decode cX4_requireLien 1 = .ok (.iload_n 1, 1) := by decide +kernel
theorem dX4_requireLien_2 : decode cX4_requireLien 2 = .ok (.invokevirtual 215, 3) := by decide +kernel
theorem dX4_requireLien_5 : decode cX4_requireLien 5 = .ok (.istore_n 2, 1) := by decide +kernel
theorem dX4_requireLien_6 : decode cX4_requireLien 6 = .ok (.iload_n 2, 1) := by decide +kernel
theorem dX4_requireLien_7 : decode cX4_requireLien 7 = .ok (.ifCond .ne 14, 3) := by decide +kernel
theorem dX4_requireLien_10 : decode cX4_requireLien 10 = .ok (.new 231, 3) := by decide +kernel
theorem dX4_requireLien_13 : decode cX4_requireLien 13 = .ok (.dup, 1) := by decide +kernel
theorem dX4_requireLien_14 : decode cX4_requireLien 14 = .ok (.ldc_w 343, 3) := by decide +kernel
theorem dX4_requireLien_17 : decode cX4_requireLien 17 = .ok (.invokespecial 235, 3) := by decide +kernel
theorem dX4_requireLien_20 : decode cX4_requireLien 20 = .ok (.athrow, 1) := by decide +kernel
theorem dX4_requireLien_21 : decode cX4_requireLien 21 = .ok (.iload_n 2, 1) := by decide +kernel
theorem dX4_requireLien_22 : decode cX4_requireLien 22 = .ok (.ireturn, 1) := by decide +kernel
theorem dX4_requireVehicles_0 : decode cX4_requireVehicles 0 = .ok (.aload_n 0, 1) := by decide +kernel
theorem dX4_requireVehicles_1 : decode cX4_requireVehicles 1 = .ok (.getfield 149, 3) := by decide +kernel
theorem dX4_requireVehicles_4 : decode cX4_requireVehicles 4 = .ok (.ifCond .ne 14, 3) := by decide +kernel
theorem dX4_requireVehicles_7 : decode cX4_requireVehicles 7 = .ok (.new 345, 3) := by decide +kernel
theorem dX4_requireVehicles_10 : decode cX4_requireVehicles 10 = .ok (.dup, 1) := by decide +kernel
theorem dX4_requireVehicles_11 : decode cX4_requireVehicles 11 = .ok (.ldc_w 347, 3) := by decide +kernel
theorem dX4_requireVehicles_14 : decode cX4_requireVehicles 14 = .ok (.invokespecial 349, 3) := by decide +kernel
theorem dX4_requireVehicles_17 : decode cX4_requireVehicles 17 = .ok (.athrow, 1) := by decide +kernel
theorem dX4_requireVehicles_18 : decode cX4_requireVehicles 18 = .ok (.return_, 1) := by decide +kernel
theorem dX4_found_0 : decode cX4_found 0 = .ok (.iload_n 0, 1) := by decide +kernel
theorem dX4_found_1 : decode cX4_found 1 = .ok (.iconst (-1), 1) := by decide +kernel
theorem dX4_found_2 : decode cX4_found 2 = .ok (.if_icmp .ne 14, 3) := by decide +kernel
theorem dX4_found_5 : decode cX4_found 5 = .ok (.new 231, 3) := by decide +kernel
theorem dX4_found_8 : decode cX4_found 8 = .ok (.dup, 1) := by decide +kernel
theorem dX4_found_9 : decode cX4_found 9 = .ok (.ldc_w 350, 3) := by decide +kernel
theorem dX4_found_12 : decode cX4_found 12 = .ok (.invokespecial 235, 3) := by decide +kernel
theorem dX4_found_15 : decode cX4_found 15 = .ok (.athrow, 1) := by decide +kernel
theorem dX4_found_16 : decode cX4_found 16 = .ok (.iload_n 0, 1) := by decide +kernel
theorem dX4_found_17 : decode cX4_found 17 = .ok (.ireturn, 1) := by decide +kernel
theorem dX4_placeFound_0 : decode cX4_placeFound 0 = .ok (.iload_n 0, 1) := by decide +kernel
theorem dX4_placeFound_1 : decode cX4_placeFound 1 = .ok (.iconst (-1), 1) := by decide +kernel
theorem dX4_placeFound_2 : decode cX4_placeFound 2 = .ok (.if_icmp .ne 14, 3) := by decide +kernel
theorem dX4_placeFound_5 : decode cX4_placeFound 5 = .ok (.new 41, 3) := by decide +kernel
theorem dX4_placeFound_8 : decode cX4_placeFound 8 = .ok (.dup, 1) := by decide +kernel
theorem dX4_placeFound_9 : decode cX4_placeFound 9 = .ok (.ldc_w 352, 3) := by decide +kernel
theorem dX4_placeFound_12 : decode cX4_placeFound 12 = .ok (.invokespecial 45, 3) := by decide +kernel
theorem dX4_placeFound_15 : decode cX4_placeFound 15 = .ok (.athrow, 1) := by decide +kernel
theorem dX4_placeFound_16 : decode cX4_placeFound 16 = .ok (.iload_n 0, 1) := by decide +kernel
theorem dX4_placeFound_17 : decode cX4_placeFound 17 = .ok (.ireturn, 1) := by decide +kernel
theorem dX4_enterVehicle_0 : decode cX4_enterVehicle 0 = .ok (.new 9, 3) := by decide +kernel
theorem dX4_enterVehicle_3 : decode cX4_enterVehicle 3 = .ok (.dup, 1) := by decide +kernel
theorem dX4_enterVehicle_4 : decode cX4_enterVehicle 4 = .ok (.aload_n 0, 1) := by decide +kernel
theorem dX4_enterVehicle_5 : decode cX4_enterVehicle 5 = .ok (.getfield 149, 3) := by decide +kernel
theorem dX4_enterVehicle_8 : decode cX4_enterVehicle 8 = .ok (.iload_n 2, 1) := by decide +kernel
theorem dX4_enterVehicle_9 : decode cX4_enterVehicle 9 = .ok (.invokespecial 354, 3) := by decide +kernel
theorem dX4_enterVehicle_12 : decode cX4_enterVehicle 12 = .ok (.astore_n 3, 1) := by decide +kernel
theorem dX4_enterVehicle_13 : decode cX4_enterVehicle 13 = .ok (.aload_n 3, 1) := by decide +kernel
theorem dX4_enterVehicle_14 : decode cX4_enterVehicle 14 = .ok (.getfield 182, 3) := by decide +kernel
theorem dX4_enterVehicle_17 : decode cX4_enterVehicle 17 = .ok (.aload_n 0, 1) := by decide +kernel
theorem dX4_enterVehicle_18 : decode cX4_enterVehicle 18 = .ok (.getfield 48, 3) := by decide +kernel
theorem dX4_enterVehicle_21 : decode cX4_enterVehicle 21 = .ok (.iload_n 1, 1) := by decide +kernel
theorem dX4_enterVehicle_22 : decode cX4_enterVehicle 22 = .ok (.invokevirtual 357, 3) := by decide +kernel
theorem dX4_enterVehicle_25 : decode cX4_enterVehicle 25 = .ok (.aload_n 0, 1) := by decide +kernel
theorem dX4_enterVehicle_26 : decode cX4_enterVehicle 26 = .ok (.getfield 149, 3) := by decide +kernel
theorem dX4_enterVehicle_29 : decode cX4_enterVehicle 29 = .ok (.aload_n 0, 1) := by decide +kernel
theorem dX4_enterVehicle_30 : decode cX4_enterVehicle 30 = .ok (.getfield 11, 3) := by decide +kernel
theorem dX4_enterVehicle_33 : decode cX4_enterVehicle 33 = .ok (.arraylength, 1) := by decide +kernel
theorem dX4_enterVehicle_34 : decode cX4_enterVehicle 34 = .ok (.if_icmp .ge 23, 3) := by decide +kernel
theorem dX4_enterVehicle_37 : decode cX4_enterVehicle 37 = .ok (.aload_n 0, 1) := by decide +kernel
theorem dX4_enterVehicle_38 : decode cX4_enterVehicle 38 = .ok (.getfield 11, 3) := by decide +kernel
theorem dX4_enterVehicle_41 : decode cX4_enterVehicle 41 = .ok (.aload_n 0, 1) := by decide +kernel
theorem dX4_enterVehicle_42 : decode cX4_enterVehicle 42 = .ok (.getfield 149, 3) := by decide +kernel
theorem dX4_enterVehicle_45 : decode cX4_enterVehicle 45 = .ok (.aload_n 3, 1) := by decide +kernel
theorem dX4_enterVehicle_46 : decode cX4_enterVehicle 46 = .ok (.aastore, 1) := by decide +kernel
theorem dX4_enterVehicle_47 : decode cX4_enterVehicle 47 = .ok (.aload_n 0, 1) := by decide +kernel
theorem dX4_enterVehicle_48 : decode cX4_enterVehicle 48 = .ok (.dup, 1) := by decide +kernel
theorem dX4_enterVehicle_49 : decode cX4_enterVehicle 49 = .ok (.getfield 149, 3) := by decide +kernel
theorem dX4_enterVehicle_52 : decode cX4_enterVehicle 52 = .ok (.iconst 1, 1) := by decide +kernel
theorem dX4_enterVehicle_53 : decode cX4_enterVehicle 53 = .ok (.iadd, 1) := by decide +kernel
theorem dX4_enterVehicle_54 : decode cX4_enterVehicle 54 = .ok (.putfield 149, 3) := by decide +kernel
theorem dX4_enterVehicle_57 : decode cX4_enterVehicle 57 = .ok (.aload_n 3, 1) := by decide +kernel
theorem dX4_enterVehicle_58 : decode cX4_enterVehicle 58 = .ok (.areturn, 1) := by decide +kernel
theorem dX4_bringOnRoad_0 : decode cX4_bringOnRoad 0 = .ok (.aload_n 0, 1) := by decide +kernel
theorem dX4_bringOnRoad_1 : decode cX4_bringOnRoad 1 = .ok (.aload_n 0, 1) := by decide +kernel
theorem dX4_bringOnRoad_2 : decode cX4_bringOnRoad 2 = .ok (.invokevirtual 239, 3) := by decide +kernel
theorem dX4_bringOnRoad_5 : decode cX4_bringOnRoad 5 = .ok (.aload_n 1, 1) := by decide +kernel
theorem dX4_bringOnRoad_6 : decode cX4_bringOnRoad 6 = .ok (.invokevirtual 243, 3) := by decide +kernel
theorem dX4_bringOnRoad_9 : decode cX4_bringOnRoad 9 = .ok (.aload_n 1, 1) := by decide +kernel
theorem dX4_bringOnRoad_10 : decode cX4_bringOnRoad 10 = .ok (.iconst 1, 1) := by decide +kernel
theorem dX4_bringOnRoad_11 : decode cX4_bringOnRoad 11 = .ok (.putfield 85, 3) := by decide +kernel
theorem dX4_bringOnRoad_14 : decode cX4_bringOnRoad 14 = .ok (.aload_n 1, 1) := by decide +kernel
theorem dX4_bringOnRoad_15 : decode cX4_bringOnRoad 15 = .ok (.getfield 118, 3) := by decide +kernel
theorem dX4_bringOnRoad_18 : decode cX4_bringOnRoad 18 = .ok (.aload_n 0, 1) := by decide +kernel
theorem dX4_bringOnRoad_19 : decode cX4_bringOnRoad 19 = .ok (.getfield 48, 3) := by decide +kernel
theorem dX4_bringOnRoad_22 : decode cX4_bringOnRoad 22 = .ok (.iconst 1, 1) := by decide +kernel
theorem dX4_bringOnRoad_23 : decode cX4_bringOnRoad 23 = .ok (.invokevirtual 121, 3) := by decide +kernel
theorem dX4_bringOnRoad_26 : decode cX4_bringOnRoad 26 = .ok (.return_, 1) := by decide +kernel
theorem dX4_issuePlate_0 : decode cX4_issuePlate 0 = .ok (.new 15, 3) := by decide +kernel
theorem dX4_issuePlate_3 : decode cX4_issuePlate 3 = .ok (.dup, 1) := by decide +kernel
theorem dX4_issuePlate_4 : decode cX4_issuePlate 4 = .ok (.aload_n 0, 1) := by decide +kernel
theorem dX4_issuePlate_5 : decode cX4_issuePlate 5 = .ok (.getfield 273, 3) := by decide +kernel
theorem dX4_issuePlate_8 : decode cX4_issuePlate 8 = .ok (.invokespecial 360, 3) := by decide +kernel
theorem dX4_issuePlate_11 : decode cX4_issuePlate 11 = .ok (.astore_n 1, 1) := by decide +kernel
theorem dX4_issuePlate_12 : decode cX4_issuePlate 12 = .ok (.aload_n 0, 1) := by decide +kernel
theorem dX4_issuePlate_13 : decode cX4_issuePlate 13 = .ok (.getfield 273, 3) := by decide +kernel
theorem dX4_issuePlate_16 : decode cX4_issuePlate 16 = .ok (.aload_n 0, 1) := by decide +kernel
theorem dX4_issuePlate_17 : decode cX4_issuePlate 17 = .ok (.getfield 17, 3) := by decide +kernel
theorem dX4_issuePlate_20 : decode cX4_issuePlate 20 = .ok (.arraylength, 1) := by decide +kernel
theorem dX4_issuePlate_21 : decode cX4_issuePlate 21 = .ok (.if_icmp .ge 23, 3) := by decide +kernel
theorem dX4_issuePlate_24 : decode cX4_issuePlate 24 = .ok (.aload_n 0, 1) := by decide +kernel
theorem dX4_issuePlate_25 : decode cX4_issuePlate 25 = .ok (.getfield 17, 3) := by decide +kernel
theorem dX4_issuePlate_28 : decode cX4_issuePlate 28 = .ok (.aload_n 0, 1) := by decide +kernel
theorem dX4_issuePlate_29 : decode cX4_issuePlate 29 = .ok (.getfield 273, 3) := by decide +kernel
theorem dX4_issuePlate_32 : decode cX4_issuePlate 32 = .ok (.aload_n 1, 1) := by decide +kernel
theorem dX4_issuePlate_33 : decode cX4_issuePlate 33 = .ok (.aastore, 1) := by decide +kernel
theorem dX4_issuePlate_34 : decode cX4_issuePlate 34 = .ok (.aload_n 0, 1) := by decide +kernel
theorem dX4_issuePlate_35 : decode cX4_issuePlate 35 = .ok (.dup, 1) := by decide +kernel
theorem dX4_issuePlate_36 : decode cX4_issuePlate 36 = .ok (.getfield 273, 3) := by decide +kernel
theorem dX4_issuePlate_39 : decode cX4_issuePlate 39 = .ok (.iconst 1, 1) := by decide +kernel
theorem dX4_issuePlate_40 : decode cX4_issuePlate 40 = .ok (.iadd, 1) := by decide +kernel
theorem dX4_issuePlate_41 : decode cX4_issuePlate 41 = .ok (.putfield 273, 3) := by decide +kernel
theorem dX4_issuePlate_44 : decode cX4_issuePlate 44 = .ok (.aload_n 1, 1) := by decide +kernel
theorem dX4_issuePlate_45 : decode cX4_issuePlate 45 = .ok (.areturn, 1) := by decide +kernel
theorem dX4_mount_0 : decode cX4_mount 0 = .ok (.aload_n 1, 1) := by decide +kernel
theorem dX4_mount_1 : decode cX4_mount 1 = .ok (.iconst (-1), 1) := by decide +kernel
theorem dX4_mount_2 : decode cX4_mount 2 = .ok (.putfield 255, 3) := by decide +kernel
theorem dX4_mount_5 : decode cX4_mount 5 = .ok (.aload_n 1, 1) := by decide +kernel
theorem dX4_mount_6 : decode cX4_mount 6 = .ok (.getfield 265, 3) := by decide +kernel
theorem dX4_mount_9 : decode cX4_mount 9 = .ok (.aload_n 0, 1) := by decide +kernel
theorem dX4_mount_10 : decode cX4_mount 10 = .ok (.getfield 48, 3) := by decide +kernel
theorem dX4_mount_13 : decode cX4_mount 13 = .ok (.aload_n 2, 1) := by decide +kernel
theorem dX4_mount_14 : decode cX4_mount 14 = .ok (.getfield 78, 3) := by decide +kernel
theorem dX4_mount_17 : decode cX4_mount 17 = .ok (.invokevirtual 121, 3) := by decide +kernel
theorem dX4_mount_20 : decode cX4_mount 20 = .ok (.aload_n 2, 1) := by decide +kernel
theorem dX4_mount_21 : decode cX4_mount 21 = .ok (.getfield 99, 3) := by decide +kernel
theorem dX4_mount_24 : decode cX4_mount 24 = .ok (.aload_n 0, 1) := by decide +kernel
theorem dX4_mount_25 : decode cX4_mount 25 = .ok (.getfield 48, 3) := by decide +kernel
theorem dX4_mount_28 : decode cX4_mount 28 = .ok (.aload_n 1, 1) := by decide +kernel
theorem dX4_mount_29 : decode cX4_mount 29 = .ok (.getfield 247, 3) := by decide +kernel
theorem dX4_mount_32 : decode cX4_mount 32 = .ok (.invokevirtual 121, 3) := by decide +kernel
theorem dX4_mount_35 : decode cX4_mount 35 = .ok (.return_, 1) := by decide +kernel
theorem dX4_plateOrNull_0 : decode cX4_plateOrNull 0 = .ok (.iload_n 1, 1) := by decide +kernel
theorem dX4_plateOrNull_1 : decode cX4_plateOrNull 1 = .ok (.ifCond .lt 12, 3) := by decide +kernel
theorem dX4_plateOrNull_4 : decode cX4_plateOrNull 4 = .ok (.iload_n 1, 1) := by decide +kernel
theorem dX4_plateOrNull_5 : decode cX4_plateOrNull 5 = .ok (.aload_n 0, 1) := by decide +kernel
theorem dX4_plateOrNull_6 : decode cX4_plateOrNull 6 = .ok (.getfield 17, 3) := by decide +kernel
theorem dX4_plateOrNull_9 : decode cX4_plateOrNull 9 = .ok (.arraylength, 1) := by decide +kernel
theorem dX4_plateOrNull_10 : decode cX4_plateOrNull 10 = .ok (.if_icmp .lt 7, 3) := by decide +kernel
theorem dX4_plateOrNull_13 : decode cX4_plateOrNull 13 = .ok (.aconst_null, 1) := by decide +kernel
theorem dX4_plateOrNull_14 : decode cX4_plateOrNull 14 = .ok (.goto 9, 3) := by decide +kernel
theorem dX4_plateOrNull_17 : decode cX4_plateOrNull 17 = .ok (.aload_n 0, 1) := by decide +kernel
theorem dX4_plateOrNull_18 : decode cX4_plateOrNull 18 = .ok (.getfield 17, 3) := by decide +kernel
theorem dX4_plateOrNull_21 : decode cX4_plateOrNull 21 = .ok (.iload_n 1, 1) := by decide +kernel
theorem dX4_plateOrNull_22 : decode cX4_plateOrNull 22 = .ok (.aaload, 1) := by decide +kernel
theorem dX4_plateOrNull_23 : decode cX4_plateOrNull 23 = .ok (.areturn, 1) := by decide +kernel
theorem dX4_plateOf_0 : decode cX4_plateOf 0 = .ok (.aload_n 0, 1) := by decide +kernel
theorem dX4_plateOf_1 : decode cX4_plateOf 1 = .ok (.aload_n 1, 1) := by decide +kernel
theorem dX4_plateOf_2 : decode cX4_plateOf 2 = .ok (.getfield 99, 3) := by decide +kernel
theorem dX4_plateOf_5 : decode cX4_plateOf 5 = .ok (.invokevirtual 103, 3) := by decide +kernel
theorem dX4_plateOf_8 : decode cX4_plateOf 8 = .ok (.invokevirtual 319, 3) := by decide +kernel
theorem dX4_plateOf_11 : decode cX4_plateOf 11 = .ok (.areturn, 1) := by decide +kernel
theorem dX4_unscrapped_0 : decode cX4_unscrapped 0 = .ok (.iconst 0, 1) := by decide +kernel
theorem dX4_unscrapped_1 : decode cX4_unscrapped 1 = .ok (.istore_n 1, 1) := by decide +kernel
theorem dX4_unscrapped_2 : decode cX4_unscrapped 2 = .ok (.aload_n 0, 1) := by decide +kernel
theorem dX4_unscrapped_3 : decode cX4_unscrapped 3 = .ok (.getfield 11, 3) := by decide +kernel
theorem dX4_unscrapped_6 : decode cX4_unscrapped 6 = .ok (.astore_n 2, 1) := by decide +kernel
theorem dX4_unscrapped_7 : decode cX4_unscrapped 7 = .ok (.aload_n 2, 1) := by decide +kernel
theorem dX4_unscrapped_8 : decode cX4_unscrapped 8 = .ok (.arraylength, 1) := by decide +kernel
theorem dX4_unscrapped_9 : decode cX4_unscrapped 9 = .ok (.istore_n 3, 1) := by decide +kernel
theorem dX4_unscrapped_10 : decode cX4_unscrapped 10 = .ok (.iconst 0, 1) := by decide +kernel
theorem dX4_unscrapped_11 : decode cX4_unscrapped 11 = .ok (.istore 4, 2) := by decide +kernel
theorem dX4_unscrapped_13 : decode cX4_unscrapped 13 = .ok (.iload 4, 2) := by decide +kernel
theorem dX4_unscrapped_15 : decode cX4_unscrapped 15 = .ok (.iload_n 3, 1) := by decide +kernel
theorem dX4_unscrapped_16 : decode cX4_unscrapped 16 = .ok (.if_icmp .ge 31, 3) := by decide +kernel
theorem dX4_unscrapped_19 : decode cX4_unscrapped 19 = .ok (.aload_n 2, 1) := by decide +kernel
theorem dX4_unscrapped_20 : decode cX4_unscrapped 20 = .ok (.iload 4, 2) := by decide +kernel
theorem dX4_unscrapped_22 : decode cX4_unscrapped 22 = .ok (.aaload, 1) := by decide +kernel
theorem dX4_unscrapped_23 : decode cX4_unscrapped 23 = .ok (.astore 5, 2) := by decide +kernel
theorem dX4_unscrapped_25 : decode cX4_unscrapped 25 = .ok (.aload 5, 2) := by decide +kernel
theorem dX4_unscrapped_27 : decode cX4_unscrapped 27 = .ok (.ifnull 14, 3) := by decide +kernel
theorem dX4_unscrapped_30 : decode cX4_unscrapped 30 = .ok (.aload 5, 2) := by decide +kernel
theorem dX4_unscrapped_32 : decode cX4_unscrapped 32 = .ok (.getfield 94, 3) := by decide +kernel
theorem dX4_unscrapped_35 : decode cX4_unscrapped 35 = .ok (.ifCond .ne 6, 3) := by decide +kernel
theorem dX4_unscrapped_38 : decode cX4_unscrapped 38 = .ok (.iinc 1 1, 3) := by decide +kernel
theorem dX4_unscrapped_41 : decode cX4_unscrapped 41 = .ok (.iinc 4 1, 3) := by decide +kernel
theorem dX4_unscrapped_44 : decode cX4_unscrapped 44 = .ok (.goto (-31), 3) := by decide +kernel
theorem dX4_unscrapped_47 : decode cX4_unscrapped 47 = .ok (.iload_n 1, 1) := by decide +kernel
theorem dX4_unscrapped_48 : decode cX4_unscrapped 48 = .ok (.ireturn, 1) := by decide +kernel
theorem dX4_placeByVehicles_0 : decode cX4_placeByVehicles 0 = .ok (.aload_n 0, 1) := by decide +kernel
theorem dX4_placeByVehicles_1 : decode cX4_placeByVehicles 1 = .ok (.getfield 11, 3) := by decide +kernel
theorem dX4_placeByVehicles_4 : decode cX4_placeByVehicles 4 = .ok (.astore_n 3, 1) := by decide +kernel
theorem dX4_placeByVehicles_5 : decode cX4_placeByVehicles 5 = .ok (.aload_n 3, 1) := by decide +kernel
theorem dX4_placeByVehicles_6 : decode cX4_placeByVehicles 6 = .ok (.arraylength, 1) := by decide +kernel
theorem dX4_placeByVehicles_7 : decode cX4_placeByVehicles 7 = .ok (.istore 4, 2) := by decide +kernel
theorem dX4_placeByVehicles_9 : decode cX4_placeByVehicles 9 = .ok (.iconst 0, 1) := by decide +kernel
theorem dX4_placeByVehicles_10 : decode cX4_placeByVehicles 10 = .ok (.istore 5, 2) := by decide +kernel
theorem dX4_placeByVehicles_12 : decode cX4_placeByVehicles 12 = .ok (.iload 5, 2) := by decide +kernel
theorem dX4_placeByVehicles_14 : decode cX4_placeByVehicles 14 = .ok (.iload 4, 2) := by decide +kernel
theorem dX4_placeByVehicles_16 : decode cX4_placeByVehicles 16 = .ok (.if_icmp .ge 39, 3) := by decide +kernel
theorem dX4_placeByVehicles_19 : decode cX4_placeByVehicles 19 = .ok (.aload_n 3, 1) := by decide +kernel
theorem dX4_placeByVehicles_20 : decode cX4_placeByVehicles 20 = .ok (.iload 5, 2) := by decide +kernel
theorem dX4_placeByVehicles_22 : decode cX4_placeByVehicles 22 = .ok (.aaload, 1) := by decide +kernel
theorem dX4_placeByVehicles_23 : decode cX4_placeByVehicles 23 = .ok (.astore 6, 2) := by decide +kernel
theorem dX4_placeByVehicles_25 : decode cX4_placeByVehicles 25 = .ok (.aload 6, 2) := by decide +kernel
theorem dX4_placeByVehicles_27 : decode cX4_placeByVehicles 27 = .ok (.ifnull 22, 3) := by decide +kernel
theorem dX4_placeByVehicles_30 : decode cX4_placeByVehicles 30 = .ok (.aload 6, 2) := by decide +kernel
theorem dX4_placeByVehicles_32 : decode cX4_placeByVehicles 32 = .ok (.getfield 99, 3) := by decide +kernel
theorem dX4_placeByVehicles_35 : decode cX4_placeByVehicles 35 = .ok (.iload_n 2, 1) := by decide +kernel
theorem dX4_placeByVehicles_36 : decode cX4_placeByVehicles 36 = .ok (.invokevirtual 128, 3) := by decide +kernel
theorem dX4_placeByVehicles_39 : decode cX4_placeByVehicles 39 = .ok (.iload_n 1, 1) := by decide +kernel
theorem dX4_placeByVehicles_40 : decode cX4_placeByVehicles 40 = .ok (.if_icmp .ne 9, 3) := by decide +kernel
theorem dX4_placeByVehicles_43 : decode cX4_placeByVehicles 43 = .ok (.aload 6, 2) := by decide +kernel
theorem dX4_placeByVehicles_45 : decode cX4_placeByVehicles 45 = .ok (.getfield 78, 3) := by decide +kernel
theorem dX4_placeByVehicles_48 : decode cX4_placeByVehicles 48 = .ok (.ireturn, 1) := by decide +kernel
theorem dX4_placeByVehicles_49 : decode cX4_placeByVehicles 49 = .ok (.iinc 5 1, 3) := by decide +kernel
theorem dX4_placeByVehicles_52 : decode cX4_placeByVehicles 52 = .ok (.goto (-40), 3) := by decide +kernel
theorem dX4_placeByVehicles_55 : decode cX4_placeByVehicles 55 = .ok (.iconst (-1), 1) := by decide +kernel
theorem dX4_placeByVehicles_56 : decode cX4_placeByVehicles 56 = .ok (.ireturn, 1) := by decide +kernel
theorem dX4_countVehiclesWith_0 : decode cX4_countVehiclesWith 0 = .ok (.iconst 0, 1) := by decide +kernel
theorem dX4_countVehiclesWith_1 : decode cX4_countVehiclesWith 1 = .ok (.istore_n 2, 1) := by decide +kernel
theorem dX4_countVehiclesWith_2 : decode cX4_countVehiclesWith 2 = .ok (.aload_n 0, 1) := by decide +kernel
theorem dX4_countVehiclesWith_3 : decode cX4_countVehiclesWith 3 = .ok (.getfield 11, 3) := by decide +kernel
theorem dX4_countVehiclesWith_6 : decode cX4_countVehiclesWith 6 = .ok (.astore_n 3, 1) := by decide +kernel
theorem dX4_countVehiclesWith_7 : decode cX4_countVehiclesWith 7 = .ok (.aload_n 3, 1) := by decide +kernel
theorem dX4_countVehiclesWith_8 : decode cX4_countVehiclesWith 8 = .ok (.arraylength, 1) := by decide +kernel
theorem dX4_countVehiclesWith_9 : decode cX4_countVehiclesWith 9 = .ok (.istore 4, 2) := by decide +kernel
theorem dX4_countVehiclesWith_11 : decode cX4_countVehiclesWith 11 = .ok (.iconst 0, 1) := by decide +kernel
theorem dX4_countVehiclesWith_12 : decode cX4_countVehiclesWith 12 = .ok (.istore 5, 2) := by decide +kernel
theorem dX4_countVehiclesWith_14 : decode cX4_countVehiclesWith 14 = .ok (.iload 5, 2) := by decide +kernel
theorem dX4_countVehiclesWith_16 : decode cX4_countVehiclesWith 16 = .ok (.iload 4, 2) := by decide +kernel
theorem dX4_countVehiclesWith_18 : decode cX4_countVehiclesWith 18 = .ok (.if_icmp .ge 35, 3) := by decide +kernel
theorem dX4_countVehiclesWith_21 : decode cX4_countVehiclesWith 21 = .ok (.aload_n 3, 1) := by decide +kernel
theorem dX4_countVehiclesWith_22 : decode cX4_countVehiclesWith 22 = .ok (.iload 5, 2) := by decide +kernel
theorem dX4_countVehiclesWith_24 : decode cX4_countVehiclesWith 24 = .ok (.aaload, 1) := by decide +kernel
theorem dX4_countVehiclesWith_25 : decode cX4_countVehiclesWith 25 = .ok (.astore 6, 2) := by decide +kernel
theorem dX4_countVehiclesWith_27 : decode cX4_countVehiclesWith 27 = .ok (.aload 6, 2) := by decide +kernel
theorem dX4_countVehiclesWith_29 : decode cX4_countVehiclesWith 29 = .ok (.ifnull 18, 3) := by decide +kernel
theorem dX4_countVehiclesWith_32 : decode cX4_countVehiclesWith 32 = .ok (.aload 6, 2) := by decide +kernel
theorem dX4_countVehiclesWith_34 : decode cX4_countVehiclesWith 34 = .ok (.getfield 99, 3) := by decide +kernel
theorem dX4_countVehiclesWith_37 : decode cX4_countVehiclesWith 37 = .ok (.invokevirtual 103, 3) := by decide +kernel
theorem dX4_countVehiclesWith_40 : decode cX4_countVehiclesWith 40 = .ok (.iload_n 1, 1) := by decide +kernel
theorem dX4_countVehiclesWith_41 : decode cX4_countVehiclesWith 41 = .ok (.if_icmp .ne 6, 3) := by decide +kernel
theorem dX4_countVehiclesWith_44 : decode cX4_countVehiclesWith 44 = .ok (.iinc 2 1, 3) := by decide +kernel
theorem dX4_countVehiclesWith_47 : decode cX4_countVehiclesWith 47 = .ok (.iinc 5 1, 3) := by decide +kernel
theorem dX4_countVehiclesWith_50 : decode cX4_countVehiclesWith 50 = .ok (.goto (-36), 3) := by decide +kernel
theorem dX4_countVehiclesWith_53 : decode cX4_countVehiclesWith 53 = .ok (.iload_n 2, 1) := by decide +kernel
theorem dX4_countVehiclesWith_54 : decode cX4_countVehiclesWith 54 = .ok (.ireturn, 1) := by decide +kernel
theorem dX4_arePlatesSound_0 : decode cX4_arePlatesSound 0 = .ok (.aload_n 0, 1) := by decide +kernel
theorem dX4_arePlatesSound_1 : decode cX4_arePlatesSound 1 = .ok (.getfield 17, 3) := by decide +kernel
theorem dX4_arePlatesSound_4 : decode cX4_arePlatesSound 4 = .ok (.astore_n 1, 1) := by decide +kernel
theorem dX4_arePlatesSound_5 : decode cX4_arePlatesSound 5 = .ok (.aload_n 1, 1) := by decide +kernel
theorem dX4_arePlatesSound_6 : decode cX4_arePlatesSound 6 = .ok (.arraylength, 1) := by decide +kernel
theorem dX4_arePlatesSound_7 : decode cX4_arePlatesSound 7 = .ok (.istore_n 2, 1) := by decide +kernel
theorem dX4_arePlatesSound_8 : decode cX4_arePlatesSound 8 = .ok (.iconst 0, 1) := by decide +kernel
theorem dX4_arePlatesSound_9 : decode cX4_arePlatesSound 9 = .ok (.istore_n 3, 1) := by decide +kernel
theorem dX4_arePlatesSound_10 : decode cX4_arePlatesSound 10 = .ok (.iload_n 3, 1) := by decide +kernel
theorem dX4_arePlatesSound_11 : decode cX4_arePlatesSound 11 = .ok (.iload_n 2, 1) := by decide +kernel
theorem dX4_arePlatesSound_12 : decode cX4_arePlatesSound 12 = .ok (.if_icmp .ge 62, 3) := by decide +kernel
theorem dX4_arePlatesSound_15 : decode cX4_arePlatesSound 15 = .ok (.aload_n 1, 1) := by decide +kernel
theorem dX4_arePlatesSound_16 : decode cX4_arePlatesSound 16 = .ok (.iload_n 3, 1) := by decide +kernel
theorem dX4_arePlatesSound_17 : decode cX4_arePlatesSound 17 = .ok (.aaload, 1) := by decide +kernel
theorem dX4_arePlatesSound_18 : decode cX4_arePlatesSound 18 = .ok (.astore 4, 2) := by decide +kernel
theorem dX4_arePlatesSound_20 : decode cX4_arePlatesSound 20 = .ok (.aload 4, 2) := by decide +kernel
theorem dX4_arePlatesSound_22 : decode cX4_arePlatesSound 22 = .ok (.ifnull 46, 3) := by decide +kernel
theorem dX4_arePlatesSound_25 : decode cX4_arePlatesSound 25 = .ok (.aload_n 0, 1) := by decide +kernel
theorem dX4_arePlatesSound_26 : decode cX4_arePlatesSound 26 = .ok (.aload 4, 2) := by decide +kernel
theorem dX4_arePlatesSound_28 : decode cX4_arePlatesSound 28 = .ok (.getfield 247, 3) := by decide +kernel
theorem dX4_arePlatesSound_31 : decode cX4_arePlatesSound 31 = .ok (.invokevirtual 362, 3) := by decide +kernel
theorem dX4_arePlatesSound_34 : decode cX4_arePlatesSound 34 = .ok (.iconst 1, 1) := by decide +kernel
theorem dX4_arePlatesSound_35 : decode cX4_arePlatesSound 35 = .ok (.if_icmp .gt 31, 3) := by decide +kernel
theorem dX4_arePlatesSound_38 : decode cX4_arePlatesSound 38 = .ok (.aload_n 0, 1) := by decide +kernel
theorem dX4_arePlatesSound_39 : decode cX4_arePlatesSound 39 = .ok (.aload 4, 2) := by decide +kernel
theorem dX4_arePlatesSound_41 : decode cX4_arePlatesSound 41 = .ok (.getfield 247, 3) := by decide +kernel
theorem dX4_arePlatesSound_44 : decode cX4_arePlatesSound 44 = .ok (.aload_n 0, 1) := by decide +kernel
theorem dX4_arePlatesSound_45 : decode cX4_arePlatesSound 45 = .ok (.getfield 48, 3) := by decide +kernel
theorem dX4_arePlatesSound_48 : decode cX4_arePlatesSound 48 = .ok (.invokevirtual 279, 3) := by decide +kernel
theorem dX4_arePlatesSound_51 : decode cX4_arePlatesSound 51 = .ok (.aload 4, 2) := by decide +kernel
theorem dX4_arePlatesSound_53 : decode cX4_arePlatesSound 53 = .ok (.getfield 265, 3) := by decide +kernel
theorem dX4_arePlatesSound_56 : decode cX4_arePlatesSound 56 = .ok (.aload_n 0, 1) := by decide +kernel
theorem dX4_arePlatesSound_57 : decode cX4_arePlatesSound 57 = .ok (.getfield 48, 3) := by decide +kernel
theorem dX4_arePlatesSound_60 : decode cX4_arePlatesSound 60 = .ok (.invokevirtual 128, 3) := by decide +kernel
theorem dX4_arePlatesSound_63 : decode cX4_arePlatesSound 63 = .ok (.if_icmp .eq 5, 3) := by decide +kernel
theorem dX4_arePlatesSound_66 : decode cX4_arePlatesSound 66 = .ok (.iconst 0, 1) := by decide +kernel
theorem dX4_arePlatesSound_67 : decode cX4_arePlatesSound 67 = .ok (.ireturn, 1) := by decide +kernel
theorem dX4_arePlatesSound_68 : decode cX4_arePlatesSound 68 = .ok (.iinc 3 1, 3) := by decide +kernel
theorem dX4_arePlatesSound_71 : decode cX4_arePlatesSound 71 = .ok (.goto (-61), 3) := by decide +kernel
theorem dX4_arePlatesSound_74 : decode cX4_arePlatesSound 74 = .ok (.iconst 1, 1) := by decide +kernel
theorem dX4_arePlatesSound_75 : decode cX4_arePlatesSound 75 = .ok (.ireturn, 1) := by decide +kernel
theorem dX4_enterNotice_0 : decode cX4_enterNotice 0 = .ok (.new 21, 3) := by decide +kernel
theorem dX4_enterNotice_3 : decode cX4_enterNotice 3 = .ok (.dup, 1) := by decide +kernel
theorem dX4_enterNotice_4 : decode cX4_enterNotice 4 = .ok (.aload_n 0, 1) := by decide +kernel
theorem dX4_enterNotice_5 : decode cX4_enterNotice 5 = .ok (.getfield 334, 3) := by decide +kernel
theorem dX4_enterNotice_8 : decode cX4_enterNotice 8 = .ok (.iload_n 1, 1) := by decide +kernel
theorem dX4_enterNotice_9 : decode cX4_enterNotice 9 = .ok (.aload_n 2, 1) := by decide +kernel
theorem dX4_enterNotice_10 : decode cX4_enterNotice 10 = .ok (.getfield 78, 3) := by decide +kernel
theorem dX4_enterNotice_13 : decode cX4_enterNotice 13 = .ok (.iload_n 3, 1) := by decide +kernel
theorem dX4_enterNotice_14 : decode cX4_enterNotice 14 = .ok (.iload 4, 2) := by decide +kernel
theorem dX4_enterNotice_16 : decode cX4_enterNotice 16 = .ok (.invokespecial 365, 3) := by decide +kernel
theorem dX4_enterNotice_19 : decode cX4_enterNotice 19 = .ok (.astore 5, 2) := by decide +kernel
theorem dX4_enterNotice_21 : decode cX4_enterNotice 21 = .ok (.aload_n 0, 1) := by decide +kernel
theorem dX4_enterNotice_22 : decode cX4_enterNotice 22 = .ok (.getfield 334, 3) := by decide +kernel
theorem dX4_enterNotice_25 : decode cX4_enterNotice 25 = .ok (.aload_n 0, 1) := by decide +kernel
theorem dX4_enterNotice_26 : decode cX4_enterNotice 26 = .ok (.getfield 23, 3) := by decide +kernel
theorem dX4_enterNotice_29 : decode cX4_enterNotice 29 = .ok (.arraylength, 1) := by decide +kernel
theorem dX4_enterNotice_30 : decode cX4_enterNotice 30 = .ok (.if_icmp .ge 24, 3) := by decide +kernel
theorem dX4_enterNotice_33 : decode cX4_enterNotice 33 = .ok (.aload_n 0, 1) := by decide +kernel
theorem dX4_enterNotice_34 : decode cX4_enterNotice 34 = .ok (.getfield 23, 3) := by decide +kernel
theorem dX4_enterNotice_37 : decode cX4_enterNotice 37 = .ok (.aload_n 0, 1) := by decide +kernel
theorem dX4_enterNotice_38 : decode cX4_enterNotice 38 = .ok (.getfield 334, 3) := by decide +kernel
theorem dX4_enterNotice_41 : decode cX4_enterNotice 41 = .ok (.aload 5, 2) := by decide +kernel
theorem dX4_enterNotice_43 : decode cX4_enterNotice 43 = .ok (.aastore, 1) := by decide +kernel
theorem dX4_enterNotice_44 : decode cX4_enterNotice 44 = .ok (.aload_n 0, 1) := by decide +kernel
theorem dX4_enterNotice_45 : decode cX4_enterNotice 45 = .ok (.dup, 1) := by decide +kernel
theorem dX4_enterNotice_46 : decode cX4_enterNotice 46 = .ok (.getfield 334, 3) := by decide +kernel
theorem dX4_enterNotice_49 : decode cX4_enterNotice 49 = .ok (.iconst 1, 1) := by decide +kernel
theorem dX4_enterNotice_50 : decode cX4_enterNotice 50 = .ok (.iadd, 1) := by decide +kernel
theorem dX4_enterNotice_51 : decode cX4_enterNotice 51 = .ok (.putfield 334, 3) := by decide +kernel
theorem dX4_enterNotice_54 : decode cX4_enterNotice 54 = .ok (.aload_n 0, 1) := by decide +kernel
theorem dX4_enterNotice_55 : decode cX4_enterNotice 55 = .ok (.aload_n 2, 1) := by decide +kernel
theorem dX4_enterNotice_56 : decode cX4_enterNotice 56 = .ok (.invokevirtual 225, 3) := by decide +kernel
theorem dX4_enterNotice_59 : decode cX4_enterNotice 59 = .ok (.aload 5, 2) := by decide +kernel
theorem dX4_enterNotice_61 : decode cX4_enterNotice 61 = .ok (.getfield 368, 3) := by decide +kernel
theorem dX4_enterNotice_64 : decode cX4_enterNotice 64 = .ok (.ireturn, 1) := by decide +kernel
theorem dX4_settle_0 : decode cX4_settle 0 = .ok (.iconst 0, 1) := by decide +kernel
theorem dX4_settle_1 : decode cX4_settle 1 = .ok (.istore_n 2, 1) := by decide +kernel
theorem dX4_settle_2 : decode cX4_settle 2 = .ok (.iload_n 2, 1) := by decide +kernel
theorem dX4_settle_3 : decode cX4_settle 3 = .ok (.bipush 120, 2) := by decide +kernel
theorem dX4_settle_5 : decode cX4_settle 5 = .ok (.if_icmp .ge 17, 3) := by decide +kernel
theorem dX4_settle_8 : decode cX4_settle 8 = .ok (.aload_n 0, 1) := by decide +kernel
theorem dX4_settle_9 : decode cX4_settle 9 = .ok (.aload_n 1, 1) := by decide +kernel
theorem dX4_settle_10 : decode cX4_settle 10 = .ok (.invokevirtual 369, 3) := by decide +kernel
theorem dX4_settle_13 : decode cX4_settle 13 = .ok (.ifCond .eq 9, 3) := by decide +kernel
theorem dX4_settle_16 : decode cX4_settle 16 = .ok (.iinc 2 1, 3) := by decide +kernel
theorem dX4_settle_19 : decode cX4_settle 19 = .ok (.goto (-17), 3) := by decide +kernel
theorem dX4_settle_22 : decode cX4_settle 22 = .ok (.return_, 1) := by decide +kernel
theorem dX4_useFirstPair_0 : decode cX4_useFirstPair 0 = .ok (.aload_n 1, 1) := by decide +kernel
theorem dX4_useFirstPair_1 : decode cX4_useFirstPair 1 = .ok (.invokevirtual 228, 3) := by decide +kernel
theorem dX4_useFirstPair_4 : decode cX4_useFirstPair 4 = .ok (.ifCond .eq 5, 3) := by decide +kernel
theorem dX4_useFirstPair_7 : decode cX4_useFirstPair 7 = .ok (.iconst 0, 1) := by decide +kernel
theorem dX4_useFirstPair_8 : decode cX4_useFirstPair 8 = .ok (.ireturn, 1) := by decide +kernel
theorem dX4_useFirstPair_9 : decode cX4_useFirstPair 9 = .ok (.aload_n 0, 1) := by decide +kernel
theorem dX4_useFirstPair_10 : decode cX4_useFirstPair 10 = .ok (.getfield 23, 3) := by decide +kernel
theorem dX4_useFirstPair_13 : decode cX4_useFirstPair 13 = .ok (.astore_n 2, 1) := by decide +kernel
theorem dX4_useFirstPair_14 : decode cX4_useFirstPair 14 = .ok (.aload_n 2, 1) := by decide +kernel
theorem dX4_useFirstPair_15 : decode cX4_useFirstPair 15 = .ok (.arraylength, 1) := by decide +kernel
theorem dX4_useFirstPair_16 : decode cX4_useFirstPair 16 = .ok (.istore_n 3, 1) := by decide +kernel
theorem dX4_useFirstPair_17 : decode cX4_useFirstPair 17 = .ok (.iconst 0, 1) := by decide +kernel
theorem dX4_useFirstPair_18 : decode cX4_useFirstPair 18 = .ok (.istore 4, 2) := by decide +kernel
theorem dX4_useFirstPair_20 : decode cX4_useFirstPair 20 = .ok (.iload 4, 2) := by decide +kernel
theorem dX4_useFirstPair_22 : decode cX4_useFirstPair 22 = .ok (.iload_n 3, 1) := by decide +kernel
theorem dX4_useFirstPair_23 : decode cX4_useFirstPair 23 = .ok (.if_icmp .ge 56, 3) := by decide +kernel
theorem dX4_useFirstPair_26 : decode cX4_useFirstPair 26 = .ok (.aload_n 2, 1) := by decide +kernel
theorem dX4_useFirstPair_27 : decode cX4_useFirstPair 27 = .ok (.iload 4, 2) := by decide +kernel
theorem dX4_useFirstPair_29 : decode cX4_useFirstPair 29 = .ok (.aaload, 1) := by decide +kernel
theorem dX4_useFirstPair_30 : decode cX4_useFirstPair 30 = .ok (.astore 5, 2) := by decide +kernel
theorem dX4_useFirstPair_32 : decode cX4_useFirstPair 32 = .ok (.aload 5, 2) := by decide +kernel
theorem dX4_useFirstPair_34 : decode cX4_useFirstPair 34 = .ok (.ifnull 21, 3) := by decide +kernel
theorem dX4_useFirstPair_37 : decode cX4_useFirstPair 37 = .ok (.aload_n 1, 1) := by decide +kernel
theorem dX4_useFirstPair_38 : decode cX4_useFirstPair 38 = .ok (.aload 5, 2) := by decide +kernel
theorem dX4_useFirstPair_40 : decode cX4_useFirstPair 40 = .ok (.invokestatic 373, 3) := by decide +kernel
theorem dX4_useFirstPair_43 : decode cX4_useFirstPair 43 = .ok (.ifCond .eq 12, 3) := by decide +kernel
theorem dX4_useFirstPair_46 : decode cX4_useFirstPair 46 = .ok (.aload_n 0, 1) := by decide +kernel
theorem dX4_useFirstPair_47 : decode cX4_useFirstPair 47 = .ok (.aload 5, 2) := by decide +kernel
theorem dX4_useFirstPair_49 : decode cX4_useFirstPair 49 = .ok (.invokevirtual 377, 3) := by decide +kernel
theorem dX4_useFirstPair_52 : decode cX4_useFirstPair 52 = .ok (.goto 4, 3) := by decide +kernel
theorem dX4_useFirstPair_55 : decode cX4_useFirstPair 55 = .ok (.aconst_null, 1) := by decide +kernel
theorem dX4_useFirstPair_56 : decode cX4_useFirstPair 56 = .ok (.astore 6, 2) := by decide +kernel
theorem dX4_useFirstPair_58 : decode cX4_useFirstPair 58 = .ok (.aload 6, 2) := by decide +kernel
theorem dX4_useFirstPair_60 : decode cX4_useFirstPair 60 = .ok (.ifnull 13, 3) := by decide +kernel
theorem dX4_useFirstPair_63 : decode cX4_useFirstPair 63 = .ok (.aload 5, 2) := by decide +kernel
theorem dX4_useFirstPair_65 : decode cX4_useFirstPair 65 = .ok (.aload 6, 2) := by decide +kernel
theorem dX4_useFirstPair_67 : decode cX4_useFirstPair 67 = .ok (.aload_n 1, 1) := by decide +kernel
theorem dX4_useFirstPair_68 : decode cX4_useFirstPair 68 = .ok (.invokestatic 381, 3) := by decide +kernel
theorem dX4_useFirstPair_71 : decode cX4_useFirstPair 71 = .ok (.iconst 1, 1) := by decide +kernel
theorem dX4_useFirstPair_72 : decode cX4_useFirstPair 72 = .ok (.ireturn, 1) := by decide +kernel
theorem dX4_useFirstPair_73 : decode cX4_useFirstPair 73 = .ok (.iinc 4 1, 3) := by decide +kernel
theorem dX4_useFirstPair_76 : decode cX4_useFirstPair 76 = .ok (.goto (-56), 3) := by decide +kernel
theorem dX4_useFirstPair_79 : decode cX4_useFirstPair 79 = .ok (.iconst 0, 1) := by decide +kernel
theorem dX4_useFirstPair_80 : decode cX4_useFirstPair 80 = .ok (.ireturn, 1) := by decide +kernel
theorem dX4_maySell_0 : decode cX4_maySell 0 = .ok (.aload_n 1, 1) := by decide +kernel
theorem dX4_maySell_1 : decode cX4_maySell 1 = .ok (.aload_n 0, 1) := by decide +kernel
theorem dX4_maySell_2 : decode cX4_maySell 2 = .ok (.getfield 78, 3) := by decide +kernel
theorem dX4_maySell_5 : decode cX4_maySell 5 = .ok (.invokevirtual 178, 3) := by decide +kernel
theorem dX4_maySell_8 : decode cX4_maySell 8 = .ok (.ifCond .eq 35, 3) := by decide +kernel
theorem dX4_maySell_11 : decode cX4_maySell 11 = .ok (.aload_n 1, 1) := by decide +kernel
theorem dX4_maySell_12 : decode cX4_maySell 12 = .ok (.getfield 385, 3) := by decide +kernel
theorem dX4_maySell_15 : decode cX4_maySell 15 = .ok (.aload_n 0, 1) := by decide +kernel
theorem dX4_maySell_16 : decode cX4_maySell 16 = .ok (.getfield 182, 3) := by decide +kernel
theorem dX4_maySell_19 : decode cX4_maySell 19 = .ok (.invokevirtual 103, 3) := by decide +kernel
theorem dX4_maySell_22 : decode cX4_maySell 22 = .ok (.if_icmp .ne 21, 3) := by decide +kernel
theorem dX4_maySell_25 : decode cX4_maySell 25 = .ok (.aload_n 1, 1) := by decide +kernel
theorem dX4_maySell_26 : decode cX4_maySell 26 = .ok (.getfield 388, 3) := by decide +kernel
theorem dX4_maySell_29 : decode cX4_maySell 29 = .ok (.aload_n 0, 1) := by decide +kernel
theorem dX4_maySell_30 : decode cX4_maySell 30 = .ok (.getfield 182, 3) := by decide +kernel
theorem dX4_maySell_33 : decode cX4_maySell 33 = .ok (.invokevirtual 391, 3) := by decide +kernel
theorem dX4_maySell_36 : decode cX4_maySell 36 = .ok (.if_icmp .lt 7, 3) := by decide +kernel
theorem dX4_maySell_39 : decode cX4_maySell 39 = .ok (.iconst 1, 1) := by decide +kernel
theorem dX4_maySell_40 : decode cX4_maySell 40 = .ok (.goto 4, 3) := by decide +kernel
theorem dX4_maySell_43 : decode cX4_maySell 43 = .ok (.iconst 0, 1) := by decide +kernel
theorem dX4_maySell_44 : decode cX4_maySell 44 = .ok (.ireturn, 1) := by decide +kernel
theorem dX4_buyerFor_0 : decode cX4_buyerFor 0 = .ok (.aload_n 0, 1) := by decide +kernel
theorem dX4_buyerFor_1 : decode cX4_buyerFor 1 = .ok (.getfield 23, 3) := by decide +kernel
theorem dX4_buyerFor_4 : decode cX4_buyerFor 4 = .ok (.astore_n 2, 1) := by decide +kernel
theorem dX4_buyerFor_5 : decode cX4_buyerFor 5 = .ok (.aload_n 2, 1) := by decide +kernel
theorem dX4_buyerFor_6 : decode cX4_buyerFor 6 = .ok (.arraylength, 1) := by decide +kernel
theorem dX4_buyerFor_7 : decode cX4_buyerFor 7 = .ok (.istore_n 3, 1) := by decide +kernel
theorem dX4_buyerFor_8 : decode cX4_buyerFor 8 = .ok (.iconst 0, 1) := by decide +kernel
theorem dX4_buyerFor_9 : decode cX4_buyerFor 9 = .ok (.istore 4, 2) := by decide +kernel
theorem dX4_buyerFor_11 : decode cX4_buyerFor 11 = .ok (.iload 4, 2) := by decide +kernel
theorem dX4_buyerFor_13 : decode cX4_buyerFor 13 = .ok (.iload_n 3, 1) := by decide +kernel
theorem dX4_buyerFor_14 : decode cX4_buyerFor 14 = .ok (.if_icmp .ge 74, 3) := by decide +kernel
theorem dX4_buyerFor_17 : decode cX4_buyerFor 17 = .ok (.aload_n 2, 1) := by decide +kernel
theorem dX4_buyerFor_18 : decode cX4_buyerFor 18 = .ok (.iload 4, 2) := by decide +kernel
theorem dX4_buyerFor_20 : decode cX4_buyerFor 20 = .ok (.aaload, 1) := by decide +kernel
theorem dX4_buyerFor_21 : decode cX4_buyerFor 21 = .ok (.astore 5, 2) := by decide +kernel
theorem dX4_buyerFor_23 : decode cX4_buyerFor 23 = .ok (.aload 5, 2) := by decide +kernel
theorem dX4_buyerFor_25 : decode cX4_buyerFor 25 = .ok (.ifnull 57, 3) := by decide +kernel
theorem dX4_buyerFor_28 : decode cX4_buyerFor 28 = .ok (.aload 5, 2) := by decide +kernel
theorem dX4_buyerFor_30 : decode cX4_buyerFor 30 = .ok (.getfield 385, 3) := by decide +kernel
theorem dX4_buyerFor_33 : decode cX4_buyerFor 33 = .ok (.iconst (-1), 1) := by decide +kernel
theorem dX4_buyerFor_34 : decode cX4_buyerFor 34 = .ok (.if_icmp .ne 48, 3) := by decide +kernel
theorem dX4_buyerFor_37 : decode cX4_buyerFor 37 = .ok (.aload 5, 2) := by decide +kernel
theorem dX4_buyerFor_39 : decode cX4_buyerFor 39 = .ok (.aload_n 1, 1) := by decide +kernel
theorem dX4_buyerFor_40 : decode cX4_buyerFor 40 = .ok (.getfield 394, 3) := by decide +kernel
theorem dX4_buyerFor_43 : decode cX4_buyerFor 43 = .ok (.invokevirtual 178, 3) := by decide +kernel
theorem dX4_buyerFor_46 : decode cX4_buyerFor 46 = .ok (.ifCond .eq 36, 3) := by decide +kernel
theorem dX4_buyerFor_49 : decode cX4_buyerFor 49 = .ok (.aload 5, 2) := by decide +kernel
theorem dX4_buyerFor_51 : decode cX4_buyerFor 51 = .ok (.getfield 397, 3) := by decide +kernel
theorem dX4_buyerFor_54 : decode cX4_buyerFor 54 = .ok (.aload_n 1, 1) := by decide +kernel
theorem dX4_buyerFor_55 : decode cX4_buyerFor 55 = .ok (.getfield 397, 3) := by decide +kernel
theorem dX4_buyerFor_58 : decode cX4_buyerFor 58 = .ok (.if_icmp .ne 24, 3) := by decide +kernel
theorem dX4_buyerFor_61 : decode cX4_buyerFor 61 = .ok (.aload 5, 2) := by decide +kernel
theorem dX4_buyerFor_63 : decode cX4_buyerFor 63 = .ok (.getfield 388, 3) := by decide +kernel
theorem dX4_buyerFor_66 : decode cX4_buyerFor 66 = .ok (.aload_n 1, 1) := by decide +kernel
theorem dX4_buyerFor_67 : decode cX4_buyerFor 67 = .ok (.getfield 388, 3) := by decide +kernel
theorem dX4_buyerFor_70 : decode cX4_buyerFor 70 = .ok (.isub, 1) := by decide +kernel
theorem dX4_buyerFor_71 : decode cX4_buyerFor 71 = .ok (.invokestatic 400, 3) := by decide +kernel
theorem dX4_buyerFor_74 : decode cX4_buyerFor 74 = .ok (.bipush 7, 2) := by decide +kernel
theorem dX4_buyerFor_76 : decode cX4_buyerFor 76 = .ok (.if_icmp .gt 6, 3) := by decide +kernel
theorem dX4_buyerFor_79 : decode cX4_buyerFor 79 = .ok (.aload 5, 2) := by decide +kernel
theorem dX4_buyerFor_81 : decode cX4_buyerFor 81 = .ok (.areturn, 1) := by decide +kernel
theorem dX4_buyerFor_82 : decode cX4_buyerFor 82 = .ok (.iinc 4 1, 3) := by decide +kernel
theorem dX4_buyerFor_85 : decode cX4_buyerFor 85 = .ok (.goto (-74), 3) := by decide +kernel
theorem dX4_buyerFor_88 : decode cX4_buyerFor 88 = .ok (.aconst_null, 1) := by decide +kernel
theorem dX4_buyerFor_89 : decode cX4_buyerFor 89 = .ok (.areturn, 1) := by decide +kernel
theorem dX4_use_0 : decode cX4_use 0 = .ok (.aload_n 0, 1) := by decide +kernel
theorem dX4_use_1 : decode cX4_use 1 = .ok (.bipush 117, 2) := by decide +kernel
theorem dX4_use_3 : decode cX4_use 3 = .ok (.putfield 165, 3) := by decide +kernel
theorem dX4_use_6 : decode cX4_use 6 = .ok (.aload_n 0, 1) := by decide +kernel
theorem dX4_use_7 : decode cX4_use 7 = .ok (.aload_n 1, 1) := by decide +kernel
theorem dX4_use_8 : decode cX4_use 8 = .ok (.getfield 368, 3) := by decide +kernel
theorem dX4_use_11 : decode cX4_use 11 = .ok (.putfield 175, 3) := by decide +kernel
theorem dX4_use_14 : decode cX4_use 14 = .ok (.aload_n 1, 1) := by decide +kernel
theorem dX4_use_15 : decode cX4_use 15 = .ok (.bipush 117, 2) := by decide +kernel
theorem dX4_use_17 : decode cX4_use 17 = .ok (.putfield 165, 3) := by decide +kernel
theorem dX4_use_20 : decode cX4_use 20 = .ok (.aload_n 1, 1) := by decide +kernel
theorem dX4_use_21 : decode cX4_use 21 = .ok (.aload_n 0, 1) := by decide +kernel
theorem dX4_use_22 : decode cX4_use 22 = .ok (.getfield 368, 3) := by decide +kernel
theorem dX4_use_25 : decode cX4_use 25 = .ok (.putfield 175, 3) := by decide +kernel
theorem dX4_use_28 : decode cX4_use 28 = .ok (.aload_n 2, 1) := by decide +kernel
theorem dX4_use_29 : decode cX4_use 29 = .ok (.getfield 182, 3) := by decide +kernel
theorem dX4_use_32 : decode cX4_use 32 = .ok (.aload_n 0, 1) := by decide +kernel
theorem dX4_use_33 : decode cX4_use 33 = .ok (.getfield 388, 3) := by decide +kernel
theorem dX4_use_36 : decode cX4_use 36 = .ok (.aload_n 0, 1) := by decide +kernel
theorem dX4_use_37 : decode cX4_use 37 = .ok (.getfield 397, 3) := by decide +kernel
theorem dX4_use_40 : decode cX4_use 40 = .ok (.invokevirtual 357, 3) := by decide +kernel
theorem dX4_use_43 : decode cX4_use 43 = .ok (.return_, 1) := by decide +kernel
theorem dX4_countOpen_0 : decode cX4_countOpen 0 = .ok (.iconst 0, 1) := by decide +kernel
theorem dX4_countOpen_1 : decode cX4_countOpen 1 = .ok (.istore_n 1, 1) := by decide +kernel
theorem dX4_countOpen_2 : decode cX4_countOpen 2 = .ok (.aload_n 0, 1) := by decide +kernel
theorem dX4_countOpen_3 : decode cX4_countOpen 3 = .ok (.getfield 23, 3) := by decide +kernel
theorem dX4_countOpen_6 : decode cX4_countOpen 6 = .ok (.astore_n 2, 1) := by decide +kernel
theorem dX4_countOpen_7 : decode cX4_countOpen 7 = .ok (.aload_n 2, 1) := by decide +kernel
theorem dX4_countOpen_8 : decode cX4_countOpen 8 = .ok (.arraylength, 1) := by decide +kernel
theorem dX4_countOpen_9 : decode cX4_countOpen 9 = .ok (.istore_n 3, 1) := by decide +kernel
theorem dX4_countOpen_10 : decode cX4_countOpen 10 = .ok (.iconst 0, 1) := by decide +kernel
theorem dX4_countOpen_11 : decode cX4_countOpen 11 = .ok (.istore 4, 2) := by decide +kernel
theorem dX4_countOpen_13 : decode cX4_countOpen 13 = .ok (.iload 4, 2) := by decide +kernel
theorem dX4_countOpen_15 : decode cX4_countOpen 15 = .ok (.iload_n 3, 1) := by decide +kernel
theorem dX4_countOpen_16 : decode cX4_countOpen 16 = .ok (.if_icmp .ge 33, 3) := by decide +kernel
theorem dX4_countOpen_19 : decode cX4_countOpen 19 = .ok (.aload_n 2, 1) := by decide +kernel
theorem dX4_countOpen_20 : decode cX4_countOpen 20 = .ok (.iload 4, 2) := by decide +kernel
theorem dX4_countOpen_22 : decode cX4_countOpen 22 = .ok (.aaload, 1) := by decide +kernel
theorem dX4_countOpen_23 : decode cX4_countOpen 23 = .ok (.astore 5, 2) := by decide +kernel
theorem dX4_countOpen_25 : decode cX4_countOpen 25 = .ok (.aload 5, 2) := by decide +kernel
theorem dX4_countOpen_27 : decode cX4_countOpen 27 = .ok (.ifnull 16, 3) := by decide +kernel
theorem dX4_countOpen_30 : decode cX4_countOpen 30 = .ok (.aload 5, 2) := by decide +kernel
theorem dX4_countOpen_32 : decode cX4_countOpen 32 = .ok (.getfield 165, 3) := by decide +kernel
theorem dX4_countOpen_35 : decode cX4_countOpen 35 = .ok (.bipush 111, 2) := by decide +kernel
theorem dX4_countOpen_37 : decode cX4_countOpen 37 = .ok (.if_icmp .ne 6, 3) := by decide +kernel
theorem dX4_countOpen_40 : decode cX4_countOpen 40 = .ok (.iinc 1 1, 3) := by decide +kernel
theorem dX4_countOpen_43 : decode cX4_countOpen 43 = .ok (.iinc 4 1, 3) := by decide +kernel
theorem dX4_countOpen_46 : decode cX4_countOpen 46 = .ok (.goto (-33), 3) := by decide +kernel
theorem dX4_countOpen_49 : decode cX4_countOpen 49 = .ok (.iload_n 1, 1) := by decide +kernel
theorem dX4_countOpen_50 : decode cX4_countOpen 50 = .ok (.ireturn, 1) := by decide +kernel
theorem dX4_taxFor_0 : decode cX4_taxFor 0 = .ok (.iload_n 0, 1) := by decide +kernel
theorem dX4_taxFor_1 : decode cX4_taxFor 1 = .ok (.lookupswitch 45 #[(99, 35), (108, 41), (109, 38)], 35) := by decide +kernel
theorem dX4_taxFor_36 : decode cX4_taxFor 36 = .ok (.bipush 60, 2) := by decide +kernel
theorem dX4_taxFor_38 : decode cX4_taxFor 38 = .ok (.ireturn, 1) := by decide +kernel
theorem dX4_taxFor_39 : decode cX4_taxFor 39 = .ok (.bipush 20, 2) := by decide +kernel
theorem dX4_taxFor_41 : decode cX4_taxFor 41 = .ok (.ireturn, 1) := by decide +kernel
theorem dX4_taxFor_42 : decode cX4_taxFor 42 = .ok (.sipush 150, 3) := by decide +kernel
theorem dX4_taxFor_45 : decode cX4_taxFor 45 = .ok (.ireturn, 1) := by decide +kernel
theorem dX4_taxFor_46 : decode cX4_taxFor 46 = .ok (.iconst 0, 1) := by decide +kernel
theorem dX4_taxFor_47 : decode cX4_taxFor 47 = .ok (.ireturn, 1) := by decide +kernel
theorem dX4_firstRoadDay_0 : decode cX4_firstRoadDay 0 = .ok (.iload_n 2, 1) := by decide +kernel
theorem dX4_firstRoadDay_1 : decode cX4_firstRoadDay 1 = .ok (.bipush 90, 2) := by decide +kernel
theorem dX4_firstRoadDay_3 : decode cX4_firstRoadDay 3 = .ok (.imul, 1) := by decide +kernel
theorem dX4_firstRoadDay_4 : decode cX4_firstRoadDay 4 = .ok (.istore_n 3, 1) := by decide +kernel
theorem dX4_firstRoadDay_5 : decode cX4_firstRoadDay 5 = .ok (.iload_n 3, 1) := by decide +kernel
theorem dX4_firstRoadDay_6 : decode cX4_firstRoadDay 6 = .ok (.bipush 90, 2) := by decide +kernel
theorem dX4_firstRoadDay_8 : decode cX4_firstRoadDay 8 = .ok (.iadd, 1) := by decide +kernel
theorem dX4_firstRoadDay_9 : decode cX4_firstRoadDay 9 = .ok (.iconst 1, 1) := by decide +kernel
theorem dX4_firstRoadDay_10 : decode cX4_firstRoadDay 10 = .ok (.isub, 1) := by decide +kernel
theorem dX4_firstRoadDay_11 : decode cX4_firstRoadDay 11 = .ok (.aload_n 0, 1) := by decide +kernel
theorem dX4_firstRoadDay_12 : decode cX4_firstRoadDay 12 = .ok (.getfield 48, 3) := by decide +kernel
theorem dX4_firstRoadDay_15 : decode cX4_firstRoadDay 15 = .ok (.invokestatic 405, 3) := by decide +kernel
theorem dX4_firstRoadDay_18 : decode cX4_firstRoadDay 18 = .ok (.istore 4, 2) := by decide +kernel
theorem dX4_firstRoadDay_20 : decode cX4_firstRoadDay 20 = .ok (.aload_n 1, 1) := by decide +kernel
theorem dX4_firstRoadDay_21 : decode cX4_firstRoadDay 21 = .ok (.getfield 118, 3) := by decide +kernel
theorem dX4_firstRoadDay_24 : decode cX4_firstRoadDay 24 = .ok (.iconst 1, 1) := by decide +kernel
theorem dX4_firstRoadDay_25 : decode cX4_firstRoadDay 25 = .ok (.iload_n 3, 1) := by decide +kernel
theorem dX4_firstRoadDay_26 : decode cX4_firstRoadDay 26 = .ok (.iload 4, 2) := by decide +kernel
theorem dX4_firstRoadDay_28 : decode cX4_firstRoadDay 28 = .ok (.invokevirtual 408, 3) := by decide +kernel
theorem dX4_firstRoadDay_31 : decode cX4_firstRoadDay 31 = .ok (.ireturn, 1) := by decide +kernel
theorem dX4_sumByQuarters_0 : decode cX4_sumByQuarters 0 = .ok (.aload_n 0, 1) := by decide +kernel
theorem dX4_sumByQuarters_1 : decode cX4_sumByQuarters 1 = .ok (.aload_n 0, 1) := by decide +kernel
theorem dX4_sumByQuarters_2 : decode cX4_sumByQuarters 2 = .ok (.getfield 31, 3) := by decide +kernel
theorem dX4_sumByQuarters_5 : decode cX4_sumByQuarters 5 = .ok (.invokevirtual 412, 3) := by decide +kernel
theorem dX4_sumByQuarters_8 : decode cX4_sumByQuarters 8 = .ok (.aload_n 0, 1) := by decide +kernel
theorem dX4_sumByQuarters_9 : decode cX4_sumByQuarters 9 = .ok (.getfield 48, 3) := by decide +kernel
theorem dX4_sumByQuarters_12 : decode cX4_sumByQuarters 12 = .ok (.bipush 90, 2) := by decide +kernel
theorem dX4_sumByQuarters_14 : decode cX4_sumByQuarters 14 = .ok (.idiv, 1) := by decide +kernel
theorem dX4_sumByQuarters_15 : decode cX4_sumByQuarters 15 = .ok (.iconst 1, 1) := by decide +kernel
theorem dX4_sumByQuarters_16 : decode cX4_sumByQuarters 16 = .ok (.iadd, 1) := by decide +kernel
theorem dX4_sumByQuarters_17 : decode cX4_sumByQuarters 17 = .ok (.istore_n 1, 1) := by decide +kernel
theorem dX4_sumByQuarters_18 : decode cX4_sumByQuarters 18 = .ok (.aload_n 0, 1) := by decide +kernel
theorem dX4_sumByQuarters_19 : decode cX4_sumByQuarters 19 = .ok (.getfield 11, 3) := by decide +kernel
theorem dX4_sumByQuarters_22 : decode cX4_sumByQuarters 22 = .ok (.astore_n 2, 1) := by decide +kernel
theorem dX4_sumByQuarters_23 : decode cX4_sumByQuarters 23 = .ok (.aload_n 2, 1) := by decide +kernel
theorem dX4_sumByQuarters_24 : decode cX4_sumByQuarters 24 = .ok (.arraylength, 1) := by decide +kernel
theorem dX4_sumByQuarters_25 : decode cX4_sumByQuarters 25 = .ok (.istore_n 3, 1) := by decide +kernel
theorem dX4_sumByQuarters_26 : decode cX4_sumByQuarters 26 = .ok (.iconst 0, 1) := by decide +kernel
theorem dX4_sumByQuarters_27 : decode cX4_sumByQuarters 27 = .ok (.istore 4, 2) := by decide +kernel
theorem dX4_sumByQuarters_29 : decode cX4_sumByQuarters 29 = .ok (.iload 4, 2) := by decide +kernel
theorem dX4_sumByQuarters_31 : decode cX4_sumByQuarters 31 = .ok (.iload_n 3, 1) := by decide +kernel
theorem dX4_sumByQuarters_32 : decode cX4_sumByQuarters 32 = .ok (.if_icmp .ge 76, 3) := by decide +kernel
theorem dX4_sumByQuarters_35 : decode cX4_sumByQuarters 35 = .ok (.aload_n 2, 1) := by decide +kernel
theorem dX4_sumByQuarters_36 : decode cX4_sumByQuarters 36 = .ok (.iload 4, 2) := by decide +kernel
theorem dX4_sumByQuarters_38 : decode cX4_sumByQuarters 38 = .ok (.aaload, 1) := by decide +kernel
theorem dX4_sumByQuarters_39 : decode cX4_sumByQuarters 39 = .ok (.astore 5, 2) := by decide +kernel
theorem dX4_sumByQuarters_41 : decode cX4_sumByQuarters 41 = .ok (.iconst 0, 1) := by decide +kernel
theorem dX4_sumByQuarters_42 : decode cX4_sumByQuarters 42 = .ok (.istore 6, 2) := by decide +kernel
theorem dX4_sumByQuarters_44 : decode cX4_sumByQuarters 44 = .ok (.aload 5, 2) := by decide +kernel
theorem dX4_sumByQuarters_46 : decode cX4_sumByQuarters 46 = .ok (.ifnull 56, 3) := by decide +kernel
theorem dX4_sumByQuarters_49 : decode cX4_sumByQuarters 49 = .ok (.iload 6, 2) := by decide +kernel
theorem dX4_sumByQuarters_51 : decode cX4_sumByQuarters 51 = .ok (.iload_n 1, 1) := by decide +kernel
theorem dX4_sumByQuarters_52 : decode cX4_sumByQuarters 52 = .ok (.if_icmp .ge 50, 3) := by decide +kernel
theorem dX4_sumByQuarters_55 : decode cX4_sumByQuarters 55 = .ok (.aload_n 0, 1) := by decide +kernel
theorem dX4_sumByQuarters_56 : decode cX4_sumByQuarters 56 = .ok (.aload 5, 2) := by decide +kernel
theorem dX4_sumByQuarters_58 : decode cX4_sumByQuarters 58 = .ok (.iload 6, 2) := by decide +kernel
theorem dX4_sumByQuarters_60 : decode cX4_sumByQuarters 60 = .ok (.invokevirtual 285, 3) := by decide +kernel
theorem dX4_sumByQuarters_63 : decode cX4_sumByQuarters 63 = .ok (.istore 7, 2) := by decide +kernel
theorem dX4_sumByQuarters_65 : decode cX4_sumByQuarters 65 = .ok (.iload 7, 2) := by decide +kernel
theorem dX4_sumByQuarters_67 : decode cX4_sumByQuarters 67 = .ok (.iconst (-1), 1) := by decide +kernel
theorem dX4_sumByQuarters_68 : decode cX4_sumByQuarters 68 = .ok (.if_icmp .eq 28, 3) := by decide +kernel
theorem dX4_sumByQuarters_71 : decode cX4_sumByQuarters 71 = .ok (.aload_n 0, 1) := by decide +kernel
theorem dX4_sumByQuarters_72 : decode cX4_sumByQuarters 72 = .ok (.getfield 31, 3) := by decide +kernel
theorem dX4_sumByQuarters_75 : decode cX4_sumByQuarters 75 = .ok (.aload 5, 2) := by decide +kernel
theorem dX4_sumByQuarters_77 : decode cX4_sumByQuarters 77 = .ok (.getfield 182, 3) := by decide +kernel
theorem dX4_sumByQuarters_80 : decode cX4_sumByQuarters 80 = .ok (.iload 7, 2) := by decide +kernel
theorem dX4_sumByQuarters_82 : decode cX4_sumByQuarters 82 = .ok (.invokevirtual 128, 3) := by decide +kernel
theorem dX4_sumByQuarters_85 : decode cX4_sumByQuarters 85 = .ok (.aload 5, 2) := by decide +kernel
theorem dX4_sumByQuarters_87 : decode cX4_sumByQuarters 87 = .ok (.getfield 145, 3) := by decide +kernel
theorem dX4_sumByQuarters_90 : decode cX4_sumByQuarters 90 = .ok (.invokestatic 289, 3) := by decide +kernel
theorem dX4_sumByQuarters_93 : decode cX4_sumByQuarters 93 = .ok (.invokestatic 211, 3) := by decide +kernel
theorem dX4_sumByQuarters_96 : decode cX4_sumByQuarters 96 = .ok (.iinc 6 1, 3) := by decide +kernel
theorem dX4_sumByQuarters_99 : decode cX4_sumByQuarters 99 = .ok (.goto (-55), 3) := by decide +kernel
theorem dX4_sumByQuarters_102 : decode cX4_sumByQuarters 102 = .ok (.iinc 4 1, 3) := by decide +kernel
theorem dX4_sumByQuarters_105 : decode cX4_sumByQuarters 105 = .ok (.goto (-76), 3) := by decide +kernel
theorem dX4_sumByQuarters_108 : decode cX4_sumByQuarters 108 = .ok (.return_, 1) := by decide +kernel
theorem dX4_sumByDays_0 : decode cX4_sumByDays 0 = .ok (.aload_n 0, 1) := by decide +kernel
theorem dX4_sumByDays_1 : decode cX4_sumByDays 1 = .ok (.aload_n 0, 1) := by decide +kernel
theorem dX4_sumByDays_2 : decode cX4_sumByDays 2 = .ok (.getfield 34, 3) := by decide +kernel
theorem dX4_sumByDays_5 : decode cX4_sumByDays 5 = .ok (.invokevirtual 412, 3) := by decide +kernel
theorem dX4_sumByDays_8 : decode cX4_sumByDays 8 = .ok (.aload_n 0, 1) := by decide +kernel
theorem dX4_sumByDays_9 : decode cX4_sumByDays 9 = .ok (.getfield 11, 3) := by decide +kernel
theorem dX4_sumByDays_12 : decode cX4_sumByDays 12 = .ok (.astore_n 1, 1) := by decide +kernel
theorem dX4_sumByDays_13 : decode cX4_sumByDays 13 = .ok (.aload_n 1, 1) := by decide +kernel
theorem dX4_sumByDays_14 : decode cX4_sumByDays 14 = .ok (.arraylength, 1) := by decide +kernel
theorem dX4_sumByDays_15 : decode cX4_sumByDays 15 = .ok (.istore_n 2, 1) := by decide +kernel
theorem dX4_sumByDays_16 : decode cX4_sumByDays 16 = .ok (.iconst 0, 1) := by decide +kernel
theorem dX4_sumByDays_17 : decode cX4_sumByDays 17 = .ok (.istore_n 3, 1) := by decide +kernel
theorem dX4_sumByDays_18 : decode cX4_sumByDays 18 = .ok (.iload_n 3, 1) := by decide +kernel
theorem dX4_sumByDays_19 : decode cX4_sumByDays 19 = .ok (.iload_n 2, 1) := by decide +kernel
theorem dX4_sumByDays_20 : decode cX4_sumByDays 20 = .ok (.if_icmp .ge 25, 3) := by decide +kernel
theorem dX4_sumByDays_23 : decode cX4_sumByDays 23 = .ok (.aload_n 1, 1) := by decide +kernel
theorem dX4_sumByDays_24 : decode cX4_sumByDays 24 = .ok (.iload_n 3, 1) := by decide +kernel
theorem dX4_sumByDays_25 : decode cX4_sumByDays 25 = .ok (.aaload, 1) := by decide +kernel
theorem dX4_sumByDays_26 : decode cX4_sumByDays 26 = .ok (.astore 4, 2) := by decide +kernel
theorem dX4_sumByDays_28 : decode cX4_sumByDays 28 = .ok (.aload 4, 2) := by decide +kernel
theorem dX4_sumByDays_30 : decode cX4_sumByDays 30 = .ok (.ifnull 9, 3) := by decide +kernel
theorem dX4_sumByDays_33 : decode cX4_sumByDays 33 = .ok (.aload_n 0, 1) := by decide +kernel
theorem dX4_sumByDays_34 : decode cX4_sumByDays 34 = .ok (.aload 4, 2) := by decide +kernel
theorem dX4_sumByDays_36 : decode cX4_sumByDays 36 = .ok (.invokevirtual 416, 3) := by decide +kernel
theorem dX4_sumByDays_39 : decode cX4_sumByDays 39 = .ok (.iinc 3 1, 3) := by decide +kernel
theorem dX4_sumByDays_42 : decode cX4_sumByDays 42 = .ok (.goto (-24), 3) := by decide +kernel
theorem dX4_sumByDays_45 : decode cX4_sumByDays 45 = .ok (.return_, 1) := by decide +kernel
theorem dX4_addDays_0 : decode cX4_addDays 0 = .ok (.iconst (-1), 1) := by decide +kernel
theorem dX4_addDays_1 : decode cX4_addDays 1 = .ok (.istore_n 2, 1) := by decide +kernel
theorem dX4_addDays_2 : decode cX4_addDays 2 = .ok (.iconst (-1), 1) := by decide +kernel
theorem dX4_addDays_3 : decode cX4_addDays 3 = .ok (.istore_n 3, 1) := by decide +kernel
theorem dX4_addDays_4 : decode cX4_addDays 4 = .ok (.iconst 0, 1) := by decide +kernel
theorem dX4_addDays_5 : decode cX4_addDays 5 = .ok (.istore 4, 2) := by decide +kernel
theorem dX4_addDays_7 : decode cX4_addDays 7 = .ok (.iload 4, 2) := by decide +kernel
theorem dX4_addDays_9 : decode cX4_addDays 9 = .ok (.aload_n 0, 1) := by decide +kernel
theorem dX4_addDays_10 : decode cX4_addDays 10 = .ok (.getfield 48, 3) := by decide +kernel
theorem dX4_addDays_13 : decode cX4_addDays 13 = .ok (.if_icmp .gt 71, 3) := by decide +kernel
theorem dX4_addDays_16 : decode cX4_addDays 16 = .ok (.iload 4, 2) := by decide +kernel
theorem dX4_addDays_18 : decode cX4_addDays 18 = .ok (.bipush 90, 2) := by decide +kernel
theorem dX4_addDays_20 : decode cX4_addDays 20 = .ok (.idiv, 1) := by decide +kernel
theorem dX4_addDays_21 : decode cX4_addDays 21 = .ok (.istore 5, 2) := by decide +kernel
theorem dX4_addDays_23 : decode cX4_addDays 23 = .ok (.iload 5, 2) := by decide +kernel
theorem dX4_addDays_25 : decode cX4_addDays 25 = .ok (.iload_n 2, 1) := by decide +kernel
theorem dX4_addDays_26 : decode cX4_addDays 26 = .ok (.if_icmp .eq 52, 3) := by decide +kernel
theorem dX4_addDays_29 : decode cX4_addDays 29 = .ok (.aload_n 1, 1) := by decide +kernel
theorem dX4_addDays_30 : decode cX4_addDays 30 = .ok (.getfield 118, 3) := by decide +kernel
theorem dX4_addDays_33 : decode cX4_addDays 33 = .ok (.iload_n 3, 1) := by decide +kernel
theorem dX4_addDays_34 : decode cX4_addDays 34 = .ok (.iload 4, 2) := by decide +kernel
theorem dX4_addDays_36 : decode cX4_addDays 36 = .ok (.invokevirtual 419, 3) := by decide +kernel
theorem dX4_addDays_39 : decode cX4_addDays 39 = .ok (.istore_n 3, 1) := by decide +kernel
theorem dX4_addDays_40 : decode cX4_addDays 40 = .ok (.aload_n 1, 1) := by decide +kernel
theorem dX4_addDays_41 : decode cX4_addDays 41 = .ok (.getfield 118, 3) := by decide +kernel
theorem dX4_addDays_44 : decode cX4_addDays 44 = .ok (.iload_n 3, 1) := by decide +kernel
theorem dX4_addDays_45 : decode cX4_addDays 45 = .ok (.invokevirtual 422, 3) := by decide +kernel
theorem dX4_addDays_48 : decode cX4_addDays 48 = .ok (.iconst 1, 1) := by decide +kernel
theorem dX4_addDays_49 : decode cX4_addDays 49 = .ok (.if_icmp .ne 29, 3) := by decide +kernel
theorem dX4_addDays_52 : decode cX4_addDays 52 = .ok (.aload_n 0, 1) := by decide +kernel
theorem dX4_addDays_53 : decode cX4_addDays 53 = .ok (.getfield 34, 3) := by decide +kernel
theorem dX4_addDays_56 : decode cX4_addDays 56 = .ok (.aload_n 1, 1) := by decide +kernel
theorem dX4_addDays_57 : decode cX4_addDays 57 = .ok (.getfield 182, 3) := by decide +kernel
theorem dX4_addDays_60 : decode cX4_addDays 60 = .ok (.iload 4, 2) := by decide +kernel
theorem dX4_addDays_62 : decode cX4_addDays 62 = .ok (.invokevirtual 188, 3) := by decide +kernel
theorem dX4_addDays_65 : decode cX4_addDays 65 = .ok (.aload_n 1, 1) := by decide +kernel
theorem dX4_addDays_66 : decode cX4_addDays 66 = .ok (.getfield 145, 3) := by decide +kernel
theorem dX4_addDays_69 : decode cX4_addDays 69 = .ok (.invokestatic 289, 3) := by decide +kernel
theorem dX4_addDays_72 : decode cX4_addDays 72 = .ok (.invokestatic 211, 3) := by decide +kernel
theorem dX4_addDays_75 : decode cX4_addDays 75 = .ok (.iload 5, 2) := by decide +kernel
theorem dX4_addDays_77 : decode cX4_addDays 77 = .ok (.istore_n 2, 1) := by decide +kernel
theorem dX4_addDays_78 : decode cX4_addDays 78 = .ok (.iinc 4 1, 3) := by decide +kernel
theorem dX4_addDays_81 : decode cX4_addDays 81 = .ok (.goto (-74), 3) := by decide +kernel
theorem dX4_addDays_84 : decode cX4_addDays 84 = .ok (.return_, 1) := by decide +kernel
theorem dX4_beginWithPaid_0 : decode cX4_beginWithPaid 0 = .ok (.iconst 0, 1) := by decide +kernel
theorem dX4_beginWithPaid_1 : decode cX4_beginWithPaid 1 = .ok (.istore_n 2, 1) := by decide +kernel
theorem dX4_beginWithPaid_2 : decode cX4_beginWithPaid 2 = .ok (.iload_n 2, 1) := by decide +kernel
theorem dX4_beginWithPaid_3 : decode cX4_beginWithPaid 3 = .ok (.aload_n 1, 1) := by decide +kernel
theorem dX4_beginWithPaid_4 : decode cX4_beginWithPaid 4 = .ok (.arraylength, 1) := by decide +kernel
theorem dX4_beginWithPaid_5 : decode cX4_beginWithPaid 5 = .ok (.if_icmp .ge 21, 3) := by decide +kernel
theorem dX4_beginWithPaid_8 : decode cX4_beginWithPaid 8 = .ok (.aload_n 1, 1) := by decide +kernel
theorem dX4_beginWithPaid_9 : decode cX4_beginWithPaid 9 = .ok (.iload_n 2, 1) := by decide +kernel
theorem dX4_beginWithPaid_10 : decode cX4_beginWithPaid 10 = .ok (.aload_n 0, 1) := by decide +kernel
theorem dX4_beginWithPaid_11 : decode cX4_beginWithPaid 11 = .ok (.getfield 27, 3) := by decide +kernel
theorem dX4_beginWithPaid_14 : decode cX4_beginWithPaid 14 = .ok (.iload_n 2, 1) := by decide +kernel
theorem dX4_beginWithPaid_15 : decode cX4_beginWithPaid 15 = .ok (.invokestatic 295, 3) := by decide +kernel
theorem dX4_beginWithPaid_18 : decode cX4_beginWithPaid 18 = .ok (.ineg, 1) := by decide +kernel
theorem dX4_beginWithPaid_19 : decode cX4_beginWithPaid 19 = .ok (.iastore, 1) := by decide +kernel
theorem dX4_beginWithPaid_20 : decode cX4_beginWithPaid 20 = .ok (.iinc 2 1, 3) := by decide +kernel
theorem dX4_beginWithPaid_23 : decode cX4_beginWithPaid 23 = .ok (.goto (-21), 3) := by decide +kernel
theorem dX4_beginWithPaid_26 : decode cX4_beginWithPaid 26 = .ok (.return_, 1) := by decide +kernel
theorem dX4_areTaxesSound_0 : decode cX4_areTaxesSound 0 = .ok (.aload_n 0, 1) := by decide +kernel
theorem dX4_areTaxesSound_1 : decode cX4_areTaxesSound 1 = .ok (.invokevirtual 292, 3) := by decide +kernel
theorem dX4_areTaxesSound_4 : decode cX4_areTaxesSound 4 = .ok (.aload_n 0, 1) := by decide +kernel
theorem dX4_areTaxesSound_5 : decode cX4_areTaxesSound 5 = .ok (.invokevirtual 299, 3) := by decide +kernel
theorem dX4_areTaxesSound_8 : decode cX4_areTaxesSound 8 = .ok (.iconst 0, 1) := by decide +kernel
theorem dX4_areTaxesSound_9 : decode cX4_areTaxesSound 9 = .ok (.istore_n 1, 1) := by decide +kernel
theorem dX4_areTaxesSound_10 : decode cX4_areTaxesSound 10 = .ok (.iload_n 1, 1) := by decide +kernel
theorem dX4_areTaxesSound_11 : decode cX4_areTaxesSound 11 = .ok (.aload_n 0, 1) := by decide +kernel
theorem dX4_areTaxesSound_12 : decode cX4_areTaxesSound 12 = .ok (.getfield 37, 3) := by decide +kernel
theorem dX4_areTaxesSound_15 : decode cX4_areTaxesSound 15 = .ok (.if_icmp .ge 30, 3) := by decide +kernel
theorem dX4_areTaxesSound_18 : decode cX4_areTaxesSound 18 = .ok (.aload_n 0, 1) := by decide +kernel
theorem dX4_areTaxesSound_19 : decode cX4_areTaxesSound 19 = .ok (.getfield 31, 3) := by decide +kernel
theorem dX4_areTaxesSound_22 : decode cX4_areTaxesSound 22 = .ok (.iload_n 1, 1) := by decide +kernel
theorem dX4_areTaxesSound_23 : decode cX4_areTaxesSound 23 = .ok (.invokestatic 295, 3) := by decide +kernel
theorem dX4_areTaxesSound_26 : decode cX4_areTaxesSound 26 = .ok (.aload_n 0, 1) := by decide +kernel
theorem dX4_areTaxesSound_27 : decode cX4_areTaxesSound 27 = .ok (.getfield 34, 3) := by decide +kernel
theorem dX4_areTaxesSound_30 : decode cX4_areTaxesSound 30 = .ok (.iload_n 1, 1) := by decide +kernel
theorem dX4_areTaxesSound_31 : decode cX4_areTaxesSound 31 = .ok (.invokestatic 295, 3) := by decide +kernel
theorem dX4_areTaxesSound_34 : decode cX4_areTaxesSound 34 = .ok (.if_icmp .eq 5, 3) := by decide +kernel
theorem dX4_areTaxesSound_37 : decode cX4_areTaxesSound 37 = .ok (.iconst 0, 1) := by decide +kernel
theorem dX4_areTaxesSound_38 : decode cX4_areTaxesSound 38 = .ok (.ireturn, 1) := by decide +kernel
theorem dX4_areTaxesSound_39 : decode cX4_areTaxesSound 39 = .ok (.iinc 1 1, 3) := by decide +kernel
theorem dX4_areTaxesSound_42 : decode cX4_areTaxesSound 42 = .ok (.goto (-32), 3) := by decide +kernel
theorem dX4_areTaxesSound_45 : decode cX4_areTaxesSound 45 = .ok (.iconst 1, 1) := by decide +kernel
theorem dX4_areTaxesSound_46 : decode cX4_areTaxesSound 46 = .ok (.ireturn, 1) := by decide +kernel
theorem dX4_isLender_0 : decode cX4_isLender 0 = .ok (.iload_n 0, 1) := by decide +kernel
theorem dX4_isLender_1 : decode cX4_isLender 1 = .ok (.bipush 97, 2) := by decide +kernel
theorem dX4_isLender_3 : decode cX4_isLender 3 = .ok (.if_icmp .lt 13, 3) := by decide +kernel
theorem dX4_isLender_6 : decode cX4_isLender 6 = .ok (.iload_n 0, 1) := by decide +kernel
theorem dX4_isLender_7 : decode cX4_isLender 7 = .ok (.bipush 103, 2) := by decide +kernel
theorem dX4_isLender_9 : decode cX4_isLender 9 = .ok (.if_icmp .ge 7, 3) := by decide +kernel
theorem dX4_isLender_12 : decode cX4_isLender 12 = .ok (.iconst 1, 1) := by decide +kernel
theorem dX4_isLender_13 : decode cX4_isLender 13 = .ok (.goto 4, 3) := by decide +kernel
theorem dX4_isLender_16 : decode cX4_isLender 16 = .ok (.iconst 0, 1) := by decide +kernel
theorem dX4_isLender_17 : decode cX4_isLender 17 = .ok (.ireturn, 1) := by decide +kernel
theorem dX4_entry_0 : decode cX4_entry 0 = .ok (.iload_n 1, 1) := by decide +kernel
theorem dX4_entry_1 : decode cX4_entry 1 = .ok (.ifCond .lt 15, 3) := by decide +kernel
theorem dX4_entry_4 : decode cX4_entry 4 = .ok (.iload_n 1, 1) := by decide +kernel
theorem dX4_entry_5 : decode cX4_entry 5 = .ok (.aload_n 0, 1) := by decide +kernel
theorem dX4_entry_6 : decode cX4_entry 6 = .ok (.arraylength, 1) := by decide +kernel
theorem dX4_entry_7 : decode cX4_entry 7 = .ok (.if_icmp .ge 9, 3) := by decide +kernel
theorem dX4_entry_10 : decode cX4_entry 10 = .ok (.aload_n 0, 1) := by decide +kernel
theorem dX4_entry_11 : decode cX4_entry 11 = .ok (.iload_n 1, 1) := by decide +kernel
theorem dX4_entry_12 : decode cX4_entry 12 = .ok (.iaload, 1) := by decide +kernel
theorem dX4_entry_13 : decode cX4_entry 13 = .ok (.goto 4, 3) := by decide +kernel
theorem dX4_entry_16 : decode cX4_entry 16 = .ok (.iconst 0, 1) := by decide +kernel
theorem dX4_entry_17 : decode cX4_entry 17 = .ok (.ireturn, 1) := by decide +kernel
theorem dX4_addTo_0 : decode cX4_addTo 0 = .ok (.iload_n 1, 1) := by decide +kernel
theorem dX4_addTo_1 : decode cX4_addTo 1 = .ok (.ifCond .lt 16, 3) := by decide +kernel
theorem dX4_addTo_4 : decode cX4_addTo 4 = .ok (.iload_n 1, 1) := by decide +kernel
theorem dX4_addTo_5 : decode cX4_addTo 5 = .ok (.aload_n 0, 1) := by decide +kernel
theorem dX4_addTo_6 : decode cX4_addTo 6 = .ok (.arraylength, 1) := by decide +kernel
theorem dX4_addTo_7 : decode cX4_addTo 7 = .ok (.if_icmp .ge 10, 3) := by decide +kernel
theorem dX4_addTo_10 : decode cX4_addTo 10 = .ok (.aload_n 0, 1) := by decide +kernel
theorem dX4_addTo_11 : decode cX4_addTo 11 = .ok (.iload_n 1, 1) := by decide +kernel
theorem dX4_addTo_12 : decode cX4_addTo 12 = .ok (.dup2, 1) := by decide +kernel
theorem dX4_addTo_13 : decode cX4_addTo 13 = .ok (.iaload, 1) := by decide +kernel
theorem dX4_addTo_14 : decode cX4_addTo 14 = .ok (.iload_n 2, 1) := by decide +kernel
theorem dX4_addTo_15 : decode cX4_addTo 15 = .ok (.iadd, 1) := by decide +kernel
theorem dX4_addTo_16 : decode cX4_addTo 16 = .ok (.iastore, 1) := by decide +kernel
theorem dX4_addTo_17 : decode cX4_addTo 17 = .ok (.return_, 1) := by decide +kernel
theorem dX5_init_0 : decode cX5_init 0 = .ok (.aload_n 0, 1) := by decide +kernel
theorem dX5_init_1 : decode cX5_init 1 = .ok (.invokespecial 1, 3) := by decide +kernel
theorem dX5_init_4 : decode cX5_init 4 = .ok (.aload_n 0, 1) := by decide +kernel
theorem dX5_init_5 : decode cX5_init 5 = .ok (.bipush 12, 2) := by decide +kernel
theorem dX5_init_7 : decode cX5_init 7 = .ok (.newarray .int, 2) := by decide +kernel
theorem dX5_init_9 : decode cX5_init 9 = .ok (.putfield 7, 3) := by decide +kernel
theorem dX5_init_12 : decode cX5_init 12 = .ok (.aload_n 0, 1) := by decide +kernel
theorem dX5_init_13 : decode cX5_init 13 = .ok (.bipush 15, 2) := by decide +kernel
theorem dX5_init_15 : decode cX5_init 15 = .ok (.newarray .int, 2) := by decide +kernel
theorem dX5_init_17 : decode cX5_init 17 = .ok (.putfield 13, 3) := by decide +kernel
theorem dX5_init_20 : decode cX5_init 20 = .ok (.aload_n 0, 1) := by decide +kernel
theorem dX5_init_21 : decode cX5_init 21 = .ok (.bipush 90, 2) := by decide +kernel
theorem dX5_init_23 : decode cX5_init 23 = .ok (.newarray .int, 2) := by decide +kernel
theorem dX5_init_25 : decode cX5_init 25 = .ok (.putfield 16, 3) := by decide +kernel
theorem dX5_init_28 : decode cX5_init 28 = .ok (.aload_n 0, 1) := by decide +kernel
theorem dX5_init_29 : decode cX5_init 29 = .ok (.bipush 15, 2) := by decide +kernel
theorem dX5_init_31 : decode cX5_init 31 = .ok (.newarray .boolean, 2) := by decide +kernel
theorem dX5_init_33 : decode cX5_init 33 = .ok (.putfield 19, 3) := by decide +kernel
theorem dX5_init_36 : decode cX5_init 36 = .ok (.aload_n 0, 1) := by decide +kernel
theorem dX5_init_37 : decode cX5_init 37 = .ok (.bipush 15, 2) := by decide +kernel
theorem dX5_init_39 : decode cX5_init 39 = .ok (.newarray .boolean, 2) := by decide +kernel
theorem dX5_init_41 : decode cX5_init 41 = .ok (.putfield 23, 3) := by decide +kernel
theorem dX5_init_44 : decode cX5_init 44 = .ok (.aload_n 0, 1) := by decide +kernel
theorem dX5_init_45 : decode cX5_init 45 = .ok (.bipush 80, 2) := by decide +kernel
theorem dX5_init_47 : decode cX5_init 47 = .ok (.newarray .int, 2) := by decide +kernel
theorem dX5_init_49 : decode cX5_init 49 = .ok (.putfield 26, 3) := by decide +kernel
theorem dX5_init_52 : decode cX5_init 52 = .ok (.aload_n 0, 1) := by decide +kernel
theorem dX5_init_53 : decode cX5_init 53 = .ok (.bipush 80, 2) := by decide +kernel
theorem dX5_init_55 : decode cX5_init 55 = .ok (.newarray .int, 2) := by decide +kernel
theorem dX5_init_57 : decode cX5_init 57 = .ok (.putfield 29, 3) := by decide +kernel
theorem dX5_init_60 : decode cX5_init 60 = .ok (.aload_n 0, 1) := by decide +kernel
theorem dX5_init_61 : decode cX5_init 61 = .ok (.bipush 80, 2) := by decide +kernel
theorem dX5_init_63 : decode cX5_init 63 = .ok (.newarray .int, 2) := by decide +kernel
theorem dX5_init_65 : decode cX5_init 65 = .ok (.putfield 32, 3) := by decide +kernel
theorem dX5_init_68 : decode cX5_init 68 = .ok (.aload_n 0, 1) := by decide +kernel
theorem dX5_init_69 : decode cX5_init 69 = .ok (.bipush 120, 2) := by decide +kernel
theorem dX5_init_71 : decode cX5_init 71 = .ok (.newarray .int, 2) := by decide +kernel
theorem dX5_init_73 : decode cX5_init 73 = .ok (.putfield 35, 3) := by decide +kernel
theorem dX5_init_76 : decode cX5_init 76 = .ok (.aload_n 0, 1) := by decide +kernel
theorem dX5_init_77 : decode cX5_init 77 = .ok (.bipush 120, 2) := by decide +kernel
theorem dX5_init_79 : decode cX5_init 79 = .ok (.newarray .int, 2) := by decide +kernel
theorem dX5_init_81 : decode cX5_init 81 = .ok (.putfield 38, 3) := by decide +kernel
theorem dX5_init_84 : decode cX5_init 84 = .ok (.aload_n 0, 1) := by decide +kernel
theorem dX5_init_85 : decode cX5_init 85 = .ok (.bipush 120, 2) := by decide +kernel
theorem dX5_init_87 : decode cX5_init 87 = .ok (.newarray .int, 2) := by decide +kernel
theorem dX5_init_89 : decode cX5_init 89 = .ok (.putfield 41, 3) := by decide +kernel
theorem dX5_init_92 : decode cX5_init 92 = .ok (.aload_n 0, 1) := by decide +kernel
theorem dX5_init_93 : decode cX5_init 93 = .ok (.bipush 120, 2) := by decide +kernel
theorem dX5_init_95 : decode cX5_init 95 = .ok (.newarray .int, 2) := by decide +kernel
theorem dX5_init_97 : decode cX5_init 97 = .ok (.putfield 44, 3) := by decide +kernel
theorem dX5_init_100 : decode cX5_init 100 = .ok (.aload_n 0, 1) := by decide +kernel
theorem dX5_init_101 : decode cX5_init 101 = .ok (.bipush 120, 2) := by decide +kernel
theorem dX5_init_103 : decode cX5_init 103 = .ok (.newarray .int, 2) := by decide +kernel
theorem dX5_init_105 : decode cX5_init 105 = .ok (.putfield 47, 3) := by decide +kernel
theorem dX5_init_108 : decode cX5_init 108 = .ok (.aload_n 0, 1) := by decide +kernel
theorem dX5_init_109 : decode cX5_init 109 = .ok (.bipush 120, 2) := by decide +kernel
theorem dX5_init_111 : decode cX5_init 111 = .ok (.newarray .int, 2) := by decide +kernel
theorem dX5_init_113 : decode cX5_init 113 = .ok (.putfield 50, 3) := by decide +kernel
theorem dX5_init_116 : decode cX5_init 116 = .ok (.aload_n 0, 1) := by decide +kernel
theorem dX5_init_117 : decode cX5_init 117 = .ok (.sipush 520, 3) := by decide +kernel
theorem dX5_init_120 : decode cX5_init 120 = .ok (.newarray .int, 2) := by decide +kernel
theorem dX5_init_122 : decode cX5_init 122 = .ok (.putfield 53, 3) := by decide +kernel
theorem dX5_init_125 : decode cX5_init 125 = .ok (.aload_n 0, 1) := by decide +kernel
theorem dX5_init_126 : decode cX5_init 126 = .ok (.sipush 520, 3) := by decide +kernel
theorem dX5_init_129 : decode cX5_init 129 = .ok (.newarray .int, 2) := by decide +kernel
theorem dX5_init_131 : decode cX5_init 131 = .ok (.putfield 56, 3) := by decide +kernel
theorem dX5_init_134 : decode cX5_init 134 = .ok (.aload_n 0, 1) := by decide +kernel
theorem dX5_init_135 : decode cX5_init 135 = .ok (.sipush 520, 3) := by decide +kernel
theorem dX5_init_138 : decode cX5_init 138 = .ok (.newarray .boolean, 2) := by decide +kernel
theorem dX5_init_140 : decode cX5_init 140 = .ok (.putfield 59, 3) := by decide +kernel
theorem dX5_init_143 : decode cX5_init 143 = .ok (.aload_n 0, 1) := by decide +kernel
theorem dX5_init_144 : decode cX5_init 144 = .ok (.sipush 1100, 3) := by decide +kernel
theorem dX5_init_147 : decode cX5_init 147 = .ok (.newarray .int, 2) := by decide +kernel
theorem dX5_init_149 : decode cX5_init 149 = .ok (.putfield 62, 3) := by decide +kernel
theorem dX5_init_152 : decode cX5_init 152 = .ok (.aload_n 0, 1) := by decide +kernel
theorem dX5_init_153 : decode cX5_init 153 = .ok (.sipush 1100, 3) := by decide +kernel
theorem dX5_init_156 : decode cX5_init 156 = .ok (.newarray .int, 2) := by decide +kernel
theorem dX5_init_158 : decode cX5_init 158 = .ok (.putfield 65, 3) := by decide +kernel
theorem dX5_init_161 : decode cX5_init 161 = .ok (.aload_n 0, 1) := by decide +kernel
theorem dX5_init_162 : decode cX5_init 162 = .ok (.sipush 1100, 3) := by decide +kernel
theorem dX5_init_165 : decode cX5_init 165 = .ok (.newarray .int, 2) := by decide +kernel
theorem dX5_init_167 : decode cX5_init 167 = .ok (.putfield 68, 3) := by decide +kernel
theorem dX5_init_170 : decode cX5_init 170 = .ok (.aload_n 0, 1) := by decide +kernel
theorem dX5_init_171 : decode cX5_init 171 = .ok (.bipush 40, 2) := by decide +kernel
theorem dX5_init_173 : decode cX5_init 173 = .ok (.newarray .int, 2) := by decide +kernel
theorem dX5_init_175 : decode cX5_init 175 = .ok (.putfield 71, 3) := by decide +kernel
theorem dX5_init_178 : decode cX5_init 178 = .ok (.aload_n 0, 1) := by decide +kernel
theorem dX5_init_179 : decode cX5_init 179 = .ok (.bipush 40, 2) := by decide +kernel
theorem dX5_init_181 : decode cX5_init 181 = .ok (.newarray .int, 2) := by decide +kernel
theorem dX5_init_183 : decode cX5_init 183 = .ok (.putfield 74, 3) := by decide +kernel
theorem dX5_init_186 : decode cX5_init 186 = .ok (.aload_n 0, 1) := by decide +kernel
theorem dX5_init_187 : decode cX5_init 187 = .ok (.bipush 40, 2) := by decide +kernel
theorem dX5_init_189 : decode cX5_init 189 = .ok (.newarray .boolean, 2) := by decide +kernel
theorem dX5_init_191 : decode cX5_init 191 = .ok (.putfield 77, 3) := by decide +kernel
theorem dX5_init_194 : decode cX5_init 194 = .ok (.return_, 1) := by decide +kernel
theorem dX5_thrown_0 : decode cX5_thrown 0 = .ok (.aload_n 0, 1) := by decide +kernel
theorem dX5_thrown_1 : decode cX5_thrown 1 = .ok (.getfield 80, 3) := by decide +kernel
theorem dX5_thrown_4 : decode cX5_thrown 4 = .ok (.ireturn, 1) := by decide +kernel
theorem dX5_fails_0 : decode cX5_fails 0 = .ok (.aload_n 0, 1) := by decide +kernel
theorem dX5_fails_1 : decode cX5_fails 1 = .ok (.iload_n 1, 1) := by decide +kernel
theorem dX5_fails_2 : decode cX5_fails 2 = .ok (.putfield 80, 3) := by decide +kernel
theorem dX5_fails_5 : decode cX5_fails 5 = .ok (.iconst 0, 1) := by decide +kernel
theorem dX5_fails_6 : decode cX5_fails 6 = .ok (.ireturn, 1) := by decide +kernel
theorem dX5_in_0 : decode cX5_in 0 = .ok (.iload_n 0, 1) := by decide +kernel
theorem dX5_in_1 : decode cX5_in 1 = .ok (.iload_n 1, 1) := by decide +kernel
theorem dX5_in_2 : decode cX5_in 2 = .ok (.if_icmp .lt 12, 3) := by decide +kernel
theorem dX5_in_5 : decode cX5_in 5 = .ok (.iload_n 0, 1) := by decide +kernel
theorem dX5_in_6 : decode cX5_in 6 = .ok (.iload_n 2, 1) := by decide +kernel
theorem dX5_in_7 : decode cX5_in 7 = .ok (.if_icmp .gt 7, 3) := by decide +kernel
theorem dX5_in_10 : decode cX5_in 10 = .ok (.iconst 1, 1) := by decide +kernel
theorem dX5_in_11 : decode cX5_in 11 = .ok (.goto 4, 3) := by decide +kernel
theorem dX5_in_14 : decode cX5_in 14 = .ok (.iconst 0, 1) := by decide +kernel
theorem dX5_in_15 : decode cX5_in 15 = .ok (.ireturn, 1) := by decide +kernel
theorem dX5_isKeeper_0 : decode cX5_isKeeper 0 = .ok (.iload_n 1, 1) := by decide +kernel
theorem dX5_isKeeper_1 : decode cX5_isKeeper 1 = .ok (.iconst 0, 1) := by decide +kernel
theorem dX5_isKeeper_2 : decode cX5_isKeeper 2 = .ok (.aload_n 0, 1) := by decide +kernel
theorem dX5_isKeeper_3 : decode cX5_isKeeper 3 = .ok (.getfield 84, 3) := by decide +kernel
theorem dX5_isKeeper_6 : decode cX5_isKeeper 6 = .ok (.iconst 1, 1) := by decide +kernel
theorem dX5_isKeeper_7 : decode cX5_isKeeper 7 = .ok (.isub, 1) := by decide +kernel
theorem dX5_isKeeper_8 : decode cX5_isKeeper 8 = .ok (.invokestatic 87, 3) := by decide +kernel
theorem dX5_isKeeper_11 : decode cX5_isKeeper 11 = .ok (.ireturn, 1) := by decide +kernel
theorem dX5_isVehicle_0 : decode cX5_isVehicle 0 = .ok (.iload_n 1, 1) := by decide +kernel
theorem dX5_isVehicle_1 : decode cX5_isVehicle 1 = .ok (.iconst 0, 1) := by decide +kernel
theorem dX5_isVehicle_2 : decode cX5_isVehicle 2 = .ok (.aload_n 0, 1) := by decide +kernel
theorem dX5_isVehicle_3 : decode cX5_isVehicle 3 = .ok (.getfield 91, 3) := by decide +kernel
theorem dX5_isVehicle_6 : decode cX5_isVehicle 6 = .ok (.iconst 1, 1) := by decide +kernel
theorem dX5_isVehicle_7 : decode cX5_isVehicle 7 = .ok (.isub, 1) := by decide +kernel
theorem dX5_isVehicle_8 : decode cX5_isVehicle 8 = .ok (.invokestatic 87, 3) := by decide +kernel
theorem dX5_isVehicle_11 : decode cX5_isVehicle 11 = .ok (.ireturn, 1) := by decide +kernel
theorem dX5_isPlate_0 : decode cX5_isPlate 0 = .ok (.iload_n 1, 1) := by decide +kernel
theorem dX5_isPlate_1 : decode cX5_isPlate 1 = .ok (.iconst 0, 1) := by decide +kernel
theorem dX5_isPlate_2 : decode cX5_isPlate 2 = .ok (.aload_n 0, 1) := by decide +kernel
theorem dX5_isPlate_3 : decode cX5_isPlate 3 = .ok (.getfield 94, 3) := by decide +kernel
theorem dX5_isPlate_6 : decode cX5_isPlate 6 = .ok (.iconst 1, 1) := by decide +kernel
theorem dX5_isPlate_7 : decode cX5_isPlate 7 = .ok (.isub, 1) := by decide +kernel
theorem dX5_isPlate_8 : decode cX5_isPlate 8 = .ok (.invokestatic 87, 3) := by decide +kernel
theorem dX5_isPlate_11 : decode cX5_isPlate 11 = .ok (.ireturn, 1) := by decide +kernel
theorem dX5_isDay_0 : decode cX5_isDay 0 = .ok (.iload_n 1, 1) := by decide +kernel
theorem dX5_isDay_1 : decode cX5_isDay 1 = .ok (.iconst 0, 1) := by decide +kernel
theorem dX5_isDay_2 : decode cX5_isDay 2 = .ok (.aload_n 0, 1) := by decide +kernel
theorem dX5_isDay_3 : decode cX5_isDay 3 = .ok (.getfield 97, 3) := by decide +kernel
theorem dX5_isDay_6 : decode cX5_isDay 6 = .ok (.invokestatic 87, 3) := by decide +kernel
theorem dX5_isDay_9 : decode cX5_isDay 9 = .ok (.ireturn, 1) := by decide +kernel
theorem dX5_isKind_0 : decode cX5_isKind 0 = .ok (.iload_n 0, 1) := by decide +kernel
theorem dX5_isKind_1 : decode cX5_isKind 1 = .ok (.bipush 99, 2) := by decide +kernel
theorem dX5_isKind_3 : decode cX5_isKind 3 = .ok (.if_icmp .eq 21, 3) := by decide +kernel
theorem dX5_isKind_6 : decode cX5_isKind 6 = .ok (.iload_n 0, 1) := by decide +kernel
theorem dX5_isKind_7 : decode cX5_isKind 7 = .ok (.bipush 109, 2) := by decide +kernel
theorem dX5_isKind_9 : decode cX5_isKind 9 = .ok (.if_icmp .eq 15, 3) := by decide +kernel
theorem dX5_isKind_12 : decode cX5_isKind 12 = .ok (.iload_n 0, 1) := by decide +kernel
theorem dX5_isKind_13 : decode cX5_isKind 13 = .ok (.bipush 108, 2) := by decide +kernel
theorem dX5_isKind_15 : decode cX5_isKind 15 = .ok (.if_icmp .eq 9, 3) := by decide +kernel
theorem dX5_isKind_18 : decode cX5_isKind 18 = .ok (.iload_n 0, 1) := by decide +kernel
theorem dX5_isKind_19 : decode cX5_isKind 19 = .ok (.bipush 104, 2) := by decide +kernel
theorem dX5_isKind_21 : decode cX5_isKind 21 = .ok (.if_icmp .ne 7, 3) := by decide +kernel
theorem dX5_isKind_24 : decode cX5_isKind 24 = .ok (.iconst 1, 1) := by decide +kernel
theorem dX5_isKind_25 : decode cX5_isKind 25 = .ok (.goto 4, 3) := by decide +kernel
theorem dX5_isKind_28 : decode cX5_isKind 28 = .ok (.iconst 0, 1) := by decide +kernel
theorem dX5_isKind_29 : decode cX5_isKind 29 = .ok (.ireturn, 1) := by decide +kernel
theorem dX5_tax_0 : decode cX5_tax 0 = .ok (.iload_n 0, 1) := by decide +kernel
theorem dX5_tax_1 : decode cX5_tax 1 = .ok (.bipush 99, 2) := by decide +kernel
theorem dX5_tax_3 : decode cX5_tax 3 = .ok (.if_icmp .ne 8, 3) := by decide +kernel
theorem dX5_tax_6 : decode cX5_tax 6 = .ok (.bipush 60, 2) := by decide +kernel
theorem dX5_tax_8 : decode cX5_tax 8 = .ok (.goto 27, 3) := by decide +kernel
theorem dX5_tax_11 : decode cX5_tax 11 = .ok (.iload_n 0, 1) := by decide +kernel
theorem dX5_tax_12 : decode cX5_tax 12 = .ok (.bipush 109, 2) := by decide +kernel
theorem dX5_tax_14 : decode cX5_tax 14 = .ok (.if_icmp .ne 8, 3) := by decide +kernel
theorem dX5_tax_17 : decode cX5_tax 17 = .ok (.bipush 20, 2) := by decide +kernel
theorem dX5_tax_19 : decode cX5_tax 19 = .ok (.goto 16, 3) := by decide +kernel
theorem dX5_tax_22 : decode cX5_tax 22 = .ok (.iload_n 0, 1) := by decide +kernel
theorem dX5_tax_23 : decode cX5_tax 23 = .ok (.bipush 108, 2) := by decide +kernel
theorem dX5_tax_25 : decode cX5_tax 25 = .ok (.if_icmp .ne 9, 3) := by decide +kernel
theorem dX5_tax_28 : decode cX5_tax 28 = .ok (.sipush 150, 3) := by decide +kernel
theorem dX5_tax_31 : decode cX5_tax 31 = .ok (.goto 4, 3) := by decide +kernel
theorem dX5_tax_34 : decode cX5_tax 34 = .ok (.iconst 0, 1) := by decide +kernel
theorem dX5_tax_35 : decode cX5_tax 35 = .ok (.ireturn, 1) := by decide +kernel
theorem dX5_setsRoad_0 : decode cX5_setsRoad 0 = .ok (.aload_n 0, 1) := by decide +kernel
theorem dX5_setsRoad_1 : decode cX5_setsRoad 1 = .ok (.getfield 100, 3) := by decide +kernel
theorem dX5_setsRoad_4 : decode cX5_setsRoad 4 = .ok (.istore_n 3, 1) := by decide +kernel
theorem dX5_setsRoad_5 : decode cX5_setsRoad 5 = .ok (.iconst 0, 1) := by decide +kernel
theorem dX5_setsRoad_6 : decode cX5_setsRoad 6 = .ok (.istore 4, 2) := by decide +kernel
theorem dX5_setsRoad_8 : decode cX5_setsRoad 8 = .ok (.iload 4, 2) := by decide +kernel
theorem dX5_setsRoad_10 : decode cX5_setsRoad 10 = .ok (.aload_n 0, 1) := by decide +kernel
theorem dX5_setsRoad_11 : decode cX5_setsRoad 11 = .ok (.getfield 100, 3) := by decide +kernel
theorem dX5_setsRoad_14 : decode cX5_setsRoad 14 = .ok (.if_icmp .ge 37, 3) := by decide +kernel
theorem dX5_setsRoad_17 : decode cX5_setsRoad 17 = .ok (.aload_n 0, 1) := by decide +kernel
theorem dX5_setsRoad_18 : decode cX5_setsRoad 18 = .ok (.getfield 53, 3) := by decide +kernel
theorem dX5_setsRoad_21 : decode cX5_setsRoad 21 = .ok (.iload 4, 2) := by decide +kernel
theorem dX5_setsRoad_23 : decode cX5_setsRoad 23 = .ok (.iaload, 1) := by decide +kernel
theorem dX5_setsRoad_24 : decode cX5_setsRoad 24 = .ok (.iload_n 1, 1) := by decide +kernel
theorem dX5_setsRoad_25 : decode cX5_setsRoad 25 = .ok (.if_icmp .ne 20, 3) := by decide +kernel
theorem dX5_setsRoad_28 : decode cX5_setsRoad 28 = .ok (.aload_n 0, 1) := by decide +kernel
theorem dX5_setsRoad_29 : decode cX5_setsRoad 29 = .ok (.getfield 56, 3) := by decide +kernel
theorem dX5_setsRoad_32 : decode cX5_setsRoad 32 = .ok (.iload 4, 2) := by decide +kernel
theorem dX5_setsRoad_34 : decode cX5_setsRoad 34 = .ok (.iaload, 1) := by decide +kernel
theorem dX5_setsRoad_35 : decode cX5_setsRoad 35 = .ok (.aload_n 0, 1) := by decide +kernel
theorem dX5_setsRoad_36 : decode cX5_setsRoad 36 = .ok (.getfield 97, 3) := by decide +kernel
theorem dX5_setsRoad_39 : decode cX5_setsRoad 39 = .ok (.if_icmp .ne 6, 3) := by decide +kernel
theorem dX5_setsRoad_42 : decode cX5_setsRoad 42 = .ok (.iload 4, 2) := by decide +kernel
theorem dX5_setsRoad_44 : decode cX5_setsRoad 44 = .ok (.istore_n 3, 1) := by decide +kernel
theorem dX5_setsRoad_45 : decode cX5_setsRoad 45 = .ok (.iinc 4 1, 3) := by decide +kernel
theorem dX5_setsRoad_48 : decode cX5_setsRoad 48 = .ok (.goto (-40), 3) := by decide +kernel
theorem dX5_setsRoad_51 : decode cX5_setsRoad 51 = .ok (.aload_n 0, 1) := by decide +kernel
theorem dX5_setsRoad_52 : decode cX5_setsRoad 52 = .ok (.getfield 53, 3) := by decide +kernel
theorem dX5_setsRoad_55 : decode cX5_setsRoad 55 = .ok (.iload_n 3, 1) := by decide +kernel
theorem dX5_setsRoad_56 : decode cX5_setsRoad 56 = .ok (.iload_n 1, 1) := by decide +kernel
theorem dX5_setsRoad_57 : decode cX5_setsRoad 57 = .ok (.iastore, 1) := by decide +kernel
theorem dX5_setsRoad_58 : decode cX5_setsRoad 58 = .ok (.aload_n 0, 1) := by decide +kernel
theorem dX5_setsRoad_59 : decode cX5_setsRoad 59 = .ok (.getfield 56, 3) := by decide +kernel
theorem dX5_setsRoad_62 : decode cX5_setsRoad 62 = .ok (.iload_n 3, 1) := by decide +kernel
theorem dX5_setsRoad_63 : decode cX5_setsRoad 63 = .ok (.aload_n 0, 1) := by decide +kernel
theorem dX5_setsRoad_64 : decode cX5_setsRoad 64 = .ok (.getfield 97, 3) := by decide +kernel
theorem dX5_setsRoad_67 : decode cX5_setsRoad 67 = .ok (.iastore, 1) := by decide +kernel
theorem dX5_setsRoad_68 : decode cX5_setsRoad 68 = .ok (.aload_n 0, 1) := by decide +kernel
theorem dX5_setsRoad_69 : decode cX5_setsRoad 69 = .ok (.getfield 59, 3) := by decide +kernel
theorem dX5_setsRoad_72 : decode cX5_setsRoad 72 = .ok (.iload_n 3, 1) := by decide +kernel
theorem dX5_setsRoad_73 : decode cX5_setsRoad 73 = .ok (.iload_n 2, 1) := by decide +kernel
theorem dX5_setsRoad_74 : decode cX5_setsRoad 74 = .ok (.bastore, 1) := by decide +kernel
theorem dX5_setsRoad_75 : decode cX5_setsRoad 75 = .ok (.aload_n 0, 1) := by decide +kernel
theorem dX5_setsRoad_76 : decode cX5_setsRoad 76 = .ok (.dup, 1) := by decide +kernel
theorem dX5_setsRoad_77 : decode cX5_setsRoad 77 = .ok (.getfield 100, 3) := by decide +kernel
theorem dX5_setsRoad_80 : decode cX5_setsRoad 80 = .ok (.iload_n 3, 1) := by decide +kernel
theorem dX5_setsRoad_81 : decode cX5_setsRoad 81 = .ok (.aload_n 0, 1) := by decide +kernel
theorem dX5_setsRoad_82 : decode cX5_setsRoad 82 = .ok (.getfield 100, 3) := by decide +kernel
theorem dX5_setsRoad_85 : decode cX5_setsRoad 85 = .ok (.if_icmp .ne 7, 3) := by decide +kernel
theorem dX5_setsRoad_88 : decode cX5_setsRoad 88 = .ok (.iconst 1, 1) := by decide +kernel
theorem dX5_setsRoad_89 : decode cX5_setsRoad 89 = .ok (.goto 4, 3) := by decide +kernel
theorem dX5_setsRoad_92 : decode cX5_setsRoad 92 = .ok (.iconst 0, 1) := by decide +kernel
theorem dX5_setsRoad_93 : decode cX5_setsRoad 93 = .ok (.iadd, 1) := by decide +kernel
theorem dX5_setsRoad_94 : decode cX5_setsRoad 94 = .ok (.putfield 100, 3) := by decide +kernel
theorem dX5_setsRoad_97 : decode cX5_setsRoad 97 = .ok (.return_, 1) := by decide +kernel
theorem dX5_road_0 : decode cX5_road 0 = .ok (.iconst 0, 1) := by decide +kernel
theorem dX5_road_1 : decode cX5_road 1 = .ok (.istore_n 3, 1) := by decide +kernel
theorem dX5_road_2 : decode cX5_road 2 = .ok (.iconst 0, 1) := by decide +kernel
theorem dX5_road_3 : decode cX5_road 3 = .ok (.istore 4, 2) := by decide +kernel
theorem dX5_road_5 : decode cX5_road 5 = .ok (.iload 4, 2) := by decide +kernel
theorem dX5_road_7 : decode cX5_road 7 = .ok (.aload_n 0, 1) := by decide +kernel
theorem dX5_road_8 : decode cX5_road 8 = .ok (.getfield 100, 3) := by decide +kernel
theorem dX5_road_11 : decode cX5_road 11 = .ok (.if_icmp .ge 39, 3) := by decide +kernel
theorem dX5_road_14 : decode cX5_road 14 = .ok (.aload_n 0, 1) := by decide +kernel
theorem dX5_road_15 : decode cX5_road 15 = .ok (.getfield 53, 3) := by decide +kernel
theorem dX5_road_18 : decode cX5_road 18 = .ok (.iload 4, 2) := by decide +kernel
theorem dX5_road_20 : decode cX5_road 20 = .ok (.iaload, 1) := by decide +kernel
theorem dX5_road_21 : decode cX5_road 21 = .ok (.iload_n 1, 1) := by decide +kernel
theorem dX5_road_22 : decode cX5_road 22 = .ok (.if_icmp .ne 22, 3) := by decide +kernel
theorem dX5_road_25 : decode cX5_road 25 = .ok (.aload_n 0, 1) := by decide +kernel
theorem dX5_road_26 : decode cX5_road 26 = .ok (.getfield 56, 3) := by decide +kernel
theorem dX5_road_29 : decode cX5_road 29 = .ok (.iload 4, 2) := by decide +kernel
theorem dX5_road_31 : decode cX5_road 31 = .ok (.iaload, 1) := by decide +kernel
theorem dX5_road_32 : decode cX5_road 32 = .ok (.iload_n 2, 1) := by decide +kernel
theorem dX5_road_33 : decode cX5_road 33 = .ok (.if_icmp .gt 11, 3) := by decide +kernel
theorem dX5_road_36 : decode cX5_road 36 = .ok (.aload_n 0, 1) := by decide +kernel
theorem dX5_road_37 : decode cX5_road 37 = .ok (.getfield 59, 3) := by decide +kernel
theorem dX5_road_40 : decode cX5_road 40 = .ok (.iload 4, 2) := by decide +kernel
theorem dX5_road_42 : decode cX5_road 42 = .ok (.baload, 1) := by decide +kernel
theorem dX5_road_43 : decode cX5_road 43 = .ok (.istore_n 3, 1) := by decide +kernel
theorem dX5_road_44 : decode cX5_road 44 = .ok (.iinc 4 1, 3) := by decide +kernel
theorem dX5_road_47 : decode cX5_road 47 = .ok (.goto (-42), 3) := by decide +kernel
theorem dX5_road_50 : decode cX5_road 50 = .ok (.iload_n 3, 1) := by decide +kernel
theorem dX5_road_51 : decode cX5_road 51 = .ok (.ireturn, 1) := by decide +kernel
theorem dX5_setsPlate_0 : decode cX5_setsPlate 0 = .ok (.aload_n 0, 1) := by decide +kernel
theorem dX5_setsPlate_1 : decode cX5_setsPlate 1 = .ok (.getfield 103, 3) := by decide +kernel
theorem dX5_setsPlate_4 : decode cX5_setsPlate 4 = .ok (.istore_n 3, 1) := by decide +kernel
theorem dX5_setsPlate_5 : decode cX5_setsPlate 5 = .ok (.iconst 0, 1) := by decide +kernel
theorem dX5_setsPlate_6 : decode cX5_setsPlate 6 = .ok (.istore 4, 2) := by decide +kernel
theorem dX5_setsPlate_8 : decode cX5_setsPlate 8 = .ok (.iload 4, 2) := by decide +kernel
theorem dX5_setsPlate_10 : decode cX5_setsPlate 10 = .ok (.aload_n 0, 1) := by decide +kernel
theorem dX5_setsPlate_11 : decode cX5_setsPlate 11 = .ok (.getfield 103, 3) := by decide +kernel
theorem dX5_setsPlate_14 : decode cX5_setsPlate 14 = .ok (.if_icmp .ge 37, 3) := by decide +kernel
theorem dX5_setsPlate_17 : decode cX5_setsPlate 17 = .ok (.aload_n 0, 1) := by decide +kernel
theorem dX5_setsPlate_18 : decode cX5_setsPlate 18 = .ok (.getfield 62, 3) := by decide +kernel
theorem dX5_setsPlate_21 : decode cX5_setsPlate 21 = .ok (.iload 4, 2) := by decide +kernel
theorem dX5_setsPlate_23 : decode cX5_setsPlate 23 = .ok (.iaload, 1) := by decide +kernel
theorem dX5_setsPlate_24 : decode cX5_setsPlate 24 = .ok (.iload_n 1, 1) := by decide +kernel
theorem dX5_setsPlate_25 : decode cX5_setsPlate 25 = .ok (.if_icmp .ne 20, 3) := by decide +kernel
theorem dX5_setsPlate_28 : decode cX5_setsPlate 28 = .ok (.aload_n 0, 1) := by decide +kernel
theorem dX5_setsPlate_29 : decode cX5_setsPlate 29 = .ok (.getfield 65, 3) := by decide +kernel
theorem dX5_setsPlate_32 : decode cX5_setsPlate 32 = .ok (.iload 4, 2) := by decide +kernel
theorem dX5_setsPlate_34 : decode cX5_setsPlate 34 = .ok (.iaload, 1) := by decide +kernel
theorem dX5_setsPlate_35 : decode cX5_setsPlate 35 = .ok (.aload_n 0, 1) := by decide +kernel
theorem dX5_setsPlate_36 : decode cX5_setsPlate 36 = .ok (.getfield 97, 3) := by decide +kernel
theorem dX5_setsPlate_39 : decode cX5_setsPlate 39 = .ok (.if_icmp .ne 6, 3) := by decide +kernel
theorem dX5_setsPlate_42 : decode cX5_setsPlate 42 = .ok (.iload 4, 2) := by decide +kernel
theorem dX5_setsPlate_44 : decode cX5_setsPlate 44 = .ok (.istore_n 3, 1) := by decide +kernel
theorem dX5_setsPlate_45 : decode cX5_setsPlate 45 = .ok (.iinc 4 1, 3) := by decide +kernel
theorem dX5_setsPlate_48 : decode cX5_setsPlate 48 = .ok (.goto (-40), 3) := by decide +kernel
theorem dX5_setsPlate_51 : decode cX5_setsPlate 51 = .ok (.aload_n 0, 1) := by decide +kernel
theorem dX5_setsPlate_52 : decode cX5_setsPlate 52 = .ok (.getfield 62, 3) := by decide +kernel
theorem dX5_setsPlate_55 : decode cX5_setsPlate 55 = .ok (.iload_n 3, 1) := by decide +kernel
theorem dX5_setsPlate_56 : decode cX5_setsPlate 56 = .ok (.iload_n 1, 1) := by decide +kernel
theorem dX5_setsPlate_57 : decode cX5_setsPlate 57 = .ok (.iastore, 1) := by decide +kernel
theorem dX5_setsPlate_58 : decode cX5_setsPlate 58 = .ok (.aload_n 0, 1) := by decide +kernel
theorem dX5_setsPlate_59 : decode cX5_setsPlate 59 = .ok (.getfield 65, 3) := by decide +kernel
theorem dX5_setsPlate_62 : decode cX5_setsPlate 62 = .ok (.iload_n 3, 1) := by decide +kernel
theorem dX5_setsPlate_63 : decode cX5_setsPlate 63 = .ok (.aload_n 0, 1) := by decide +kernel
theorem dX5_setsPlate_64 : decode cX5_setsPlate 64 = .ok (.getfield 97, 3) := by decide +kernel
theorem dX5_setsPlate_67 : decode cX5_setsPlate 67 = .ok (.iastore, 1) := by decide +kernel
theorem dX5_setsPlate_68 : decode cX5_setsPlate 68 = .ok (.aload_n 0, 1) := by decide +kernel
theorem dX5_setsPlate_69 : decode cX5_setsPlate 69 = .ok (.getfield 68, 3) := by decide +kernel
theorem dX5_setsPlate_72 : decode cX5_setsPlate 72 = .ok (.iload_n 3, 1) := by decide +kernel
theorem dX5_setsPlate_73 : decode cX5_setsPlate 73 = .ok (.iload_n 2, 1) := by decide +kernel
theorem dX5_setsPlate_74 : decode cX5_setsPlate 74 = .ok (.iastore, 1) := by decide +kernel
theorem dX5_setsPlate_75 : decode cX5_setsPlate 75 = .ok (.aload_n 0, 1) := by decide +kernel
theorem dX5_setsPlate_76 : decode cX5_setsPlate 76 = .ok (.dup, 1) := by decide +kernel
theorem dX5_setsPlate_77 : decode cX5_setsPlate 77 = .ok (.getfield 103, 3) := by decide +kernel
theorem dX5_setsPlate_80 : decode cX5_setsPlate 80 = .ok (.iload_n 3, 1) := by decide +kernel
theorem dX5_setsPlate_81 : decode cX5_setsPlate 81 = .ok (.aload_n 0, 1) := by decide +kernel
theorem dX5_setsPlate_82 : decode cX5_setsPlate 82 = .ok (.getfield 103, 3) := by decide +kernel
theorem dX5_setsPlate_85 : decode cX5_setsPlate 85 = .ok (.if_icmp .ne 7, 3) := by decide +kernel
theorem dX5_setsPlate_88 : decode cX5_setsPlate 88 = .ok (.iconst 1, 1) := by decide +kernel
theorem dX5_setsPlate_89 : decode cX5_setsPlate 89 = .ok (.goto 4, 3) := by decide +kernel
theorem dX5_setsPlate_92 : decode cX5_setsPlate 92 = .ok (.iconst 0, 1) := by decide +kernel
theorem dX5_setsPlate_93 : decode cX5_setsPlate 93 = .ok (.iadd, 1) := by decide +kernel
theorem dX5_setsPlate_94 : decode cX5_setsPlate 94 = .ok (.putfield 103, 3) := by decide +kernel
theorem dX5_setsPlate_97 : decode cX5_setsPlate 97 = .ok (.return_, 1) := by decide +kernel
theorem dX5_plate_0 : decode cX5_plate 0 = .ok (.iconst (-1), 1) := by decide +kernel
theorem dX5_plate_1 : decode cX5_plate 1 = .ok (.istore_n 3, 1) := by decide +kernel
theorem dX5_plate_2 : decode cX5_plate 2 = .ok (.iconst 0, 1) := by decide +kernel
theorem dX5_plate_3 : decode cX5_plate 3 = .ok (.istore 4, 2) := by decide +kernel
theorem dX5_plate_5 : decode cX5_plate 5 = .ok (.iload 4, 2) := by decide +kernel
theorem dX5_plate_7 : decode cX5_plate 7 = .ok (.aload_n 0, 1) := by decide +kernel
theorem dX5_plate_8 : decode cX5_plate 8 = .ok (.getfield 103, 3) := by decide +kernel
theorem dX5_plate_11 : decode cX5_plate 11 = .ok (.if_icmp .ge 39, 3) := by decide +kernel
theorem dX5_plate_14 : decode cX5_plate 14 = .ok (.aload_n 0, 1) := by decide +kernel
theorem dX5_plate_15 : decode cX5_plate 15 = .ok (.getfield 62, 3) := by decide +kernel
theorem dX5_plate_18 : decode cX5_plate 18 = .ok (.iload 4, 2) := by decide +kernel
theorem dX5_plate_20 : decode cX5_plate 20 = .ok (.iaload, 1) := by decide +kernel
theorem dX5_plate_21 : decode cX5_plate 21 = .ok (.iload_n 1, 1) := by decide +kernel
theorem dX5_plate_22 : decode cX5_plate 22 = .ok (.if_icmp .ne 22, 3) := by decide +kernel
theorem dX5_plate_25 : decode cX5_plate 25 = .ok (.aload_n 0, 1) := by decide +kernel
theorem dX5_plate_26 : decode cX5_plate 26 = .ok (.getfield 65, 3) := by decide +kernel
theorem dX5_plate_29 : decode cX5_plate 29 = .ok (.iload 4, 2) := by decide +kernel
theorem dX5_plate_31 : decode cX5_plate 31 = .ok (.iaload, 1) := by decide +kernel
theorem dX5_plate_32 : decode cX5_plate 32 = .ok (.iload_n 2, 1) := by decide +kernel
theorem dX5_plate_33 : decode cX5_plate 33 = .ok (.if_icmp .gt 11, 3) := by decide +kernel
theorem dX5_plate_36 : decode cX5_plate 36 = .ok (.aload_n 0, 1) := by decide +kernel
theorem dX5_plate_37 : decode cX5_plate 37 = .ok (.getfield 68, 3) := by decide +kernel
theorem dX5_plate_40 : decode cX5_plate 40 = .ok (.iload 4, 2) := by decide +kernel
theorem dX5_plate_42 : decode cX5_plate 42 = .ok (.iaload, 1) := by decide +kernel
theorem dX5_plate_43 : decode cX5_plate 43 = .ok (.istore_n 3, 1) := by decide +kernel
theorem dX5_plate_44 : decode cX5_plate 44 = .ok (.iinc 4 1, 3) := by decide +kernel
theorem dX5_plate_47 : decode cX5_plate 47 = .ok (.goto (-42), 3) := by decide +kernel
theorem dX5_plate_50 : decode cX5_plate 50 = .ok (.iload_n 3, 1) := by decide +kernel
theorem dX5_plate_51 : decode cX5_plate 51 = .ok (.ireturn, 1) := by decide +kernel
theorem dX5_vehicle_0 : decode cX5_vehicle 0 = .ok (.iconst 0, 1) := by decide +kernel
theorem dX5_vehicle_1 : decode cX5_vehicle 1 = .ok (.istore_n 3, 1) := by decide +kernel
theorem dX5_vehicle_2 : decode cX5_vehicle 2 = .ok (.iload_n 3, 1) := by decide +kernel
theorem dX5_vehicle_3 : decode cX5_vehicle 3 = .ok (.aload_n 0, 1) := by decide +kernel
theorem dX5_vehicle_4 : decode cX5_vehicle 4 = .ok (.getfield 91, 3) := by decide +kernel
theorem dX5_vehicle_7 : decode cX5_vehicle 7 = .ok (.if_icmp .ge 21, 3) := by decide +kernel
theorem dX5_vehicle_10 : decode cX5_vehicle 10 = .ok (.aload_n 0, 1) := by decide +kernel
theorem dX5_vehicle_11 : decode cX5_vehicle 11 = .ok (.iload_n 3, 1) := by decide +kernel
theorem dX5_vehicle_12 : decode cX5_vehicle 12 = .ok (.iload_n 2, 1) := by decide +kernel
theorem dX5_vehicle_13 : decode cX5_vehicle 13 = .ok (.invokevirtual 106, 3) := by decide +kernel
theorem dX5_vehicle_16 : decode cX5_vehicle 16 = .ok (.iload_n 1, 1) := by decide +kernel
theorem dX5_vehicle_17 : decode cX5_vehicle 17 = .ok (.if_icmp .ne 5, 3) := by decide +kernel
theorem dX5_vehicle_20 : decode cX5_vehicle 20 = .ok (.iload_n 3, 1) := by decide +kernel
theorem dX5_vehicle_21 : decode cX5_vehicle 21 = .ok (.ireturn, 1) := by decide +kernel
theorem dX5_vehicle_22 : decode cX5_vehicle 22 = .ok (.iinc 3 1, 3) := by decide +kernel
theorem dX5_vehicle_25 : decode cX5_vehicle 25 = .ok (.goto (-23), 3) := by decide +kernel
theorem dX5_vehicle_28 : decode cX5_vehicle 28 = .ok (.iconst (-1), 1) := by decide +kernel
theorem dX5_vehicle_29 : decode cX5_vehicle 29 = .ok (.ireturn, 1) := by decide +kernel
theorem dX5_keeper_0 : decode cX5_keeper 0 = .ok (.iconst (-1), 1) := by decide +kernel
theorem dX5_keeper_1 : decode cX5_keeper 1 = .ok (.istore_n 3, 1) := by decide +kernel
theorem dX5_keeper_2 : decode cX5_keeper 2 = .ok (.iconst 0, 1) := by decide +kernel
theorem dX5_keeper_3 : decode cX5_keeper 3 = .ok (.istore 4, 2) := by decide +kernel
theorem dX5_keeper_5 : decode cX5_keeper 5 = .ok (.iload 4, 2) := by decide +kernel
theorem dX5_keeper_7 : decode cX5_keeper 7 = .ok (.aload_n 0, 1) := by decide +kernel
theorem dX5_keeper_8 : decode cX5_keeper 8 = .ok (.getfield 110, 3) := by decide +kernel
theorem dX5_keeper_11 : decode cX5_keeper 11 = .ok (.if_icmp .ge 39, 3) := by decide +kernel
theorem dX5_keeper_14 : decode cX5_keeper 14 = .ok (.aload_n 0, 1) := by decide +kernel
theorem dX5_keeper_15 : decode cX5_keeper 15 = .ok (.getfield 26, 3) := by decide +kernel
theorem dX5_keeper_18 : decode cX5_keeper 18 = .ok (.iload 4, 2) := by decide +kernel
theorem dX5_keeper_20 : decode cX5_keeper 20 = .ok (.iaload, 1) := by decide +kernel
theorem dX5_keeper_21 : decode cX5_keeper 21 = .ok (.iload_n 1, 1) := by decide +kernel
theorem dX5_keeper_22 : decode cX5_keeper 22 = .ok (.if_icmp .ne 22, 3) := by decide +kernel
theorem dX5_keeper_25 : decode cX5_keeper 25 = .ok (.aload_n 0, 1) := by decide +kernel
theorem dX5_keeper_26 : decode cX5_keeper 26 = .ok (.getfield 29, 3) := by decide +kernel
theorem dX5_keeper_29 : decode cX5_keeper 29 = .ok (.iload 4, 2) := by decide +kernel
theorem dX5_keeper_31 : decode cX5_keeper 31 = .ok (.iaload, 1) := by decide +kernel
theorem dX5_keeper_32 : decode cX5_keeper 32 = .ok (.iload_n 2, 1) := by decide +kernel
theorem dX5_keeper_33 : decode cX5_keeper 33 = .ok (.if_icmp .gt 11, 3) := by decide +kernel
theorem dX5_keeper_36 : decode cX5_keeper 36 = .ok (.aload_n 0, 1) := by decide +kernel
theorem dX5_keeper_37 : decode cX5_keeper 37 = .ok (.getfield 32, 3) := by decide +kernel
theorem dX5_keeper_40 : decode cX5_keeper 40 = .ok (.iload 4, 2) := by decide +kernel
theorem dX5_keeper_42 : decode cX5_keeper 42 = .ok (.iaload, 1) := by decide +kernel
theorem dX5_keeper_43 : decode cX5_keeper 43 = .ok (.istore_n 3, 1) := by decide +kernel
theorem dX5_keeper_44 : decode cX5_keeper 44 = .ok (.iinc 4 1, 3) := by decide +kernel
theorem dX5_keeper_47 : decode cX5_keeper 47 = .ok (.goto (-42), 3) := by decide +kernel
theorem dX5_keeper_50 : decode cX5_keeper 50 = .ok (.iload_n 3, 1) := by decide +kernel
theorem dX5_keeper_51 : decode cX5_keeper 51 = .ok (.ireturn, 1) := by decide +kernel
theorem dX5_present_0 : decode cX5_present 0 = .ok (.aload_n 0, 1) := by decide +kernel
theorem dX5_present_1 : decode cX5_present 1 = .ok (.iload_n 1, 1) := by decide +kernel
theorem dX5_present_2 : decode cX5_present 2 = .ok (.sipush 3000, 3) := by decide +kernel
theorem dX5_present_5 : decode cX5_present 5 = .ok (.invokevirtual 113, 3) := by decide +kernel
theorem dX5_present_8 : decode cX5_present 8 = .ok (.ireturn, 1) := by decide +kernel
theorem dX5_lastPass_0 : decode cX5_lastPass 0 = .ok (.iconst 0, 1) := by decide +kernel
theorem dX5_lastPass_1 : decode cX5_lastPass 1 = .ok (.istore_n 2, 1) := by decide +kernel
theorem dX5_lastPass_2 : decode cX5_lastPass 2 = .ok (.iconst 0, 1) := by decide +kernel
theorem dX5_lastPass_3 : decode cX5_lastPass 3 = .ok (.istore_n 3, 1) := by decide +kernel
theorem dX5_lastPass_4 : decode cX5_lastPass 4 = .ok (.iload_n 3, 1) := by decide +kernel
theorem dX5_lastPass_5 : decode cX5_lastPass 5 = .ok (.aload_n 0, 1) := by decide +kernel
theorem dX5_lastPass_6 : decode cX5_lastPass 6 = .ok (.getfield 110, 3) := by decide +kernel
theorem dX5_lastPass_9 : decode cX5_lastPass 9 = .ok (.if_icmp .ge 26, 3) := by decide +kernel
theorem dX5_lastPass_12 : decode cX5_lastPass 12 = .ok (.aload_n 0, 1) := by decide +kernel
theorem dX5_lastPass_13 : decode cX5_lastPass 13 = .ok (.getfield 26, 3) := by decide +kernel
theorem dX5_lastPass_16 : decode cX5_lastPass 16 = .ok (.iload_n 3, 1) := by decide +kernel
theorem dX5_lastPass_17 : decode cX5_lastPass 17 = .ok (.iaload, 1) := by decide +kernel
theorem dX5_lastPass_18 : decode cX5_lastPass 18 = .ok (.iload_n 1, 1) := by decide +kernel
theorem dX5_lastPass_19 : decode cX5_lastPass 19 = .ok (.if_icmp .ne 10, 3) := by decide +kernel
theorem dX5_lastPass_22 : decode cX5_lastPass 22 = .ok (.aload_n 0, 1) := by decide +kernel
theorem dX5_lastPass_23 : decode cX5_lastPass 23 = .ok (.getfield 29, 3) := by decide +kernel
theorem dX5_lastPass_26 : decode cX5_lastPass 26 = .ok (.iload_n 3, 1) := by decide +kernel
theorem dX5_lastPass_27 : decode cX5_lastPass 27 = .ok (.iaload, 1) := by decide +kernel
theorem dX5_lastPass_28 : decode cX5_lastPass 28 = .ok (.istore_n 2, 1) := by decide +kernel
theorem dX5_lastPass_29 : decode cX5_lastPass 29 = .ok (.iinc 3 1, 3) := by decide +kernel
theorem dX5_lastPass_32 : decode cX5_lastPass 32 = .ok (.goto (-28), 3) := by decide +kernel
theorem dX5_lastPass_35 : decode cX5_lastPass 35 = .ok (.iload_n 2, 1) := by decide +kernel
theorem dX5_lastPass_36 : decode cX5_lastPass 36 = .ok (.ireturn, 1) := by decide +kernel
theorem dX5_passesOn_0 : decode cX5_passesOn 0 = .ok (.aload_n 0, 1) := by decide +kernel
theorem dX5_passesOn_1 : decode cX5_passesOn 1 = .ok (.getfield 26, 3) := by decide +kernel
theorem dX5_passesOn_4 : decode cX5_passesOn 4 = .ok (.aload_n 0, 1) := by decide +kernel
theorem dX5_passesOn_5 : decode cX5_passesOn 5 = .ok (.getfield 110, 3) := by decide +kernel
theorem dX5_passesOn_8 : decode cX5_passesOn 8 = .ok (.iload_n 1, 1) := by decide +kernel
theorem dX5_passesOn_9 : decode cX5_passesOn 9 = .ok (.iastore, 1) := by decide +kernel
theorem dX5_passesOn_10 : decode cX5_passesOn 10 = .ok (.aload_n 0, 1) := by decide +kernel
theorem dX5_passesOn_11 : decode cX5_passesOn 11 = .ok (.getfield 29, 3) := by decide +kernel
theorem dX5_passesOn_14 : decode cX5_passesOn 14 = .ok (.aload_n 0, 1) := by decide +kernel
theorem dX5_passesOn_15 : decode cX5_passesOn 15 = .ok (.getfield 110, 3) := by decide +kernel
theorem dX5_passesOn_18 : decode cX5_passesOn 18 = .ok (.iload_n 2, 1) := by decide +kernel
theorem dX5_passesOn_19 : decode cX5_passesOn 19 = .ok (.iastore, 1) := by decide +kernel
theorem dX5_passesOn_20 : decode cX5_passesOn 20 = .ok (.aload_n 0, 1) := by decide +kernel
theorem dX5_passesOn_21 : decode cX5_passesOn 21 = .ok (.getfield 32, 3) := by decide +kernel
theorem dX5_passesOn_24 : decode cX5_passesOn 24 = .ok (.aload_n 0, 1) := by decide +kernel
theorem dX5_passesOn_25 : decode cX5_passesOn 25 = .ok (.getfield 110, 3) := by decide +kernel
theorem dX5_passesOn_28 : decode cX5_passesOn 28 = .ok (.iload_n 3, 1) := by decide +kernel
theorem dX5_passesOn_29 : decode cX5_passesOn 29 = .ok (.iastore, 1) := by decide +kernel
theorem dX5_passesOn_30 : decode cX5_passesOn 30 = .ok (.aload_n 0, 1) := by decide +kernel
theorem dX5_passesOn_31 : decode cX5_passesOn 31 = .ok (.dup, 1) := by decide +kernel
theorem dX5_passesOn_32 : decode cX5_passesOn 32 = .ok (.getfield 110, 3) := by decide +kernel
theorem dX5_passesOn_35 : decode cX5_passesOn 35 = .ok (.iconst 1, 1) := by decide +kernel
theorem dX5_passesOn_36 : decode cX5_passesOn 36 = .ok (.iadd, 1) := by decide +kernel
theorem dX5_passesOn_37 : decode cX5_passesOn 37 = .ok (.putfield 110, 3) := by decide +kernel
theorem dX5_passesOn_40 : decode cX5_passesOn 40 = .ok (.return_, 1) := by decide +kernel
theorem dX5_blocked_0 : decode cX5_blocked 0 = .ok (.aload_n 0, 1) := by decide +kernel
theorem dX5_blocked_1 : decode cX5_blocked 1 = .ok (.getfield 19, 3) := by decide +kernel
theorem dX5_blocked_4 : decode cX5_blocked 4 = .ok (.iload_n 1, 1) := by decide +kernel
theorem dX5_blocked_5 : decode cX5_blocked 5 = .ok (.baload, 1) := by decide +kernel
theorem dX5_blocked_6 : decode cX5_blocked 6 = .ok (.istore_n 2, 1) := by decide +kernel
theorem dX5_blocked_7 : decode cX5_blocked 7 = .ok (.iconst 0, 1) := by decide +kernel
theorem dX5_blocked_8 : decode cX5_blocked 8 = .ok (.istore_n 3, 1) := by decide +kernel
theorem dX5_blocked_9 : decode cX5_blocked 9 = .ok (.iload_n 3, 1) := by decide +kernel
theorem dX5_blocked_10 : decode cX5_blocked 10 = .ok (.bipush 6, 2) := by decide +kernel
theorem dX5_blocked_12 : decode cX5_blocked 12 = .ok (.if_icmp .ge 33, 3) := by decide +kernel
theorem dX5_blocked_15 : decode cX5_blocked 15 = .ok (.iload_n 2, 1) := by decide +kernel
theorem dX5_blocked_16 : decode cX5_blocked 16 = .ok (.ifCond .ne 17, 3) := by decide +kernel
theorem dX5_blocked_19 : decode cX5_blocked 19 = .ok (.aload_n 0, 1) := by decide +kernel
theorem dX5_blocked_20 : decode cX5_blocked 20 = .ok (.getfield 16, 3) := by decide +kernel
theorem dX5_blocked_23 : decode cX5_blocked 23 = .ok (.bipush 6, 2) := by decide +kernel
theorem dX5_blocked_25 : decode cX5_blocked 25 = .ok (.iload_n 1, 1) := by decide +kernel
theorem dX5_blocked_26 : decode cX5_blocked 26 = .ok (.imul, 1) := by decide +kernel
theorem dX5_blocked_27 : decode cX5_blocked 27 = .ok (.iload_n 3, 1) := by decide +kernel
theorem dX5_blocked_28 : decode cX5_blocked 28 = .ok (.iadd, 1) := by decide +kernel
theorem dX5_blocked_29 : decode cX5_blocked 29 = .ok (.iaload, 1) := by decide +kernel
theorem dX5_blocked_30 : decode cX5_blocked 30 = .ok (.ifCond .le 7, 3) := by decide +kernel
theorem dX5_blocked_33 : decode cX5_blocked 33 = .ok (.iconst 1, 1) := by decide +kernel
theorem dX5_blocked_34 : decode cX5_blocked 34 = .ok (.goto 4, 3) := by decide +kernel
theorem dX5_blocked_37 : decode cX5_blocked 37 = .ok (.iconst 0, 1) := by decide +kernel
theorem dX5_blocked_38 : decode cX5_blocked 38 = .ok (.istore_n 2, 1) := by decide +kernel
theorem dX5_blocked_39 : decode cX5_blocked 39 = .ok (.iinc 3 1, 3) := by decide +kernel
theorem dX5_blocked_42 : decode cX5_blocked 42 = .ok (.goto (-33), 3) := by decide +kernel
theorem dX5_blocked_45 : decode cX5_blocked 45 = .ok (.iload_n 2, 1) := by decide +kernel
theorem dX5_blocked_46 : decode cX5_blocked 46 = .ok (.ireturn, 1) := by decide +kernel
theorem dX5_addKeeper_0 : decode cX5_addKeeper 0 = .ok (.aload_n 0, 1) := by decide +kernel
theorem dX5_addKeeper_1 : decode cX5_addKeeper 1 = .ok (.getfield 84, 3) := by decide +kernel
theorem dX5_addKeeper_4 : decode cX5_addKeeper 4 = .ok (.bipush 12, 2) := by decide +kernel
theorem dX5_addKeeper_6 : decode cX5_addKeeper 6 = .ok (.if_icmp .ne 9, 3) := by decide +kernel
theorem dX5_addKeeper_9 : decode cX5_addKeeper 9 = .ok (.aload_n 0, 1) := by decide +kernel
theorem dX5_addKeeper_10 : decode cX5_addKeeper 10 = .ok (.iconst 1, 1) := by decide +kernel
theorem dX5_addKeeper_11 : decode cX5_addKeeper 11 = .ok (.invokevirtual 116, 3) := by decide +kernel
theorem dX5_addKeeper_14 : decode cX5_addKeeper 14 = .ok (.ireturn, 1) := by decide +kernel
theorem dX5_addKeeper_15 : decode cX5_addKeeper 15 = .ok (.aload_n 0, 1) := by decide +kernel
theorem dX5_addKeeper_16 : decode cX5_addKeeper 16 = .ok (.iconst 0, 1) := by decide +kernel
theorem dX5_addKeeper_17 : decode cX5_addKeeper 17 = .ok (.putfield 80, 3) := by decide +kernel
theorem dX5_addKeeper_20 : decode cX5_addKeeper 20 = .ok (.aload_n 0, 1) := by decide +kernel
theorem dX5_addKeeper_21 : decode cX5_addKeeper 21 = .ok (.dup, 1) := by decide +kernel
theorem dX5_addKeeper_22 : decode cX5_addKeeper 22 = .ok (.getfield 84, 3) := by decide +kernel
theorem dX5_addKeeper_25 : decode cX5_addKeeper 25 = .ok (.iconst 1, 1) := by decide +kernel
theorem dX5_addKeeper_26 : decode cX5_addKeeper 26 = .ok (.iadd, 1) := by decide +kernel
theorem dX5_addKeeper_27 : decode cX5_addKeeper 27 = .ok (.putfield 84, 3) := by decide +kernel
theorem dX5_addKeeper_30 : decode cX5_addKeeper 30 = .ok (.aload_n 0, 1) := by decide +kernel
theorem dX5_addKeeper_31 : decode cX5_addKeeper 31 = .ok (.getfield 84, 3) := by decide +kernel
theorem dX5_addKeeper_34 : decode cX5_addKeeper 34 = .ok (.iconst 1, 1) := by decide +kernel
theorem dX5_addKeeper_35 : decode cX5_addKeeper 35 = .ok (.isub, 1) := by decide +kernel
theorem dX5_addKeeper_36 : decode cX5_addKeeper 36 = .ok (.ireturn, 1) := by decide +kernel
theorem dX5_pass_0 : decode cX5_pass 0 = .ok (.iload_n 1, 1) := by decide +kernel
theorem dX5_pass_1 : decode cX5_pass 1 = .ok (.iconst 1, 1) := by decide +kernel
theorem dX5_pass_2 : decode cX5_pass 2 = .ok (.bipush 99, 2) := by decide +kernel
theorem dX5_pass_4 : decode cX5_pass 4 = .ok (.invokestatic 87, 3) := by decide +kernel
theorem dX5_pass_7 : decode cX5_pass 7 = .ok (.ifCond .eq 15, 3) := by decide +kernel
theorem dX5_pass_10 : decode cX5_pass 10 = .ok (.aload_n 0, 1) := by decide +kernel
theorem dX5_pass_11 : decode cX5_pass 11 = .ok (.getfield 97, 3) := by decide +kernel
theorem dX5_pass_14 : decode cX5_pass 14 = .ok (.iload_n 1, 1) := by decide +kernel
theorem dX5_pass_15 : decode cX5_pass 15 = .ok (.iadd, 1) := by decide +kernel
theorem dX5_pass_16 : decode cX5_pass 16 = .ok (.sipush 3000, 3) := by decide +kernel
theorem dX5_pass_19 : decode cX5_pass 19 = .ok (.if_icmp .le 9, 3) := by decide +kernel
theorem dX5_pass_22 : decode cX5_pass 22 = .ok (.aload_n 0, 1) := by decide +kernel
theorem dX5_pass_23 : decode cX5_pass 23 = .ok (.iconst 1, 1) := by decide +kernel
theorem dX5_pass_24 : decode cX5_pass 24 = .ok (.invokevirtual 116, 3) := by decide +kernel
theorem dX5_pass_27 : decode cX5_pass 27 = .ok (.ireturn, 1) := by decide +kernel
theorem dX5_pass_28 : decode cX5_pass 28 = .ok (.aload_n 0, 1) := by decide +kernel
theorem dX5_pass_29 : decode cX5_pass 29 = .ok (.iconst 0, 1) := by decide +kernel
theorem dX5_pass_30 : decode cX5_pass 30 = .ok (.putfield 80, 3) := by decide +kernel
theorem dX5_pass_33 : decode cX5_pass 33 = .ok (.aload_n 0, 1) := by decide +kernel
theorem dX5_pass_34 : decode cX5_pass 34 = .ok (.dup, 1) := by decide +kernel
theorem dX5_pass_35 : decode cX5_pass 35 = .ok (.getfield 97, 3) := by decide +kernel
theorem dX5_pass_38 : decode cX5_pass 38 = .ok (.iload_n 1, 1) := by decide +kernel
theorem dX5_pass_39 : decode cX5_pass 39 = .ok (.iadd, 1) := by decide +kernel
theorem dX5_pass_40 : decode cX5_pass 40 = .ok (.putfield 97, 3) := by decide +kernel
theorem dX5_pass_43 : decode cX5_pass 43 = .ok (.aload_n 0, 1) := by decide +kernel
theorem dX5_pass_44 : decode cX5_pass 44 = .ok (.getfield 97, 3) := by decide +kernel
theorem dX5_pass_47 : decode cX5_pass 47 = .ok (.ireturn, 1) := by decide +kernel
theorem dX5_day_0 : decode cX5_day 0 = .ok (.aload_n 0, 1) := by decide +kernel
theorem dX5_day_1 : decode cX5_day 1 = .ok (.iconst 0, 1) := by decide +kernel
theorem dX5_day_2 : decode cX5_day 2 = .ok (.putfield 80, 3) := by decide +kernel
theorem dX5_day_5 : decode cX5_day 5 = .ok (.aload_n 0, 1) := by decide +kernel
theorem dX5_day_6 : decode cX5_day 6 = .ok (.getfield 97, 3) := by decide +kernel
theorem dX5_day_9 : decode cX5_day 9 = .ok (.ireturn, 1) := by decide +kernel
theorem dX5_issues_0 : decode cX5_issues 0 = .ok (.aload_n 0, 1) := by decide +kernel
theorem dX5_issues_1 : decode cX5_issues 1 = .ok (.iload_n 1, 1) := by decide +kernel
theorem dX5_issues_2 : decode cX5_issues 2 = .ok (.aload_n 0, 1) := by decide +kernel
theorem dX5_issues_3 : decode cX5_issues 3 = .ok (.getfield 94, 3) := by decide +kernel
theorem dX5_issues_6 : decode cX5_issues 6 = .ok (.invokevirtual 120, 3) := by decide +kernel
theorem dX5_issues_9 : decode cX5_issues 9 = .ok (.aload_n 0, 1) := by decide +kernel
theorem dX5_issues_10 : decode cX5_issues 10 = .ok (.dup, 1) := by decide +kernel
theorem dX5_issues_11 : decode cX5_issues 11 = .ok (.getfield 94, 3) := by decide +kernel
theorem dX5_issues_14 : decode cX5_issues 14 = .ok (.iconst 1, 1) := by decide +kernel
theorem dX5_issues_15 : decode cX5_issues 15 = .ok (.iadd, 1) := by decide +kernel
theorem dX5_issues_16 : decode cX5_issues 16 = .ok (.putfield 94, 3) := by decide +kernel
theorem dX5_issues_19 : decode cX5_issues 19 = .ok (.aload_n 0, 1) := by decide +kernel
theorem dX5_issues_20 : decode cX5_issues 20 = .ok (.getfield 94, 3) := by decide +kernel
theorem dX5_issues_23 : decode cX5_issues 23 = .ok (.iconst 1, 1) := by decide +kernel
theorem dX5_issues_24 : decode cX5_issues 24 = .ok (.isub, 1) := by decide +kernel
theorem dX5_issues_25 : decode cX5_issues 25 = .ok (.ireturn, 1) := by decide +kernel
theorem dX5_adds_0 : decode cX5_adds 0 = .ok (.aload_n 0, 1) := by decide +kernel
theorem dX5_adds_1 : decode cX5_adds 1 = .ok (.iload_n 1, 1) := by decide +kernel
theorem dX5_adds_2 : decode cX5_adds 2 = .ok (.invokevirtual 124, 3) := by decide +kernel
theorem dX5_adds_5 : decode cX5_adds 5 = .ok (.ifCond .ne 9, 3) := by decide +kernel
theorem dX5_adds_8 : decode cX5_adds 8 = .ok (.aload_n 0, 1) := by decide +kernel
theorem dX5_adds_9 : decode cX5_adds 9 = .ok (.iconst 1, 1) := by decide +kernel
theorem dX5_adds_10 : decode cX5_adds 10 = .ok (.invokevirtual 116, 3) := by decide +kernel
theorem dX5_adds_13 : decode cX5_adds 13 = .ok (.ireturn, 1) := by decide +kernel
theorem dX5_adds_14 : decode cX5_adds 14 = .ok (.iload_n 2, 1) := by decide +kernel
theorem dX5_adds_15 : decode cX5_adds 15 = .ok (.invokestatic 128, 3) := by decide +kernel
theorem dX5_adds_18 : decode cX5_adds 18 = .ok (.ifCond .ne 9, 3) := by decide +kernel
theorem dX5_adds_21 : decode cX5_adds 21 = .ok (.aload_n 0, 1) := by decide +kernel
theorem dX5_adds_22 : decode cX5_adds 22 = .ok (.iconst 2, 1) := by decide +kernel
theorem dX5_adds_23 : decode cX5_adds 23 = .ok (.invokevirtual 116, 3) := by decide +kernel
theorem dX5_adds_26 : decode cX5_adds 26 = .ok (.ireturn, 1) := by decide +kernel
theorem dX5_adds_27 : decode cX5_adds 27 = .ok (.aload_n 0, 1) := by decide +kernel
theorem dX5_adds_28 : decode cX5_adds 28 = .ok (.getfield 91, 3) := by decide +kernel
theorem dX5_adds_31 : decode cX5_adds 31 = .ok (.bipush 15, 2) := by decide +kernel
theorem dX5_adds_33 : decode cX5_adds 33 = .ok (.if_icmp .eq 16, 3) := by decide +kernel
theorem dX5_adds_36 : decode cX5_adds 36 = .ok (.iload_n 3, 1) := by decide +kernel
theorem dX5_adds_37 : decode cX5_adds 37 = .ok (.ifCond .eq 18, 3) := by decide +kernel
theorem dX5_adds_40 : decode cX5_adds 40 = .ok (.aload_n 0, 1) := by decide +kernel
theorem dX5_adds_41 : decode cX5_adds 41 = .ok (.getfield 94, 3) := by decide +kernel
theorem dX5_adds_44 : decode cX5_adds 44 = .ok (.bipush 40, 2) := by decide +kernel
theorem dX5_adds_46 : decode cX5_adds 46 = .ok (.if_icmp .ne 9, 3) := by decide +kernel
theorem dX5_adds_49 : decode cX5_adds 49 = .ok (.aload_n 0, 1) := by decide +kernel
theorem dX5_adds_50 : decode cX5_adds 50 = .ok (.iconst 3, 1) := by decide +kernel
theorem dX5_adds_51 : decode cX5_adds 51 = .ok (.invokevirtual 116, 3) := by decide +kernel
theorem dX5_adds_54 : decode cX5_adds 54 = .ok (.ireturn, 1) := by decide +kernel
theorem dX5_adds_55 : decode cX5_adds 55 = .ok (.aload_n 0, 1) := by decide +kernel
theorem dX5_adds_56 : decode cX5_adds 56 = .ok (.iconst 0, 1) := by decide +kernel
theorem dX5_adds_57 : decode cX5_adds 57 = .ok (.putfield 80, 3) := by decide +kernel
theorem dX5_adds_60 : decode cX5_adds 60 = .ok (.aload_n 0, 1) := by decide +kernel
theorem dX5_adds_61 : decode cX5_adds 61 = .ok (.getfield 13, 3) := by decide +kernel
theorem dX5_adds_64 : decode cX5_adds 64 = .ok (.aload_n 0, 1) := by decide +kernel
theorem dX5_adds_65 : decode cX5_adds 65 = .ok (.getfield 91, 3) := by decide +kernel
theorem dX5_adds_68 : decode cX5_adds 68 = .ok (.iload_n 2, 1) := by decide +kernel
theorem dX5_adds_69 : decode cX5_adds 69 = .ok (.iastore, 1) := by decide +kernel
theorem dX5_adds_70 : decode cX5_adds 70 = .ok (.aload_n 0, 1) := by decide +kernel
theorem dX5_adds_71 : decode cX5_adds 71 = .ok (.getfield 23, 3) := by decide +kernel
theorem dX5_adds_74 : decode cX5_adds 74 = .ok (.aload_n 0, 1) := by decide +kernel
theorem dX5_adds_75 : decode cX5_adds 75 = .ok (.getfield 91, 3) := by decide +kernel
theorem dX5_adds_78 : decode cX5_adds 78 = .ok (.iload_n 3, 1) := by decide +kernel
theorem dX5_adds_79 : decode cX5_adds 79 = .ok (.bastore, 1) := by decide +kernel
theorem dX5_adds_80 : decode cX5_adds 80 = .ok (.aload_n 0, 1) := by decide +kernel
theorem dX5_adds_81 : decode cX5_adds 81 = .ok (.aload_n 0, 1) := by decide +kernel
theorem dX5_adds_82 : decode cX5_adds 82 = .ok (.getfield 91, 3) := by decide +kernel
theorem dX5_adds_85 : decode cX5_adds 85 = .ok (.aload_n 0, 1) := by decide +kernel
theorem dX5_adds_86 : decode cX5_adds 86 = .ok (.getfield 97, 3) := by decide +kernel
theorem dX5_adds_89 : decode cX5_adds 89 = .ok (.iload_n 1, 1) := by decide +kernel
theorem dX5_adds_90 : decode cX5_adds 90 = .ok (.invokevirtual 132, 3) := by decide +kernel
theorem dX5_adds_93 : decode cX5_adds 93 = .ok (.aload_n 0, 1) := by decide +kernel
theorem dX5_adds_94 : decode cX5_adds 94 = .ok (.dup, 1) := by decide +kernel
theorem dX5_adds_95 : decode cX5_adds 95 = .ok (.getfield 91, 3) := by decide +kernel
theorem dX5_adds_98 : decode cX5_adds 98 = .ok (.iconst 1, 1) := by decide +kernel
theorem dX5_adds_99 : decode cX5_adds 99 = .ok (.iadd, 1) := by decide +kernel
theorem dX5_adds_100 : decode cX5_adds 100 = .ok (.putfield 91, 3) := by decide +kernel
theorem dX5_adds_103 : decode cX5_adds 103 = .ok (.iload_n 3, 1) := by decide +kernel
theorem dX5_adds_104 : decode cX5_adds 104 = .ok (.ifCond .eq 25, 3) := by decide +kernel
theorem dX5_adds_107 : decode cX5_adds 107 = .ok (.aload_n 0, 1) := by decide +kernel
theorem dX5_adds_108 : decode cX5_adds 108 = .ok (.aload_n 0, 1) := by decide +kernel
theorem dX5_adds_109 : decode cX5_adds 109 = .ok (.getfield 91, 3) := by decide +kernel
theorem dX5_adds_112 : decode cX5_adds 112 = .ok (.iconst 1, 1) := by decide +kernel
theorem dX5_adds_113 : decode cX5_adds 113 = .ok (.isub, 1) := by decide +kernel
theorem dX5_adds_114 : decode cX5_adds 114 = .ok (.invokevirtual 136, 3) := by decide +kernel
theorem dX5_adds_117 : decode cX5_adds 117 = .ok (.pop, 1) := by decide +kernel
theorem dX5_adds_118 : decode cX5_adds 118 = .ok (.aload_n 0, 1) := by decide +kernel
theorem dX5_adds_119 : decode cX5_adds 119 = .ok (.aload_n 0, 1) := by decide +kernel
theorem dX5_adds_120 : decode cX5_adds 120 = .ok (.getfield 91, 3) := by decide +kernel
theorem dX5_adds_123 : decode cX5_adds 123 = .ok (.iconst 1, 1) := by decide +kernel
theorem dX5_adds_124 : decode cX5_adds 124 = .ok (.isub, 1) := by decide +kernel
theorem dX5_adds_125 : decode cX5_adds 125 = .ok (.iconst 1, 1) := by decide +kernel
theorem dX5_adds_126 : decode cX5_adds 126 = .ok (.invokevirtual 139, 3) := by decide +kernel
theorem dX5_adds_129 : decode cX5_adds 129 = .ok (.aload_n 0, 1) := by decide +kernel
theorem dX5_adds_130 : decode cX5_adds 130 = .ok (.getfield 91, 3) := by decide +kernel
theorem dX5_adds_133 : decode cX5_adds 133 = .ok (.iconst 1, 1) := by decide +kernel
theorem dX5_adds_134 : decode cX5_adds 134 = .ok (.isub, 1) := by decide +kernel
theorem dX5_adds_135 : decode cX5_adds 135 = .ok (.ireturn, 1) := by decide +kernel
theorem dX5_register_0 : decode cX5_register 0 = .ok (.aload_n 0, 1) := by decide +kernel
theorem dX5_register_1 : decode cX5_register 1 = .ok (.iload_n 1, 1) := by decide +kernel
theorem dX5_register_2 : decode cX5_register 2 = .ok (.iload_n 2, 1) := by decide +kernel
theorem dX5_register_3 : decode cX5_register 3 = .ok (.iconst 1, 1) := by decide +kernel
theorem dX5_register_4 : decode cX5_register 4 = .ok (.invokevirtual 143, 3) := by decide +kernel
theorem dX5_register_7 : decode cX5_register 7 = .ok (.ireturn, 1) := by decide +kernel
theorem dX5_bringIn_0 : decode cX5_bringIn 0 = .ok (.aload_n 0, 1) := by decide +kernel
theorem dX5_bringIn_1 : decode cX5_bringIn 1 = .ok (.iload_n 1, 1) := by decide +kernel
theorem dX5_bringIn_2 : decode cX5_bringIn 2 = .ok (.iload_n 2, 1) := by decide +kernel
theorem dX5_bringIn_3 : decode cX5_bringIn 3 = .ok (.iconst 0, 1) := by decide +kernel
theorem dX5_bringIn_4 : decode cX5_bringIn 4 = .ok (.invokevirtual 143, 3) := by decide +kernel
theorem dX5_bringIn_7 : decode cX5_bringIn 7 = .ok (.ireturn, 1) := by decide +kernel
theorem dX5_admit_0 : decode cX5_admit 0 = .ok (.aload_n 0, 1) := by decide +kernel
theorem dX5_admit_1 : decode cX5_admit 1 = .ok (.iload_n 1, 1) := by decide +kernel
theorem dX5_admit_2 : decode cX5_admit 2 = .ok (.invokevirtual 147, 3) := by decide +kernel
theorem dX5_admit_5 : decode cX5_admit 5 = .ok (.ifCond .ne 9, 3) := by decide +kernel
theorem dX5_admit_8 : decode cX5_admit 8 = .ok (.aload_n 0, 1) := by decide +kernel
theorem dX5_admit_9 : decode cX5_admit 9 = .ok (.iconst 1, 1) := by decide +kernel
theorem dX5_admit_10 : decode cX5_admit 10 = .ok (.invokevirtual 116, 3) := by decide +kernel
theorem dX5_admit_13 : decode cX5_admit 13 = .ok (.ireturn, 1) := by decide +kernel
theorem dX5_admit_14 : decode cX5_admit 14 = .ok (.aload_n 0, 1) := by decide +kernel
theorem dX5_admit_15 : decode cX5_admit 15 = .ok (.getfield 23, 3) := by decide +kernel
theorem dX5_admit_18 : decode cX5_admit 18 = .ok (.iload_n 1, 1) := by decide +kernel
theorem dX5_admit_19 : decode cX5_admit 19 = .ok (.baload, 1) := by decide +kernel
theorem dX5_admit_20 : decode cX5_admit 20 = .ok (.ifCond .eq 9, 3) := by decide +kernel
theorem dX5_admit_23 : decode cX5_admit 23 = .ok (.aload_n 0, 1) := by decide +kernel
theorem dX5_admit_24 : decode cX5_admit 24 = .ok (.iconst 2, 1) := by decide +kernel
theorem dX5_admit_25 : decode cX5_admit 25 = .ok (.invokevirtual 116, 3) := by decide +kernel
theorem dX5_admit_28 : decode cX5_admit 28 = .ok (.ireturn, 1) := by decide +kernel
theorem dX5_admit_29 : decode cX5_admit 29 = .ok (.aload_n 0, 1) := by decide +kernel
theorem dX5_admit_30 : decode cX5_admit 30 = .ok (.getfield 19, 3) := by decide +kernel
theorem dX5_admit_33 : decode cX5_admit 33 = .ok (.iload_n 1, 1) := by decide +kernel
theorem dX5_admit_34 : decode cX5_admit 34 = .ok (.baload, 1) := by decide +kernel
theorem dX5_admit_35 : decode cX5_admit 35 = .ok (.ifCond .ne 12, 3) := by decide +kernel
theorem dX5_admit_38 : decode cX5_admit 38 = .ok (.aload_n 0, 1) := by decide +kernel
theorem dX5_admit_39 : decode cX5_admit 39 = .ok (.getfield 94, 3) := by decide +kernel
theorem dX5_admit_42 : decode cX5_admit 42 = .ok (.bipush 40, 2) := by decide +kernel
theorem dX5_admit_44 : decode cX5_admit 44 = .ok (.if_icmp .ne 9, 3) := by decide +kernel
theorem dX5_admit_47 : decode cX5_admit 47 = .ok (.aload_n 0, 1) := by decide +kernel
theorem dX5_admit_48 : decode cX5_admit 48 = .ok (.iconst 3, 1) := by decide +kernel
theorem dX5_admit_49 : decode cX5_admit 49 = .ok (.invokevirtual 116, 3) := by decide +kernel
theorem dX5_admit_52 : decode cX5_admit 52 = .ok (.ireturn, 1) := by decide +kernel
theorem dX5_admit_53 : decode cX5_admit 53 = .ok (.aload_n 0, 1) := by decide +kernel
theorem dX5_admit_54 : decode cX5_admit 54 = .ok (.iconst 0, 1) := by decide +kernel
theorem dX5_admit_55 : decode cX5_admit 55 = .ok (.putfield 80, 3) := by decide +kernel
theorem dX5_admit_58 : decode cX5_admit 58 = .ok (.aload_n 0, 1) := by decide +kernel
theorem dX5_admit_59 : decode cX5_admit 59 = .ok (.getfield 23, 3) := by decide +kernel
theorem dX5_admit_62 : decode cX5_admit 62 = .ok (.iload_n 1, 1) := by decide +kernel
theorem dX5_admit_63 : decode cX5_admit 63 = .ok (.iconst 1, 1) := by decide +kernel
theorem dX5_admit_64 : decode cX5_admit 64 = .ok (.bastore, 1) := by decide +kernel
theorem dX5_admit_65 : decode cX5_admit 65 = .ok (.aload_n 0, 1) := by decide +kernel
theorem dX5_admit_66 : decode cX5_admit 66 = .ok (.iload_n 1, 1) := by decide +kernel
theorem dX5_admit_67 : decode cX5_admit 67 = .ok (.iconst 1, 1) := by decide +kernel
theorem dX5_admit_68 : decode cX5_admit 68 = .ok (.invokevirtual 139, 3) := by decide +kernel
theorem dX5_admit_71 : decode cX5_admit 71 = .ok (.aload_n 0, 1) := by decide +kernel
theorem dX5_admit_72 : decode cX5_admit 72 = .ok (.iload_n 1, 1) := by decide +kernel
theorem dX5_admit_73 : decode cX5_admit 73 = .ok (.invokevirtual 136, 3) := by decide +kernel
theorem dX5_admit_76 : decode cX5_admit 76 = .ok (.ireturn, 1) := by decide +kernel
theorem dX5_setOnRoad_0 : decode cX5_setOnRoad 0 = .ok (.aload_n 0, 1) := by decide +kernel
theorem dX5_setOnRoad_1 : decode cX5_setOnRoad 1 = .ok (.aload_n 0, 1) := by decide +kernel
theorem dX5_setOnRoad_2 : decode cX5_setOnRoad 2 = .ok (.iload_n 1, 1) := by decide +kernel
theorem dX5_setOnRoad_3 : decode cX5_setOnRoad 3 = .ok (.invokevirtual 147, 3) := by decide +kernel
theorem dX5_setOnRoad_6 : decode cX5_setOnRoad 6 = .ok (.ifCond .ne 7, 3) := by decide +kernel
theorem dX5_setOnRoad_9 : decode cX5_setOnRoad 9 = .ok (.iconst 1, 1) := by decide +kernel
theorem dX5_setOnRoad_10 : decode cX5_setOnRoad 10 = .ok (.goto 30, 3) := by decide +kernel
theorem dX5_setOnRoad_13 : decode cX5_setOnRoad 13 = .ok (.aload_n 0, 1) := by decide +kernel
theorem dX5_setOnRoad_14 : decode cX5_setOnRoad 14 = .ok (.getfield 19, 3) := by decide +kernel
theorem dX5_setOnRoad_17 : decode cX5_setOnRoad 17 = .ok (.iload_n 1, 1) := by decide +kernel
theorem dX5_setOnRoad_18 : decode cX5_setOnRoad 18 = .ok (.baload, 1) := by decide +kernel
theorem dX5_setOnRoad_19 : decode cX5_setOnRoad 19 = .ok (.ifCond .ne 16, 3) := by decide +kernel
theorem dX5_setOnRoad_22 : decode cX5_setOnRoad 22 = .ok (.aload_n 0, 1) := by decide +kernel
theorem dX5_setOnRoad_23 : decode cX5_setOnRoad 23 = .ok (.iload_n 1, 1) := by decide +kernel
theorem dX5_setOnRoad_24 : decode cX5_setOnRoad 24 = .ok (.aload_n 0, 1) := by decide +kernel
theorem dX5_setOnRoad_25 : decode cX5_setOnRoad 25 = .ok (.getfield 97, 3) := by decide +kernel
theorem dX5_setOnRoad_28 : decode cX5_setOnRoad 28 = .ok (.invokevirtual 106, 3) := by decide +kernel
theorem dX5_setOnRoad_31 : decode cX5_setOnRoad 31 = .ok (.iconst (-1), 1) := by decide +kernel
theorem dX5_setOnRoad_32 : decode cX5_setOnRoad 32 = .ok (.if_icmp .ne 7, 3) := by decide +kernel
theorem dX5_setOnRoad_35 : decode cX5_setOnRoad 35 = .ok (.iconst 2, 1) := by decide +kernel
theorem dX5_setOnRoad_36 : decode cX5_setOnRoad 36 = .ok (.goto 4, 3) := by decide +kernel
theorem dX5_setOnRoad_39 : decode cX5_setOnRoad 39 = .ok (.iconst 0, 1) := by decide +kernel
theorem dX5_setOnRoad_40 : decode cX5_setOnRoad 40 = .ok (.putfield 80, 3) := by decide +kernel
theorem dX5_setOnRoad_43 : decode cX5_setOnRoad 43 = .ok (.aload_n 0, 1) := by decide +kernel
theorem dX5_setOnRoad_44 : decode cX5_setOnRoad 44 = .ok (.getfield 80, 3) := by decide +kernel
theorem dX5_setOnRoad_47 : decode cX5_setOnRoad 47 = .ok (.ifCond .le 5, 3) := by decide +kernel
theorem dX5_setOnRoad_50 : decode cX5_setOnRoad 50 = .ok (.iconst 0, 1) := by decide +kernel
theorem dX5_setOnRoad_51 : decode cX5_setOnRoad 51 = .ok (.ireturn, 1) := by decide +kernel
theorem dX5_setOnRoad_52 : decode cX5_setOnRoad 52 = .ok (.aload_n 0, 1) := by decide +kernel
theorem dX5_setOnRoad_53 : decode cX5_setOnRoad 53 = .ok (.iload_n 1, 1) := by decide +kernel
theorem dX5_setOnRoad_54 : decode cX5_setOnRoad 54 = .ok (.aload_n 0, 1) := by decide +kernel
theorem dX5_setOnRoad_55 : decode cX5_setOnRoad 55 = .ok (.getfield 97, 3) := by decide +kernel
theorem dX5_setOnRoad_58 : decode cX5_setOnRoad 58 = .ok (.invokevirtual 150, 3) := by decide +kernel
theorem dX5_setOnRoad_61 : decode cX5_setOnRoad 61 = .ok (.istore_n 3, 1) := by decide +kernel
theorem dX5_setOnRoad_62 : decode cX5_setOnRoad 62 = .ok (.aload_n 0, 1) := by decide +kernel
theorem dX5_setOnRoad_63 : decode cX5_setOnRoad 63 = .ok (.iload_n 1, 1) := by decide +kernel
theorem dX5_setOnRoad_64 : decode cX5_setOnRoad 64 = .ok (.iload_n 2, 1) := by decide +kernel
theorem dX5_setOnRoad_65 : decode cX5_setOnRoad 65 = .ok (.invokevirtual 139, 3) := by decide +kernel
theorem dX5_setOnRoad_68 : decode cX5_setOnRoad 68 = .ok (.iload_n 3, 1) := by decide +kernel
theorem dX5_setOnRoad_69 : decode cX5_setOnRoad 69 = .ok (.ireturn, 1) := by decide +kernel
theorem dX5_isOnRoad_0 : decode cX5_isOnRoad 0 = .ok (.aload_n 0, 1) := by decide +kernel
theorem dX5_isOnRoad_1 : decode cX5_isOnRoad 1 = .ok (.aload_n 0, 1) := by decide +kernel
theorem dX5_isOnRoad_2 : decode cX5_isOnRoad 2 = .ok (.iload_n 1, 1) := by decide +kernel
theorem dX5_isOnRoad_3 : decode cX5_isOnRoad 3 = .ok (.invokevirtual 147, 3) := by decide +kernel
theorem dX5_isOnRoad_6 : decode cX5_isOnRoad 6 = .ok (.ifCond .ne 7, 3) := by decide +kernel
theorem dX5_isOnRoad_9 : decode cX5_isOnRoad 9 = .ok (.iconst 1, 1) := by decide +kernel
theorem dX5_isOnRoad_10 : decode cX5_isOnRoad 10 = .ok (.goto 16, 3) := by decide +kernel
theorem dX5_isOnRoad_13 : decode cX5_isOnRoad 13 = .ok (.aload_n 0, 1) := by decide +kernel
theorem dX5_isOnRoad_14 : decode cX5_isOnRoad 14 = .ok (.iload_n 2, 1) := by decide +kernel
theorem dX5_isOnRoad_15 : decode cX5_isOnRoad 15 = .ok (.invokevirtual 154, 3) := by decide +kernel
theorem dX5_isOnRoad_18 : decode cX5_isOnRoad 18 = .ok (.ifCond .eq 7, 3) := by decide +kernel
theorem dX5_isOnRoad_21 : decode cX5_isOnRoad 21 = .ok (.iconst 0, 1) := by decide +kernel
theorem dX5_isOnRoad_22 : decode cX5_isOnRoad 22 = .ok (.goto 4, 3) := by decide +kernel
theorem dX5_isOnRoad_25 : decode cX5_isOnRoad 25 = .ok (.iconst 2, 1) := by decide +kernel
theorem dX5_isOnRoad_26 : decode cX5_isOnRoad 26 = .ok (.putfield 80, 3) := by decide +kernel
theorem dX5_isOnRoad_29 : decode cX5_isOnRoad 29 = .ok (.aload_n 0, 1) := by decide +kernel
theorem dX5_isOnRoad_30 : decode cX5_isOnRoad 30 = .ok (.getfield 80, 3) := by decide +kernel
theorem dX5_isOnRoad_33 : decode cX5_isOnRoad 33 = .ok (.ifCond .ne 16, 3) := by decide +kernel
theorem dX5_isOnRoad_36 : decode cX5_isOnRoad 36 = .ok (.aload_n 0, 1) := by decide +kernel
theorem dX5_isOnRoad_37 : decode cX5_isOnRoad 37 = .ok (.iload_n 1, 1) := by decide +kernel
theorem dX5_isOnRoad_38 : decode cX5_isOnRoad 38 = .ok (.iload_n 2, 1) := by decide +kernel
theorem dX5_isOnRoad_39 : decode cX5_isOnRoad 39 = .ok (.invokevirtual 150, 3) := by decide +kernel
theorem dX5_isOnRoad_42 : decode cX5_isOnRoad 42 = .ok (.ifCond .eq 7, 3) := by decide +kernel
theorem dX5_isOnRoad_45 : decode cX5_isOnRoad 45 = .ok (.iconst 1, 1) := by decide +kernel
theorem dX5_isOnRoad_46 : decode cX5_isOnRoad 46 = .ok (.goto 4, 3) := by decide +kernel
theorem dX5_isOnRoad_49 : decode cX5_isOnRoad 49 = .ok (.iconst 0, 1) := by decide +kernel
theorem dX5_isOnRoad_50 : decode cX5_isOnRoad 50 = .ok (.ireturn, 1) := by decide +kernel
theorem dX5_scrap_0 : decode cX5_scrap 0 = .ok (.aload_n 0, 1) := by decide +kernel
theorem dX5_scrap_1 : decode cX5_scrap 1 = .ok (.iload_n 1, 1) := by decide +kernel
theorem dX5_scrap_2 : decode cX5_scrap 2 = .ok (.invokevirtual 147, 3) := by decide +kernel
theorem dX5_scrap_5 : decode cX5_scrap 5 = .ok (.ifCond .ne 9, 3) := by decide +kernel
theorem dX5_scrap_8 : decode cX5_scrap 8 = .ok (.aload_n 0, 1) := by decide +kernel
theorem dX5_scrap_9 : decode cX5_scrap 9 = .ok (.iconst 1, 1) := by decide +kernel
theorem dX5_scrap_10 : decode cX5_scrap 10 = .ok (.invokevirtual 116, 3) := by decide +kernel
theorem dX5_scrap_13 : decode cX5_scrap 13 = .ok (.ireturn, 1) := by decide +kernel
theorem dX5_scrap_14 : decode cX5_scrap 14 = .ok (.aload_n 0, 1) := by decide +kernel
theorem dX5_scrap_15 : decode cX5_scrap 15 = .ok (.iload_n 1, 1) := by decide +kernel
theorem dX5_scrap_16 : decode cX5_scrap 16 = .ok (.invokevirtual 157, 3) := by decide +kernel
theorem dX5_scrap_19 : decode cX5_scrap 19 = .ok (.ifCond .eq 9, 3) := by decide +kernel
theorem dX5_scrap_22 : decode cX5_scrap 22 = .ok (.aload_n 0, 1) := by decide +kernel
theorem dX5_scrap_23 : decode cX5_scrap 23 = .ok (.iconst 2, 1) := by decide +kernel
theorem dX5_scrap_24 : decode cX5_scrap 24 = .ok (.invokevirtual 116, 3) := by decide +kernel
theorem dX5_scrap_27 : decode cX5_scrap 27 = .ok (.ireturn, 1) := by decide +kernel
theorem dX5_scrap_28 : decode cX5_scrap 28 = .ok (.aload_n 0, 1) := by decide +kernel
theorem dX5_scrap_29 : decode cX5_scrap 29 = .ok (.iconst 0, 1) := by decide +kernel
theorem dX5_scrap_30 : decode cX5_scrap 30 = .ok (.putfield 80, 3) := by decide +kernel
theorem dX5_scrap_33 : decode cX5_scrap 33 = .ok (.aload_n 0, 1) := by decide +kernel
theorem dX5_scrap_34 : decode cX5_scrap 34 = .ok (.getfield 19, 3) := by decide +kernel
theorem dX5_scrap_37 : decode cX5_scrap 37 = .ok (.iload_n 1, 1) := by decide +kernel
theorem dX5_scrap_38 : decode cX5_scrap 38 = .ok (.iconst 1, 1) := by decide +kernel
theorem dX5_scrap_39 : decode cX5_scrap 39 = .ok (.bastore, 1) := by decide +kernel
theorem dX5_scrap_40 : decode cX5_scrap 40 = .ok (.aload_n 0, 1) := by decide +kernel
theorem dX5_scrap_41 : decode cX5_scrap 41 = .ok (.iload_n 1, 1) := by decide +kernel
theorem dX5_scrap_42 : decode cX5_scrap 42 = .ok (.iconst 0, 1) := by decide +kernel
theorem dX5_scrap_43 : decode cX5_scrap 43 = .ok (.invokevirtual 139, 3) := by decide +kernel
theorem dX5_scrap_46 : decode cX5_scrap 46 = .ok (.aload_n 0, 1) := by decide +kernel
theorem dX5_scrap_47 : decode cX5_scrap 47 = .ok (.iload_n 1, 1) := by decide +kernel
theorem dX5_scrap_48 : decode cX5_scrap 48 = .ok (.iconst (-1), 1) := by decide +kernel
theorem dX5_scrap_49 : decode cX5_scrap 49 = .ok (.invokevirtual 120, 3) := by decide +kernel
theorem dX5_scrap_52 : decode cX5_scrap 52 = .ok (.iconst 0, 1) := by decide +kernel
theorem dX5_scrap_53 : decode cX5_scrap 53 = .ok (.istore_n 2, 1) := by decide +kernel
theorem dX5_scrap_54 : decode cX5_scrap 54 = .ok (.iconst 0, 1) := by decide +kernel
theorem dX5_scrap_55 : decode cX5_scrap 55 = .ok (.istore_n 3, 1) := by decide +kernel
theorem dX5_scrap_56 : decode cX5_scrap 56 = .ok (.iload_n 3, 1) := by decide +kernel
theorem dX5_scrap_57 : decode cX5_scrap 57 = .ok (.aload_n 0, 1) := by decide +kernel
theorem dX5_scrap_58 : decode cX5_scrap 58 = .ok (.getfield 91, 3) := by decide +kernel
theorem dX5_scrap_61 : decode cX5_scrap 61 = .ok (.if_icmp .ge 26, 3) := by decide +kernel
theorem dX5_scrap_64 : decode cX5_scrap 64 = .ok (.iload_n 2, 1) := by decide +kernel
theorem dX5_scrap_65 : decode cX5_scrap 65 = .ok (.aload_n 0, 1) := by decide +kernel
theorem dX5_scrap_66 : decode cX5_scrap 66 = .ok (.getfield 19, 3) := by decide +kernel
theorem dX5_scrap_69 : decode cX5_scrap 69 = .ok (.iload_n 3, 1) := by decide +kernel
theorem dX5_scrap_70 : decode cX5_scrap 70 = .ok (.baload, 1) := by decide +kernel
theorem dX5_scrap_71 : decode cX5_scrap 71 = .ok (.ifCond .eq 7, 3) := by decide +kernel
theorem dX5_scrap_74 : decode cX5_scrap 74 = .ok (.iconst 0, 1) := by decide +kernel
theorem dX5_scrap_75 : decode cX5_scrap 75 = .ok (.goto 4, 3) := by decide +kernel
theorem dX5_scrap_78 : decode cX5_scrap 78 = .ok (.iconst 1, 1) := by decide +kernel
theorem dX5_scrap_79 : decode cX5_scrap 79 = .ok (.iadd, 1) := by decide +kernel
theorem dX5_scrap_80 : decode cX5_scrap 80 = .ok (.istore_n 2, 1) := by decide +kernel
theorem dX5_scrap_81 : decode cX5_scrap 81 = .ok (.iinc 3 1, 3) := by decide +kernel
theorem dX5_scrap_84 : decode cX5_scrap 84 = .ok (.goto (-28), 3) := by decide +kernel
theorem dX5_scrap_87 : decode cX5_scrap 87 = .ok (.iload_n 2, 1) := by decide +kernel
theorem dX5_scrap_88 : decode cX5_scrap 88 = .ok (.ireturn, 1) := by decide +kernel
theorem dX5_kindOf_0 : decode cX5_kindOf 0 = .ok (.aload_n 0, 1) := by decide +kernel
theorem dX5_kindOf_1 : decode cX5_kindOf 1 = .ok (.aload_n 0, 1) := by decide +kernel
theorem dX5_kindOf_2 : decode cX5_kindOf 2 = .ok (.iload_n 1, 1) := by decide +kernel
theorem dX5_kindOf_3 : decode cX5_kindOf 3 = .ok (.invokevirtual 147, 3) := by decide +kernel
theorem dX5_kindOf_6 : decode cX5_kindOf 6 = .ok (.ifCond .eq 7, 3) := by decide +kernel
theorem dX5_kindOf_9 : decode cX5_kindOf 9 = .ok (.iconst 0, 1) := by decide +kernel
theorem dX5_kindOf_10 : decode cX5_kindOf 10 = .ok (.goto 4, 3) := by decide +kernel
theorem dX5_kindOf_13 : decode cX5_kindOf 13 = .ok (.iconst 1, 1) := by decide +kernel
theorem dX5_kindOf_14 : decode cX5_kindOf 14 = .ok (.putfield 80, 3) := by decide +kernel
theorem dX5_kindOf_17 : decode cX5_kindOf 17 = .ok (.aload_n 0, 1) := by decide +kernel
theorem dX5_kindOf_18 : decode cX5_kindOf 18 = .ok (.getfield 80, 3) := by decide +kernel
theorem dX5_kindOf_21 : decode cX5_kindOf 21 = .ok (.ifCond .le 7, 3) := by decide +kernel
theorem dX5_kindOf_24 : decode cX5_kindOf 24 = .ok (.iconst 0, 1) := by decide +kernel
theorem dX5_kindOf_25 : decode cX5_kindOf 25 = .ok (.goto 9, 3) := by decide +kernel
theorem dX5_kindOf_28 : decode cX5_kindOf 28 = .ok (.aload_n 0, 1) := by decide +kernel
theorem dX5_kindOf_29 : decode cX5_kindOf 29 = .ok (.getfield 13, 3) := by decide +kernel
theorem dX5_kindOf_32 : decode cX5_kindOf 32 = .ok (.iload_n 1, 1) := by decide +kernel
theorem dX5_kindOf_33 : decode cX5_kindOf 33 = .ok (.iaload, 1) := by decide +kernel
theorem dX5_kindOf_34 : decode cX5_kindOf 34 = .ok (.i2c, 1) := by decide +kernel
theorem dX5_kindOf_35 : decode cX5_kindOf 35 = .ok (.ireturn, 1) := by decide +kernel
theorem dX5_vehicles_0 : decode cX5_vehicles 0 = .ok (.aload_n 0, 1) := by decide +kernel
theorem dX5_vehicles_1 : decode cX5_vehicles 1 = .ok (.iconst 0, 1) := by decide +kernel
theorem dX5_vehicles_2 : decode cX5_vehicles 2 = .ok (.putfield 80, 3) := by decide +kernel
theorem dX5_vehicles_5 : decode cX5_vehicles 5 = .ok (.aload_n 0, 1) := by decide +kernel
theorem dX5_vehicles_6 : decode cX5_vehicles 6 = .ok (.getfield 91, 3) := by decide +kernel
theorem dX5_vehicles_9 : decode cX5_vehicles 9 = .ok (.ireturn, 1) := by decide +kernel
theorem dX5_fit_0 : decode cX5_fit 0 = .ok (.aload_n 0, 1) := by decide +kernel
theorem dX5_fit_1 : decode cX5_fit 1 = .ok (.getfield 41, 3) := by decide +kernel
theorem dX5_fit_4 : decode cX5_fit 4 = .ok (.iload_n 1, 1) := by decide +kernel
theorem dX5_fit_5 : decode cX5_fit 5 = .ok (.iaload, 1) := by decide +kernel
theorem dX5_fit_6 : decode cX5_fit 6 = .ok (.istore_n 3, 1) := by decide +kernel
theorem dX5_fit_7 : decode cX5_fit 7 = .ok (.aload_n 0, 1) := by decide +kernel
theorem dX5_fit_8 : decode cX5_fit 8 = .ok (.getfield 47, 3) := by decide +kernel
theorem dX5_fit_11 : decode cX5_fit 11 = .ok (.iload_n 1, 1) := by decide +kernel
theorem dX5_fit_12 : decode cX5_fit 12 = .ok (.iaload, 1) := by decide +kernel
theorem dX5_fit_13 : decode cX5_fit 13 = .ok (.bipush 111, 2) := by decide +kernel
theorem dX5_fit_15 : decode cX5_fit 15 = .ok (.if_icmp .ne 38, 3) := by decide +kernel
theorem dX5_fit_18 : decode cX5_fit 18 = .ok (.aload_n 0, 1) := by decide +kernel
theorem dX5_fit_19 : decode cX5_fit 19 = .ok (.getfield 47, 3) := by decide +kernel
theorem dX5_fit_22 : decode cX5_fit 22 = .ok (.iload_n 2, 1) := by decide +kernel
theorem dX5_fit_23 : decode cX5_fit 23 = .ok (.iaload, 1) := by decide +kernel
theorem dX5_fit_24 : decode cX5_fit 24 = .ok (.bipush 111, 2) := by decide +kernel
theorem dX5_fit_26 : decode cX5_fit 26 = .ok (.if_icmp .ne 27, 3) := by decide +kernel
theorem dX5_fit_29 : decode cX5_fit 29 = .ok (.aload_n 0, 1) := by decide +kernel
theorem dX5_fit_30 : decode cX5_fit 30 = .ok (.getfield 35, 3) := by decide +kernel
theorem dX5_fit_33 : decode cX5_fit 33 = .ok (.iload_n 1, 1) := by decide +kernel
theorem dX5_fit_34 : decode cX5_fit 34 = .ok (.iaload, 1) := by decide +kernel
theorem dX5_fit_35 : decode cX5_fit 35 = .ok (.iconst (-1), 1) := by decide +kernel
theorem dX5_fit_36 : decode cX5_fit 36 = .ok (.if_icmp .eq 17, 3) := by decide +kernel
theorem dX5_fit_39 : decode cX5_fit 39 = .ok (.aload_n 0, 1) := by decide +kernel
theorem dX5_fit_40 : decode cX5_fit 40 = .ok (.getfield 35, 3) := by decide +kernel
theorem dX5_fit_43 : decode cX5_fit 43 = .ok (.iload_n 2, 1) := by decide +kernel
theorem dX5_fit_44 : decode cX5_fit 44 = .ok (.iaload, 1) := by decide +kernel
theorem dX5_fit_45 : decode cX5_fit 45 = .ok (.iconst (-1), 1) := by decide +kernel
theorem dX5_fit_46 : decode cX5_fit 46 = .ok (.if_icmp .ne 7, 3) := by decide +kernel
theorem dX5_fit_49 : decode cX5_fit 49 = .ok (.iconst 1, 1) := by decide +kernel
theorem dX5_fit_50 : decode cX5_fit 50 = .ok (.goto 4, 3) := by decide +kernel
theorem dX5_fit_53 : decode cX5_fit 53 = .ok (.iconst 0, 1) := by decide +kernel
theorem dX5_fit_54 : decode cX5_fit 54 = .ok (.istore 4, 2) := by decide +kernel
theorem dX5_fit_56 : decode cX5_fit 56 = .ok (.aload_n 0, 1) := by decide +kernel
theorem dX5_fit_57 : decode cX5_fit 57 = .ok (.getfield 41, 3) := by decide +kernel
theorem dX5_fit_60 : decode cX5_fit 60 = .ok (.iload_n 2, 1) := by decide +kernel
theorem dX5_fit_61 : decode cX5_fit 61 = .ok (.iaload, 1) := by decide +kernel
theorem dX5_fit_62 : decode cX5_fit 62 = .ok (.iload_n 3, 1) := by decide +kernel
theorem dX5_fit_63 : decode cX5_fit 63 = .ok (.if_icmp .ne 45, 3) := by decide +kernel
theorem dX5_fit_66 : decode cX5_fit 66 = .ok (.aload_n 0, 1) := by decide +kernel
theorem dX5_fit_67 : decode cX5_fit 67 = .ok (.getfield 38, 3) := by decide +kernel
theorem dX5_fit_70 : decode cX5_fit 70 = .ok (.iload_n 1, 1) := by decide +kernel
theorem dX5_fit_71 : decode cX5_fit 71 = .ok (.iaload, 1) := by decide +kernel
theorem dX5_fit_72 : decode cX5_fit 72 = .ok (.aload_n 0, 1) := by decide +kernel
theorem dX5_fit_73 : decode cX5_fit 73 = .ok (.getfield 38, 3) := by decide +kernel
theorem dX5_fit_76 : decode cX5_fit 76 = .ok (.iload_n 2, 1) := by decide +kernel
theorem dX5_fit_77 : decode cX5_fit 77 = .ok (.iaload, 1) := by decide +kernel
theorem dX5_fit_78 : decode cX5_fit 78 = .ok (.if_icmp .ne 30, 3) := by decide +kernel
theorem dX5_fit_81 : decode cX5_fit 81 = .ok (.aload_n 0, 1) := by decide +kernel
theorem dX5_fit_82 : decode cX5_fit 82 = .ok (.getfield 44, 3) := by decide +kernel
theorem dX5_fit_85 : decode cX5_fit 85 = .ok (.iload_n 1, 1) := by decide +kernel
theorem dX5_fit_86 : decode cX5_fit 86 = .ok (.iaload, 1) := by decide +kernel
theorem dX5_fit_87 : decode cX5_fit 87 = .ok (.aload_n 0, 1) := by decide +kernel
theorem dX5_fit_88 : decode cX5_fit 88 = .ok (.getfield 44, 3) := by decide +kernel
theorem dX5_fit_91 : decode cX5_fit 91 = .ok (.iload_n 2, 1) := by decide +kernel
theorem dX5_fit_92 : decode cX5_fit 92 = .ok (.iaload, 1) := by decide +kernel
theorem dX5_fit_93 : decode cX5_fit 93 = .ok (.isub, 1) := by decide +kernel
theorem dX5_fit_94 : decode cX5_fit 94 = .ok (.bipush (-7), 2) := by decide +kernel
theorem dX5_fit_96 : decode cX5_fit 96 = .ok (.bipush 7, 2) := by decide +kernel
theorem dX5_fit_98 : decode cX5_fit 98 = .ok (.invokestatic 87, 3) := by decide +kernel
theorem dX5_fit_101 : decode cX5_fit 101 = .ok (.ifCond .eq 7, 3) := by decide +kernel
theorem dX5_fit_104 : decode cX5_fit 104 = .ok (.iconst 1, 1) := by decide +kernel
theorem dX5_fit_105 : decode cX5_fit 105 = .ok (.goto 4, 3) := by decide +kernel
theorem dX5_fit_108 : decode cX5_fit 108 = .ok (.iconst 0, 1) := by decide +kernel
theorem dX5_fit_109 : decode cX5_fit 109 = .ok (.istore 5, 2) := by decide +kernel
theorem dX5_fit_111 : decode cX5_fit 111 = .ok (.iload 4, 2) := by decide +kernel
theorem dX5_fit_113 : decode cX5_fit 113 = .ok (.ifCond .eq 48, 3) := by decide +kernel
theorem dX5_fit_116 : decode cX5_fit 116 = .ok (.iload 5, 2) := by decide +kernel
theorem dX5_fit_118 : decode cX5_fit 118 = .ok (.ifCond .eq 43, 3) := by decide +kernel
theorem dX5_fit_121 : decode cX5_fit 121 = .ok (.aload_n 0, 1) := by decide +kernel
theorem dX5_fit_122 : decode cX5_fit 122 = .ok (.getfield 35, 3) := by decide +kernel
theorem dX5_fit_125 : decode cX5_fit 125 = .ok (.iload_n 1, 1) := by decide +kernel
theorem dX5_fit_126 : decode cX5_fit 126 = .ok (.iaload, 1) := by decide +kernel
theorem dX5_fit_127 : decode cX5_fit 127 = .ok (.aload_n 0, 1) := by decide +kernel
theorem dX5_fit_128 : decode cX5_fit 128 = .ok (.iload_n 3, 1) := by decide +kernel
theorem dX5_fit_129 : decode cX5_fit 129 = .ok (.invokevirtual 160, 3) := by decide +kernel
theorem dX5_fit_132 : decode cX5_fit 132 = .ok (.if_icmp .ne 29, 3) := by decide +kernel
theorem dX5_fit_135 : decode cX5_fit 135 = .ok (.aload_n 0, 1) := by decide +kernel
theorem dX5_fit_136 : decode cX5_fit 136 = .ok (.getfield 44, 3) := by decide +kernel
theorem dX5_fit_139 : decode cX5_fit 139 = .ok (.iload_n 1, 1) := by decide +kernel
theorem dX5_fit_140 : decode cX5_fit 140 = .ok (.iaload, 1) := by decide +kernel
theorem dX5_fit_141 : decode cX5_fit 141 = .ok (.aload_n 0, 1) := by decide +kernel
theorem dX5_fit_142 : decode cX5_fit 142 = .ok (.iload_n 3, 1) := by decide +kernel
theorem dX5_fit_143 : decode cX5_fit 143 = .ok (.invokevirtual 163, 3) := by decide +kernel
theorem dX5_fit_146 : decode cX5_fit 146 = .ok (.if_icmp .lt 15, 3) := by decide +kernel
theorem dX5_fit_149 : decode cX5_fit 149 = .ok (.aload_n 0, 1) := by decide +kernel
theorem dX5_fit_150 : decode cX5_fit 150 = .ok (.iload_n 3, 1) := by decide +kernel
theorem dX5_fit_151 : decode cX5_fit 151 = .ok (.invokevirtual 157, 3) := by decide +kernel
theorem dX5_fit_154 : decode cX5_fit 154 = .ok (.ifCond .ne 7, 3) := by decide +kernel
theorem dX5_fit_157 : decode cX5_fit 157 = .ok (.iconst 1, 1) := by decide +kernel
theorem dX5_fit_158 : decode cX5_fit 158 = .ok (.goto 4, 3) := by decide +kernel
theorem dX5_fit_161 : decode cX5_fit 161 = .ok (.iconst 0, 1) := by decide +kernel
theorem dX5_fit_162 : decode cX5_fit 162 = .ok (.ireturn, 1) := by decide +kernel
theorem dX5_usesPair_0 : decode cX5_usesPair 0 = .ok (.iconst 0, 1) := by decide +kernel
theorem dX5_usesPair_1 : decode cX5_usesPair 1 = .ok (.istore_n 2, 1) := by decide +kernel
theorem dX5_usesPair_2 : decode cX5_usesPair 2 = .ok (.iload_n 2, 1) := by decide +kernel
theorem dX5_usesPair_3 : decode cX5_usesPair 3 = .ok (.aload_n 0, 1) := by decide +kernel
theorem dX5_usesPair_4 : decode cX5_usesPair 4 = .ok (.getfield 166, 3) := by decide +kernel
theorem dX5_usesPair_7 : decode cX5_usesPair 7 = .ok (.if_icmp .ge 99, 3) := by decide +kernel
theorem dX5_usesPair_10 : decode cX5_usesPair 10 = .ok (.aload_n 0, 1) := by decide +kernel
theorem dX5_usesPair_11 : decode cX5_usesPair 11 = .ok (.getfield 41, 3) := by decide +kernel
theorem dX5_usesPair_14 : decode cX5_usesPair 14 = .ok (.iload_n 2, 1) := by decide +kernel
theorem dX5_usesPair_15 : decode cX5_usesPair 15 = .ok (.iaload, 1) := by decide +kernel
theorem dX5_usesPair_16 : decode cX5_usesPair 16 = .ok (.iload_n 1, 1) := by decide +kernel
theorem dX5_usesPair_17 : decode cX5_usesPair 17 = .ok (.if_icmp .eq 6, 3) := by decide +kernel
theorem dX5_usesPair_20 : decode cX5_usesPair 20 = .ok (.goto 80, 3) := by decide +kernel
theorem dX5_usesPair_23 : decode cX5_usesPair 23 = .ok (.iconst 0, 1) := by decide +kernel
theorem dX5_usesPair_24 : decode cX5_usesPair 24 = .ok (.istore_n 3, 1) := by decide +kernel
theorem dX5_usesPair_25 : decode cX5_usesPair 25 = .ok (.iload_n 3, 1) := by decide +kernel
theorem dX5_usesPair_26 : decode cX5_usesPair 26 = .ok (.aload_n 0, 1) := by decide +kernel
theorem dX5_usesPair_27 : decode cX5_usesPair 27 = .ok (.getfield 166, 3) := by decide +kernel
theorem dX5_usesPair_30 : decode cX5_usesPair 30 = .ok (.if_icmp .ge 70, 3) := by decide +kernel
theorem dX5_usesPair_33 : decode cX5_usesPair 33 = .ok (.aload_n 0, 1) := by decide +kernel
theorem dX5_usesPair_34 : decode cX5_usesPair 34 = .ok (.iload_n 2, 1) := by decide +kernel
theorem dX5_usesPair_35 : decode cX5_usesPair 35 = .ok (.iload_n 3, 1) := by decide +kernel
theorem dX5_usesPair_36 : decode cX5_usesPair 36 = .ok (.invokevirtual 169, 3) := by decide +kernel
theorem dX5_usesPair_39 : decode cX5_usesPair 39 = .ok (.ifCond .ne 6, 3) := by decide +kernel
theorem dX5_usesPair_42 : decode cX5_usesPair 42 = .ok (.goto 52, 3) := by decide +kernel
theorem dX5_usesPair_45 : decode cX5_usesPair 45 = .ok (.aload_n 0, 1) := by decide +kernel
theorem dX5_usesPair_46 : decode cX5_usesPair 46 = .ok (.getfield 47, 3) := by decide +kernel
theorem dX5_usesPair_49 : decode cX5_usesPair 49 = .ok (.iload_n 2, 1) := by decide +kernel
theorem dX5_usesPair_50 : decode cX5_usesPair 50 = .ok (.bipush 117, 2) := by decide +kernel
theorem dX5_usesPair_52 : decode cX5_usesPair 52 = .ok (.iastore, 1) := by decide +kernel
theorem dX5_usesPair_53 : decode cX5_usesPair 53 = .ok (.aload_n 0, 1) := by decide +kernel
theorem dX5_usesPair_54 : decode cX5_usesPair 54 = .ok (.getfield 47, 3) := by decide +kernel
theorem dX5_usesPair_57 : decode cX5_usesPair 57 = .ok (.iload_n 3, 1) := by decide +kernel
theorem dX5_usesPair_58 : decode cX5_usesPair 58 = .ok (.bipush 117, 2) := by decide +kernel
theorem dX5_usesPair_60 : decode cX5_usesPair 60 = .ok (.iastore, 1) := by decide +kernel
theorem dX5_usesPair_61 : decode cX5_usesPair 61 = .ok (.aload_n 0, 1) := by decide +kernel
theorem dX5_usesPair_62 : decode cX5_usesPair 62 = .ok (.getfield 50, 3) := by decide +kernel
theorem dX5_usesPair_65 : decode cX5_usesPair 65 = .ok (.iload_n 2, 1) := by decide +kernel
theorem dX5_usesPair_66 : decode cX5_usesPair 66 = .ok (.iload_n 3, 1) := by decide +kernel
theorem dX5_usesPair_67 : decode cX5_usesPair 67 = .ok (.iastore, 1) := by decide +kernel
theorem dX5_usesPair_68 : decode cX5_usesPair 68 = .ok (.aload_n 0, 1) := by decide +kernel
theorem dX5_usesPair_69 : decode cX5_usesPair 69 = .ok (.getfield 50, 3) := by decide +kernel
theorem dX5_usesPair_72 : decode cX5_usesPair 72 = .ok (.iload_n 3, 1) := by decide +kernel
theorem dX5_usesPair_73 : decode cX5_usesPair 73 = .ok (.iload_n 2, 1) := by decide +kernel
theorem dX5_usesPair_74 : decode cX5_usesPair 74 = .ok (.iastore, 1) := by decide +kernel
theorem dX5_usesPair_75 : decode cX5_usesPair 75 = .ok (.aload_n 0, 1) := by decide +kernel
theorem dX5_usesPair_76 : decode cX5_usesPair 76 = .ok (.iload_n 1, 1) := by decide +kernel
theorem dX5_usesPair_77 : decode cX5_usesPair 77 = .ok (.aload_n 0, 1) := by decide +kernel
theorem dX5_usesPair_78 : decode cX5_usesPair 78 = .ok (.getfield 44, 3) := by decide +kernel
theorem dX5_usesPair_81 : decode cX5_usesPair 81 = .ok (.iload_n 2, 1) := by decide +kernel
theorem dX5_usesPair_82 : decode cX5_usesPair 82 = .ok (.iaload, 1) := by decide +kernel
theorem dX5_usesPair_83 : decode cX5_usesPair 83 = .ok (.aload_n 0, 1) := by decide +kernel
theorem dX5_usesPair_84 : decode cX5_usesPair 84 = .ok (.getfield 38, 3) := by decide +kernel
theorem dX5_usesPair_87 : decode cX5_usesPair 87 = .ok (.iload_n 2, 1) := by decide +kernel
theorem dX5_usesPair_88 : decode cX5_usesPair 88 = .ok (.iaload, 1) := by decide +kernel
theorem dX5_usesPair_89 : decode cX5_usesPair 89 = .ok (.invokevirtual 132, 3) := by decide +kernel
theorem dX5_usesPair_92 : decode cX5_usesPair 92 = .ok (.iconst 1, 1) := by decide +kernel
theorem dX5_usesPair_93 : decode cX5_usesPair 93 = .ok (.ireturn, 1) := by decide +kernel
theorem dX5_usesPair_94 : decode cX5_usesPair 94 = .ok (.iinc 3 1, 3) := by decide +kernel
theorem dX5_usesPair_97 : decode cX5_usesPair 97 = .ok (.goto (-72), 3) := by decide +kernel
theorem dX5_usesPair_100 : decode cX5_usesPair 100 = .ok (.iinc 2 1, 3) := by decide +kernel
theorem dX5_usesPair_103 : decode cX5_usesPair 103 = .ok (.goto (-101), 3) := by decide +kernel
theorem dX5_usesPair_106 : decode cX5_usesPair 106 = .ok (.iconst 0, 1) := by decide +kernel
theorem dX5_usesPair_107 : decode cX5_usesPair 107 = .ok (.ireturn, 1) := by decide +kernel
theorem dX5_crosses_0 : decode cX5_crosses 0 = .ok (.iconst 1, 1) := by decide +kernel
theorem dX5_crosses_1 : decode cX5_crosses 1 = .ok (.istore_n 2, 1) := by decide +kernel
theorem dX5_crosses_2 : decode cX5_crosses 2 = .ok (.iload_n 2, 1) := by decide +kernel
theorem dX5_crosses_3 : decode cX5_crosses 3 = .ok (.ifCond .eq 12, 3) := by decide +kernel
theorem dX5_crosses_6 : decode cX5_crosses 6 = .ok (.aload_n 0, 1) := by decide +kernel
theorem dX5_crosses_7 : decode cX5_crosses 7 = .ok (.iload_n 1, 1) := by decide +kernel
theorem dX5_crosses_8 : decode cX5_crosses 8 = .ok (.invokevirtual 172, 3) := by decide +kernel
theorem dX5_crosses_11 : decode cX5_crosses 11 = .ok (.istore_n 2, 1) := by decide +kernel
theorem dX5_crosses_12 : decode cX5_crosses 12 = .ok (.goto (-10), 3) := by decide +kernel
theorem dX5_crosses_15 : decode cX5_crosses 15 = .ok (.return_, 1) := by decide +kernel
theorem dX5_enters_0 : decode cX5_enters 0 = .ok (.aload_n 0, 1) := by decide +kernel
theorem dX5_enters_1 : decode cX5_enters 1 = .ok (.iconst 0, 1) := by decide +kernel
theorem dX5_enters_2 : decode cX5_enters 2 = .ok (.putfield 80, 3) := by decide +kernel
theorem dX5_enters_5 : decode cX5_enters 5 = .ok (.aload_n 0, 1) := by decide +kernel
theorem dX5_enters_6 : decode cX5_enters 6 = .ok (.getfield 35, 3) := by decide +kernel
theorem dX5_enters_9 : decode cX5_enters 9 = .ok (.aload_n 0, 1) := by decide +kernel
theorem dX5_enters_10 : decode cX5_enters 10 = .ok (.getfield 166, 3) := by decide +kernel
theorem dX5_enters_13 : decode cX5_enters 13 = .ok (.iload_n 1, 1) := by decide +kernel
theorem dX5_enters_14 : decode cX5_enters 14 = .ok (.iastore, 1) := by decide +kernel
theorem dX5_enters_15 : decode cX5_enters 15 = .ok (.aload_n 0, 1) := by decide +kernel
theorem dX5_enters_16 : decode cX5_enters 16 = .ok (.getfield 38, 3) := by decide +kernel
theorem dX5_enters_19 : decode cX5_enters 19 = .ok (.aload_n 0, 1) := by decide +kernel
theorem dX5_enters_20 : decode cX5_enters 20 = .ok (.getfield 166, 3) := by decide +kernel
theorem dX5_enters_23 : decode cX5_enters 23 = .ok (.iload_n 3, 1) := by decide +kernel
theorem dX5_enters_24 : decode cX5_enters 24 = .ok (.iastore, 1) := by decide +kernel
theorem dX5_enters_25 : decode cX5_enters 25 = .ok (.aload_n 0, 1) := by decide +kernel
theorem dX5_enters_26 : decode cX5_enters 26 = .ok (.getfield 41, 3) := by decide +kernel
theorem dX5_enters_29 : decode cX5_enters 29 = .ok (.aload_n 0, 1) := by decide +kernel
theorem dX5_enters_30 : decode cX5_enters 30 = .ok (.getfield 166, 3) := by decide +kernel
theorem dX5_enters_33 : decode cX5_enters 33 = .ok (.iload_n 2, 1) := by decide +kernel
theorem dX5_enters_34 : decode cX5_enters 34 = .ok (.iastore, 1) := by decide +kernel
theorem dX5_enters_35 : decode cX5_enters 35 = .ok (.aload_n 0, 1) := by decide +kernel
theorem dX5_enters_36 : decode cX5_enters 36 = .ok (.getfield 44, 3) := by decide +kernel
theorem dX5_enters_39 : decode cX5_enters 39 = .ok (.aload_n 0, 1) := by decide +kernel
theorem dX5_enters_40 : decode cX5_enters 40 = .ok (.getfield 166, 3) := by decide +kernel
theorem dX5_enters_43 : decode cX5_enters 43 = .ok (.iload 4, 2) := by decide +kernel
theorem dX5_enters_45 : decode cX5_enters 45 = .ok (.iastore, 1) := by decide +kernel
theorem dX5_enters_46 : decode cX5_enters 46 = .ok (.aload_n 0, 1) := by decide +kernel
theorem dX5_enters_47 : decode cX5_enters 47 = .ok (.getfield 47, 3) := by decide +kernel
theorem dX5_enters_50 : decode cX5_enters 50 = .ok (.aload_n 0, 1) := by decide +kernel
theorem dX5_enters_51 : decode cX5_enters 51 = .ok (.getfield 166, 3) := by decide +kernel
theorem dX5_enters_54 : decode cX5_enters 54 = .ok (.bipush 111, 2) := by decide +kernel
theorem dX5_enters_56 : decode cX5_enters 56 = .ok (.iastore, 1) := by decide +kernel
theorem dX5_enters_57 : decode cX5_enters 57 = .ok (.aload_n 0, 1) := by decide +kernel
theorem dX5_enters_58 : decode cX5_enters 58 = .ok (.dup, 1) := by decide +kernel
theorem dX5_enters_59 : decode cX5_enters 59 = .ok (.getfield 166, 3) := by decide +kernel
theorem dX5_enters_62 : decode cX5_enters 62 = .ok (.iconst 1, 1) := by decide +kernel
theorem dX5_enters_63 : decode cX5_enters 63 = .ok (.iadd, 1) := by decide +kernel
theorem dX5_enters_64 : decode cX5_enters 64 = .ok (.putfield 166, 3) := by decide +kernel
theorem dX5_enters_67 : decode cX5_enters 67 = .ok (.aload_n 0, 1) := by decide +kernel
theorem dX5_enters_68 : decode cX5_enters 68 = .ok (.getfield 166, 3) := by decide +kernel
theorem dX5_enters_71 : decode cX5_enters 71 = .ok (.iconst 1, 1) := by decide +kernel
theorem dX5_enters_72 : decode cX5_enters 72 = .ok (.isub, 1) := by decide +kernel
theorem dX5_enters_73 : decode cX5_enters 73 = .ok (.istore 5, 2) := by decide +kernel
theorem dX5_enters_75 : decode cX5_enters 75 = .ok (.aload_n 0, 1) := by decide +kernel
theorem dX5_enters_76 : decode cX5_enters 76 = .ok (.iload_n 2, 1) := by decide +kernel
theorem dX5_enters_77 : decode cX5_enters 77 = .ok (.invokevirtual 175, 3) := by decide +kernel
theorem dX5_enters_80 : decode cX5_enters 80 = .ok (.iload 5, 2) := by decide +kernel
theorem dX5_enters_82 : decode cX5_enters 82 = .ok (.ireturn, 1) := by decide +kernel
theorem dX5_sell_0 : decode cX5_sell 0 = .ok (.aload_n 0, 1) := by decide +kernel
theorem dX5_sell_1 : decode cX5_sell 1 = .ok (.iload_n 1, 1) := by decide +kernel
theorem dX5_sell_2 : decode cX5_sell 2 = .ok (.invokevirtual 124, 3) := by decide +kernel
theorem dX5_sell_5 : decode cX5_sell 5 = .ok (.ifCond .eq 19, 3) := by decide +kernel
theorem dX5_sell_8 : decode cX5_sell 8 = .ok (.aload_n 0, 1) := by decide +kernel
theorem dX5_sell_9 : decode cX5_sell 9 = .ok (.iload_n 3, 1) := by decide +kernel
theorem dX5_sell_10 : decode cX5_sell 10 = .ok (.invokevirtual 124, 3) := by decide +kernel
theorem dX5_sell_13 : decode cX5_sell 13 = .ok (.ifCond .eq 11, 3) := by decide +kernel
theorem dX5_sell_16 : decode cX5_sell 16 = .ok (.aload_n 0, 1) := by decide +kernel
theorem dX5_sell_17 : decode cX5_sell 17 = .ok (.iload_n 2, 1) := by decide +kernel
theorem dX5_sell_18 : decode cX5_sell 18 = .ok (.invokevirtual 147, 3) := by decide +kernel
theorem dX5_sell_21 : decode cX5_sell 21 = .ok (.ifCond .ne 9, 3) := by decide +kernel
theorem dX5_sell_24 : decode cX5_sell 24 = .ok (.aload_n 0, 1) := by decide +kernel
theorem dX5_sell_25 : decode cX5_sell 25 = .ok (.iconst 1, 1) := by decide +kernel
theorem dX5_sell_26 : decode cX5_sell 26 = .ok (.invokevirtual 116, 3) := by decide +kernel
theorem dX5_sell_29 : decode cX5_sell 29 = .ok (.ireturn, 1) := by decide +kernel
theorem dX5_sell_30 : decode cX5_sell 30 = .ok (.aload_n 0, 1) := by decide +kernel
theorem dX5_sell_31 : decode cX5_sell 31 = .ok (.iload 4, 2) := by decide +kernel
theorem dX5_sell_33 : decode cX5_sell 33 = .ok (.invokevirtual 154, 3) := by decide +kernel
theorem dX5_sell_36 : decode cX5_sell 36 = .ok (.ifCond .ne 9, 3) := by decide +kernel
theorem dX5_sell_39 : decode cX5_sell 39 = .ok (.aload_n 0, 1) := by decide +kernel
theorem dX5_sell_40 : decode cX5_sell 40 = .ok (.iconst 2, 1) := by decide +kernel
theorem dX5_sell_41 : decode cX5_sell 41 = .ok (.invokevirtual 116, 3) := by decide +kernel
theorem dX5_sell_44 : decode cX5_sell 44 = .ok (.ireturn, 1) := by decide +kernel
theorem dX5_sell_45 : decode cX5_sell 45 = .ok (.iload_n 1, 1) := by decide +kernel
theorem dX5_sell_46 : decode cX5_sell 46 = .ok (.iload_n 3, 1) := by decide +kernel
theorem dX5_sell_47 : decode cX5_sell 47 = .ok (.if_icmp .ne 9, 3) := by decide +kernel
theorem dX5_sell_50 : decode cX5_sell 50 = .ok (.aload_n 0, 1) := by decide +kernel
theorem dX5_sell_51 : decode cX5_sell 51 = .ok (.iconst 3, 1) := by decide +kernel
theorem dX5_sell_52 : decode cX5_sell 52 = .ok (.invokevirtual 116, 3) := by decide +kernel
theorem dX5_sell_55 : decode cX5_sell 55 = .ok (.ireturn, 1) := by decide +kernel
theorem dX5_sell_56 : decode cX5_sell 56 = .ok (.aload_n 0, 1) := by decide +kernel
theorem dX5_sell_57 : decode cX5_sell 57 = .ok (.getfield 166, 3) := by decide +kernel
theorem dX5_sell_60 : decode cX5_sell 60 = .ok (.bipush 120, 2) := by decide +kernel
theorem dX5_sell_62 : decode cX5_sell 62 = .ok (.if_icmp .ne 11, 3) := by decide +kernel
theorem dX5_sell_65 : decode cX5_sell 65 = .ok (.aload_n 0, 1) := by decide +kernel
theorem dX5_sell_66 : decode cX5_sell 66 = .ok (.iconst 4, 1) := by decide +kernel
theorem dX5_sell_67 : decode cX5_sell 67 = .ok (.invokevirtual 116, 3) := by decide +kernel
theorem dX5_sell_70 : decode cX5_sell 70 = .ok (.goto 12, 3) := by decide +kernel
theorem dX5_sell_73 : decode cX5_sell 73 = .ok (.aload_n 0, 1) := by decide +kernel
theorem dX5_sell_74 : decode cX5_sell 74 = .ok (.iload_n 1, 1) := by decide +kernel
theorem dX5_sell_75 : decode cX5_sell 75 = .ok (.iload_n 2, 1) := by decide +kernel
theorem dX5_sell_76 : decode cX5_sell 76 = .ok (.iload_n 3, 1) := by decide +kernel
theorem dX5_sell_77 : decode cX5_sell 77 = .ok (.iload 4, 2) := by decide +kernel
theorem dX5_sell_79 : decode cX5_sell 79 = .ok (.invokevirtual 179, 3) := by decide +kernel
theorem dX5_sell_82 : decode cX5_sell 82 = .ok (.ireturn, 1) := by decide +kernel
theorem dX5_buy_0 : decode cX5_buy 0 = .ok (.aload_n 0, 1) := by decide +kernel
theorem dX5_buy_1 : decode cX5_buy 1 = .ok (.iload_n 1, 1) := by decide +kernel
theorem dX5_buy_2 : decode cX5_buy 2 = .ok (.invokevirtual 124, 3) := by decide +kernel
theorem dX5_buy_5 : decode cX5_buy 5 = .ok (.ifCond .eq 11, 3) := by decide +kernel
theorem dX5_buy_8 : decode cX5_buy 8 = .ok (.aload_n 0, 1) := by decide +kernel
theorem dX5_buy_9 : decode cX5_buy 9 = .ok (.iload_n 2, 1) := by decide +kernel
theorem dX5_buy_10 : decode cX5_buy 10 = .ok (.invokevirtual 147, 3) := by decide +kernel
theorem dX5_buy_13 : decode cX5_buy 13 = .ok (.ifCond .ne 9, 3) := by decide +kernel
theorem dX5_buy_16 : decode cX5_buy 16 = .ok (.aload_n 0, 1) := by decide +kernel
theorem dX5_buy_17 : decode cX5_buy 17 = .ok (.iconst 1, 1) := by decide +kernel
theorem dX5_buy_18 : decode cX5_buy 18 = .ok (.invokevirtual 116, 3) := by decide +kernel
theorem dX5_buy_21 : decode cX5_buy 21 = .ok (.ireturn, 1) := by decide +kernel
theorem dX5_buy_22 : decode cX5_buy 22 = .ok (.aload_n 0, 1) := by decide +kernel
theorem dX5_buy_23 : decode cX5_buy 23 = .ok (.iload_n 3, 1) := by decide +kernel
theorem dX5_buy_24 : decode cX5_buy 24 = .ok (.invokevirtual 154, 3) := by decide +kernel
theorem dX5_buy_27 : decode cX5_buy 27 = .ok (.ifCond .ne 9, 3) := by decide +kernel
theorem dX5_buy_30 : decode cX5_buy 30 = .ok (.aload_n 0, 1) := by decide +kernel
theorem dX5_buy_31 : decode cX5_buy 31 = .ok (.iconst 2, 1) := by decide +kernel
theorem dX5_buy_32 : decode cX5_buy 32 = .ok (.invokevirtual 116, 3) := by decide +kernel
theorem dX5_buy_35 : decode cX5_buy 35 = .ok (.ireturn, 1) := by decide +kernel
theorem dX5_buy_36 : decode cX5_buy 36 = .ok (.aload_n 0, 1) := by decide +kernel
theorem dX5_buy_37 : decode cX5_buy 37 = .ok (.getfield 166, 3) := by decide +kernel
theorem dX5_buy_40 : decode cX5_buy 40 = .ok (.bipush 120, 2) := by decide +kernel
theorem dX5_buy_42 : decode cX5_buy 42 = .ok (.if_icmp .ne 11, 3) := by decide +kernel
theorem dX5_buy_45 : decode cX5_buy 45 = .ok (.aload_n 0, 1) := by decide +kernel
theorem dX5_buy_46 : decode cX5_buy 46 = .ok (.iconst 3, 1) := by decide +kernel
theorem dX5_buy_47 : decode cX5_buy 47 = .ok (.invokevirtual 116, 3) := by decide +kernel
theorem dX5_buy_50 : decode cX5_buy 50 = .ok (.goto 11, 3) := by decide +kernel
theorem dX5_buy_53 : decode cX5_buy 53 = .ok (.aload_n 0, 1) := by decide +kernel
theorem dX5_buy_54 : decode cX5_buy 54 = .ok (.iconst (-1), 1) := by decide +kernel
theorem dX5_buy_55 : decode cX5_buy 55 = .ok (.iload_n 2, 1) := by decide +kernel
theorem dX5_buy_56 : decode cX5_buy 56 = .ok (.iload_n 1, 1) := by decide +kernel
theorem dX5_buy_57 : decode cX5_buy 57 = .ok (.iload_n 3, 1) := by decide +kernel
theorem dX5_buy_58 : decode cX5_buy 58 = .ok (.invokevirtual 179, 3) := by decide +kernel
theorem dX5_buy_61 : decode cX5_buy 61 = .ok (.ireturn, 1) := by decide +kernel
theorem dX5_open_0 : decode cX5_open 0 = .ok (.iconst 0, 1) := by decide +kernel
theorem dX5_open_1 : decode cX5_open 1 = .ok (.istore_n 2, 1) := by decide +kernel
theorem dX5_open_2 : decode cX5_open 2 = .ok (.iconst 0, 1) := by decide +kernel
theorem dX5_open_3 : decode cX5_open 3 = .ok (.istore_n 3, 1) := by decide +kernel
theorem dX5_open_4 : decode cX5_open 4 = .ok (.iload_n 3, 1) := by decide +kernel
theorem dX5_open_5 : decode cX5_open 5 = .ok (.aload_n 0, 1) := by decide +kernel
theorem dX5_open_6 : decode cX5_open 6 = .ok (.getfield 166, 3) := by decide +kernel
theorem dX5_open_9 : decode cX5_open 9 = .ok (.if_icmp .ge 43, 3) := by decide +kernel
theorem dX5_open_12 : decode cX5_open 12 = .ok (.iload_n 2, 1) := by decide +kernel
theorem dX5_open_13 : decode cX5_open 13 = .ok (.aload_n 0, 1) := by decide +kernel
theorem dX5_open_14 : decode cX5_open 14 = .ok (.getfield 47, 3) := by decide +kernel
theorem dX5_open_17 : decode cX5_open 17 = .ok (.iload_n 3, 1) := by decide +kernel
theorem dX5_open_18 : decode cX5_open 18 = .ok (.iaload, 1) := by decide +kernel
theorem dX5_open_19 : decode cX5_open 19 = .ok (.bipush 111, 2) := by decide +kernel
theorem dX5_open_21 : decode cX5_open 21 = .ok (.if_icmp .ne 22, 3) := by decide +kernel
theorem dX5_open_24 : decode cX5_open 24 = .ok (.iload_n 1, 1) := by decide +kernel
theorem dX5_open_25 : decode cX5_open 25 = .ok (.iconst (-1), 1) := by decide +kernel
theorem dX5_open_26 : decode cX5_open 26 = .ok (.if_icmp .eq 13, 3) := by decide +kernel
theorem dX5_open_29 : decode cX5_open 29 = .ok (.aload_n 0, 1) := by decide +kernel
theorem dX5_open_30 : decode cX5_open 30 = .ok (.getfield 41, 3) := by decide +kernel
theorem dX5_open_33 : decode cX5_open 33 = .ok (.iload_n 3, 1) := by decide +kernel
theorem dX5_open_34 : decode cX5_open 34 = .ok (.iaload, 1) := by decide +kernel
theorem dX5_open_35 : decode cX5_open 35 = .ok (.iload_n 1, 1) := by decide +kernel
theorem dX5_open_36 : decode cX5_open 36 = .ok (.if_icmp .ne 7, 3) := by decide +kernel
theorem dX5_open_39 : decode cX5_open 39 = .ok (.iconst 1, 1) := by decide +kernel
theorem dX5_open_40 : decode cX5_open 40 = .ok (.goto 4, 3) := by decide +kernel
theorem dX5_open_43 : decode cX5_open 43 = .ok (.iconst 0, 1) := by decide +kernel
theorem dX5_open_44 : decode cX5_open 44 = .ok (.iadd, 1) := by decide +kernel
theorem dX5_open_45 : decode cX5_open 45 = .ok (.istore_n 2, 1) := by decide +kernel
theorem dX5_open_46 : decode cX5_open 46 = .ok (.iinc 3 1, 3) := by decide +kernel
theorem dX5_open_49 : decode cX5_open 49 = .ok (.goto (-45), 3) := by decide +kernel
theorem dX5_open_52 : decode cX5_open 52 = .ok (.iload_n 2, 1) := by decide +kernel
theorem dX5_open_53 : decode cX5_open 53 = .ok (.ireturn, 1) := by decide +kernel
theorem dX5_isNotice_0 : decode cX5_isNotice 0 = .ok (.aload_n 0, 1) := by decide +kernel
theorem dX5_isNotice_1 : decode cX5_isNotice 1 = .ok (.iload_n 1, 1) := by decide +kernel
theorem dX5_isNotice_2 : decode cX5_isNotice 2 = .ok (.iconst 0, 1) := by decide +kernel
theorem dX5_isNotice_3 : decode cX5_isNotice 3 = .ok (.aload_n 0, 1) := by decide +kernel
theorem dX5_isNotice_4 : decode cX5_isNotice 4 = .ok (.getfield 166, 3) := by decide +kernel
theorem dX5_isNotice_7 : decode cX5_isNotice 7 = .ok (.iconst 1, 1) := by decide +kernel
theorem dX5_isNotice_8 : decode cX5_isNotice 8 = .ok (.isub, 1) := by decide +kernel
theorem dX5_isNotice_9 : decode cX5_isNotice 9 = .ok (.invokestatic 87, 3) := by decide +kernel
theorem dX5_isNotice_12 : decode cX5_isNotice 12 = .ok (.ifCond .eq 7, 3) := by decide +kernel
theorem dX5_isNotice_15 : decode cX5_isNotice 15 = .ok (.iconst 0, 1) := by decide +kernel
theorem dX5_isNotice_16 : decode cX5_isNotice 16 = .ok (.goto 4, 3) := by decide +kernel
theorem dX5_isNotice_19 : decode cX5_isNotice 19 = .ok (.iconst 1, 1) := by decide +kernel
theorem dX5_isNotice_20 : decode cX5_isNotice 20 = .ok (.putfield 80, 3) := by decide +kernel
theorem dX5_isNotice_23 : decode cX5_isNotice 23 = .ok (.aload_n 0, 1) := by decide +kernel
theorem dX5_isNotice_24 : decode cX5_isNotice 24 = .ok (.getfield 80, 3) := by decide +kernel
theorem dX5_isNotice_27 : decode cX5_isNotice 27 = .ok (.ifCond .ne 7, 3) := by decide +kernel
theorem dX5_isNotice_30 : decode cX5_isNotice 30 = .ok (.iconst 1, 1) := by decide +kernel
theorem dX5_isNotice_31 : decode cX5_isNotice 31 = .ok (.goto 4, 3) := by decide +kernel
theorem dX5_isNotice_34 : decode cX5_isNotice 34 = .ok (.iconst 0, 1) := by decide +kernel
theorem dX5_isNotice_35 : decode cX5_isNotice 35 = .ok (.ireturn, 1) := by decide +kernel
theorem dX5_withdraw_0 : decode cX5_withdraw 0 = .ok (.aload_n 0, 1) := by decide +kernel
theorem dX5_withdraw_1 : decode cX5_withdraw 1 = .ok (.iload_n 1, 1) := by decide +kernel
theorem dX5_withdraw_2 : decode cX5_withdraw 2 = .ok (.invokevirtual 183, 3) := by decide +kernel
theorem dX5_withdraw_5 : decode cX5_withdraw 5 = .ok (.ifCond .ne 5, 3) := by decide +kernel
theorem dX5_withdraw_8 : decode cX5_withdraw 8 = .ok (.iconst 0, 1) := by decide +kernel
theorem dX5_withdraw_9 : decode cX5_withdraw 9 = .ok (.ireturn, 1) := by decide +kernel
theorem dX5_withdraw_10 : decode cX5_withdraw 10 = .ok (.aload_n 0, 1) := by decide +kernel
theorem dX5_withdraw_11 : decode cX5_withdraw 11 = .ok (.getfield 47, 3) := by decide +kernel
theorem dX5_withdraw_14 : decode cX5_withdraw 14 = .ok (.iload_n 1, 1) := by decide +kernel
theorem dX5_withdraw_15 : decode cX5_withdraw 15 = .ok (.iaload, 1) := by decide +kernel
theorem dX5_withdraw_16 : decode cX5_withdraw 16 = .ok (.bipush 111, 2) := by decide +kernel
theorem dX5_withdraw_18 : decode cX5_withdraw 18 = .ok (.if_icmp .eq 9, 3) := by decide +kernel
theorem dX5_withdraw_21 : decode cX5_withdraw 21 = .ok (.aload_n 0, 1) := by decide +kernel
theorem dX5_withdraw_22 : decode cX5_withdraw 22 = .ok (.iconst 2, 1) := by decide +kernel
theorem dX5_withdraw_23 : decode cX5_withdraw 23 = .ok (.invokevirtual 116, 3) := by decide +kernel
theorem dX5_withdraw_26 : decode cX5_withdraw 26 = .ok (.ireturn, 1) := by decide +kernel
theorem dX5_withdraw_27 : decode cX5_withdraw 27 = .ok (.aload_n 0, 1) := by decide +kernel
theorem dX5_withdraw_28 : decode cX5_withdraw 28 = .ok (.getfield 47, 3) := by decide +kernel
theorem dX5_withdraw_31 : decode cX5_withdraw 31 = .ok (.iload_n 1, 1) := by decide +kernel
theorem dX5_withdraw_32 : decode cX5_withdraw 32 = .ok (.bipush 119, 2) := by decide +kernel
theorem dX5_withdraw_34 : decode cX5_withdraw 34 = .ok (.iastore, 1) := by decide +kernel
theorem dX5_withdraw_35 : decode cX5_withdraw 35 = .ok (.aload_n 0, 1) := by decide +kernel
theorem dX5_withdraw_36 : decode cX5_withdraw 36 = .ok (.iconst (-1), 1) := by decide +kernel
theorem dX5_withdraw_37 : decode cX5_withdraw 37 = .ok (.invokevirtual 186, 3) := by decide +kernel
theorem dX5_withdraw_40 : decode cX5_withdraw 40 = .ok (.ireturn, 1) := by decide +kernel
theorem dX5_stateOf_0 : decode cX5_stateOf 0 = .ok (.aload_n 0, 1) := by decide +kernel
theorem dX5_stateOf_1 : decode cX5_stateOf 1 = .ok (.iload_n 1, 1) := by decide +kernel
theorem dX5_stateOf_2 : decode cX5_stateOf 2 = .ok (.invokevirtual 183, 3) := by decide +kernel
theorem dX5_stateOf_5 : decode cX5_stateOf 5 = .ok (.ifCond .eq 12, 3) := by decide +kernel
theorem dX5_stateOf_8 : decode cX5_stateOf 8 = .ok (.aload_n 0, 1) := by decide +kernel
theorem dX5_stateOf_9 : decode cX5_stateOf 9 = .ok (.getfield 47, 3) := by decide +kernel
theorem dX5_stateOf_12 : decode cX5_stateOf 12 = .ok (.iload_n 1, 1) := by decide +kernel
theorem dX5_stateOf_13 : decode cX5_stateOf 13 = .ok (.iaload, 1) := by decide +kernel
theorem dX5_stateOf_14 : decode cX5_stateOf 14 = .ok (.goto 4, 3) := by decide +kernel
theorem dX5_stateOf_17 : decode cX5_stateOf 17 = .ok (.iconst 0, 1) := by decide +kernel
theorem dX5_stateOf_18 : decode cX5_stateOf 18 = .ok (.i2c, 1) := by decide +kernel
theorem dX5_stateOf_19 : decode cX5_stateOf 19 = .ok (.ireturn, 1) := by decide +kernel
theorem dX5_partnerOf_0 : decode cX5_partnerOf 0 = .ok (.aload_n 0, 1) := by decide +kernel
theorem dX5_partnerOf_1 : decode cX5_partnerOf 1 = .ok (.iload_n 1, 1) := by decide +kernel
theorem dX5_partnerOf_2 : decode cX5_partnerOf 2 = .ok (.invokevirtual 183, 3) := by decide +kernel
theorem dX5_partnerOf_5 : decode cX5_partnerOf 5 = .ok (.ifCond .ne 5, 3) := by decide +kernel
theorem dX5_partnerOf_8 : decode cX5_partnerOf 8 = .ok (.iconst 0, 1) := by decide +kernel
theorem dX5_partnerOf_9 : decode cX5_partnerOf 9 = .ok (.ireturn, 1) := by decide +kernel
theorem dX5_partnerOf_10 : decode cX5_partnerOf 10 = .ok (.aload_n 0, 1) := by decide +kernel
theorem dX5_partnerOf_11 : decode cX5_partnerOf 11 = .ok (.getfield 47, 3) := by decide +kernel
theorem dX5_partnerOf_14 : decode cX5_partnerOf 14 = .ok (.iload_n 1, 1) := by decide +kernel
theorem dX5_partnerOf_15 : decode cX5_partnerOf 15 = .ok (.iaload, 1) := by decide +kernel
theorem dX5_partnerOf_16 : decode cX5_partnerOf 16 = .ok (.bipush 117, 2) := by decide +kernel
theorem dX5_partnerOf_18 : decode cX5_partnerOf 18 = .ok (.if_icmp .ne 12, 3) := by decide +kernel
theorem dX5_partnerOf_21 : decode cX5_partnerOf 21 = .ok (.aload_n 0, 1) := by decide +kernel
theorem dX5_partnerOf_22 : decode cX5_partnerOf 22 = .ok (.getfield 50, 3) := by decide +kernel
theorem dX5_partnerOf_25 : decode cX5_partnerOf 25 = .ok (.iload_n 1, 1) := by decide +kernel
theorem dX5_partnerOf_26 : decode cX5_partnerOf 26 = .ok (.iaload, 1) := by decide +kernel
theorem dX5_partnerOf_27 : decode cX5_partnerOf 27 = .ok (.goto 8, 3) := by decide +kernel
theorem dX5_partnerOf_30 : decode cX5_partnerOf 30 = .ok (.aload_n 0, 1) := by decide +kernel
theorem dX5_partnerOf_31 : decode cX5_partnerOf 31 = .ok (.iconst 2, 1) := by decide +kernel
theorem dX5_partnerOf_32 : decode cX5_partnerOf 32 = .ok (.invokevirtual 116, 3) := by decide +kernel
theorem dX5_partnerOf_35 : decode cX5_partnerOf 35 = .ok (.ireturn, 1) := by decide +kernel
theorem dX5_isAsked_0 : decode cX5_isAsked 0 = .ok (.aload_n 0, 1) := by decide +kernel
theorem dX5_isAsked_1 : decode cX5_isAsked 1 = .ok (.aload_n 0, 1) := by decide +kernel
theorem dX5_isAsked_2 : decode cX5_isAsked 2 = .ok (.iload_n 1, 1) := by decide +kernel
theorem dX5_isAsked_3 : decode cX5_isAsked 3 = .ok (.invokevirtual 147, 3) := by decide +kernel
theorem dX5_isAsked_6 : decode cX5_isAsked 6 = .ok (.ifCond .eq 7, 3) := by decide +kernel
theorem dX5_isAsked_9 : decode cX5_isAsked 9 = .ok (.iconst 0, 1) := by decide +kernel
theorem dX5_isAsked_10 : decode cX5_isAsked 10 = .ok (.goto 4, 3) := by decide +kernel
theorem dX5_isAsked_13 : decode cX5_isAsked 13 = .ok (.iconst 1, 1) := by decide +kernel
theorem dX5_isAsked_14 : decode cX5_isAsked 14 = .ok (.putfield 80, 3) := by decide +kernel
theorem dX5_isAsked_17 : decode cX5_isAsked 17 = .ok (.aload_n 0, 1) := by decide +kernel
theorem dX5_isAsked_18 : decode cX5_isAsked 18 = .ok (.getfield 80, 3) := by decide +kernel
theorem dX5_isAsked_21 : decode cX5_isAsked 21 = .ok (.ifCond .ne 7, 3) := by decide +kernel
theorem dX5_isAsked_24 : decode cX5_isAsked 24 = .ok (.iconst 1, 1) := by decide +kernel
theorem dX5_isAsked_25 : decode cX5_isAsked 25 = .ok (.goto 4, 3) := by decide +kernel
theorem dX5_isAsked_28 : decode cX5_isAsked 28 = .ok (.iconst 0, 1) := by decide +kernel
theorem dX5_isAsked_29 : decode cX5_isAsked 29 = .ok (.ireturn, 1) := by decide +kernel
theorem dX5_openNotices_0 : decode cX5_openNotices 0 = .ok (.aload_n 0, 1) := by decide +kernel
theorem dX5_openNotices_1 : decode cX5_openNotices 1 = .ok (.iload_n 1, 1) := by decide +kernel
theorem dX5_openNotices_2 : decode cX5_openNotices 2 = .ok (.invokevirtual 189, 3) := by decide +kernel
theorem dX5_openNotices_5 : decode cX5_openNotices 5 = .ok (.ifCond .eq 11, 3) := by decide +kernel
theorem dX5_openNotices_8 : decode cX5_openNotices 8 = .ok (.aload_n 0, 1) := by decide +kernel
theorem dX5_openNotices_9 : decode cX5_openNotices 9 = .ok (.iload_n 1, 1) := by decide +kernel
theorem dX5_openNotices_10 : decode cX5_openNotices 10 = .ok (.invokevirtual 186, 3) := by decide +kernel
theorem dX5_openNotices_13 : decode cX5_openNotices 13 = .ok (.goto 4, 3) := by decide +kernel
theorem dX5_openNotices_16 : decode cX5_openNotices 16 = .ok (.iconst 0, 1) := by decide +kernel
theorem dX5_openNotices_17 : decode cX5_openNotices 17 = .ok (.ireturn, 1) := by decide +kernel
theorem dX5_keeperOn_0 : decode cX5_keeperOn 0 = .ok (.aload_n 0, 1) := by decide +kernel
theorem dX5_keeperOn_1 : decode cX5_keeperOn 1 = .ok (.iload_n 1, 1) := by decide +kernel
theorem dX5_keeperOn_2 : decode cX5_keeperOn 2 = .ok (.invokevirtual 189, 3) := by decide +kernel
theorem dX5_keeperOn_5 : decode cX5_keeperOn 5 = .ok (.ifCond .ne 5, 3) := by decide +kernel
theorem dX5_keeperOn_8 : decode cX5_keeperOn 8 = .ok (.iconst 0, 1) := by decide +kernel
theorem dX5_keeperOn_9 : decode cX5_keeperOn 9 = .ok (.ireturn, 1) := by decide +kernel
theorem dX5_keeperOn_10 : decode cX5_keeperOn 10 = .ok (.aload_n 0, 1) := by decide +kernel
theorem dX5_keeperOn_11 : decode cX5_keeperOn 11 = .ok (.iload_n 2, 1) := by decide +kernel
theorem dX5_keeperOn_12 : decode cX5_keeperOn 12 = .ok (.invokevirtual 154, 3) := by decide +kernel
theorem dX5_keeperOn_15 : decode cX5_keeperOn 15 = .ok (.ifCond .ne 9, 3) := by decide +kernel
theorem dX5_keeperOn_18 : decode cX5_keeperOn 18 = .ok (.aload_n 0, 1) := by decide +kernel
theorem dX5_keeperOn_19 : decode cX5_keeperOn 19 = .ok (.iconst 2, 1) := by decide +kernel
theorem dX5_keeperOn_20 : decode cX5_keeperOn 20 = .ok (.invokevirtual 116, 3) := by decide +kernel
theorem dX5_keeperOn_23 : decode cX5_keeperOn 23 = .ok (.ireturn, 1) := by decide +kernel
theorem dX5_keeperOn_24 : decode cX5_keeperOn 24 = .ok (.aload_n 0, 1) := by decide +kernel
theorem dX5_keeperOn_25 : decode cX5_keeperOn 25 = .ok (.iload_n 1, 1) := by decide +kernel
theorem dX5_keeperOn_26 : decode cX5_keeperOn 26 = .ok (.iload_n 2, 1) := by decide +kernel
theorem dX5_keeperOn_27 : decode cX5_keeperOn 27 = .ok (.invokevirtual 113, 3) := by decide +kernel
theorem dX5_keeperOn_30 : decode cX5_keeperOn 30 = .ok (.istore_n 3, 1) := by decide +kernel
theorem dX5_keeperOn_31 : decode cX5_keeperOn 31 = .ok (.iload_n 3, 1) := by decide +kernel
theorem dX5_keeperOn_32 : decode cX5_keeperOn 32 = .ok (.iconst (-1), 1) := by decide +kernel
theorem dX5_keeperOn_33 : decode cX5_keeperOn 33 = .ok (.if_icmp .ne 11, 3) := by decide +kernel
theorem dX5_keeperOn_36 : decode cX5_keeperOn 36 = .ok (.aload_n 0, 1) := by decide +kernel
theorem dX5_keeperOn_37 : decode cX5_keeperOn 37 = .ok (.iconst 3, 1) := by decide +kernel
theorem dX5_keeperOn_38 : decode cX5_keeperOn 38 = .ok (.invokevirtual 116, 3) := by decide +kernel
theorem dX5_keeperOn_41 : decode cX5_keeperOn 41 = .ok (.goto 4, 3) := by decide +kernel
theorem dX5_keeperOn_44 : decode cX5_keeperOn 44 = .ok (.iload_n 3, 1) := by decide +kernel
theorem dX5_keeperOn_45 : decode cX5_keeperOn 45 = .ok (.ireturn, 1) := by decide +kernel
theorem dX5_keeperByGoing_0 : decode cX5_keeperByGoing 0 = .ok (.aload_n 0, 1) := by decide +kernel
theorem dX5_keeperByGoing_1 : decode cX5_keeperByGoing 1 = .ok (.iload_n 1, 1) := by decide +kernel
theorem dX5_keeperByGoing_2 : decode cX5_keeperByGoing 2 = .ok (.iload_n 2, 1) := by decide +kernel
theorem dX5_keeperByGoing_3 : decode cX5_keeperByGoing 3 = .ok (.invokevirtual 192, 3) := by decide +kernel
theorem dX5_keeperByGoing_6 : decode cX5_keeperByGoing 6 = .ok (.ireturn, 1) := by decide +kernel
theorem dX5_passesOf_0 : decode cX5_passesOf 0 = .ok (.iconst 0, 1) := by decide +kernel
theorem dX5_passesOf_1 : decode cX5_passesOf 1 = .ok (.istore_n 2, 1) := by decide +kernel
theorem dX5_passesOf_2 : decode cX5_passesOf 2 = .ok (.iconst 0, 1) := by decide +kernel
theorem dX5_passesOf_3 : decode cX5_passesOf 3 = .ok (.istore_n 3, 1) := by decide +kernel
theorem dX5_passesOf_4 : decode cX5_passesOf 4 = .ok (.iload_n 3, 1) := by decide +kernel
theorem dX5_passesOf_5 : decode cX5_passesOf 5 = .ok (.aload_n 0, 1) := by decide +kernel
theorem dX5_passesOf_6 : decode cX5_passesOf 6 = .ok (.getfield 110, 3) := by decide +kernel
theorem dX5_passesOf_9 : decode cX5_passesOf 9 = .ok (.if_icmp .ge 27, 3) := by decide +kernel
theorem dX5_passesOf_12 : decode cX5_passesOf 12 = .ok (.iload_n 2, 1) := by decide +kernel
theorem dX5_passesOf_13 : decode cX5_passesOf 13 = .ok (.aload_n 0, 1) := by decide +kernel
theorem dX5_passesOf_14 : decode cX5_passesOf 14 = .ok (.getfield 26, 3) := by decide +kernel
theorem dX5_passesOf_17 : decode cX5_passesOf 17 = .ok (.iload_n 3, 1) := by decide +kernel
theorem dX5_passesOf_18 : decode cX5_passesOf 18 = .ok (.iaload, 1) := by decide +kernel
theorem dX5_passesOf_19 : decode cX5_passesOf 19 = .ok (.iload_n 1, 1) := by decide +kernel
theorem dX5_passesOf_20 : decode cX5_passesOf 20 = .ok (.if_icmp .ne 7, 3) := by decide +kernel
theorem dX5_passesOf_23 : decode cX5_passesOf 23 = .ok (.iconst 1, 1) := by decide +kernel
theorem dX5_passesOf_24 : decode cX5_passesOf 24 = .ok (.goto 4, 3) := by decide +kernel
theorem dX5_passesOf_27 : decode cX5_passesOf 27 = .ok (.iconst 0, 1) := by decide +kernel
theorem dX5_passesOf_28 : decode cX5_passesOf 28 = .ok (.iadd, 1) := by decide +kernel
theorem dX5_passesOf_29 : decode cX5_passesOf 29 = .ok (.istore_n 2, 1) := by decide +kernel
theorem dX5_passesOf_30 : decode cX5_passesOf 30 = .ok (.iinc 3 1, 3) := by decide +kernel
theorem dX5_passesOf_33 : decode cX5_passesOf 33 = .ok (.goto (-29), 3) := by decide +kernel
theorem dX5_passesOf_36 : decode cX5_passesOf 36 = .ok (.iload_n 2, 1) := by decide +kernel
theorem dX5_passesOf_37 : decode cX5_passesOf 37 = .ok (.ireturn, 1) := by decide +kernel
theorem dX5_transfers_0 : decode cX5_transfers 0 = .ok (.aload_n 0, 1) := by decide +kernel
theorem dX5_transfers_1 : decode cX5_transfers 1 = .ok (.iload_n 1, 1) := by decide +kernel
theorem dX5_transfers_2 : decode cX5_transfers 2 = .ok (.invokevirtual 189, 3) := by decide +kernel
theorem dX5_transfers_5 : decode cX5_transfers 5 = .ok (.ifCond .eq 11, 3) := by decide +kernel
theorem dX5_transfers_8 : decode cX5_transfers 8 = .ok (.aload_n 0, 1) := by decide +kernel
theorem dX5_transfers_9 : decode cX5_transfers 9 = .ok (.iload_n 1, 1) := by decide +kernel
theorem dX5_transfers_10 : decode cX5_transfers 10 = .ok (.invokevirtual 195, 3) := by decide +kernel
theorem dX5_transfers_13 : decode cX5_transfers 13 = .ok (.goto 4, 3) := by decide +kernel
theorem dX5_transfers_16 : decode cX5_transfers 16 = .ok (.iconst 0, 1) := by decide +kernel
theorem dX5_transfers_17 : decode cX5_transfers 17 = .ok (.ireturn, 1) := by decide +kernel
theorem dX5_transferDay_0 : decode cX5_transferDay 0 = .ok (.aload_n 0, 1) := by decide +kernel
theorem dX5_transferDay_1 : decode cX5_transferDay 1 = .ok (.iload_n 1, 1) := by decide +kernel
theorem dX5_transferDay_2 : decode cX5_transferDay 2 = .ok (.invokevirtual 189, 3) := by decide +kernel
theorem dX5_transferDay_5 : decode cX5_transferDay 5 = .ok (.ifCond .eq 18, 3) := by decide +kernel
theorem dX5_transferDay_8 : decode cX5_transferDay 8 = .ok (.iload_n 2, 1) := by decide +kernel
theorem dX5_transferDay_9 : decode cX5_transferDay 9 = .ok (.iconst 0, 1) := by decide +kernel
theorem dX5_transferDay_10 : decode cX5_transferDay 10 = .ok (.aload_n 0, 1) := by decide +kernel
theorem dX5_transferDay_11 : decode cX5_transferDay 11 = .ok (.iload_n 1, 1) := by decide +kernel
theorem dX5_transferDay_12 : decode cX5_transferDay 12 = .ok (.invokevirtual 195, 3) := by decide +kernel
theorem dX5_transferDay_15 : decode cX5_transferDay 15 = .ok (.iconst 1, 1) := by decide +kernel
theorem dX5_transferDay_16 : decode cX5_transferDay 16 = .ok (.isub, 1) := by decide +kernel
theorem dX5_transferDay_17 : decode cX5_transferDay 17 = .ok (.invokestatic 87, 3) := by decide +kernel
theorem dX5_transferDay_20 : decode cX5_transferDay 20 = .ok (.ifCond .ne 9, 3) := by decide +kernel
theorem dX5_transferDay_23 : decode cX5_transferDay 23 = .ok (.aload_n 0, 1) := by decide +kernel
theorem dX5_transferDay_24 : decode cX5_transferDay 24 = .ok (.iconst 1, 1) := by decide +kernel
theorem dX5_transferDay_25 : decode cX5_transferDay 25 = .ok (.invokevirtual 116, 3) := by decide +kernel
theorem dX5_transferDay_28 : decode cX5_transferDay 28 = .ok (.ireturn, 1) := by decide +kernel
theorem dX5_transferDay_29 : decode cX5_transferDay 29 = .ok (.iload_n 2, 1) := by decide +kernel
theorem dX5_transferDay_30 : decode cX5_transferDay 30 = .ok (.istore_n 3, 1) := by decide +kernel
theorem dX5_transferDay_31 : decode cX5_transferDay 31 = .ok (.iconst 0, 1) := by decide +kernel
theorem dX5_transferDay_32 : decode cX5_transferDay 32 = .ok (.istore 4, 2) := by decide +kernel
theorem dX5_transferDay_34 : decode cX5_transferDay 34 = .ok (.iload 4, 2) := by decide +kernel
theorem dX5_transferDay_36 : decode cX5_transferDay 36 = .ok (.aload_n 0, 1) := by decide +kernel
theorem dX5_transferDay_37 : decode cX5_transferDay 37 = .ok (.getfield 110, 3) := by decide +kernel
theorem dX5_transferDay_40 : decode cX5_transferDay 40 = .ok (.if_icmp .ge 38, 3) := by decide +kernel
theorem dX5_transferDay_43 : decode cX5_transferDay 43 = .ok (.aload_n 0, 1) := by decide +kernel
theorem dX5_transferDay_44 : decode cX5_transferDay 44 = .ok (.getfield 26, 3) := by decide +kernel
theorem dX5_transferDay_47 : decode cX5_transferDay 47 = .ok (.iload 4, 2) := by decide +kernel
theorem dX5_transferDay_49 : decode cX5_transferDay 49 = .ok (.iaload, 1) := by decide +kernel
theorem dX5_transferDay_50 : decode cX5_transferDay 50 = .ok (.iload_n 1, 1) := by decide +kernel
theorem dX5_transferDay_51 : decode cX5_transferDay 51 = .ok (.if_icmp .eq 6, 3) := by decide +kernel
theorem dX5_transferDay_54 : decode cX5_transferDay 54 = .ok (.goto 18, 3) := by decide +kernel
theorem dX5_transferDay_57 : decode cX5_transferDay 57 = .ok (.iload_n 3, 1) := by decide +kernel
theorem dX5_transferDay_58 : decode cX5_transferDay 58 = .ok (.ifCond .ne 11, 3) := by decide +kernel
theorem dX5_transferDay_61 : decode cX5_transferDay 61 = .ok (.aload_n 0, 1) := by decide +kernel
theorem dX5_transferDay_62 : decode cX5_transferDay 62 = .ok (.getfield 29, 3) := by decide +kernel
theorem dX5_transferDay_65 : decode cX5_transferDay 65 = .ok (.iload 4, 2) := by decide +kernel
theorem dX5_transferDay_67 : decode cX5_transferDay 67 = .ok (.iaload, 1) := by decide +kernel
theorem dX5_transferDay_68 : decode cX5_transferDay 68 = .ok (.ireturn, 1) := by decide +kernel
theorem dX5_transferDay_69 : decode cX5_transferDay 69 = .ok (.iinc 3 (-1), 3) := by decide +kernel
theorem dX5_transferDay_72 : decode cX5_transferDay 72 = .ok (.iinc 4 1, 3) := by decide +kernel
theorem dX5_transferDay_75 : decode cX5_transferDay 75 = .ok (.goto (-41), 3) := by decide +kernel
theorem dX5_transferDay_78 : decode cX5_transferDay 78 = .ok (.iconst 0, 1) := by decide +kernel
theorem dX5_transferDay_79 : decode cX5_transferDay 79 = .ok (.ireturn, 1) := by decide +kernel
theorem dX5_keptBy_0 : decode cX5_keptBy 0 = .ok (.aload_n 0, 1) := by decide +kernel
theorem dX5_keptBy_1 : decode cX5_keptBy 1 = .ok (.iload_n 1, 1) := by decide +kernel
theorem dX5_keptBy_2 : decode cX5_keptBy 2 = .ok (.invokevirtual 124, 3) := by decide +kernel
theorem dX5_keptBy_5 : decode cX5_keptBy 5 = .ok (.ifCond .ne 9, 3) := by decide +kernel
theorem dX5_keptBy_8 : decode cX5_keptBy 8 = .ok (.aload_n 0, 1) := by decide +kernel
theorem dX5_keptBy_9 : decode cX5_keptBy 9 = .ok (.iconst 1, 1) := by decide +kernel
theorem dX5_keptBy_10 : decode cX5_keptBy 10 = .ok (.invokevirtual 116, 3) := by decide +kernel
theorem dX5_keptBy_13 : decode cX5_keptBy 13 = .ok (.ireturn, 1) := by decide +kernel
theorem dX5_keptBy_14 : decode cX5_keptBy 14 = .ok (.aload_n 0, 1) := by decide +kernel
theorem dX5_keptBy_15 : decode cX5_keptBy 15 = .ok (.iconst 0, 1) := by decide +kernel
theorem dX5_keptBy_16 : decode cX5_keptBy 16 = .ok (.putfield 80, 3) := by decide +kernel
theorem dX5_keptBy_19 : decode cX5_keptBy 19 = .ok (.iconst 0, 1) := by decide +kernel
theorem dX5_keptBy_20 : decode cX5_keptBy 20 = .ok (.istore_n 2, 1) := by decide +kernel
theorem dX5_keptBy_21 : decode cX5_keptBy 21 = .ok (.iconst 0, 1) := by decide +kernel
theorem dX5_keptBy_22 : decode cX5_keptBy 22 = .ok (.istore_n 3, 1) := by decide +kernel
theorem dX5_keptBy_23 : decode cX5_keptBy 23 = .ok (.iload_n 3, 1) := by decide +kernel
theorem dX5_keptBy_24 : decode cX5_keptBy 24 = .ok (.aload_n 0, 1) := by decide +kernel
theorem dX5_keptBy_25 : decode cX5_keptBy 25 = .ok (.getfield 91, 3) := by decide +kernel
theorem dX5_keptBy_28 : decode cX5_keptBy 28 = .ok (.if_icmp .ge 35, 3) := by decide +kernel
theorem dX5_keptBy_31 : decode cX5_keptBy 31 = .ok (.iload_n 2, 1) := by decide +kernel
theorem dX5_keptBy_32 : decode cX5_keptBy 32 = .ok (.aload_n 0, 1) := by decide +kernel
theorem dX5_keptBy_33 : decode cX5_keptBy 33 = .ok (.getfield 19, 3) := by decide +kernel
theorem dX5_keptBy_36 : decode cX5_keptBy 36 = .ok (.iload_n 3, 1) := by decide +kernel
theorem dX5_keptBy_37 : decode cX5_keptBy 37 = .ok (.baload, 1) := by decide +kernel
theorem dX5_keptBy_38 : decode cX5_keptBy 38 = .ok (.ifCond .ne 16, 3) := by decide +kernel
theorem dX5_keptBy_41 : decode cX5_keptBy 41 = .ok (.aload_n 0, 1) := by decide +kernel
theorem dX5_keptBy_42 : decode cX5_keptBy 42 = .ok (.iload_n 3, 1) := by decide +kernel
theorem dX5_keptBy_43 : decode cX5_keptBy 43 = .ok (.invokevirtual 160, 3) := by decide +kernel
theorem dX5_keptBy_46 : decode cX5_keptBy 46 = .ok (.iload_n 1, 1) := by decide +kernel
theorem dX5_keptBy_47 : decode cX5_keptBy 47 = .ok (.if_icmp .ne 7, 3) := by decide +kernel
theorem dX5_keptBy_50 : decode cX5_keptBy 50 = .ok (.iconst 1, 1) := by decide +kernel
theorem dX5_keptBy_51 : decode cX5_keptBy 51 = .ok (.goto 4, 3) := by decide +kernel
theorem dX5_keptBy_54 : decode cX5_keptBy 54 = .ok (.iconst 0, 1) := by decide +kernel
theorem dX5_keptBy_55 : decode cX5_keptBy 55 = .ok (.iadd, 1) := by decide +kernel
theorem dX5_keptBy_56 : decode cX5_keptBy 56 = .ok (.istore_n 2, 1) := by decide +kernel
theorem dX5_keptBy_57 : decode cX5_keptBy 57 = .ok (.iinc 3 1, 3) := by decide +kernel
theorem dX5_keptBy_60 : decode cX5_keptBy 60 = .ok (.goto (-37), 3) := by decide +kernel
theorem dX5_keptBy_63 : decode cX5_keptBy 63 = .ok (.iload_n 2, 1) := by decide +kernel
theorem dX5_keptBy_64 : decode cX5_keptBy 64 = .ok (.ireturn, 1) := by decide +kernel
theorem dX5_addLien_0 : decode cX5_addLien 0 = .ok (.aload_n 0, 1) := by decide +kernel
theorem dX5_addLien_1 : decode cX5_addLien 1 = .ok (.iload_n 1, 1) := by decide +kernel
theorem dX5_addLien_2 : decode cX5_addLien 2 = .ok (.invokevirtual 147, 3) := by decide +kernel
theorem dX5_addLien_5 : decode cX5_addLien 5 = .ok (.ifCond .ne 9, 3) := by decide +kernel
theorem dX5_addLien_8 : decode cX5_addLien 8 = .ok (.aload_n 0, 1) := by decide +kernel
theorem dX5_addLien_9 : decode cX5_addLien 9 = .ok (.iconst 1, 1) := by decide +kernel
theorem dX5_addLien_10 : decode cX5_addLien 10 = .ok (.invokevirtual 116, 3) := by decide +kernel
theorem dX5_addLien_13 : decode cX5_addLien 13 = .ok (.ireturn, 1) := by decide +kernel
theorem dX5_addLien_14 : decode cX5_addLien 14 = .ok (.iload_n 2, 1) := by decide +kernel
theorem dX5_addLien_15 : decode cX5_addLien 15 = .ok (.bipush 97, 2) := by decide +kernel
theorem dX5_addLien_17 : decode cX5_addLien 17 = .ok (.bipush 102, 2) := by decide +kernel
theorem dX5_addLien_19 : decode cX5_addLien 19 = .ok (.invokestatic 87, 3) := by decide +kernel
theorem dX5_addLien_22 : decode cX5_addLien 22 = .ok (.ifCond .eq 14, 3) := by decide +kernel
theorem dX5_addLien_25 : decode cX5_addLien 25 = .ok (.iload_n 3, 1) := by decide +kernel
theorem dX5_addLien_26 : decode cX5_addLien 26 = .ok (.iconst 1, 1) := by decide +kernel
theorem dX5_addLien_27 : decode cX5_addLien 27 = .ok (.sipush 9999, 3) := by decide +kernel
theorem dX5_addLien_30 : decode cX5_addLien 30 = .ok (.invokestatic 87, 3) := by decide +kernel
theorem dX5_addLien_33 : decode cX5_addLien 33 = .ok (.ifCond .ne 9, 3) := by decide +kernel
theorem dX5_addLien_36 : decode cX5_addLien 36 = .ok (.aload_n 0, 1) := by decide +kernel
theorem dX5_addLien_37 : decode cX5_addLien 37 = .ok (.iconst 2, 1) := by decide +kernel
theorem dX5_addLien_38 : decode cX5_addLien 38 = .ok (.invokevirtual 116, 3) := by decide +kernel
theorem dX5_addLien_41 : decode cX5_addLien 41 = .ok (.ireturn, 1) := by decide +kernel
theorem dX5_addLien_42 : decode cX5_addLien 42 = .ok (.aload_n 0, 1) := by decide +kernel
theorem dX5_addLien_43 : decode cX5_addLien 43 = .ok (.getfield 19, 3) := by decide +kernel
theorem dX5_addLien_46 : decode cX5_addLien 46 = .ok (.iload_n 1, 1) := by decide +kernel
theorem dX5_addLien_47 : decode cX5_addLien 47 = .ok (.baload, 1) := by decide +kernel
theorem dX5_addLien_48 : decode cX5_addLien 48 = .ok (.ifCond .eq 9, 3) := by decide +kernel
theorem dX5_addLien_51 : decode cX5_addLien 51 = .ok (.aload_n 0, 1) := by decide +kernel
theorem dX5_addLien_52 : decode cX5_addLien 52 = .ok (.iconst 3, 1) := by decide +kernel
theorem dX5_addLien_53 : decode cX5_addLien 53 = .ok (.invokevirtual 116, 3) := by decide +kernel
theorem dX5_addLien_56 : decode cX5_addLien 56 = .ok (.ireturn, 1) := by decide +kernel
theorem dX5_addLien_57 : decode cX5_addLien 57 = .ok (.aload_n 0, 1) := by decide +kernel
theorem dX5_addLien_58 : decode cX5_addLien 58 = .ok (.iconst 0, 1) := by decide +kernel
theorem dX5_addLien_59 : decode cX5_addLien 59 = .ok (.putfield 80, 3) := by decide +kernel
theorem dX5_addLien_62 : decode cX5_addLien 62 = .ok (.aload_n 0, 1) := by decide +kernel
theorem dX5_addLien_63 : decode cX5_addLien 63 = .ok (.getfield 16, 3) := by decide +kernel
theorem dX5_addLien_66 : decode cX5_addLien 66 = .ok (.bipush 6, 2) := by decide +kernel
theorem dX5_addLien_68 : decode cX5_addLien 68 = .ok (.iload_n 1, 1) := by decide +kernel
theorem dX5_addLien_69 : decode cX5_addLien 69 = .ok (.imul, 1) := by decide +kernel
theorem dX5_addLien_70 : decode cX5_addLien 70 = .ok (.iload_n 2, 1) := by decide +kernel
theorem dX5_addLien_71 : decode cX5_addLien 71 = .ok (.iadd, 1) := by decide +kernel
theorem dX5_addLien_72 : decode cX5_addLien 72 = .ok (.bipush 97, 2) := by decide +kernel
theorem dX5_addLien_74 : decode cX5_addLien 74 = .ok (.isub, 1) := by decide +kernel
theorem dX5_addLien_75 : decode cX5_addLien 75 = .ok (.dup2, 1) := by decide +kernel
theorem dX5_addLien_76 : decode cX5_addLien 76 = .ok (.iaload, 1) := by decide +kernel
theorem dX5_addLien_77 : decode cX5_addLien 77 = .ok (.iload_n 3, 1) := by decide +kernel
theorem dX5_addLien_78 : decode cX5_addLien 78 = .ok (.iadd, 1) := by decide +kernel
theorem dX5_addLien_79 : decode cX5_addLien 79 = .ok (.iastore, 1) := by decide +kernel
theorem dX5_addLien_80 : decode cX5_addLien 80 = .ok (.aload_n 0, 1) := by decide +kernel
theorem dX5_addLien_81 : decode cX5_addLien 81 = .ok (.getfield 16, 3) := by decide +kernel
theorem dX5_addLien_84 : decode cX5_addLien 84 = .ok (.bipush 6, 2) := by decide +kernel
theorem dX5_addLien_86 : decode cX5_addLien 86 = .ok (.iload_n 1, 1) := by decide +kernel
theorem dX5_addLien_87 : decode cX5_addLien 87 = .ok (.imul, 1) := by decide +kernel
theorem dX5_addLien_88 : decode cX5_addLien 88 = .ok (.iload_n 2, 1) := by decide +kernel
theorem dX5_addLien_89 : decode cX5_addLien 89 = .ok (.iadd, 1) := by decide +kernel
theorem dX5_addLien_90 : decode cX5_addLien 90 = .ok (.bipush 97, 2) := by decide +kernel
theorem dX5_addLien_92 : decode cX5_addLien 92 = .ok (.isub, 1) := by decide +kernel
theorem dX5_addLien_93 : decode cX5_addLien 93 = .ok (.iaload, 1) := by decide +kernel
theorem dX5_addLien_94 : decode cX5_addLien 94 = .ok (.ireturn, 1) := by decide +kernel
theorem dX5_place_0 : decode cX5_place 0 = .ok (.iload_n 2, 1) := by decide +kernel
theorem dX5_place_1 : decode cX5_place 1 = .ok (.bipush 97, 2) := by decide +kernel
theorem dX5_place_3 : decode cX5_place 3 = .ok (.bipush 102, 2) := by decide +kernel
theorem dX5_place_5 : decode cX5_place 5 = .ok (.invokestatic 87, 3) := by decide +kernel
theorem dX5_place_8 : decode cX5_place 8 = .ok (.ifCond .ne 5, 3) := by decide +kernel
theorem dX5_place_11 : decode cX5_place 11 = .ok (.iconst (-1), 1) := by decide +kernel
theorem dX5_place_12 : decode cX5_place 12 = .ok (.ireturn, 1) := by decide +kernel
theorem dX5_place_13 : decode cX5_place 13 = .ok (.bipush 6, 2) := by decide +kernel
theorem dX5_place_15 : decode cX5_place 15 = .ok (.iload_n 1, 1) := by decide +kernel
theorem dX5_place_16 : decode cX5_place 16 = .ok (.imul, 1) := by decide +kernel
theorem dX5_place_17 : decode cX5_place 17 = .ok (.iload_n 2, 1) := by decide +kernel
theorem dX5_place_18 : decode cX5_place 18 = .ok (.iadd, 1) := by decide +kernel
theorem dX5_place_19 : decode cX5_place 19 = .ok (.bipush 97, 2) := by decide +kernel
theorem dX5_place_21 : decode cX5_place 21 = .ok (.isub, 1) := by decide +kernel
theorem dX5_place_22 : decode cX5_place 22 = .ok (.istore_n 3, 1) := by decide +kernel
theorem dX5_place_23 : decode cX5_place 23 = .ok (.aload_n 0, 1) := by decide +kernel
theorem dX5_place_24 : decode cX5_place 24 = .ok (.getfield 16, 3) := by decide +kernel
theorem dX5_place_27 : decode cX5_place 27 = .ok (.iload_n 3, 1) := by decide +kernel
theorem dX5_place_28 : decode cX5_place 28 = .ok (.iaload, 1) := by decide +kernel
theorem dX5_place_29 : decode cX5_place 29 = .ok (.ifCond .le 7, 3) := by decide +kernel
theorem dX5_place_32 : decode cX5_place 32 = .ok (.iload_n 3, 1) := by decide +kernel
theorem dX5_place_33 : decode cX5_place 33 = .ok (.goto 4, 3) := by decide +kernel
theorem dX5_place_36 : decode cX5_place 36 = .ok (.iconst (-1), 1) := by decide +kernel
theorem dX5_place_37 : decode cX5_place 37 = .ok (.ireturn, 1) := by decide +kernel
theorem dX5_payLien_0 : decode cX5_payLien 0 = .ok (.aload_n 0, 1) := by decide +kernel
theorem dX5_payLien_1 : decode cX5_payLien 1 = .ok (.iload_n 1, 1) := by decide +kernel
theorem dX5_payLien_2 : decode cX5_payLien 2 = .ok (.invokevirtual 147, 3) := by decide +kernel
theorem dX5_payLien_5 : decode cX5_payLien 5 = .ok (.ifCond .ne 9, 3) := by decide +kernel
theorem dX5_payLien_8 : decode cX5_payLien 8 = .ok (.aload_n 0, 1) := by decide +kernel
theorem dX5_payLien_9 : decode cX5_payLien 9 = .ok (.iconst 1, 1) := by decide +kernel
theorem dX5_payLien_10 : decode cX5_payLien 10 = .ok (.invokevirtual 116, 3) := by decide +kernel
theorem dX5_payLien_13 : decode cX5_payLien 13 = .ok (.ireturn, 1) := by decide +kernel
theorem dX5_payLien_14 : decode cX5_payLien 14 = .ok (.aload_n 0, 1) := by decide +kernel
theorem dX5_payLien_15 : decode cX5_payLien 15 = .ok (.iload_n 1, 1) := by decide +kernel
theorem dX5_payLien_16 : decode cX5_payLien 16 = .ok (.iload_n 2, 1) := by decide +kernel
theorem dX5_payLien_17 : decode cX5_payLien 17 = .ok (.invokevirtual 198, 3) := by decide +kernel
theorem dX5_payLien_20 : decode cX5_payLien 20 = .ok (.istore 4, 2) := by decide +kernel
theorem dX5_payLien_22 : decode cX5_payLien 22 = .ok (.iload 4, 2) := by decide +kernel
theorem dX5_payLien_24 : decode cX5_payLien 24 = .ok (.iconst (-1), 1) := by decide +kernel
theorem dX5_payLien_25 : decode cX5_payLien 25 = .ok (.if_icmp .ne 9, 3) := by decide +kernel
theorem dX5_payLien_28 : decode cX5_payLien 28 = .ok (.aload_n 0, 1) := by decide +kernel
theorem dX5_payLien_29 : decode cX5_payLien 29 = .ok (.iconst 2, 1) := by decide +kernel
theorem dX5_payLien_30 : decode cX5_payLien 30 = .ok (.invokevirtual 116, 3) := by decide +kernel
theorem dX5_payLien_33 : decode cX5_payLien 33 = .ok (.ireturn, 1) := by decide +kernel
theorem dX5_payLien_34 : decode cX5_payLien 34 = .ok (.iload_n 3, 1) := by decide +kernel
theorem dX5_payLien_35 : decode cX5_payLien 35 = .ok (.iconst 1, 1) := by decide +kernel
theorem dX5_payLien_36 : decode cX5_payLien 36 = .ok (.aload_n 0, 1) := by decide +kernel
theorem dX5_payLien_37 : decode cX5_payLien 37 = .ok (.getfield 16, 3) := by decide +kernel
theorem dX5_payLien_40 : decode cX5_payLien 40 = .ok (.iload 4, 2) := by decide +kernel
theorem dX5_payLien_42 : decode cX5_payLien 42 = .ok (.iaload, 1) := by decide +kernel
theorem dX5_payLien_43 : decode cX5_payLien 43 = .ok (.invokestatic 87, 3) := by decide +kernel
theorem dX5_payLien_46 : decode cX5_payLien 46 = .ok (.ifCond .ne 9, 3) := by decide +kernel
theorem dX5_payLien_49 : decode cX5_payLien 49 = .ok (.aload_n 0, 1) := by decide +kernel
theorem dX5_payLien_50 : decode cX5_payLien 50 = .ok (.iconst 3, 1) := by decide +kernel
theorem dX5_payLien_51 : decode cX5_payLien 51 = .ok (.invokevirtual 116, 3) := by decide +kernel
theorem dX5_payLien_54 : decode cX5_payLien 54 = .ok (.ireturn, 1) := by decide +kernel
theorem dX5_payLien_55 : decode cX5_payLien 55 = .ok (.aload_n 0, 1) := by decide +kernel
theorem dX5_payLien_56 : decode cX5_payLien 56 = .ok (.iconst 0, 1) := by decide +kernel
theorem dX5_payLien_57 : decode cX5_payLien 57 = .ok (.putfield 80, 3) := by decide +kernel
theorem dX5_payLien_60 : decode cX5_payLien 60 = .ok (.aload_n 0, 1) := by decide +kernel
theorem dX5_payLien_61 : decode cX5_payLien 61 = .ok (.getfield 16, 3) := by decide +kernel
theorem dX5_payLien_64 : decode cX5_payLien 64 = .ok (.iload 4, 2) := by decide +kernel
theorem dX5_payLien_66 : decode cX5_payLien 66 = .ok (.dup2, 1) := by decide +kernel
theorem dX5_payLien_67 : decode cX5_payLien 67 = .ok (.iaload, 1) := by decide +kernel
theorem dX5_payLien_68 : decode cX5_payLien 68 = .ok (.iload_n 3, 1) := by decide +kernel
theorem dX5_payLien_69 : decode cX5_payLien 69 = .ok (.isub, 1) := by decide +kernel
theorem dX5_payLien_70 : decode cX5_payLien 70 = .ok (.iastore, 1) := by decide +kernel
theorem dX5_payLien_71 : decode cX5_payLien 71 = .ok (.aload_n 0, 1) := by decide +kernel
theorem dX5_payLien_72 : decode cX5_payLien 72 = .ok (.getfield 16, 3) := by decide +kernel
theorem dX5_payLien_75 : decode cX5_payLien 75 = .ok (.iload 4, 2) := by decide +kernel
theorem dX5_payLien_77 : decode cX5_payLien 77 = .ok (.iaload, 1) := by decide +kernel
theorem dX5_payLien_78 : decode cX5_payLien 78 = .ok (.ifCond .ne 8, 3) := by decide +kernel
theorem dX5_payLien_81 : decode cX5_payLien 81 = .ok (.aload_n 0, 1) := by decide +kernel
theorem dX5_payLien_82 : decode cX5_payLien 82 = .ok (.iload_n 1, 1) := by decide +kernel
theorem dX5_payLien_83 : decode cX5_payLien 83 = .ok (.invokevirtual 175, 3) := by decide +kernel
theorem dX5_payLien_86 : decode cX5_payLien 86 = .ok (.aload_n 0, 1) := by decide +kernel
theorem dX5_payLien_87 : decode cX5_payLien 87 = .ok (.getfield 16, 3) := by decide +kernel
theorem dX5_payLien_90 : decode cX5_payLien 90 = .ok (.iload 4, 2) := by decide +kernel
theorem dX5_payLien_92 : decode cX5_payLien 92 = .ok (.iaload, 1) := by decide +kernel
theorem dX5_payLien_93 : decode cX5_payLien 93 = .ok (.ireturn, 1) := by decide +kernel
theorem dX5_lienOf_0 : decode cX5_lienOf 0 = .ok (.aload_n 0, 1) := by decide +kernel
theorem dX5_lienOf_1 : decode cX5_lienOf 1 = .ok (.iload_n 1, 1) := by decide +kernel
theorem dX5_lienOf_2 : decode cX5_lienOf 2 = .ok (.invokevirtual 147, 3) := by decide +kernel
theorem dX5_lienOf_5 : decode cX5_lienOf 5 = .ok (.ifCond .ne 9, 3) := by decide +kernel
theorem dX5_lienOf_8 : decode cX5_lienOf 8 = .ok (.aload_n 0, 1) := by decide +kernel
theorem dX5_lienOf_9 : decode cX5_lienOf 9 = .ok (.iconst 1, 1) := by decide +kernel
theorem dX5_lienOf_10 : decode cX5_lienOf 10 = .ok (.invokevirtual 116, 3) := by decide +kernel
theorem dX5_lienOf_13 : decode cX5_lienOf 13 = .ok (.ireturn, 1) := by decide +kernel
theorem dX5_lienOf_14 : decode cX5_lienOf 14 = .ok (.aload_n 0, 1) := by decide +kernel
theorem dX5_lienOf_15 : decode cX5_lienOf 15 = .ok (.iload_n 1, 1) := by decide +kernel
theorem dX5_lienOf_16 : decode cX5_lienOf 16 = .ok (.iload_n 2, 1) := by decide +kernel
theorem dX5_lienOf_17 : decode cX5_lienOf 17 = .ok (.invokevirtual 198, 3) := by decide +kernel
theorem dX5_lienOf_20 : decode cX5_lienOf 20 = .ok (.istore_n 3, 1) := by decide +kernel
theorem dX5_lienOf_21 : decode cX5_lienOf 21 = .ok (.aload_n 0, 1) := by decide +kernel
theorem dX5_lienOf_22 : decode cX5_lienOf 22 = .ok (.iload_n 3, 1) := by decide +kernel
theorem dX5_lienOf_23 : decode cX5_lienOf 23 = .ok (.iconst (-1), 1) := by decide +kernel
theorem dX5_lienOf_24 : decode cX5_lienOf 24 = .ok (.if_icmp .ne 7, 3) := by decide +kernel
theorem dX5_lienOf_27 : decode cX5_lienOf 27 = .ok (.iconst 2, 1) := by decide +kernel
theorem dX5_lienOf_28 : decode cX5_lienOf 28 = .ok (.goto 4, 3) := by decide +kernel
theorem dX5_lienOf_31 : decode cX5_lienOf 31 = .ok (.iconst 0, 1) := by decide +kernel
theorem dX5_lienOf_32 : decode cX5_lienOf 32 = .ok (.putfield 80, 3) := by decide +kernel
theorem dX5_lienOf_35 : decode cX5_lienOf 35 = .ok (.iload_n 3, 1) := by decide +kernel
theorem dX5_lienOf_36 : decode cX5_lienOf 36 = .ok (.iconst (-1), 1) := by decide +kernel
theorem dX5_lienOf_37 : decode cX5_lienOf 37 = .ok (.if_icmp .ne 7, 3) := by decide +kernel
theorem dX5_lienOf_40 : decode cX5_lienOf 40 = .ok (.iconst 0, 1) := by decide +kernel
theorem dX5_lienOf_41 : decode cX5_lienOf 41 = .ok (.goto 9, 3) := by decide +kernel
theorem dX5_lienOf_44 : decode cX5_lienOf 44 = .ok (.aload_n 0, 1) := by decide +kernel
theorem dX5_lienOf_45 : decode cX5_lienOf 45 = .ok (.getfield 16, 3) := by decide +kernel
theorem dX5_lienOf_48 : decode cX5_lienOf 48 = .ok (.iload_n 3, 1) := by decide +kernel
theorem dX5_lienOf_49 : decode cX5_lienOf 49 = .ok (.iaload, 1) := by decide +kernel
theorem dX5_lienOf_50 : decode cX5_lienOf 50 = .ok (.ireturn, 1) := by decide +kernel
theorem dX5_isBlocked_0 : decode cX5_isBlocked 0 = .ok (.aload_n 0, 1) := by decide +kernel
theorem dX5_isBlocked_1 : decode cX5_isBlocked 1 = .ok (.iload_n 1, 1) := by decide +kernel
theorem dX5_isBlocked_2 : decode cX5_isBlocked 2 = .ok (.invokevirtual 189, 3) := by decide +kernel
theorem dX5_isBlocked_5 : decode cX5_isBlocked 5 = .ok (.ifCond .eq 15, 3) := by decide +kernel
theorem dX5_isBlocked_8 : decode cX5_isBlocked 8 = .ok (.aload_n 0, 1) := by decide +kernel
theorem dX5_isBlocked_9 : decode cX5_isBlocked 9 = .ok (.iload_n 1, 1) := by decide +kernel
theorem dX5_isBlocked_10 : decode cX5_isBlocked 10 = .ok (.invokevirtual 157, 3) := by decide +kernel
theorem dX5_isBlocked_13 : decode cX5_isBlocked 13 = .ok (.ifCond .eq 7, 3) := by decide +kernel
theorem dX5_isBlocked_16 : decode cX5_isBlocked 16 = .ok (.iconst 1, 1) := by decide +kernel
theorem dX5_isBlocked_17 : decode cX5_isBlocked 17 = .ok (.goto 4, 3) := by decide +kernel
theorem dX5_isBlocked_20 : decode cX5_isBlocked 20 = .ok (.iconst 0, 1) := by decide +kernel
theorem dX5_isBlocked_21 : decode cX5_isBlocked 21 = .ok (.ireturn, 1) := by decide +kernel
theorem dX5_kept_0 : decode cX5_kept 0 = .ok (.aload_n 0, 1) := by decide +kernel
theorem dX5_kept_1 : decode cX5_kept 1 = .ok (.getfield 77, 3) := by decide +kernel
theorem dX5_kept_4 : decode cX5_kept 4 = .ok (.iload_n 1, 1) := by decide +kernel
theorem dX5_kept_5 : decode cX5_kept 5 = .ok (.baload, 1) := by decide +kernel
theorem dX5_kept_6 : decode cX5_kept 6 = .ok (.ifCond .eq 24, 3) := by decide +kernel
theorem dX5_kept_9 : decode cX5_kept 9 = .ok (.aload_n 0, 1) := by decide +kernel
theorem dX5_kept_10 : decode cX5_kept 10 = .ok (.getfield 97, 3) := by decide +kernel
theorem dX5_kept_13 : decode cX5_kept 13 = .ok (.aload_n 0, 1) := by decide +kernel
theorem dX5_kept_14 : decode cX5_kept 14 = .ok (.getfield 74, 3) := by decide +kernel
theorem dX5_kept_17 : decode cX5_kept 17 = .ok (.iload_n 1, 1) := by decide +kernel
theorem dX5_kept_18 : decode cX5_kept 18 = .ok (.iaload, 1) := by decide +kernel
theorem dX5_kept_19 : decode cX5_kept 19 = .ok (.sipush 361, 3) := by decide +kernel
theorem dX5_kept_22 : decode cX5_kept 22 = .ok (.iadd, 1) := by decide +kernel
theorem dX5_kept_23 : decode cX5_kept 23 = .ok (.if_icmp .ge 7, 3) := by decide +kernel
theorem dX5_kept_26 : decode cX5_kept 26 = .ok (.iconst 1, 1) := by decide +kernel
theorem dX5_kept_27 : decode cX5_kept 27 = .ok (.goto 4, 3) := by decide +kernel
theorem dX5_kept_30 : decode cX5_kept 30 = .ok (.iconst 0, 1) := by decide +kernel
theorem dX5_kept_31 : decode cX5_kept 31 = .ok (.ireturn, 1) := by decide +kernel
theorem dX5_keepPlate_0 : decode cX5_keepPlate 0 = .ok (.aload_n 0, 1) := by decide +kernel
theorem dX5_keepPlate_1 : decode cX5_keepPlate 1 = .ok (.iload_n 1, 1) := by decide +kernel
theorem dX5_keepPlate_2 : decode cX5_keepPlate 2 = .ok (.invokevirtual 147, 3) := by decide +kernel
theorem dX5_keepPlate_5 : decode cX5_keepPlate 5 = .ok (.ifCond .ne 9, 3) := by decide +kernel
theorem dX5_keepPlate_8 : decode cX5_keepPlate 8 = .ok (.aload_n 0, 1) := by decide +kernel
theorem dX5_keepPlate_9 : decode cX5_keepPlate 9 = .ok (.iconst 1, 1) := by decide +kernel
theorem dX5_keepPlate_10 : decode cX5_keepPlate 10 = .ok (.invokevirtual 116, 3) := by decide +kernel
theorem dX5_keepPlate_13 : decode cX5_keepPlate 13 = .ok (.ireturn, 1) := by decide +kernel
theorem dX5_keepPlate_14 : decode cX5_keepPlate 14 = .ok (.aload_n 0, 1) := by decide +kernel
theorem dX5_keepPlate_15 : decode cX5_keepPlate 15 = .ok (.iload_n 1, 1) := by decide +kernel
theorem dX5_keepPlate_16 : decode cX5_keepPlate 16 = .ok (.aload_n 0, 1) := by decide +kernel
theorem dX5_keepPlate_17 : decode cX5_keepPlate 17 = .ok (.getfield 97, 3) := by decide +kernel
theorem dX5_keepPlate_20 : decode cX5_keepPlate 20 = .ok (.invokevirtual 106, 3) := by decide +kernel
theorem dX5_keepPlate_23 : decode cX5_keepPlate 23 = .ok (.istore_n 2, 1) := by decide +kernel
theorem dX5_keepPlate_24 : decode cX5_keepPlate 24 = .ok (.iload_n 2, 1) := by decide +kernel
theorem dX5_keepPlate_25 : decode cX5_keepPlate 25 = .ok (.iconst (-1), 1) := by decide +kernel
theorem dX5_keepPlate_26 : decode cX5_keepPlate 26 = .ok (.if_icmp .ne 9, 3) := by decide +kernel
theorem dX5_keepPlate_29 : decode cX5_keepPlate 29 = .ok (.aload_n 0, 1) := by decide +kernel
theorem dX5_keepPlate_30 : decode cX5_keepPlate 30 = .ok (.iconst 2, 1) := by decide +kernel
theorem dX5_keepPlate_31 : decode cX5_keepPlate 31 = .ok (.invokevirtual 116, 3) := by decide +kernel
theorem dX5_keepPlate_34 : decode cX5_keepPlate 34 = .ok (.ireturn, 1) := by decide +kernel
theorem dX5_keepPlate_35 : decode cX5_keepPlate 35 = .ok (.aload_n 0, 1) := by decide +kernel
theorem dX5_keepPlate_36 : decode cX5_keepPlate 36 = .ok (.iload_n 1, 1) := by decide +kernel
theorem dX5_keepPlate_37 : decode cX5_keepPlate 37 = .ok (.invokevirtual 157, 3) := by decide +kernel
theorem dX5_keepPlate_40 : decode cX5_keepPlate 40 = .ok (.ifCond .ne 12, 3) := by decide +kernel
theorem dX5_keepPlate_43 : decode cX5_keepPlate 43 = .ok (.aload_n 0, 1) := by decide +kernel
theorem dX5_keepPlate_44 : decode cX5_keepPlate 44 = .ok (.getfield 94, 3) := by decide +kernel
theorem dX5_keepPlate_47 : decode cX5_keepPlate 47 = .ok (.bipush 40, 2) := by decide +kernel
theorem dX5_keepPlate_49 : decode cX5_keepPlate 49 = .ok (.if_icmp .ne 9, 3) := by decide +kernel
theorem dX5_keepPlate_52 : decode cX5_keepPlate 52 = .ok (.aload_n 0, 1) := by decide +kernel
theorem dX5_keepPlate_53 : decode cX5_keepPlate 53 = .ok (.iconst 3, 1) := by decide +kernel
theorem dX5_keepPlate_54 : decode cX5_keepPlate 54 = .ok (.invokevirtual 116, 3) := by decide +kernel
theorem dX5_keepPlate_57 : decode cX5_keepPlate 57 = .ok (.ireturn, 1) := by decide +kernel
theorem dX5_keepPlate_58 : decode cX5_keepPlate 58 = .ok (.aload_n 0, 1) := by decide +kernel
theorem dX5_keepPlate_59 : decode cX5_keepPlate 59 = .ok (.iconst 0, 1) := by decide +kernel
theorem dX5_keepPlate_60 : decode cX5_keepPlate 60 = .ok (.putfield 80, 3) := by decide +kernel
theorem dX5_keepPlate_63 : decode cX5_keepPlate 63 = .ok (.aload_n 0, 1) := by decide +kernel
theorem dX5_keepPlate_64 : decode cX5_keepPlate 64 = .ok (.getfield 77, 3) := by decide +kernel
theorem dX5_keepPlate_67 : decode cX5_keepPlate 67 = .ok (.iload_n 2, 1) := by decide +kernel
theorem dX5_keepPlate_68 : decode cX5_keepPlate 68 = .ok (.iconst 1, 1) := by decide +kernel
theorem dX5_keepPlate_69 : decode cX5_keepPlate 69 = .ok (.bastore, 1) := by decide +kernel
theorem dX5_keepPlate_70 : decode cX5_keepPlate 70 = .ok (.aload_n 0, 1) := by decide +kernel
theorem dX5_keepPlate_71 : decode cX5_keepPlate 71 = .ok (.getfield 71, 3) := by decide +kernel
theorem dX5_keepPlate_74 : decode cX5_keepPlate 74 = .ok (.iload_n 2, 1) := by decide +kernel
theorem dX5_keepPlate_75 : decode cX5_keepPlate 75 = .ok (.aload_n 0, 1) := by decide +kernel
theorem dX5_keepPlate_76 : decode cX5_keepPlate 76 = .ok (.iload_n 1, 1) := by decide +kernel
theorem dX5_keepPlate_77 : decode cX5_keepPlate 77 = .ok (.invokevirtual 160, 3) := by decide +kernel
theorem dX5_keepPlate_80 : decode cX5_keepPlate 80 = .ok (.iastore, 1) := by decide +kernel
theorem dX5_keepPlate_81 : decode cX5_keepPlate 81 = .ok (.aload_n 0, 1) := by decide +kernel
theorem dX5_keepPlate_82 : decode cX5_keepPlate 82 = .ok (.getfield 74, 3) := by decide +kernel
theorem dX5_keepPlate_85 : decode cX5_keepPlate 85 = .ok (.iload_n 2, 1) := by decide +kernel
theorem dX5_keepPlate_86 : decode cX5_keepPlate 86 = .ok (.aload_n 0, 1) := by decide +kernel
theorem dX5_keepPlate_87 : decode cX5_keepPlate 87 = .ok (.getfield 97, 3) := by decide +kernel
theorem dX5_keepPlate_90 : decode cX5_keepPlate 90 = .ok (.iastore, 1) := by decide +kernel
theorem dX5_keepPlate_91 : decode cX5_keepPlate 91 = .ok (.aload_n 0, 1) := by decide +kernel
theorem dX5_keepPlate_92 : decode cX5_keepPlate 92 = .ok (.iload_n 1, 1) := by decide +kernel
theorem dX5_keepPlate_93 : decode cX5_keepPlate 93 = .ok (.invokevirtual 136, 3) := by decide +kernel
theorem dX5_keepPlate_96 : decode cX5_keepPlate 96 = .ok (.ireturn, 1) := by decide +kernel
theorem dX5_putOn_0 : decode cX5_putOn 0 = .ok (.aload_n 0, 1) := by decide +kernel
theorem dX5_putOn_1 : decode cX5_putOn 1 = .ok (.iload_n 1, 1) := by decide +kernel
theorem dX5_putOn_2 : decode cX5_putOn 2 = .ok (.invokevirtual 202, 3) := by decide +kernel
theorem dX5_putOn_5 : decode cX5_putOn 5 = .ok (.ifCond .ne 9, 3) := by decide +kernel
theorem dX5_putOn_8 : decode cX5_putOn 8 = .ok (.aload_n 0, 1) := by decide +kernel
theorem dX5_putOn_9 : decode cX5_putOn 9 = .ok (.iconst 1, 1) := by decide +kernel
theorem dX5_putOn_10 : decode cX5_putOn 10 = .ok (.invokevirtual 116, 3) := by decide +kernel
theorem dX5_putOn_13 : decode cX5_putOn 13 = .ok (.ireturn, 1) := by decide +kernel
theorem dX5_putOn_14 : decode cX5_putOn 14 = .ok (.aload_n 0, 1) := by decide +kernel
theorem dX5_putOn_15 : decode cX5_putOn 15 = .ok (.iload_n 2, 1) := by decide +kernel
theorem dX5_putOn_16 : decode cX5_putOn 16 = .ok (.invokevirtual 147, 3) := by decide +kernel
theorem dX5_putOn_19 : decode cX5_putOn 19 = .ok (.ifCond .ne 9, 3) := by decide +kernel
theorem dX5_putOn_22 : decode cX5_putOn 22 = .ok (.aload_n 0, 1) := by decide +kernel
theorem dX5_putOn_23 : decode cX5_putOn 23 = .ok (.iconst 2, 1) := by decide +kernel
theorem dX5_putOn_24 : decode cX5_putOn 24 = .ok (.invokevirtual 116, 3) := by decide +kernel
theorem dX5_putOn_27 : decode cX5_putOn 27 = .ok (.ireturn, 1) := by decide +kernel
theorem dX5_putOn_28 : decode cX5_putOn 28 = .ok (.aload_n 0, 1) := by decide +kernel
theorem dX5_putOn_29 : decode cX5_putOn 29 = .ok (.iload_n 1, 1) := by decide +kernel
theorem dX5_putOn_30 : decode cX5_putOn 30 = .ok (.invokevirtual 205, 3) := by decide +kernel
theorem dX5_putOn_33 : decode cX5_putOn 33 = .ok (.ifCond .eq 17, 3) := by decide +kernel
theorem dX5_putOn_36 : decode cX5_putOn 36 = .ok (.aload_n 0, 1) := by decide +kernel
theorem dX5_putOn_37 : decode cX5_putOn 37 = .ok (.getfield 71, 3) := by decide +kernel
theorem dX5_putOn_40 : decode cX5_putOn 40 = .ok (.iload_n 1, 1) := by decide +kernel
theorem dX5_putOn_41 : decode cX5_putOn 41 = .ok (.iaload, 1) := by decide +kernel
theorem dX5_putOn_42 : decode cX5_putOn 42 = .ok (.aload_n 0, 1) := by decide +kernel
theorem dX5_putOn_43 : decode cX5_putOn 43 = .ok (.iload_n 2, 1) := by decide +kernel
theorem dX5_putOn_44 : decode cX5_putOn 44 = .ok (.invokevirtual 160, 3) := by decide +kernel
theorem dX5_putOn_47 : decode cX5_putOn 47 = .ok (.if_icmp .eq 9, 3) := by decide +kernel
theorem dX5_putOn_50 : decode cX5_putOn 50 = .ok (.aload_n 0, 1) := by decide +kernel
theorem dX5_putOn_51 : decode cX5_putOn 51 = .ok (.iconst 3, 1) := by decide +kernel
theorem dX5_putOn_52 : decode cX5_putOn 52 = .ok (.invokevirtual 116, 3) := by decide +kernel
theorem dX5_putOn_55 : decode cX5_putOn 55 = .ok (.ireturn, 1) := by decide +kernel
theorem dX5_putOn_56 : decode cX5_putOn 56 = .ok (.aload_n 0, 1) := by decide +kernel
theorem dX5_putOn_57 : decode cX5_putOn 57 = .ok (.iload_n 2, 1) := by decide +kernel
theorem dX5_putOn_58 : decode cX5_putOn 58 = .ok (.aload_n 0, 1) := by decide +kernel
theorem dX5_putOn_59 : decode cX5_putOn 59 = .ok (.getfield 97, 3) := by decide +kernel
theorem dX5_putOn_62 : decode cX5_putOn 62 = .ok (.invokevirtual 106, 3) := by decide +kernel
theorem dX5_putOn_65 : decode cX5_putOn 65 = .ok (.istore_n 3, 1) := by decide +kernel
theorem dX5_putOn_66 : decode cX5_putOn 66 = .ok (.aload_n 0, 1) := by decide +kernel
theorem dX5_putOn_67 : decode cX5_putOn 67 = .ok (.iload_n 2, 1) := by decide +kernel
theorem dX5_putOn_68 : decode cX5_putOn 68 = .ok (.invokevirtual 157, 3) := by decide +kernel
theorem dX5_putOn_71 : decode cX5_putOn 71 = .ok (.ifCond .ne 8, 3) := by decide +kernel
theorem dX5_putOn_74 : decode cX5_putOn 74 = .ok (.iload_n 3, 1) := by decide +kernel
theorem dX5_putOn_75 : decode cX5_putOn 75 = .ok (.iconst (-1), 1) := by decide +kernel
theorem dX5_putOn_76 : decode cX5_putOn 76 = .ok (.if_icmp .ne 9, 3) := by decide +kernel
theorem dX5_putOn_79 : decode cX5_putOn 79 = .ok (.aload_n 0, 1) := by decide +kernel
theorem dX5_putOn_80 : decode cX5_putOn 80 = .ok (.iconst 4, 1) := by decide +kernel
theorem dX5_putOn_81 : decode cX5_putOn 81 = .ok (.invokevirtual 116, 3) := by decide +kernel
theorem dX5_putOn_84 : decode cX5_putOn 84 = .ok (.ireturn, 1) := by decide +kernel
theorem dX5_putOn_85 : decode cX5_putOn 85 = .ok (.aload_n 0, 1) := by decide +kernel
theorem dX5_putOn_86 : decode cX5_putOn 86 = .ok (.iconst 0, 1) := by decide +kernel
theorem dX5_putOn_87 : decode cX5_putOn 87 = .ok (.putfield 80, 3) := by decide +kernel
theorem dX5_putOn_90 : decode cX5_putOn 90 = .ok (.aload_n 0, 1) := by decide +kernel
theorem dX5_putOn_91 : decode cX5_putOn 91 = .ok (.getfield 77, 3) := by decide +kernel
theorem dX5_putOn_94 : decode cX5_putOn 94 = .ok (.iload_n 1, 1) := by decide +kernel
theorem dX5_putOn_95 : decode cX5_putOn 95 = .ok (.iconst 0, 1) := by decide +kernel
theorem dX5_putOn_96 : decode cX5_putOn 96 = .ok (.bastore, 1) := by decide +kernel
theorem dX5_putOn_97 : decode cX5_putOn 97 = .ok (.aload_n 0, 1) := by decide +kernel
theorem dX5_putOn_98 : decode cX5_putOn 98 = .ok (.iload_n 2, 1) := by decide +kernel
theorem dX5_putOn_99 : decode cX5_putOn 99 = .ok (.iload_n 1, 1) := by decide +kernel
theorem dX5_putOn_100 : decode cX5_putOn 100 = .ok (.invokevirtual 120, 3) := by decide +kernel
theorem dX5_putOn_103 : decode cX5_putOn 103 = .ok (.iload_n 3, 1) := by decide +kernel
theorem dX5_putOn_104 : decode cX5_putOn 104 = .ok (.ireturn, 1) := by decide +kernel
theorem dX5_swapPlates_0 : decode cX5_swapPlates 0 = .ok (.aload_n 0, 1) := by decide +kernel
theorem dX5_swapPlates_1 : decode cX5_swapPlates 1 = .ok (.iload_n 1, 1) := by decide +kernel
theorem dX5_swapPlates_2 : decode cX5_swapPlates 2 = .ok (.invokevirtual 147, 3) := by decide +kernel
theorem dX5_swapPlates_5 : decode cX5_swapPlates 5 = .ok (.ifCond .eq 11, 3) := by decide +kernel
theorem dX5_swapPlates_8 : decode cX5_swapPlates 8 = .ok (.aload_n 0, 1) := by decide +kernel
theorem dX5_swapPlates_9 : decode cX5_swapPlates 9 = .ok (.iload_n 2, 1) := by decide +kernel
theorem dX5_swapPlates_10 : decode cX5_swapPlates 10 = .ok (.invokevirtual 147, 3) := by decide +kernel
theorem dX5_swapPlates_13 : decode cX5_swapPlates 13 = .ok (.ifCond .ne 9, 3) := by decide +kernel
theorem dX5_swapPlates_16 : decode cX5_swapPlates 16 = .ok (.aload_n 0, 1) := by decide +kernel
theorem dX5_swapPlates_17 : decode cX5_swapPlates 17 = .ok (.iconst 1, 1) := by decide +kernel
theorem dX5_swapPlates_18 : decode cX5_swapPlates 18 = .ok (.invokevirtual 116, 3) := by decide +kernel
theorem dX5_swapPlates_21 : decode cX5_swapPlates 21 = .ok (.ireturn, 1) := by decide +kernel
theorem dX5_swapPlates_22 : decode cX5_swapPlates 22 = .ok (.iload_n 1, 1) := by decide +kernel
theorem dX5_swapPlates_23 : decode cX5_swapPlates 23 = .ok (.iload_n 2, 1) := by decide +kernel
theorem dX5_swapPlates_24 : decode cX5_swapPlates 24 = .ok (.if_icmp .eq 16, 3) := by decide +kernel
theorem dX5_swapPlates_27 : decode cX5_swapPlates 27 = .ok (.aload_n 0, 1) := by decide +kernel
theorem dX5_swapPlates_28 : decode cX5_swapPlates 28 = .ok (.iload_n 1, 1) := by decide +kernel
theorem dX5_swapPlates_29 : decode cX5_swapPlates 29 = .ok (.invokevirtual 160, 3) := by decide +kernel
theorem dX5_swapPlates_32 : decode cX5_swapPlates 32 = .ok (.aload_n 0, 1) := by decide +kernel
theorem dX5_swapPlates_33 : decode cX5_swapPlates 33 = .ok (.iload_n 2, 1) := by decide +kernel
theorem dX5_swapPlates_34 : decode cX5_swapPlates 34 = .ok (.invokevirtual 160, 3) := by decide +kernel
theorem dX5_swapPlates_37 : decode cX5_swapPlates 37 = .ok (.if_icmp .eq 9, 3) := by decide +kernel
theorem dX5_swapPlates_40 : decode cX5_swapPlates 40 = .ok (.aload_n 0, 1) := by decide +kernel
theorem dX5_swapPlates_41 : decode cX5_swapPlates 41 = .ok (.iconst 2, 1) := by decide +kernel
theorem dX5_swapPlates_42 : decode cX5_swapPlates 42 = .ok (.invokevirtual 116, 3) := by decide +kernel
theorem dX5_swapPlates_45 : decode cX5_swapPlates 45 = .ok (.ireturn, 1) := by decide +kernel
theorem dX5_swapPlates_46 : decode cX5_swapPlates 46 = .ok (.aload_n 0, 1) := by decide +kernel
theorem dX5_swapPlates_47 : decode cX5_swapPlates 47 = .ok (.iload_n 1, 1) := by decide +kernel
theorem dX5_swapPlates_48 : decode cX5_swapPlates 48 = .ok (.aload_n 0, 1) := by decide +kernel
theorem dX5_swapPlates_49 : decode cX5_swapPlates 49 = .ok (.getfield 97, 3) := by decide +kernel
theorem dX5_swapPlates_52 : decode cX5_swapPlates 52 = .ok (.invokevirtual 106, 3) := by decide +kernel
theorem dX5_swapPlates_55 : decode cX5_swapPlates 55 = .ok (.istore_n 3, 1) := by decide +kernel
theorem dX5_swapPlates_56 : decode cX5_swapPlates 56 = .ok (.aload_n 0, 1) := by decide +kernel
theorem dX5_swapPlates_57 : decode cX5_swapPlates 57 = .ok (.iload_n 2, 1) := by decide +kernel
theorem dX5_swapPlates_58 : decode cX5_swapPlates 58 = .ok (.aload_n 0, 1) := by decide +kernel
theorem dX5_swapPlates_59 : decode cX5_swapPlates 59 = .ok (.getfield 97, 3) := by decide +kernel
theorem dX5_swapPlates_62 : decode cX5_swapPlates 62 = .ok (.invokevirtual 106, 3) := by decide +kernel
theorem dX5_swapPlates_65 : decode cX5_swapPlates 65 = .ok (.istore 4, 2) := by decide +kernel
theorem dX5_swapPlates_67 : decode cX5_swapPlates 67 = .ok (.aload_n 0, 1) := by decide +kernel
theorem dX5_swapPlates_68 : decode cX5_swapPlates 68 = .ok (.iload_n 1, 1) := by decide +kernel
theorem dX5_swapPlates_69 : decode cX5_swapPlates 69 = .ok (.invokevirtual 157, 3) := by decide +kernel
theorem dX5_swapPlates_72 : decode cX5_swapPlates 72 = .ok (.ifCond .ne 22, 3) := by decide +kernel
theorem dX5_swapPlates_75 : decode cX5_swapPlates 75 = .ok (.aload_n 0, 1) := by decide +kernel
theorem dX5_swapPlates_76 : decode cX5_swapPlates 76 = .ok (.iload_n 2, 1) := by decide +kernel
theorem dX5_swapPlates_77 : decode cX5_swapPlates 77 = .ok (.invokevirtual 157, 3) := by decide +kernel
theorem dX5_swapPlates_80 : decode cX5_swapPlates 80 = .ok (.ifCond .ne 14, 3) := by decide +kernel
theorem dX5_swapPlates_83 : decode cX5_swapPlates 83 = .ok (.iload_n 3, 1) := by decide +kernel
theorem dX5_swapPlates_84 : decode cX5_swapPlates 84 = .ok (.iconst (-1), 1) := by decide +kernel
theorem dX5_swapPlates_85 : decode cX5_swapPlates 85 = .ok (.if_icmp .eq 9, 3) := by decide +kernel
theorem dX5_swapPlates_88 : decode cX5_swapPlates 88 = .ok (.iload 4, 2) := by decide +kernel
theorem dX5_swapPlates_90 : decode cX5_swapPlates 90 = .ok (.iconst (-1), 1) := by decide +kernel
theorem dX5_swapPlates_91 : decode cX5_swapPlates 91 = .ok (.if_icmp .ne 9, 3) := by decide +kernel
theorem dX5_swapPlates_94 : decode cX5_swapPlates 94 = .ok (.aload_n 0, 1) := by decide +kernel
theorem dX5_swapPlates_95 : decode cX5_swapPlates 95 = .ok (.iconst 3, 1) := by decide +kernel
theorem dX5_swapPlates_96 : decode cX5_swapPlates 96 = .ok (.invokevirtual 116, 3) := by decide +kernel
theorem dX5_swapPlates_99 : decode cX5_swapPlates 99 = .ok (.ireturn, 1) := by decide +kernel
theorem dX5_swapPlates_100 : decode cX5_swapPlates 100 = .ok (.aload_n 0, 1) := by decide +kernel
theorem dX5_swapPlates_101 : decode cX5_swapPlates 101 = .ok (.iconst 0, 1) := by decide +kernel
theorem dX5_swapPlates_102 : decode cX5_swapPlates 102 = .ok (.putfield 80, 3) := by decide +kernel
theorem dX5_swapPlates_105 : decode cX5_swapPlates 105 = .ok (.aload_n 0, 1) := by decide +kernel
theorem dX5_swapPlates_106 : decode cX5_swapPlates 106 = .ok (.iload_n 1, 1) := by decide +kernel
theorem dX5_swapPlates_107 : decode cX5_swapPlates 107 = .ok (.iload 4, 2) := by decide +kernel
theorem dX5_swapPlates_109 : decode cX5_swapPlates 109 = .ok (.invokevirtual 120, 3) := by decide +kernel
theorem dX5_swapPlates_112 : decode cX5_swapPlates 112 = .ok (.aload_n 0, 1) := by decide +kernel
theorem dX5_swapPlates_113 : decode cX5_swapPlates 113 = .ok (.iload_n 2, 1) := by decide +kernel
theorem dX5_swapPlates_114 : decode cX5_swapPlates 114 = .ok (.iload_n 3, 1) := by decide +kernel
theorem dX5_swapPlates_115 : decode cX5_swapPlates 115 = .ok (.invokevirtual 120, 3) := by decide +kernel
theorem dX5_swapPlates_118 : decode cX5_swapPlates 118 = .ok (.iload 4, 2) := by decide +kernel
theorem dX5_swapPlates_120 : decode cX5_swapPlates 120 = .ok (.ireturn, 1) := by decide +kernel
theorem dX5_isIssued_0 : decode cX5_isIssued 0 = .ok (.aload_n 0, 1) := by decide +kernel
theorem dX5_isIssued_1 : decode cX5_isIssued 1 = .ok (.aload_n 0, 1) := by decide +kernel
theorem dX5_isIssued_2 : decode cX5_isIssued 2 = .ok (.iload_n 1, 1) := by decide +kernel
theorem dX5_isIssued_3 : decode cX5_isIssued 3 = .ok (.invokevirtual 202, 3) := by decide +kernel
theorem dX5_isIssued_6 : decode cX5_isIssued 6 = .ok (.ifCond .eq 7, 3) := by decide +kernel
theorem dX5_isIssued_9 : decode cX5_isIssued 9 = .ok (.iconst 0, 1) := by decide +kernel
theorem dX5_isIssued_10 : decode cX5_isIssued 10 = .ok (.goto 4, 3) := by decide +kernel
theorem dX5_isIssued_13 : decode cX5_isIssued 13 = .ok (.iconst 1, 1) := by decide +kernel
theorem dX5_isIssued_14 : decode cX5_isIssued 14 = .ok (.putfield 80, 3) := by decide +kernel
theorem dX5_isIssued_17 : decode cX5_isIssued 17 = .ok (.aload_n 0, 1) := by decide +kernel
theorem dX5_isIssued_18 : decode cX5_isIssued 18 = .ok (.getfield 80, 3) := by decide +kernel
theorem dX5_isIssued_21 : decode cX5_isIssued 21 = .ok (.ifCond .ne 7, 3) := by decide +kernel
theorem dX5_isIssued_24 : decode cX5_isIssued 24 = .ok (.iconst 1, 1) := by decide +kernel
theorem dX5_isIssued_25 : decode cX5_isIssued 25 = .ok (.goto 4, 3) := by decide +kernel
theorem dX5_isIssued_28 : decode cX5_isIssued 28 = .ok (.iconst 0, 1) := by decide +kernel
theorem dX5_isIssued_29 : decode cX5_isIssued 29 = .ok (.ireturn, 1) := by decide +kernel
theorem dX5_plateState_0 : decode cX5_plateState 0 = .ok (.aload_n 0, 1) := by decide +kernel
theorem dX5_plateState_1 : decode cX5_plateState 1 = .ok (.iload_n 1, 1) := by decide +kernel
theorem dX5_plateState_2 : decode cX5_plateState 2 = .ok (.invokevirtual 208, 3) := by decide +kernel
theorem dX5_plateState_5 : decode cX5_plateState 5 = .ok (.ifCond .ne 5, 3) := by decide +kernel
theorem dX5_plateState_8 : decode cX5_plateState 8 = .ok (.iconst 0, 1) := by decide +kernel
theorem dX5_plateState_9 : decode cX5_plateState 9 = .ok (.ireturn, 1) := by decide +kernel
theorem dX5_plateState_10 : decode cX5_plateState 10 = .ok (.aload_n 0, 1) := by decide +kernel
theorem dX5_plateState_11 : decode cX5_plateState 11 = .ok (.iload_n 1, 1) := by decide +kernel
theorem dX5_plateState_12 : decode cX5_plateState 12 = .ok (.aload_n 0, 1) := by decide +kernel
theorem dX5_plateState_13 : decode cX5_plateState 13 = .ok (.getfield 97, 3) := by decide +kernel
theorem dX5_plateState_16 : decode cX5_plateState 16 = .ok (.invokevirtual 211, 3) := by decide +kernel
theorem dX5_plateState_19 : decode cX5_plateState 19 = .ok (.iconst (-1), 1) := by decide +kernel
theorem dX5_plateState_20 : decode cX5_plateState 20 = .ok (.if_icmp .eq 8, 3) := by decide +kernel
theorem dX5_plateState_23 : decode cX5_plateState 23 = .ok (.bipush 118, 2) := by decide +kernel
theorem dX5_plateState_25 : decode cX5_plateState 25 = .ok (.goto 18, 3) := by decide +kernel
theorem dX5_plateState_28 : decode cX5_plateState 28 = .ok (.aload_n 0, 1) := by decide +kernel
theorem dX5_plateState_29 : decode cX5_plateState 29 = .ok (.iload_n 1, 1) := by decide +kernel
theorem dX5_plateState_30 : decode cX5_plateState 30 = .ok (.invokevirtual 205, 3) := by decide +kernel
theorem dX5_plateState_33 : decode cX5_plateState 33 = .ok (.ifCond .eq 8, 3) := by decide +kernel
theorem dX5_plateState_36 : decode cX5_plateState 36 = .ok (.bipush 107, 2) := by decide +kernel
theorem dX5_plateState_38 : decode cX5_plateState 38 = .ok (.goto 5, 3) := by decide +kernel
theorem dX5_plateState_41 : decode cX5_plateState 41 = .ok (.bipush 120, 2) := by decide +kernel
theorem dX5_plateState_43 : decode cX5_plateState 43 = .ok (.ireturn, 1) := by decide +kernel
theorem dX5_daysKept_0 : decode cX5_daysKept 0 = .ok (.aload_n 0, 1) := by decide +kernel
theorem dX5_daysKept_1 : decode cX5_daysKept 1 = .ok (.iload_n 1, 1) := by decide +kernel
theorem dX5_daysKept_2 : decode cX5_daysKept 2 = .ok (.invokevirtual 208, 3) := by decide +kernel
theorem dX5_daysKept_5 : decode cX5_daysKept 5 = .ok (.ifCond .ne 5, 3) := by decide +kernel
theorem dX5_daysKept_8 : decode cX5_daysKept 8 = .ok (.iconst 0, 1) := by decide +kernel
theorem dX5_daysKept_9 : decode cX5_daysKept 9 = .ok (.ireturn, 1) := by decide +kernel
theorem dX5_daysKept_10 : decode cX5_daysKept 10 = .ok (.aload_n 0, 1) := by decide +kernel
theorem dX5_daysKept_11 : decode cX5_daysKept 11 = .ok (.iload_n 1, 1) := by decide +kernel
theorem dX5_daysKept_12 : decode cX5_daysKept 12 = .ok (.invokevirtual 205, 3) := by decide +kernel
theorem dX5_daysKept_15 : decode cX5_daysKept 15 = .ok (.ifCond .eq 21, 3) := by decide +kernel
theorem dX5_daysKept_18 : decode cX5_daysKept 18 = .ok (.aload_n 0, 1) := by decide +kernel
theorem dX5_daysKept_19 : decode cX5_daysKept 19 = .ok (.getfield 74, 3) := by decide +kernel
theorem dX5_daysKept_22 : decode cX5_daysKept 22 = .ok (.iload_n 1, 1) := by decide +kernel
theorem dX5_daysKept_23 : decode cX5_daysKept 23 = .ok (.iaload, 1) := by decide +kernel
theorem dX5_daysKept_24 : decode cX5_daysKept 24 = .ok (.sipush 361, 3) := by decide +kernel
theorem dX5_daysKept_27 : decode cX5_daysKept 27 = .ok (.iadd, 1) := by decide +kernel
theorem dX5_daysKept_28 : decode cX5_daysKept 28 = .ok (.aload_n 0, 1) := by decide +kernel
theorem dX5_daysKept_29 : decode cX5_daysKept 29 = .ok (.getfield 97, 3) := by decide +kernel
theorem dX5_daysKept_32 : decode cX5_daysKept 32 = .ok (.isub, 1) := by decide +kernel
theorem dX5_daysKept_33 : decode cX5_daysKept 33 = .ok (.goto 8, 3) := by decide +kernel
theorem dX5_daysKept_36 : decode cX5_daysKept 36 = .ok (.aload_n 0, 1) := by decide +kernel
theorem dX5_daysKept_37 : decode cX5_daysKept 37 = .ok (.iconst 2, 1) := by decide +kernel
theorem dX5_daysKept_38 : decode cX5_daysKept 38 = .ok (.invokevirtual 116, 3) := by decide +kernel
theorem dX5_daysKept_41 : decode cX5_daysKept 41 = .ok (.ireturn, 1) := by decide +kernel
theorem dX5_plates_0 : decode cX5_plates 0 = .ok (.aload_n 0, 1) := by decide +kernel
theorem dX5_plates_1 : decode cX5_plates 1 = .ok (.iconst 0, 1) := by decide +kernel
theorem dX5_plates_2 : decode cX5_plates 2 = .ok (.putfield 80, 3) := by decide +kernel
theorem dX5_plates_5 : decode cX5_plates 5 = .ok (.aload_n 0, 1) := by decide +kernel
theorem dX5_plates_6 : decode cX5_plates 6 = .ok (.getfield 94, 3) := by decide +kernel
theorem dX5_plates_9 : decode cX5_plates 9 = .ok (.ireturn, 1) := by decide +kernel
theorem dX5_plateOn_0 : decode cX5_plateOn 0 = .ok (.aload_n 0, 1) := by decide +kernel
theorem dX5_plateOn_1 : decode cX5_plateOn 1 = .ok (.iload_n 1, 1) := by decide +kernel
theorem dX5_plateOn_2 : decode cX5_plateOn 2 = .ok (.invokevirtual 147, 3) := by decide +kernel
theorem dX5_plateOn_5 : decode cX5_plateOn 5 = .ok (.ifCond .ne 9, 3) := by decide +kernel
theorem dX5_plateOn_8 : decode cX5_plateOn 8 = .ok (.aload_n 0, 1) := by decide +kernel
theorem dX5_plateOn_9 : decode cX5_plateOn 9 = .ok (.iconst 1, 1) := by decide +kernel
theorem dX5_plateOn_10 : decode cX5_plateOn 10 = .ok (.invokevirtual 116, 3) := by decide +kernel
theorem dX5_plateOn_13 : decode cX5_plateOn 13 = .ok (.ireturn, 1) := by decide +kernel
theorem dX5_plateOn_14 : decode cX5_plateOn 14 = .ok (.aload_n 0, 1) := by decide +kernel
theorem dX5_plateOn_15 : decode cX5_plateOn 15 = .ok (.iload_n 2, 1) := by decide +kernel
theorem dX5_plateOn_16 : decode cX5_plateOn 16 = .ok (.invokevirtual 154, 3) := by decide +kernel
theorem dX5_plateOn_19 : decode cX5_plateOn 19 = .ok (.ifCond .ne 9, 3) := by decide +kernel
theorem dX5_plateOn_22 : decode cX5_plateOn 22 = .ok (.aload_n 0, 1) := by decide +kernel
theorem dX5_plateOn_23 : decode cX5_plateOn 23 = .ok (.iconst 2, 1) := by decide +kernel
theorem dX5_plateOn_24 : decode cX5_plateOn 24 = .ok (.invokevirtual 116, 3) := by decide +kernel
theorem dX5_plateOn_27 : decode cX5_plateOn 27 = .ok (.ireturn, 1) := by decide +kernel
theorem dX5_plateOn_28 : decode cX5_plateOn 28 = .ok (.aload_n 0, 1) := by decide +kernel
theorem dX5_plateOn_29 : decode cX5_plateOn 29 = .ok (.iload_n 1, 1) := by decide +kernel
theorem dX5_plateOn_30 : decode cX5_plateOn 30 = .ok (.iload_n 2, 1) := by decide +kernel
theorem dX5_plateOn_31 : decode cX5_plateOn 31 = .ok (.invokevirtual 106, 3) := by decide +kernel
theorem dX5_plateOn_34 : decode cX5_plateOn 34 = .ok (.istore_n 3, 1) := by decide +kernel
theorem dX5_plateOn_35 : decode cX5_plateOn 35 = .ok (.aload_n 0, 1) := by decide +kernel
theorem dX5_plateOn_36 : decode cX5_plateOn 36 = .ok (.iload_n 3, 1) := by decide +kernel
theorem dX5_plateOn_37 : decode cX5_plateOn 37 = .ok (.iconst (-1), 1) := by decide +kernel
theorem dX5_plateOn_38 : decode cX5_plateOn 38 = .ok (.if_icmp .ne 7, 3) := by decide +kernel
theorem dX5_plateOn_41 : decode cX5_plateOn 41 = .ok (.iconst 3, 1) := by decide +kernel
theorem dX5_plateOn_42 : decode cX5_plateOn 42 = .ok (.goto 4, 3) := by decide +kernel
theorem dX5_plateOn_45 : decode cX5_plateOn 45 = .ok (.iconst 0, 1) := by decide +kernel
theorem dX5_plateOn_46 : decode cX5_plateOn 46 = .ok (.putfield 80, 3) := by decide +kernel
theorem dX5_plateOn_49 : decode cX5_plateOn 49 = .ok (.iload_n 3, 1) := by decide +kernel
theorem dX5_plateOn_50 : decode cX5_plateOn 50 = .ok (.iconst (-1), 1) := by decide +kernel
theorem dX5_plateOn_51 : decode cX5_plateOn 51 = .ok (.if_icmp .ne 7, 3) := by decide +kernel
theorem dX5_plateOn_54 : decode cX5_plateOn 54 = .ok (.iconst 0, 1) := by decide +kernel
theorem dX5_plateOn_55 : decode cX5_plateOn 55 = .ok (.goto 4, 3) := by decide +kernel
theorem dX5_plateOn_58 : decode cX5_plateOn 58 = .ok (.iload_n 3, 1) := by decide +kernel
theorem dX5_plateOn_59 : decode cX5_plateOn 59 = .ok (.ireturn, 1) := by decide +kernel
theorem dX5_vehicleWith_0 : decode cX5_vehicleWith 0 = .ok (.aload_n 0, 1) := by decide +kernel
theorem dX5_vehicleWith_1 : decode cX5_vehicleWith 1 = .ok (.iload_n 1, 1) := by decide +kernel
theorem dX5_vehicleWith_2 : decode cX5_vehicleWith 2 = .ok (.invokevirtual 202, 3) := by decide +kernel
theorem dX5_vehicleWith_5 : decode cX5_vehicleWith 5 = .ok (.ifCond .ne 9, 3) := by decide +kernel
theorem dX5_vehicleWith_8 : decode cX5_vehicleWith 8 = .ok (.aload_n 0, 1) := by decide +kernel
theorem dX5_vehicleWith_9 : decode cX5_vehicleWith 9 = .ok (.iconst 1, 1) := by decide +kernel
theorem dX5_vehicleWith_10 : decode cX5_vehicleWith 10 = .ok (.invokevirtual 116, 3) := by decide +kernel
theorem dX5_vehicleWith_13 : decode cX5_vehicleWith 13 = .ok (.ireturn, 1) := by decide +kernel
theorem dX5_vehicleWith_14 : decode cX5_vehicleWith 14 = .ok (.aload_n 0, 1) := by decide +kernel
theorem dX5_vehicleWith_15 : decode cX5_vehicleWith 15 = .ok (.iload_n 2, 1) := by decide +kernel
theorem dX5_vehicleWith_16 : decode cX5_vehicleWith 16 = .ok (.invokevirtual 154, 3) := by decide +kernel
theorem dX5_vehicleWith_19 : decode cX5_vehicleWith 19 = .ok (.ifCond .ne 9, 3) := by decide +kernel
theorem dX5_vehicleWith_22 : decode cX5_vehicleWith 22 = .ok (.aload_n 0, 1) := by decide +kernel
theorem dX5_vehicleWith_23 : decode cX5_vehicleWith 23 = .ok (.iconst 2, 1) := by decide +kernel
theorem dX5_vehicleWith_24 : decode cX5_vehicleWith 24 = .ok (.invokevirtual 116, 3) := by decide +kernel
theorem dX5_vehicleWith_27 : decode cX5_vehicleWith 27 = .ok (.ireturn, 1) := by decide +kernel
theorem dX5_vehicleWith_28 : decode cX5_vehicleWith 28 = .ok (.aload_n 0, 1) := by decide +kernel
theorem dX5_vehicleWith_29 : decode cX5_vehicleWith 29 = .ok (.iload_n 1, 1) := by decide +kernel
theorem dX5_vehicleWith_30 : decode cX5_vehicleWith 30 = .ok (.iload_n 2, 1) := by decide +kernel
theorem dX5_vehicleWith_31 : decode cX5_vehicleWith 31 = .ok (.invokevirtual 211, 3) := by decide +kernel
theorem dX5_vehicleWith_34 : decode cX5_vehicleWith 34 = .ok (.istore_n 3, 1) := by decide +kernel
theorem dX5_vehicleWith_35 : decode cX5_vehicleWith 35 = .ok (.aload_n 0, 1) := by decide +kernel
theorem dX5_vehicleWith_36 : decode cX5_vehicleWith 36 = .ok (.iload_n 3, 1) := by decide +kernel
theorem dX5_vehicleWith_37 : decode cX5_vehicleWith 37 = .ok (.iconst (-1), 1) := by decide +kernel
theorem dX5_vehicleWith_38 : decode cX5_vehicleWith 38 = .ok (.if_icmp .ne 7, 3) := by decide +kernel
theorem dX5_vehicleWith_41 : decode cX5_vehicleWith 41 = .ok (.iconst 3, 1) := by decide +kernel
theorem dX5_vehicleWith_42 : decode cX5_vehicleWith 42 = .ok (.goto 4, 3) := by decide +kernel
theorem dX5_vehicleWith_45 : decode cX5_vehicleWith 45 = .ok (.iconst 0, 1) := by decide +kernel
theorem dX5_vehicleWith_46 : decode cX5_vehicleWith 46 = .ok (.putfield 80, 3) := by decide +kernel
theorem dX5_vehicleWith_49 : decode cX5_vehicleWith 49 = .ok (.iload_n 3, 1) := by decide +kernel
theorem dX5_vehicleWith_50 : decode cX5_vehicleWith 50 = .ok (.iconst (-1), 1) := by decide +kernel
theorem dX5_vehicleWith_51 : decode cX5_vehicleWith 51 = .ok (.if_icmp .ne 7, 3) := by decide +kernel
theorem dX5_vehicleWith_54 : decode cX5_vehicleWith 54 = .ok (.iconst 0, 1) := by decide +kernel
theorem dX5_vehicleWith_55 : decode cX5_vehicleWith 55 = .ok (.goto 4, 3) := by decide +kernel
theorem dX5_vehicleWith_58 : decode cX5_vehicleWith 58 = .ok (.iload_n 3, 1) := by decide +kernel
theorem dX5_vehicleWith_59 : decode cX5_vehicleWith 59 = .ok (.ireturn, 1) := by decide +kernel
theorem dX5_vehicleByVehicles_0 : decode cX5_vehicleByVehicles 0 = .ok (.aload_n 0, 1) := by decide +kernel
theorem dX5_vehicleByVehicles_1 : decode cX5_vehicleByVehicles 1 = .ok (.iload_n 1, 1) := by decide +kernel
theorem dX5_vehicleByVehicles_2 : decode cX5_vehicleByVehicles 2 = .ok (.iload_n 2, 1) := by decide +kernel
theorem dX5_vehicleByVehicles_3 : decode cX5_vehicleByVehicles 3 = .ok (.invokevirtual 214, 3) := by decide +kernel
theorem dX5_vehicleByVehicles_6 : decode cX5_vehicleByVehicles 6 = .ok (.ireturn, 1) := by decide +kernel
theorem dX5_first_0 : decode cX5_first 0 = .ok (.bipush 90, 2) := by decide +kernel
theorem dX5_first_2 : decode cX5_first 2 = .ok (.iload_n 2, 1) := by decide +kernel
theorem dX5_first_3 : decode cX5_first 3 = .ok (.imul, 1) := by decide +kernel
theorem dX5_first_4 : decode cX5_first 4 = .ok (.istore_n 3, 1) := by decide +kernel
theorem dX5_first_5 : decode cX5_first 5 = .ok (.iload_n 3, 1) := by decide +kernel
theorem dX5_first_6 : decode cX5_first 6 = .ok (.bipush 90, 2) := by decide +kernel
theorem dX5_first_8 : decode cX5_first 8 = .ok (.iadd, 1) := by decide +kernel
theorem dX5_first_9 : decode cX5_first 9 = .ok (.iconst 1, 1) := by decide +kernel
theorem dX5_first_10 : decode cX5_first 10 = .ok (.isub, 1) := by decide +kernel
theorem dX5_first_11 : decode cX5_first 11 = .ok (.aload_n 0, 1) := by decide +kernel
theorem dX5_first_12 : decode cX5_first 12 = .ok (.getfield 97, 3) := by decide +kernel
theorem dX5_first_15 : decode cX5_first 15 = .ok (.if_icmp .ge 12, 3) := by decide +kernel
theorem dX5_first_18 : decode cX5_first 18 = .ok (.iload_n 3, 1) := by decide +kernel
theorem dX5_first_19 : decode cX5_first 19 = .ok (.bipush 90, 2) := by decide +kernel
theorem dX5_first_21 : decode cX5_first 21 = .ok (.iadd, 1) := by decide +kernel
theorem dX5_first_22 : decode cX5_first 22 = .ok (.iconst 1, 1) := by decide +kernel
theorem dX5_first_23 : decode cX5_first 23 = .ok (.isub, 1) := by decide +kernel
theorem dX5_first_24 : decode cX5_first 24 = .ok (.goto 7, 3) := by decide +kernel
theorem dX5_first_27 : decode cX5_first 27 = .ok (.aload_n 0, 1) := by decide +kernel
theorem dX5_first_28 : decode cX5_first 28 = .ok (.getfield 97, 3) := by decide +kernel
theorem dX5_first_31 : decode cX5_first 31 = .ok (.istore 4, 2) := by decide +kernel
theorem dX5_first_33 : decode cX5_first 33 = .ok (.iconst 0, 1) := by decide +kernel
theorem dX5_first_34 : decode cX5_first 34 = .ok (.istore 5, 2) := by decide +kernel
theorem dX5_first_36 : decode cX5_first 36 = .ok (.iconst 0, 1) := by decide +kernel
theorem dX5_first_37 : decode cX5_first 37 = .ok (.istore 6, 2) := by decide +kernel
theorem dX5_first_39 : decode cX5_first 39 = .ok (.iload 6, 2) := by decide +kernel
theorem dX5_first_41 : decode cX5_first 41 = .ok (.aload_n 0, 1) := by decide +kernel
theorem dX5_first_42 : decode cX5_first 42 = .ok (.getfield 100, 3) := by decide +kernel
theorem dX5_first_45 : decode cX5_first 45 = .ok (.if_icmp .ge 85, 3) := by decide +kernel
theorem dX5_first_48 : decode cX5_first 48 = .ok (.aload_n 0, 1) := by decide +kernel
theorem dX5_first_49 : decode cX5_first 49 = .ok (.getfield 53, 3) := by decide +kernel
theorem dX5_first_52 : decode cX5_first 52 = .ok (.iload 6, 2) := by decide +kernel
theorem dX5_first_54 : decode cX5_first 54 = .ok (.iaload, 1) := by decide +kernel
theorem dX5_first_55 : decode cX5_first 55 = .ok (.iload_n 1, 1) := by decide +kernel
theorem dX5_first_56 : decode cX5_first 56 = .ok (.if_icmp .eq 6, 3) := by decide +kernel
theorem dX5_first_59 : decode cX5_first 59 = .ok (.goto 65, 3) := by decide +kernel
theorem dX5_first_62 : decode cX5_first 62 = .ok (.aload_n 0, 1) := by decide +kernel
theorem dX5_first_63 : decode cX5_first 63 = .ok (.getfield 56, 3) := by decide +kernel
theorem dX5_first_66 : decode cX5_first 66 = .ok (.iload 6, 2) := by decide +kernel
theorem dX5_first_68 : decode cX5_first 68 = .ok (.iaload, 1) := by decide +kernel
theorem dX5_first_69 : decode cX5_first 69 = .ok (.iload_n 3, 1) := by decide +kernel
theorem dX5_first_70 : decode cX5_first 70 = .ok (.if_icmp .gt 15, 3) := by decide +kernel
theorem dX5_first_73 : decode cX5_first 73 = .ok (.aload_n 0, 1) := by decide +kernel
theorem dX5_first_74 : decode cX5_first 74 = .ok (.getfield 59, 3) := by decide +kernel
theorem dX5_first_77 : decode cX5_first 77 = .ok (.iload 6, 2) := by decide +kernel
theorem dX5_first_79 : decode cX5_first 79 = .ok (.baload, 1) := by decide +kernel
theorem dX5_first_80 : decode cX5_first 80 = .ok (.istore 5, 2) := by decide +kernel
theorem dX5_first_82 : decode cX5_first 82 = .ok (.goto 42, 3) := by decide +kernel
theorem dX5_first_85 : decode cX5_first 85 = .ok (.iload 5, 2) := by decide +kernel
theorem dX5_first_87 : decode cX5_first 87 = .ok (.ifCond .eq 5, 3) := by decide +kernel
theorem dX5_first_90 : decode cX5_first 90 = .ok (.iload_n 3, 1) := by decide +kernel
theorem dX5_first_91 : decode cX5_first 91 = .ok (.ireturn, 1) := by decide +kernel
theorem dX5_first_92 : decode cX5_first 92 = .ok (.aload_n 0, 1) := by decide +kernel
theorem dX5_first_93 : decode cX5_first 93 = .ok (.getfield 56, 3) := by decide +kernel
theorem dX5_first_96 : decode cX5_first 96 = .ok (.iload 6, 2) := by decide +kernel
theorem dX5_first_98 : decode cX5_first 98 = .ok (.iaload, 1) := by decide +kernel
theorem dX5_first_99 : decode cX5_first 99 = .ok (.iload 4, 2) := by decide +kernel
theorem dX5_first_101 : decode cX5_first 101 = .ok (.if_icmp .le 5, 3) := by decide +kernel
theorem dX5_first_104 : decode cX5_first 104 = .ok (.iconst (-1), 1) := by decide +kernel
theorem dX5_first_105 : decode cX5_first 105 = .ok (.ireturn, 1) := by decide +kernel
theorem dX5_first_106 : decode cX5_first 106 = .ok (.aload_n 0, 1) := by decide +kernel
theorem dX5_first_107 : decode cX5_first 107 = .ok (.getfield 59, 3) := by decide +kernel
theorem dX5_first_110 : decode cX5_first 110 = .ok (.iload 6, 2) := by decide +kernel
theorem dX5_first_112 : decode cX5_first 112 = .ok (.baload, 1) := by decide +kernel
theorem dX5_first_113 : decode cX5_first 113 = .ok (.ifCond .eq 11, 3) := by decide +kernel
theorem dX5_first_116 : decode cX5_first 116 = .ok (.aload_n 0, 1) := by decide +kernel
theorem dX5_first_117 : decode cX5_first 117 = .ok (.getfield 56, 3) := by decide +kernel
theorem dX5_first_120 : decode cX5_first 120 = .ok (.iload 6, 2) := by decide +kernel
theorem dX5_first_122 : decode cX5_first 122 = .ok (.iaload, 1) := by decide +kernel
theorem dX5_first_123 : decode cX5_first 123 = .ok (.ireturn, 1) := by decide +kernel
theorem dX5_first_124 : decode cX5_first 124 = .ok (.iinc 6 1, 3) := by decide +kernel
theorem dX5_first_127 : decode cX5_first 127 = .ok (.goto (-88), 3) := by decide +kernel
theorem dX5_first_130 : decode cX5_first 130 = .ok (.iload 5, 2) := by decide +kernel
theorem dX5_first_132 : decode cX5_first 132 = .ok (.ifCond .eq 7, 3) := by decide +kernel
theorem dX5_first_135 : decode cX5_first 135 = .ok (.iload_n 3, 1) := by decide +kernel
theorem dX5_first_136 : decode cX5_first 136 = .ok (.goto 4, 3) := by decide +kernel
theorem dX5_first_139 : decode cX5_first 139 = .ok (.iconst (-1), 1) := by decide +kernel
theorem dX5_first_140 : decode cX5_first 140 = .ok (.ireturn, 1) := by decide +kernel
theorem dX5_due_0 : decode cX5_due 0 = .ok (.aload_n 0, 1) := by decide +kernel
theorem dX5_due_1 : decode cX5_due 1 = .ok (.iload_n 1, 1) := by decide +kernel
theorem dX5_due_2 : decode cX5_due 2 = .ok (.invokevirtual 147, 3) := by decide +kernel
theorem dX5_due_5 : decode cX5_due 5 = .ok (.ifCond .ne 9, 3) := by decide +kernel
theorem dX5_due_8 : decode cX5_due 8 = .ok (.aload_n 0, 1) := by decide +kernel
theorem dX5_due_9 : decode cX5_due 9 = .ok (.iconst 1, 1) := by decide +kernel
theorem dX5_due_10 : decode cX5_due 10 = .ok (.invokevirtual 116, 3) := by decide +kernel
theorem dX5_due_13 : decode cX5_due 13 = .ok (.ireturn, 1) := by decide +kernel
theorem dX5_due_14 : decode cX5_due 14 = .ok (.iload_n 2, 1) := by decide +kernel
theorem dX5_due_15 : decode cX5_due 15 = .ok (.ifCond .lt 14, 3) := by decide +kernel
theorem dX5_due_18 : decode cX5_due 18 = .ok (.iload_n 2, 1) := by decide +kernel
theorem dX5_due_19 : decode cX5_due 19 = .ok (.aload_n 0, 1) := by decide +kernel
theorem dX5_due_20 : decode cX5_due 20 = .ok (.getfield 97, 3) := by decide +kernel
theorem dX5_due_23 : decode cX5_due 23 = .ok (.bipush 90, 2) := by decide +kernel
theorem dX5_due_25 : decode cX5_due 25 = .ok (.idiv, 1) := by decide +kernel
theorem dX5_due_26 : decode cX5_due 26 = .ok (.if_icmp .le 9, 3) := by decide +kernel
theorem dX5_due_29 : decode cX5_due 29 = .ok (.aload_n 0, 1) := by decide +kernel
theorem dX5_due_30 : decode cX5_due 30 = .ok (.iconst 2, 1) := by decide +kernel
theorem dX5_due_31 : decode cX5_due 31 = .ok (.invokevirtual 116, 3) := by decide +kernel
theorem dX5_due_34 : decode cX5_due 34 = .ok (.ireturn, 1) := by decide +kernel
theorem dX5_due_35 : decode cX5_due 35 = .ok (.aload_n 0, 1) := by decide +kernel
theorem dX5_due_36 : decode cX5_due 36 = .ok (.iconst 0, 1) := by decide +kernel
theorem dX5_due_37 : decode cX5_due 37 = .ok (.putfield 80, 3) := by decide +kernel
theorem dX5_due_40 : decode cX5_due 40 = .ok (.aload_n 0, 1) := by decide +kernel
theorem dX5_due_41 : decode cX5_due 41 = .ok (.iload_n 1, 1) := by decide +kernel
theorem dX5_due_42 : decode cX5_due 42 = .ok (.iload_n 2, 1) := by decide +kernel
theorem dX5_due_43 : decode cX5_due 43 = .ok (.invokevirtual 217, 3) := by decide +kernel
theorem dX5_due_46 : decode cX5_due 46 = .ok (.iconst (-1), 1) := by decide +kernel
theorem dX5_due_47 : decode cX5_due 47 = .ok (.if_icmp .ne 7, 3) := by decide +kernel
theorem dX5_due_50 : decode cX5_due 50 = .ok (.iconst 0, 1) := by decide +kernel
theorem dX5_due_51 : decode cX5_due 51 = .ok (.goto 12, 3) := by decide +kernel
theorem dX5_due_54 : decode cX5_due 54 = .ok (.aload_n 0, 1) := by decide +kernel
theorem dX5_due_55 : decode cX5_due 55 = .ok (.getfield 13, 3) := by decide +kernel
theorem dX5_due_58 : decode cX5_due 58 = .ok (.iload_n 1, 1) := by decide +kernel
theorem dX5_due_59 : decode cX5_due 59 = .ok (.iaload, 1) := by decide +kernel
theorem dX5_due_60 : decode cX5_due 60 = .ok (.invokestatic 220, 3) := by decide +kernel
theorem dX5_due_63 : decode cX5_due 63 = .ok (.ireturn, 1) := by decide +kernel
theorem dX5_debt_0 : decode cX5_debt 0 = .ok (.aload_n 0, 1) := by decide +kernel
theorem dX5_debt_1 : decode cX5_debt 1 = .ok (.getfield 7, 3) := by decide +kernel
theorem dX5_debt_4 : decode cX5_debt 4 = .ok (.iload_n 1, 1) := by decide +kernel
theorem dX5_debt_5 : decode cX5_debt 5 = .ok (.iaload, 1) := by decide +kernel
theorem dX5_debt_6 : decode cX5_debt 6 = .ok (.ineg, 1) := by decide +kernel
theorem dX5_debt_7 : decode cX5_debt 7 = .ok (.istore_n 2, 1) := by decide +kernel
theorem dX5_debt_8 : decode cX5_debt 8 = .ok (.iconst 0, 1) := by decide +kernel
theorem dX5_debt_9 : decode cX5_debt 9 = .ok (.istore_n 3, 1) := by decide +kernel
theorem dX5_debt_10 : decode cX5_debt 10 = .ok (.iload_n 3, 1) := by decide +kernel
theorem dX5_debt_11 : decode cX5_debt 11 = .ok (.aload_n 0, 1) := by decide +kernel
theorem dX5_debt_12 : decode cX5_debt 12 = .ok (.getfield 91, 3) := by decide +kernel
theorem dX5_debt_15 : decode cX5_debt 15 = .ok (.if_icmp .ge 68, 3) := by decide +kernel
theorem dX5_debt_18 : decode cX5_debt 18 = .ok (.iconst 0, 1) := by decide +kernel
theorem dX5_debt_19 : decode cX5_debt 19 = .ok (.istore 4, 2) := by decide +kernel
theorem dX5_debt_21 : decode cX5_debt 21 = .ok (.iload 4, 2) := by decide +kernel
theorem dX5_debt_23 : decode cX5_debt 23 = .ok (.aload_n 0, 1) := by decide +kernel
theorem dX5_debt_24 : decode cX5_debt 24 = .ok (.getfield 97, 3) := by decide +kernel
theorem dX5_debt_27 : decode cX5_debt 27 = .ok (.bipush 90, 2) := by decide +kernel
theorem dX5_debt_29 : decode cX5_debt 29 = .ok (.idiv, 1) := by decide +kernel
theorem dX5_debt_30 : decode cX5_debt 30 = .ok (.if_icmp .gt 47, 3) := by decide +kernel
theorem dX5_debt_33 : decode cX5_debt 33 = .ok (.aload_n 0, 1) := by decide +kernel
theorem dX5_debt_34 : decode cX5_debt 34 = .ok (.iload_n 3, 1) := by decide +kernel
theorem dX5_debt_35 : decode cX5_debt 35 = .ok (.iload 4, 2) := by decide +kernel
theorem dX5_debt_37 : decode cX5_debt 37 = .ok (.invokevirtual 217, 3) := by decide +kernel
theorem dX5_debt_40 : decode cX5_debt 40 = .ok (.istore 5, 2) := by decide +kernel
theorem dX5_debt_42 : decode cX5_debt 42 = .ok (.iload 5, 2) := by decide +kernel
theorem dX5_debt_44 : decode cX5_debt 44 = .ok (.iconst (-1), 1) := by decide +kernel
theorem dX5_debt_45 : decode cX5_debt 45 = .ok (.if_icmp .eq 26, 3) := by decide +kernel
theorem dX5_debt_48 : decode cX5_debt 48 = .ok (.aload_n 0, 1) := by decide +kernel
theorem dX5_debt_49 : decode cX5_debt 49 = .ok (.iload_n 3, 1) := by decide +kernel
theorem dX5_debt_50 : decode cX5_debt 50 = .ok (.iload 5, 2) := by decide +kernel
theorem dX5_debt_52 : decode cX5_debt 52 = .ok (.invokevirtual 113, 3) := by decide +kernel
theorem dX5_debt_55 : decode cX5_debt 55 = .ok (.iload_n 1, 1) := by decide +kernel
theorem dX5_debt_56 : decode cX5_debt 56 = .ok (.if_icmp .ne 15, 3) := by decide +kernel
theorem dX5_debt_59 : decode cX5_debt 59 = .ok (.iload_n 2, 1) := by decide +kernel
theorem dX5_debt_60 : decode cX5_debt 60 = .ok (.aload_n 0, 1) := by decide +kernel
theorem dX5_debt_61 : decode cX5_debt 61 = .ok (.getfield 13, 3) := by decide +kernel
theorem dX5_debt_64 : decode cX5_debt 64 = .ok (.iload_n 3, 1) := by decide +kernel
theorem dX5_debt_65 : decode cX5_debt 65 = .ok (.iaload, 1) := by decide +kernel
theorem dX5_debt_66 : decode cX5_debt 66 = .ok (.invokestatic 220, 3) := by decide +kernel
theorem dX5_debt_69 : decode cX5_debt 69 = .ok (.iadd, 1) := by decide +kernel
theorem dX5_debt_70 : decode cX5_debt 70 = .ok (.istore_n 2, 1) := by decide +kernel
theorem dX5_debt_71 : decode cX5_debt 71 = .ok (.iinc 4 1, 3) := by decide +kernel
theorem dX5_debt_74 : decode cX5_debt 74 = .ok (.goto (-53), 3) := by decide +kernel
theorem dX5_debt_77 : decode cX5_debt 77 = .ok (.iinc 3 1, 3) := by decide +kernel
theorem dX5_debt_80 : decode cX5_debt 80 = .ok (.goto (-70), 3) := by decide +kernel
theorem dX5_debt_83 : decode cX5_debt 83 = .ok (.iload_n 2, 1) := by decide +kernel
theorem dX5_debt_84 : decode cX5_debt 84 = .ok (.ireturn, 1) := by decide +kernel
theorem dX5_owes_0 : decode cX5_owes 0 = .ok (.aload_n 0, 1) := by decide +kernel
theorem dX5_owes_1 : decode cX5_owes 1 = .ok (.aload_n 0, 1) := by decide +kernel
theorem dX5_owes_2 : decode cX5_owes 2 = .ok (.iload_n 1, 1) := by decide +kernel
theorem dX5_owes_3 : decode cX5_owes 3 = .ok (.invokevirtual 124, 3) := by decide +kernel
theorem dX5_owes_6 : decode cX5_owes 6 = .ok (.ifCond .eq 7, 3) := by decide +kernel
theorem dX5_owes_9 : decode cX5_owes 9 = .ok (.iconst 0, 1) := by decide +kernel
theorem dX5_owes_10 : decode cX5_owes 10 = .ok (.goto 4, 3) := by decide +kernel
theorem dX5_owes_13 : decode cX5_owes 13 = .ok (.iconst 1, 1) := by decide +kernel
theorem dX5_owes_14 : decode cX5_owes 14 = .ok (.putfield 80, 3) := by decide +kernel
theorem dX5_owes_17 : decode cX5_owes 17 = .ok (.aload_n 0, 1) := by decide +kernel
theorem dX5_owes_18 : decode cX5_owes 18 = .ok (.getfield 80, 3) := by decide +kernel
theorem dX5_owes_21 : decode cX5_owes 21 = .ok (.ifCond .le 7, 3) := by decide +kernel
theorem dX5_owes_24 : decode cX5_owes 24 = .ok (.iconst 0, 1) := by decide +kernel
theorem dX5_owes_25 : decode cX5_owes 25 = .ok (.goto 8, 3) := by decide +kernel
theorem dX5_owes_28 : decode cX5_owes 28 = .ok (.aload_n 0, 1) := by decide +kernel
theorem dX5_owes_29 : decode cX5_owes 29 = .ok (.iload_n 1, 1) := by decide +kernel
theorem dX5_owes_30 : decode cX5_owes 30 = .ok (.invokevirtual 223, 3) := by decide +kernel
theorem dX5_owes_33 : decode cX5_owes 33 = .ok (.ireturn, 1) := by decide +kernel
theorem dX5_owesByDays_0 : decode cX5_owesByDays 0 = .ok (.aload_n 0, 1) := by decide +kernel
theorem dX5_owesByDays_1 : decode cX5_owesByDays 1 = .ok (.iload_n 1, 1) := by decide +kernel
theorem dX5_owesByDays_2 : decode cX5_owesByDays 2 = .ok (.invokevirtual 226, 3) := by decide +kernel
theorem dX5_owesByDays_5 : decode cX5_owesByDays 5 = .ok (.ireturn, 1) := by decide +kernel
theorem dX5_pay_0 : decode cX5_pay 0 = .ok (.aload_n 0, 1) := by decide +kernel
theorem dX5_pay_1 : decode cX5_pay 1 = .ok (.iload_n 1, 1) := by decide +kernel
theorem dX5_pay_2 : decode cX5_pay 2 = .ok (.invokevirtual 124, 3) := by decide +kernel
theorem dX5_pay_5 : decode cX5_pay 5 = .ok (.ifCond .ne 9, 3) := by decide +kernel
theorem dX5_pay_8 : decode cX5_pay 8 = .ok (.aload_n 0, 1) := by decide +kernel
theorem dX5_pay_9 : decode cX5_pay 9 = .ok (.iconst 1, 1) := by decide +kernel
theorem dX5_pay_10 : decode cX5_pay 10 = .ok (.invokevirtual 116, 3) := by decide +kernel
theorem dX5_pay_13 : decode cX5_pay 13 = .ok (.ireturn, 1) := by decide +kernel
theorem dX5_pay_14 : decode cX5_pay 14 = .ok (.iload_n 2, 1) := by decide +kernel
theorem dX5_pay_15 : decode cX5_pay 15 = .ok (.iconst 1, 1) := by decide +kernel
theorem dX5_pay_16 : decode cX5_pay 16 = .ok (.sipush 9999, 3) := by decide +kernel
theorem dX5_pay_19 : decode cX5_pay 19 = .ok (.invokestatic 87, 3) := by decide +kernel
theorem dX5_pay_22 : decode cX5_pay 22 = .ok (.ifCond .ne 9, 3) := by decide +kernel
theorem dX5_pay_25 : decode cX5_pay 25 = .ok (.aload_n 0, 1) := by decide +kernel
theorem dX5_pay_26 : decode cX5_pay 26 = .ok (.iconst 2, 1) := by decide +kernel
theorem dX5_pay_27 : decode cX5_pay 27 = .ok (.invokevirtual 116, 3) := by decide +kernel
theorem dX5_pay_30 : decode cX5_pay 30 = .ok (.ireturn, 1) := by decide +kernel
theorem dX5_pay_31 : decode cX5_pay 31 = .ok (.aload_n 0, 1) := by decide +kernel
theorem dX5_pay_32 : decode cX5_pay 32 = .ok (.iconst 0, 1) := by decide +kernel
theorem dX5_pay_33 : decode cX5_pay 33 = .ok (.putfield 80, 3) := by decide +kernel
theorem dX5_pay_36 : decode cX5_pay 36 = .ok (.aload_n 0, 1) := by decide +kernel
theorem dX5_pay_37 : decode cX5_pay 37 = .ok (.getfield 7, 3) := by decide +kernel
theorem dX5_pay_40 : decode cX5_pay 40 = .ok (.iload_n 1, 1) := by decide +kernel
theorem dX5_pay_41 : decode cX5_pay 41 = .ok (.dup2, 1) := by decide +kernel
theorem dX5_pay_42 : decode cX5_pay 42 = .ok (.iaload, 1) := by decide +kernel
theorem dX5_pay_43 : decode cX5_pay 43 = .ok (.iload_n 2, 1) := by decide +kernel
theorem dX5_pay_44 : decode cX5_pay 44 = .ok (.iadd, 1) := by decide +kernel
theorem dX5_pay_45 : decode cX5_pay 45 = .ok (.iastore, 1) := by decide +kernel
theorem dX5_pay_46 : decode cX5_pay 46 = .ok (.aload_n 0, 1) := by decide +kernel
theorem dX5_pay_47 : decode cX5_pay 47 = .ok (.dup, 1) := by decide +kernel
theorem dX5_pay_48 : decode cX5_pay 48 = .ok (.getfield 229, 3) := by decide +kernel
theorem dX5_pay_51 : decode cX5_pay 51 = .ok (.iload_n 2, 1) := by decide +kernel
theorem dX5_pay_52 : decode cX5_pay 52 = .ok (.i2l, 1) := by decide +kernel
theorem dX5_pay_53 : decode cX5_pay 53 = .ok (.ladd, 1) := by decide +kernel
theorem dX5_pay_54 : decode cX5_pay 54 = .ok (.putfield 229, 3) := by decide +kernel
theorem dX5_pay_57 : decode cX5_pay 57 = .ok (.aload_n 0, 1) := by decide +kernel
theorem dX5_pay_58 : decode cX5_pay 58 = .ok (.iload_n 1, 1) := by decide +kernel
theorem dX5_pay_59 : decode cX5_pay 59 = .ok (.invokevirtual 223, 3) := by decide +kernel
theorem dX5_pay_62 : decode cX5_pay 62 = .ok (.ireturn, 1) := by decide +kernel
theorem dX5_mostOwing_0 : decode cX5_mostOwing 0 = .ok (.iconst (-1), 1) := by decide +kernel
theorem dX5_mostOwing_1 : decode cX5_mostOwing 1 = .ok (.istore_n 1, 1) := by decide +kernel
theorem dX5_mostOwing_2 : decode cX5_mostOwing 2 = .ok (.iconst 0, 1) := by decide +kernel
theorem dX5_mostOwing_3 : decode cX5_mostOwing 3 = .ok (.istore_n 2, 1) := by decide +kernel
theorem dX5_mostOwing_4 : decode cX5_mostOwing 4 = .ok (.iconst 0, 1) := by decide +kernel
theorem dX5_mostOwing_5 : decode cX5_mostOwing 5 = .ok (.istore_n 3, 1) := by decide +kernel
theorem dX5_mostOwing_6 : decode cX5_mostOwing 6 = .ok (.iload_n 3, 1) := by decide +kernel
theorem dX5_mostOwing_7 : decode cX5_mostOwing 7 = .ok (.aload_n 0, 1) := by decide +kernel
theorem dX5_mostOwing_8 : decode cX5_mostOwing 8 = .ok (.getfield 84, 3) := by decide +kernel
theorem dX5_mostOwing_11 : decode cX5_mostOwing 11 = .ok (.if_icmp .ge 27, 3) := by decide +kernel
theorem dX5_mostOwing_14 : decode cX5_mostOwing 14 = .ok (.aload_n 0, 1) := by decide +kernel
theorem dX5_mostOwing_15 : decode cX5_mostOwing 15 = .ok (.iload_n 3, 1) := by decide +kernel
theorem dX5_mostOwing_16 : decode cX5_mostOwing 16 = .ok (.invokevirtual 223, 3) := by decide +kernel
theorem dX5_mostOwing_19 : decode cX5_mostOwing 19 = .ok (.istore 4, 2) := by decide +kernel
theorem dX5_mostOwing_21 : decode cX5_mostOwing 21 = .ok (.iload 4, 2) := by decide +kernel
theorem dX5_mostOwing_23 : decode cX5_mostOwing 23 = .ok (.iload_n 2, 1) := by decide +kernel
theorem dX5_mostOwing_24 : decode cX5_mostOwing 24 = .ok (.if_icmp .le 8, 3) := by decide +kernel
theorem dX5_mostOwing_27 : decode cX5_mostOwing 27 = .ok (.iload 4, 2) := by decide +kernel
theorem dX5_mostOwing_29 : decode cX5_mostOwing 29 = .ok (.istore_n 2, 1) := by decide +kernel
theorem dX5_mostOwing_30 : decode cX5_mostOwing 30 = .ok (.iload_n 3, 1) := by decide +kernel
theorem dX5_mostOwing_31 : decode cX5_mostOwing 31 = .ok (.istore_n 1, 1) := by decide +kernel
theorem dX5_mostOwing_32 : decode cX5_mostOwing 32 = .ok (.iinc 3 1, 3) := by decide +kernel
theorem dX5_mostOwing_35 : decode cX5_mostOwing 35 = .ok (.goto (-29), 3) := by decide +kernel
theorem dX5_mostOwing_38 : decode cX5_mostOwing 38 = .ok (.aload_n 0, 1) := by decide +kernel
theorem dX5_mostOwing_39 : decode cX5_mostOwing 39 = .ok (.iload_n 1, 1) := by decide +kernel
theorem dX5_mostOwing_40 : decode cX5_mostOwing 40 = .ok (.iconst (-1), 1) := by decide +kernel
theorem dX5_mostOwing_41 : decode cX5_mostOwing 41 = .ok (.if_icmp .ne 7, 3) := by decide +kernel
theorem dX5_mostOwing_44 : decode cX5_mostOwing 44 = .ok (.iconst 1, 1) := by decide +kernel
theorem dX5_mostOwing_45 : decode cX5_mostOwing 45 = .ok (.goto 4, 3) := by decide +kernel
theorem dX5_mostOwing_48 : decode cX5_mostOwing 48 = .ok (.iconst 0, 1) := by decide +kernel
theorem dX5_mostOwing_49 : decode cX5_mostOwing 49 = .ok (.putfield 80, 3) := by decide +kernel
theorem dX5_mostOwing_52 : decode cX5_mostOwing 52 = .ok (.iload_n 1, 1) := by decide +kernel
theorem dX5_mostOwing_53 : decode cX5_mostOwing 53 = .ok (.iconst (-1), 1) := by decide +kernel
theorem dX5_mostOwing_54 : decode cX5_mostOwing 54 = .ok (.if_icmp .ne 7, 3) := by decide +kernel
theorem dX5_mostOwing_57 : decode cX5_mostOwing 57 = .ok (.iconst 0, 1) := by decide +kernel
theorem dX5_mostOwing_58 : decode cX5_mostOwing 58 = .ok (.goto 4, 3) := by decide +kernel
theorem dX5_mostOwing_61 : decode cX5_mostOwing 61 = .ok (.iload_n 1, 1) := by decide +kernel
theorem dX5_mostOwing_62 : decode cX5_mostOwing 62 = .ok (.ireturn, 1) := by decide +kernel
theorem dX5_collected_0 : decode cX5_collected 0 = .ok (.aload_n 0, 1) := by decide +kernel
theorem dX5_collected_1 : decode cX5_collected 1 = .ok (.iconst 0, 1) := by decide +kernel
theorem dX5_collected_2 : decode cX5_collected 2 = .ok (.putfield 80, 3) := by decide +kernel
theorem dX5_collected_5 : decode cX5_collected 5 = .ok (.aload_n 0, 1) := by decide +kernel
theorem dX5_collected_6 : decode cX5_collected 6 = .ok (.getfield 229, 3) := by decide +kernel
theorem dX5_collected_9 : decode cX5_collected 9 = .ok (.lreturn, 1) := by decide +kernel
theorem dX5_roadShare_0 : decode cX5_roadShare 0 = .ok (.iconst 0, 1) := by decide +kernel
theorem dX5_roadShare_1 : decode cX5_roadShare 1 = .ok (.istore_n 1, 1) := by decide +kernel
theorem dX5_roadShare_2 : decode cX5_roadShare 2 = .ok (.iconst 0, 1) := by decide +kernel
theorem dX5_roadShare_3 : decode cX5_roadShare 3 = .ok (.istore_n 2, 1) := by decide +kernel
theorem dX5_roadShare_4 : decode cX5_roadShare 4 = .ok (.iload_n 2, 1) := by decide +kernel
theorem dX5_roadShare_5 : decode cX5_roadShare 5 = .ok (.aload_n 0, 1) := by decide +kernel
theorem dX5_roadShare_6 : decode cX5_roadShare 6 = .ok (.getfield 91, 3) := by decide +kernel
theorem dX5_roadShare_9 : decode cX5_roadShare 9 = .ok (.if_icmp .ge 29, 3) := by decide +kernel
theorem dX5_roadShare_12 : decode cX5_roadShare 12 = .ok (.iload_n 1, 1) := by decide +kernel
theorem dX5_roadShare_13 : decode cX5_roadShare 13 = .ok (.aload_n 0, 1) := by decide +kernel
theorem dX5_roadShare_14 : decode cX5_roadShare 14 = .ok (.iload_n 2, 1) := by decide +kernel
theorem dX5_roadShare_15 : decode cX5_roadShare 15 = .ok (.aload_n 0, 1) := by decide +kernel
theorem dX5_roadShare_16 : decode cX5_roadShare 16 = .ok (.getfield 97, 3) := by decide +kernel
theorem dX5_roadShare_19 : decode cX5_roadShare 19 = .ok (.invokevirtual 150, 3) := by decide +kernel
theorem dX5_roadShare_22 : decode cX5_roadShare 22 = .ok (.ifCond .eq 7, 3) := by decide +kernel
theorem dX5_roadShare_25 : decode cX5_roadShare 25 = .ok (.iconst 1, 1) := by decide +kernel
theorem dX5_roadShare_26 : decode cX5_roadShare 26 = .ok (.goto 4, 3) := by decide +kernel
theorem dX5_roadShare_29 : decode cX5_roadShare 29 = .ok (.iconst 0, 1) := by decide +kernel
theorem dX5_roadShare_30 : decode cX5_roadShare 30 = .ok (.iadd, 1) := by decide +kernel
theorem dX5_roadShare_31 : decode cX5_roadShare 31 = .ok (.istore_n 1, 1) := by decide +kernel
theorem dX5_roadShare_32 : decode cX5_roadShare 32 = .ok (.iinc 2 1, 3) := by decide +kernel
theorem dX5_roadShare_35 : decode cX5_roadShare 35 = .ok (.goto (-31), 3) := by decide +kernel
theorem dX5_roadShare_38 : decode cX5_roadShare 38 = .ok (.aload_n 0, 1) := by decide +kernel
theorem dX5_roadShare_39 : decode cX5_roadShare 39 = .ok (.aload_n 0, 1) := by decide +kernel
theorem dX5_roadShare_40 : decode cX5_roadShare 40 = .ok (.getfield 91, 3) := by decide +kernel
theorem dX5_roadShare_43 : decode cX5_roadShare 43 = .ok (.ifCond .ne 7, 3) := by decide +kernel
theorem dX5_roadShare_46 : decode cX5_roadShare 46 = .ok (.iconst 1, 1) := by decide +kernel
theorem dX5_roadShare_47 : decode cX5_roadShare 47 = .ok (.goto 4, 3) := by decide +kernel
theorem dX5_roadShare_50 : decode cX5_roadShare 50 = .ok (.iconst 0, 1) := by decide +kernel
theorem dX5_roadShare_51 : decode cX5_roadShare 51 = .ok (.putfield 80, 3) := by decide +kernel
theorem dX5_roadShare_54 : decode cX5_roadShare 54 = .ok (.aload_n 0, 1) := by decide +kernel
theorem dX5_roadShare_55 : decode cX5_roadShare 55 = .ok (.getfield 91, 3) := by decide +kernel
theorem dX5_roadShare_58 : decode cX5_roadShare 58 = .ok (.ifCond .ne 7, 3) := by decide +kernel
theorem dX5_roadShare_61 : decode cX5_roadShare 61 = .ok (.fconst 0, 1) := by decide +kernel
theorem dX5_roadShare_62 : decode cX5_roadShare 62 = .ok (.goto 11, 3) := by decide +kernel
theorem dX5_roadShare_65 : decode cX5_roadShare 65 = .ok (.iload_n 1, 1) := by decide +kernel
theorem dX5_roadShare_66 : decode cX5_roadShare 66 = .ok (.i2f, 1) := by decide +kernel
theorem dX5_roadShare_67 : decode cX5_roadShare 67 = .ok (.aload_n 0, 1) := by decide +kernel
theorem dX5_roadShare_68 : decode cX5_roadShare 68 = .ok (.getfield 91, 3) := by decide +kernel
theorem dX5_roadShare_71 : decode cX5_roadShare 71 = .ok (.i2f, 1) := by decide +kernel
theorem dX5_roadShare_72 : decode cX5_roadShare 72 = .ok (.fdiv, 1) := by decide +kernel
theorem dX5_roadShare_73 : decode cX5_roadShare 73 = .ok (.freturn, 1) := by decide +kernel
theorem dX5_meanTransfers_0 : decode cX5_meanTransfers 0 = .ok (.aload_n 0, 1) := by decide +kernel
theorem dX5_meanTransfers_1 : decode cX5_meanTransfers 1 = .ok (.aload_n 0, 1) := by decide +kernel
theorem dX5_meanTransfers_2 : decode cX5_meanTransfers 2 = .ok (.getfield 91, 3) := by decide +kernel
theorem dX5_meanTransfers_5 : decode cX5_meanTransfers 5 = .ok (.ifCond .ne 7, 3) := by decide +kernel
theorem dX5_meanTransfers_8 : decode cX5_meanTransfers 8 = .ok (.iconst 1, 1) := by decide +kernel
theorem dX5_meanTransfers_9 : decode cX5_meanTransfers 9 = .ok (.goto 4, 3) := by decide +kernel
theorem dX5_meanTransfers_12 : decode cX5_meanTransfers 12 = .ok (.iconst 0, 1) := by decide +kernel
theorem dX5_meanTransfers_13 : decode cX5_meanTransfers 13 = .ok (.putfield 80, 3) := by decide +kernel
theorem dX5_meanTransfers_16 : decode cX5_meanTransfers 16 = .ok (.aload_n 0, 1) := by decide +kernel
theorem dX5_meanTransfers_17 : decode cX5_meanTransfers 17 = .ok (.getfield 91, 3) := by decide +kernel
theorem dX5_meanTransfers_20 : decode cX5_meanTransfers 20 = .ok (.ifCond .ne 7, 3) := by decide +kernel
theorem dX5_meanTransfers_23 : decode cX5_meanTransfers 23 = .ok (.dconst 0, 1) := by decide +kernel
theorem dX5_meanTransfers_24 : decode cX5_meanTransfers 24 = .ok (.goto 14, 3) := by decide +kernel
theorem dX5_meanTransfers_27 : decode cX5_meanTransfers 27 = .ok (.aload_n 0, 1) := by decide +kernel
theorem dX5_meanTransfers_28 : decode cX5_meanTransfers 28 = .ok (.getfield 110, 3) := by decide +kernel
theorem dX5_meanTransfers_31 : decode cX5_meanTransfers 31 = .ok (.i2d, 1) := by decide +kernel
theorem dX5_meanTransfers_32 : decode cX5_meanTransfers 32 = .ok (.aload_n 0, 1) := by decide +kernel
theorem dX5_meanTransfers_33 : decode cX5_meanTransfers 33 = .ok (.getfield 91, 3) := by decide +kernel
theorem dX5_meanTransfers_36 : decode cX5_meanTransfers 36 = .ok (.i2d, 1) := by decide +kernel
theorem dX5_meanTransfers_37 : decode cX5_meanTransfers 37 = .ok (.ddiv, 1) := by decide +kernel
theorem dX5_meanTransfers_38 : decode cX5_meanTransfers 38 = .ok (.dreturn, 1) := by decide +kernel
theorem dX5_isSound_0 : decode cX5_isSound 0 = .ok (.aload_n 0, 1) := by decide +kernel
theorem dX5_isSound_1 : decode cX5_isSound 1 = .ok (.iconst 0, 1) := by decide +kernel
theorem dX5_isSound_2 : decode cX5_isSound 2 = .ok (.putfield 80, 3) := by decide +kernel
theorem dX5_isSound_5 : decode cX5_isSound 5 = .ok (.iconst 1, 1) := by decide +kernel
theorem dX5_isSound_6 : decode cX5_isSound 6 = .ok (.ireturn, 1) := by decide +kernel
theorem dJx00060_init_a7421_0 : decode cJx00060_init_a7421 0 = .ok (.aload_n 0, 1) := by decide +kernel
theorem dJx00060_init_a7421_1 : decode cJx00060_init_a7421 1 = .ok (.aload_n 1, 1) := by decide +kernel
theorem dJx00060_init_a7421_2 : decode cJx00060_init_a7421 2 = .ok (.invokespecial 7, 3) := by decide +kernel
theorem dJx00060_init_a7421_5 : decode cJx00060_init_a7421 5 = .ok (.return_, 1) := by decide +kernel
theorem dJ9_abs_0f7a4_0 : decode cJ9_abs_0f7a4 0 = .ok (.iload_n 0, 1) := by decide +kernel
theorem dJ9_abs_0f7a4_1 : decode cJ9_abs_0f7a4 1 = .ok (.ifCond .ge 8, 3) := by decide +kernel
theorem dJ9_abs_0f7a4_4 : decode cJ9_abs_0f7a4 4 = .ok (.iload_n 0, 1) := by decide +kernel
theorem dJ9_abs_0f7a4_5 : decode cJ9_abs_0f7a4 5 = .ok (.ineg, 1) := by decide +kernel
theorem dJ9_abs_0f7a4_6 : decode cJ9_abs_0f7a4 6 = .ok (.goto 4, 3) := by decide +kernel
theorem dJ9_abs_0f7a4_9 : decode cJ9_abs_0f7a4 9 = .ok (.iload_n 0, 1) := by decide +kernel
theorem dJ9_abs_0f7a4_10 : decode cJ9_abs_0f7a4 10 = .ok (.ireturn, 1) := by decide +kernel
theorem dJ9_max_7cf53_0 : decode cJ9_max_7cf53 0 = .ok (.iload_n 0, 1) := by decide +kernel
theorem dJ9_max_7cf53_1 : decode cJ9_max_7cf53 1 = .ok (.iload_n 1, 1) := by decide +kernel
theorem dJ9_max_7cf53_2 : decode cJ9_max_7cf53 2 = .ok (.if_icmp .lt 7, 3) := by decide +kernel
theorem dJ9_max_7cf53_5 : decode cJ9_max_7cf53 5 = .ok (.iload_n 0, 1) := by decide +kernel
theorem dJ9_max_7cf53_6 : decode cJ9_max_7cf53 6 = .ok (.goto 4, 3) := by decide +kernel
theorem dJ9_max_7cf53_9 : decode cJ9_max_7cf53 9 = .ok (.iload_n 1, 1) := by decide +kernel
theorem dJ9_max_7cf53_10 : decode cJ9_max_7cf53 10 = .ok (.ireturn, 1) := by decide +kernel
theorem dJ9_min_7cf53_0 : decode cJ9_min_7cf53 0 = .ok (.iload_n 0, 1) := by decide +kernel
theorem dJ9_min_7cf53_1 : decode cJ9_min_7cf53 1 = .ok (.iload_n 1, 1) := by decide +kernel
theorem dJ9_min_7cf53_2 : decode cJ9_min_7cf53 2 = .ok (.if_icmp .gt 7, 3) := by decide +kernel
theorem dJ9_min_7cf53_5 : decode cJ9_min_7cf53 5 = .ok (.iload_n 0, 1) := by decide +kernel
theorem dJ9_min_7cf53_6 : decode cJ9_min_7cf53 6 = .ok (.goto 4, 3) := by decide +kernel
theorem dJ9_min_7cf53_9 : decode cJ9_min_7cf53 9 = .ok (.iload_n 1, 1) := by decide +kernel
theorem dJ9_min_7cf53_10 : decode cJ9_min_7cf53 10 = .ok (.ireturn, 1) := by decide +kernel
theorem dJ7_copyOf_59c91_0 : decode cJ7_copyOf_59c91 0 = .ok (.iload_n 1, 1) := by decide +kernel
theorem dJ7_copyOf_59c91_1 : decode cJ7_copyOf_59c91 1 = .ok (.aload_n 0, 1) := by decide +kernel
theorem dJ7_copyOf_59c91_2 : decode cJ7_copyOf_59c91 2 = .ok (.arraylength, 1) := by decide +kernel
theorem dJ7_copyOf_59c91_3 : decode cJ7_copyOf_59c91 3 = .ok (.if_icmp .ne 11, 3) := by decide +kernel
theorem dJ7_copyOf_59c91_6 : decode cJ7_copyOf_59c91 6 = .ok (.aload_n 0, 1) := by decide +kernel
theorem dJ7_copyOf_59c91_7 : decode cJ7_copyOf_59c91 7 = .ok (.invokevirtual 316, 3) := by decide +kernel
theorem dJ7_copyOf_59c91_10 : decode cJ7_copyOf_59c91 10 = .ok (.checkcast 317, 3) := by decide +kernel
theorem dJ7_copyOf_59c91_13 : decode cJ7_copyOf_59c91 13 = .ok (.areturn, 1) := by decide +kernel
theorem dJ7_copyOf_59c91_14 : decode cJ7_copyOf_59c91 14 = .ok (.iload_n 1, 1) := by decide +kernel
theorem dJ7_copyOf_59c91_15 : decode cJ7_copyOf_59c91 15 = .ok (.newarray .int, 2) := by decide +kernel
theorem dJ7_copyOf_59c91_17 : decode cJ7_copyOf_59c91 17 = .ok (.astore_n 2, 1) := by decide +kernel
theorem dJ7_copyOf_59c91_18 : decode cJ7_copyOf_59c91 18 = .ok (.aload_n 0, 1) := by decide +kernel
theorem dJ7_copyOf_59c91_19 : decode cJ7_copyOf_59c91 19 = .ok (.iconst 0, 1) := by decide +kernel
theorem dJ7_copyOf_59c91_20 : decode cJ7_copyOf_59c91 20 = .ok (.aload_n 2, 1) := by decide +kernel
theorem dJ7_copyOf_59c91_21 : decode cJ7_copyOf_59c91 21 = .ok (.iconst 0, 1) := by decide +kernel
theorem dJ7_copyOf_59c91_22 : decode cJ7_copyOf_59c91 22 = .ok (.aload_n 0, 1) := by decide +kernel
theorem dJ7_copyOf_59c91_23 : decode cJ7_copyOf_59c91 23 = .ok (.arraylength, 1) := by decide +kernel
theorem dJ7_copyOf_59c91_24 : decode cJ7_copyOf_59c91 24 = .ok (.iload_n 1, 1) := by decide +kernel
theorem dJ7_copyOf_59c91_25 : decode cJ7_copyOf_59c91 25 = .ok (.invokestatic 304, 3) := by decide +kernel
theorem dJ7_copyOf_59c91_28 : decode cJ7_copyOf_59c91 28 = .ok (.invokestatic 150, 3) := by decide +kernel
theorem dJ7_copyOf_59c91_31 : decode cJ7_copyOf_59c91 31 = .ok (.aload_n 2, 1) := by decide +kernel
theorem dJ7_copyOf_59c91_32 : decode cJ7_copyOf_59c91 32 = .ok (.areturn, 1) := by decide +kernel
