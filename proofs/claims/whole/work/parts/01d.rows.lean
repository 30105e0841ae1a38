theorem dX0_init_0 : decode cX0_init 0 = .ok (.aload_n 0, 1) := by decide +kernel
theorem dX0_init_1 : decode cX0_init 1 = .ok (.invokespecial 3, 3) := by decide +kernel
theorem dX0_init_4 : decode cX0_init 4 = .ok (.aload_n 0, 1) := by decide +kernel
theorem dX0_init_5 : decode cX0_init 5 = .ok (.bipush 48, 2) := by decide +kernel
theorem dX0_init_7 : decode cX0_init 7 = .ok (.newarray .long, 2) := by decide +kernel
theorem dX0_init_9 : decode cX0_init 9 = .ok (.putfield 9, 3) := by decide +kernel
theorem dX0_init_12 : decode cX0_init 12 = .ok (.aload_n 0, 1) := by decide +kernel
theorem dX0_init_13 : decode cX0_init 13 = .ok (.bipush 96, 2) := by decide +kernel
theorem dX0_init_15 : decode cX0_init 15 = .ok (.newarray .int, 2) := by decide +kernel
theorem dX0_init_17 : decode cX0_init 17 = .ok (.putfield 15, 3) := by decide +kernel
theorem dX0_init_20 : decode cX0_init 20 = .ok (.aload_n 0, 1) := by decide +kernel
theorem dX0_init_21 : decode cX0_init 21 = .ok (.bipush 96, 2) := by decide +kernel
theorem dX0_init_23 : decode cX0_init 23 = .ok (.newarray .long, 2) := by decide +kernel
theorem dX0_init_25 : decode cX0_init 25 = .ok (.putfield 19, 3) := by decide +kernel
theorem dX0_init_28 : decode cX0_init 28 = .ok (.aload_n 0, 1) := by decide +kernel
theorem dX0_init_29 : decode cX0_init 29 = .ok (.bipush 96, 2) := by decide +kernel
theorem dX0_init_31 : decode cX0_init 31 = .ok (.newarray .int, 2) := by decide +kernel
theorem dX0_init_33 : decode cX0_init 33 = .ok (.putfield 22, 3) := by decide +kernel
theorem dX0_init_36 : decode cX0_init 36 = .ok (.aload_n 0, 1) := by decide +kernel
theorem dX0_init_37 : decode cX0_init 37 = .ok (.bipush 96, 2) := by decide +kernel
theorem dX0_init_39 : decode cX0_init 39 = .ok (.newarray .int, 2) := by decide +kernel
theorem dX0_init_41 : decode cX0_init 41 = .ok (.putfield 25, 3) := by decide +kernel
theorem dX0_init_44 : decode cX0_init 44 = .ok (.return_, 1) := by decide +kernel
theorem dX0_start_0 : decode cX0_start 0 = .ok (.aload_n 0, 1) := by decide +kernel
theorem dX0_start_1 : decode cX0_start 1 = .ok (.iconst 0, 1) := by decide +kernel
theorem dX0_start_2 : decode cX0_start 2 = .ok (.putfield 28, 3) := by decide +kernel
theorem dX0_start_5 : decode cX0_start 5 = .ok (.iload_n 2, 1) := by decide +kernel
theorem dX0_start_6 : decode cX0_start 6 = .ok (.istore 5, 2) := by decide +kernel
theorem dX0_start_8 : decode cX0_start 8 = .ok (.iload 5, 2) := by decide +kernel
theorem dX0_start_10 : decode cX0_start 10 = .ok (.iload_n 3, 1) := by decide +kernel
theorem dX0_start_11 : decode cX0_start 11 = .ok (.if_icmp .ge 46, 3) := by decide +kernel
theorem dX0_start_14 : decode cX0_start 14 = .ok (.aload_n 0, 1) := by decide +kernel
theorem dX0_start_15 : decode cX0_start 15 = .ok (.getfield 28, 3) := by decide +kernel
theorem dX0_start_18 : decode cX0_start 18 = .ok (.aload_n 0, 1) := by decide +kernel
theorem dX0_start_19 : decode cX0_start 19 = .ok (.getfield 9, 3) := by decide +kernel
theorem dX0_start_22 : decode cX0_start 22 = .ok (.arraylength, 1) := by decide +kernel
theorem dX0_start_23 : decode cX0_start 23 = .ok (.if_icmp .ge 34, 3) := by decide +kernel
theorem dX0_start_26 : decode cX0_start 26 = .ok (.aload_n 0, 1) := by decide +kernel
theorem dX0_start_27 : decode cX0_start 27 = .ok (.getfield 9, 3) := by decide +kernel
theorem dX0_start_30 : decode cX0_start 30 = .ok (.aload_n 0, 1) := by decide +kernel
theorem dX0_start_31 : decode cX0_start 31 = .ok (.getfield 28, 3) := by decide +kernel
theorem dX0_start_34 : decode cX0_start 34 = .ok (.aload_n 1, 1) := by decide +kernel
theorem dX0_start_35 : decode cX0_start 35 = .ok (.iload 5, 2) := by decide +kernel
theorem dX0_start_37 : decode cX0_start 37 = .ok (.invokevirtual 32, 3) := by decide +kernel
theorem dX0_start_40 : decode cX0_start 40 = .ok (.lastore, 1) := by decide +kernel
theorem dX0_start_41 : decode cX0_start 41 = .ok (.aload_n 0, 1) := by decide +kernel
theorem dX0_start_42 : decode cX0_start 42 = .ok (.dup, 1) := by decide +kernel
theorem dX0_start_43 : decode cX0_start 43 = .ok (.getfield 28, 3) := by decide +kernel
theorem dX0_start_46 : decode cX0_start 46 = .ok (.iconst 1, 1) := by decide +kernel
theorem dX0_start_47 : decode cX0_start 47 = .ok (.iadd, 1) := by decide +kernel
theorem dX0_start_48 : decode cX0_start 48 = .ok (.putfield 28, 3) := by decide +kernel
theorem dX0_start_51 : decode cX0_start 51 = .ok (.iinc 5 1, 3) := by decide +kernel
theorem dX0_start_54 : decode cX0_start 54 = .ok (.goto (-46), 3) := by decide +kernel
theorem dX0_start_57 : decode cX0_start 57 = .ok (.aload_n 0, 1) := by decide +kernel
theorem dX0_start_58 : decode cX0_start 58 = .ok (.iload 4, 2) := by decide +kernel
theorem dX0_start_60 : decode cX0_start 60 = .ok (.putfield 38, 3) := by decide +kernel
theorem dX0_start_63 : decode cX0_start 63 = .ok (.aload_n 0, 1) := by decide +kernel
theorem dX0_start_64 : decode cX0_start 64 = .ok (.iconst 0, 1) := by decide +kernel
theorem dX0_start_65 : decode cX0_start 65 = .ok (.iconst 0, 1) := by decide +kernel
theorem dX0_start_66 : decode cX0_start 66 = .ok (.aload_n 0, 1) := by decide +kernel
theorem dX0_start_67 : decode cX0_start 67 = .ok (.getfield 28, 3) := by decide +kernel
theorem dX0_start_70 : decode cX0_start 70 = .ok (.invokevirtual 42, 3) := by decide +kernel
theorem dX0_start_73 : decode cX0_start 73 = .ok (.aload_n 0, 1) := by decide +kernel
theorem dX0_start_74 : decode cX0_start 74 = .ok (.iconst 1, 1) := by decide +kernel
theorem dX0_start_75 : decode cX0_start 75 = .ok (.putfield 46, 3) := by decide +kernel
theorem dX0_start_78 : decode cX0_start 78 = .ok (.return_, 1) := by decide +kernel
theorem dX0_isNumber_0 : decode cX0_isNumber 0 = .ok (.aload_n 0, 1) := by decide +kernel
theorem dX0_isNumber_1 : decode cX0_isNumber 1 = .ok (.getfield 15, 3) := by decide +kernel
theorem dX0_isNumber_4 : decode cX0_isNumber 4 = .ok (.iload_n 1, 1) := by decide +kernel
theorem dX0_isNumber_5 : decode cX0_isNumber 5 = .ok (.iaload, 1) := by decide +kernel
theorem dX0_isNumber_6 : decode cX0_isNumber 6 = .ok (.bipush 110, 2) := by decide +kernel
theorem dX0_isNumber_8 : decode cX0_isNumber 8 = .ok (.if_icmp .ne 7, 3) := by decide +kernel
theorem dX0_isNumber_11 : decode cX0_isNumber 11 = .ok (.iconst 1, 1) := by decide +kernel
theorem dX0_isNumber_12 : decode cX0_isNumber 12 = .ok (.goto 4, 3) := by decide +kernel
theorem dX0_isNumber_15 : decode cX0_isNumber 15 = .ok (.iconst 0, 1) := by decide +kernel
theorem dX0_isNumber_16 : decode cX0_isNumber 16 = .ok (.ireturn, 1) := by decide +kernel
theorem dX0_remaining_0 : decode cX0_remaining 0 = .ok (.aload_n 0, 1) := by decide +kernel
theorem dX0_remaining_1 : decode cX0_remaining 1 = .ok (.iload_n 1, 1) := by decide +kernel
theorem dX0_remaining_2 : decode cX0_remaining 2 = .ok (.invokevirtual 49, 3) := by decide +kernel
theorem dX0_remaining_5 : decode cX0_remaining 5 = .ok (.ifCond .eq 7, 3) := by decide +kernel
theorem dX0_remaining_8 : decode cX0_remaining 8 = .ok (.iconst 0, 1) := by decide +kernel
theorem dX0_remaining_9 : decode cX0_remaining 9 = .ok (.goto 16, 3) := by decide +kernel
theorem dX0_remaining_12 : decode cX0_remaining 12 = .ok (.aload_n 0, 1) := by decide +kernel
theorem dX0_remaining_13 : decode cX0_remaining 13 = .ok (.getfield 25, 3) := by decide +kernel
theorem dX0_remaining_16 : decode cX0_remaining 16 = .ok (.iload_n 1, 1) := by decide +kernel
theorem dX0_remaining_17 : decode cX0_remaining 17 = .ok (.iaload, 1) := by decide +kernel
theorem dX0_remaining_18 : decode cX0_remaining 18 = .ok (.aload_n 0, 1) := by decide +kernel
theorem dX0_remaining_19 : decode cX0_remaining 19 = .ok (.getfield 22, 3) := by decide +kernel
theorem dX0_remaining_22 : decode cX0_remaining 22 = .ok (.iload_n 1, 1) := by decide +kernel
theorem dX0_remaining_23 : decode cX0_remaining 23 = .ok (.iaload, 1) := by decide +kernel
theorem dX0_remaining_24 : decode cX0_remaining 24 = .ok (.isub, 1) := by decide +kernel
theorem dX0_remaining_25 : decode cX0_remaining 25 = .ok (.ireturn, 1) := by decide +kernel
theorem dX0_placeOf_0 : decode cX0_placeOf 0 = .ok (.iconst 0, 1) := by decide +kernel
theorem dX0_placeOf_1 : decode cX0_placeOf 1 = .ok (.istore_n 2, 1) := by decide +kernel
theorem dX0_placeOf_2 : decode cX0_placeOf 2 = .ok (.iconst 0, 1) := by decide +kernel
theorem dX0_placeOf_3 : decode cX0_placeOf 3 = .ok (.istore_n 3, 1) := by decide +kernel
theorem dX0_placeOf_4 : decode cX0_placeOf 4 = .ok (.iload_n 3, 1) := by decide +kernel
theorem dX0_placeOf_5 : decode cX0_placeOf 5 = .ok (.iload_n 1, 1) := by decide +kernel
theorem dX0_placeOf_6 : decode cX0_placeOf 6 = .ok (.if_icmp .ge 25, 3) := by decide +kernel
theorem dX0_placeOf_9 : decode cX0_placeOf 9 = .ok (.iload_n 3, 1) := by decide +kernel
theorem dX0_placeOf_10 : decode cX0_placeOf 10 = .ok (.aload_n 0, 1) := by decide +kernel
theorem dX0_placeOf_11 : decode cX0_placeOf 11 = .ok (.getfield 46, 3) := by decide +kernel
theorem dX0_placeOf_14 : decode cX0_placeOf 14 = .ok (.if_icmp .ge 17, 3) := by decide +kernel
theorem dX0_placeOf_17 : decode cX0_placeOf 17 = .ok (.iload_n 2, 1) := by decide +kernel
theorem dX0_placeOf_18 : decode cX0_placeOf 18 = .ok (.aload_n 0, 1) := by decide +kernel
theorem dX0_placeOf_19 : decode cX0_placeOf 19 = .ok (.iload_n 3, 1) := by decide +kernel
theorem dX0_placeOf_20 : decode cX0_placeOf 20 = .ok (.invokevirtual 53, 3) := by decide +kernel
theorem dX0_placeOf_23 : decode cX0_placeOf 23 = .ok (.iadd, 1) := by decide +kernel
theorem dX0_placeOf_24 : decode cX0_placeOf 24 = .ok (.istore_n 2, 1) := by decide +kernel
theorem dX0_placeOf_25 : decode cX0_placeOf 25 = .ok (.iinc 3 1, 3) := by decide +kernel
theorem dX0_placeOf_28 : decode cX0_placeOf 28 = .ok (.goto (-24), 3) := by decide +kernel
theorem dX0_placeOf_31 : decode cX0_placeOf 31 = .ok (.iload_n 2, 1) := by decide +kernel
theorem dX0_placeOf_32 : decode cX0_placeOf 32 = .ok (.ireturn, 1) := by decide +kernel
theorem dX0_hasAll_0 : decode cX0_hasAll 0 = .ok (.aload_n 0, 1) := by decide +kernel
theorem dX0_hasAll_1 : decode cX0_hasAll 1 = .ok (.getfield 15, 3) := by decide +kernel
theorem dX0_hasAll_4 : decode cX0_hasAll 4 = .ok (.iload_n 1, 1) := by decide +kernel
theorem dX0_hasAll_5 : decode cX0_hasAll 5 = .ok (.iaload, 1) := by decide +kernel
theorem dX0_hasAll_6 : decode cX0_hasAll 6 = .ok (.bipush 112, 2) := by decide +kernel
theorem dX0_hasAll_8 : decode cX0_hasAll 8 = .ok (.if_icmp .ne 9, 3) := by decide +kernel
theorem dX0_hasAll_11 : decode cX0_hasAll 11 = .ok (.sipush 17488, 3) := by decide +kernel
theorem dX0_hasAll_14 : decode cX0_hasAll 14 = .ok (.goto 4, 3) := by decide +kernel
theorem dX0_hasAll_17 : decode cX0_hasAll 17 = .ok (.iconst 0, 1) := by decide +kernel
theorem dX0_hasAll_18 : decode cX0_hasAll 18 = .ok (.istore_n 3, 1) := by decide +kernel
theorem dX0_hasAll_19 : decode cX0_hasAll 19 = .ok (.iload_n 3, 1) := by decide +kernel
theorem dX0_hasAll_20 : decode cX0_hasAll 20 = .ok (.iload_n 2, 1) := by decide +kernel
theorem dX0_hasAll_21 : decode cX0_hasAll 21 = .ok (.iand, 1) := by decide +kernel
theorem dX0_hasAll_22 : decode cX0_hasAll 22 = .ok (.iload_n 2, 1) := by decide +kernel
theorem dX0_hasAll_23 : decode cX0_hasAll 23 = .ok (.if_icmp .ne 7, 3) := by decide +kernel
theorem dX0_hasAll_26 : decode cX0_hasAll 26 = .ok (.iconst 1, 1) := by decide +kernel
theorem dX0_hasAll_27 : decode cX0_hasAll 27 = .ok (.goto 4, 3) := by decide +kernel
theorem dX0_hasAll_30 : decode cX0_hasAll 30 = .ok (.iconst 0, 1) := by decide +kernel
theorem dX0_hasAll_31 : decode cX0_hasAll 31 = .ok (.ireturn, 1) := by decide +kernel
theorem dX0_halve_0 : decode cX0_halve 0 = .ok (.aload_n 0, 1) := by decide +kernel
theorem dX0_halve_1 : decode cX0_halve 1 = .ok (.iload_n 1, 1) := by decide +kernel
theorem dX0_halve_2 : decode cX0_halve 2 = .ok (.invokevirtual 57, 3) := by decide +kernel
theorem dX0_halve_5 : decode cX0_halve 5 = .ok (.istore_n 2, 1) := by decide +kernel
theorem dX0_halve_6 : decode cX0_halve 6 = .ok (.iload_n 2, 1) := by decide +kernel
theorem dX0_halve_7 : decode cX0_halve 7 = .ok (.iconst 2, 1) := by decide +kernel
theorem dX0_halve_8 : decode cX0_halve 8 = .ok (.if_icmp .lt 12, 3) := by decide +kernel
theorem dX0_halve_11 : decode cX0_halve 11 = .ok (.aload_n 0, 1) := by decide +kernel
theorem dX0_halve_12 : decode cX0_halve 12 = .ok (.iload_n 1, 1) := by decide +kernel
theorem dX0_halve_13 : decode cX0_halve 13 = .ok (.iconst 1, 1) := by decide +kernel
theorem dX0_halve_14 : decode cX0_halve 14 = .ok (.invokevirtual 60, 3) := by decide +kernel
theorem dX0_halve_17 : decode cX0_halve 17 = .ok (.ifCond .ne 5, 3) := by decide +kernel
theorem dX0_halve_20 : decode cX0_halve 20 = .ok (.iconst (-1), 1) := by decide +kernel
theorem dX0_halve_21 : decode cX0_halve 21 = .ok (.ireturn, 1) := by decide +kernel
theorem dX0_halve_22 : decode cX0_halve 22 = .ok (.iload_n 1, 1) := by decide +kernel
theorem dX0_halve_23 : decode cX0_halve 23 = .ok (.iconst 1, 1) := by decide +kernel
theorem dX0_halve_24 : decode cX0_halve 24 = .ok (.iadd, 1) := by decide +kernel
theorem dX0_halve_25 : decode cX0_halve 25 = .ok (.istore_n 3, 1) := by decide +kernel
theorem dX0_halve_26 : decode cX0_halve 26 = .ok (.aload_n 0, 1) := by decide +kernel
theorem dX0_halve_27 : decode cX0_halve 27 = .ok (.getfield 22, 3) := by decide +kernel
theorem dX0_halve_30 : decode cX0_halve 30 = .ok (.iload_n 3, 1) := by decide +kernel
theorem dX0_halve_31 : decode cX0_halve 31 = .ok (.iaload, 1) := by decide +kernel
theorem dX0_halve_32 : decode cX0_halve 32 = .ok (.iload_n 2, 1) := by decide +kernel
theorem dX0_halve_33 : decode cX0_halve 33 = .ok (.iconst 2, 1) := by decide +kernel
theorem dX0_halve_34 : decode cX0_halve 34 = .ok (.idiv, 1) := by decide +kernel
theorem dX0_halve_35 : decode cX0_halve 35 = .ok (.iadd, 1) := by decide +kernel
theorem dX0_halve_36 : decode cX0_halve 36 = .ok (.istore 4, 2) := by decide +kernel
theorem dX0_halve_38 : decode cX0_halve 38 = .ok (.aload_n 0, 1) := by decide +kernel
theorem dX0_halve_39 : decode cX0_halve 39 = .ok (.iload_n 1, 1) := by decide +kernel
theorem dX0_halve_40 : decode cX0_halve 40 = .ok (.aload_n 0, 1) := by decide +kernel
theorem dX0_halve_41 : decode cX0_halve 41 = .ok (.getfield 22, 3) := by decide +kernel
theorem dX0_halve_44 : decode cX0_halve 44 = .ok (.iload_n 3, 1) := by decide +kernel
theorem dX0_halve_45 : decode cX0_halve 45 = .ok (.iaload, 1) := by decide +kernel
theorem dX0_halve_46 : decode cX0_halve 46 = .ok (.iload 4, 2) := by decide +kernel
theorem dX0_halve_48 : decode cX0_halve 48 = .ok (.invokevirtual 42, 3) := by decide +kernel
theorem dX0_halve_51 : decode cX0_halve 51 = .ok (.aload_n 0, 1) := by decide +kernel
theorem dX0_halve_52 : decode cX0_halve 52 = .ok (.getfield 22, 3) := by decide +kernel
theorem dX0_halve_55 : decode cX0_halve 55 = .ok (.iload_n 3, 1) := by decide +kernel
theorem dX0_halve_56 : decode cX0_halve 56 = .ok (.iload 4, 2) := by decide +kernel
theorem dX0_halve_58 : decode cX0_halve 58 = .ok (.iastore, 1) := by decide +kernel
theorem dX0_halve_59 : decode cX0_halve 59 = .ok (.iload_n 2, 1) := by decide +kernel
theorem dX0_halve_60 : decode cX0_halve 60 = .ok (.iconst 2, 1) := by decide +kernel
theorem dX0_halve_61 : decode cX0_halve 61 = .ok (.idiv, 1) := by decide +kernel
theorem dX0_halve_62 : decode cX0_halve 62 = .ok (.ireturn, 1) := by decide +kernel
theorem dX0_halveAll_0 : decode cX0_halveAll 0 = .ok (.aload_n 0, 1) := by decide +kernel
theorem dX0_halveAll_1 : decode cX0_halveAll 1 = .ok (.getfield 46, 3) := by decide +kernel
theorem dX0_halveAll_4 : decode cX0_halveAll 4 = .ok (.istore_n 2, 1) := by decide +kernel
theorem dX0_halveAll_5 : decode cX0_halveAll 5 = .ok (.iconst 0, 1) := by decide +kernel
theorem dX0_halveAll_6 : decode cX0_halveAll 6 = .ok (.istore_n 3, 1) := by decide +kernel
theorem dX0_halveAll_7 : decode cX0_halveAll 7 = .ok (.iload_n 3, 1) := by decide +kernel
theorem dX0_halveAll_8 : decode cX0_halveAll 8 = .ok (.aload_n 0, 1) := by decide +kernel
theorem dX0_halveAll_9 : decode cX0_halveAll 9 = .ok (.getfield 46, 3) := by decide +kernel
theorem dX0_halveAll_12 : decode cX0_halveAll 12 = .ok (.if_icmp .ge 46, 3) := by decide +kernel
theorem dX0_halveAll_15 : decode cX0_halveAll 15 = .ok (.iload_n 3, 1) := by decide +kernel
theorem dX0_halveAll_16 : decode cX0_halveAll 16 = .ok (.bipush 96, 2) := by decide +kernel
theorem dX0_halveAll_18 : decode cX0_halveAll 18 = .ok (.if_icmp .ge 40, 3) := by decide +kernel
theorem dX0_halveAll_21 : decode cX0_halveAll 21 = .ok (.iconst 0, 1) := by decide +kernel
theorem dX0_halveAll_22 : decode cX0_halveAll 22 = .ok (.istore 4, 2) := by decide +kernel
theorem dX0_halveAll_24 : decode cX0_halveAll 24 = .ok (.iload 4, 2) := by decide +kernel
theorem dX0_halveAll_26 : decode cX0_halveAll 26 = .ok (.bipush 8, 2) := by decide +kernel
theorem dX0_halveAll_28 : decode cX0_halveAll 28 = .ok (.if_icmp .ge 24, 3) := by decide +kernel
theorem dX0_halveAll_31 : decode cX0_halveAll 31 = .ok (.aload_n 0, 1) := by decide +kernel
theorem dX0_halveAll_32 : decode cX0_halveAll 32 = .ok (.iload_n 3, 1) := by decide +kernel
theorem dX0_halveAll_33 : decode cX0_halveAll 33 = .ok (.iload_n 1, 1) := by decide +kernel
theorem dX0_halveAll_34 : decode cX0_halveAll 34 = .ok (.invokevirtual 64, 3) := by decide +kernel
theorem dX0_halveAll_37 : decode cX0_halveAll 37 = .ok (.ifCond .eq 15, 3) := by decide +kernel
theorem dX0_halveAll_40 : decode cX0_halveAll 40 = .ok (.aload_n 0, 1) := by decide +kernel
theorem dX0_halveAll_41 : decode cX0_halveAll 41 = .ok (.iload_n 3, 1) := by decide +kernel
theorem dX0_halveAll_42 : decode cX0_halveAll 42 = .ok (.invokevirtual 67, 3) := by decide +kernel
theorem dX0_halveAll_45 : decode cX0_halveAll 45 = .ok (.pop, 1) := by decide +kernel
theorem dX0_halveAll_46 : decode cX0_halveAll 46 = .ok (.iinc 4 1, 3) := by decide +kernel
theorem dX0_halveAll_49 : decode cX0_halveAll 49 = .ok (.goto (-25), 3) := by decide +kernel
theorem dX0_halveAll_52 : decode cX0_halveAll 52 = .ok (.iinc 3 1, 3) := by decide +kernel
theorem dX0_halveAll_55 : decode cX0_halveAll 55 = .ok (.goto (-48), 3) := by decide +kernel
theorem dX0_halveAll_58 : decode cX0_halveAll 58 = .ok (.aload_n 0, 1) := by decide +kernel
theorem dX0_halveAll_59 : decode cX0_halveAll 59 = .ok (.getfield 46, 3) := by decide +kernel
theorem dX0_halveAll_62 : decode cX0_halveAll 62 = .ok (.iload_n 2, 1) := by decide +kernel
theorem dX0_halveAll_63 : decode cX0_halveAll 63 = .ok (.isub, 1) := by decide +kernel
theorem dX0_halveAll_64 : decode cX0_halveAll 64 = .ok (.ireturn, 1) := by decide +kernel
theorem dX0_give_0 : decode cX0_give 0 = .ok (.iload_n 2, 1) := by decide +kernel
theorem dX0_give_1 : decode cX0_give 1 = .ok (.aload_n 0, 1) := by decide +kernel
theorem dX0_give_2 : decode cX0_give 2 = .ok (.iload_n 1, 1) := by decide +kernel
theorem dX0_give_3 : decode cX0_give 3 = .ok (.invokevirtual 57, 3) := by decide +kernel
theorem dX0_give_6 : decode cX0_give 6 = .ok (.invokestatic 70, 3) := by decide +kernel
theorem dX0_give_9 : decode cX0_give 9 = .ok (.istore_n 3, 1) := by decide +kernel
theorem dX0_give_10 : decode cX0_give 10 = .ok (.iload_n 3, 1) := by decide +kernel
theorem dX0_give_11 : decode cX0_give 11 = .ok (.iconst 1, 1) := by decide +kernel
theorem dX0_give_12 : decode cX0_give 12 = .ok (.if_icmp .lt 12, 3) := by decide +kernel
theorem dX0_give_15 : decode cX0_give 15 = .ok (.aload_n 0, 1) := by decide +kernel
theorem dX0_give_16 : decode cX0_give 16 = .ok (.iload_n 1, 1) := by decide +kernel
theorem dX0_give_17 : decode cX0_give 17 = .ok (.iload_n 3, 1) := by decide +kernel
theorem dX0_give_18 : decode cX0_give 18 = .ok (.invokevirtual 60, 3) := by decide +kernel
theorem dX0_give_21 : decode cX0_give 21 = .ok (.ifCond .ne 5, 3) := by decide +kernel
theorem dX0_give_24 : decode cX0_give 24 = .ok (.iconst 0, 1) := by decide +kernel
theorem dX0_give_25 : decode cX0_give 25 = .ok (.ireturn, 1) := by decide +kernel
theorem dX0_give_26 : decode cX0_give 26 = .ok (.iload_n 1, 1) := by decide +kernel
theorem dX0_give_27 : decode cX0_give 27 = .ok (.iload_n 3, 1) := by decide +kernel
theorem dX0_give_28 : decode cX0_give 28 = .ok (.iadd, 1) := by decide +kernel
theorem dX0_give_29 : decode cX0_give 29 = .ok (.istore 4, 2) := by decide +kernel
theorem dX0_give_31 : decode cX0_give 31 = .ok (.iload_n 1, 1) := by decide +kernel
theorem dX0_give_32 : decode cX0_give 32 = .ok (.istore 5, 2) := by decide +kernel
theorem dX0_give_34 : decode cX0_give 34 = .ok (.iload 5, 2) := by decide +kernel
theorem dX0_give_36 : decode cX0_give 36 = .ok (.iload 4, 2) := by decide +kernel
theorem dX0_give_38 : decode cX0_give 38 = .ok (.if_icmp .ge 37, 3) := by decide +kernel
theorem dX0_give_41 : decode cX0_give 41 = .ok (.aload_n 0, 1) := by decide +kernel
theorem dX0_give_42 : decode cX0_give 42 = .ok (.iload 5, 2) := by decide +kernel
theorem dX0_give_44 : decode cX0_give 44 = .ok (.aload_n 0, 1) := by decide +kernel
theorem dX0_give_45 : decode cX0_give 45 = .ok (.aload_n 0, 1) := by decide +kernel
theorem dX0_give_46 : decode cX0_give 46 = .ok (.getfield 22, 3) := by decide +kernel
theorem dX0_give_49 : decode cX0_give 49 = .ok (.iload 4, 2) := by decide +kernel
theorem dX0_give_51 : decode cX0_give 51 = .ok (.iaload, 1) := by decide +kernel
theorem dX0_give_52 : decode cX0_give 52 = .ok (.invokevirtual 76, 3) := by decide +kernel
theorem dX0_give_55 : decode cX0_give 55 = .ok (.invokevirtual 79, 3) := by decide +kernel
theorem dX0_give_58 : decode cX0_give 58 = .ok (.aload_n 0, 1) := by decide +kernel
theorem dX0_give_59 : decode cX0_give 59 = .ok (.getfield 22, 3) := by decide +kernel
theorem dX0_give_62 : decode cX0_give 62 = .ok (.iload 4, 2) := by decide +kernel
theorem dX0_give_64 : decode cX0_give 64 = .ok (.dup2, 1) := by decide +kernel
theorem dX0_give_65 : decode cX0_give 65 = .ok (.iaload, 1) := by decide +kernel
theorem dX0_give_66 : decode cX0_give 66 = .ok (.iconst 1, 1) := by decide +kernel
theorem dX0_give_67 : decode cX0_give 67 = .ok (.iadd, 1) := by decide +kernel
theorem dX0_give_68 : decode cX0_give 68 = .ok (.iastore, 1) := by decide +kernel
theorem dX0_give_69 : decode cX0_give 69 = .ok (.iinc 5 1, 3) := by decide +kernel
theorem dX0_give_72 : decode cX0_give 72 = .ok (.goto (-38), 3) := by decide +kernel
theorem dX0_give_75 : decode cX0_give 75 = .ok (.iload_n 3, 1) := by decide +kernel
theorem dX0_give_76 : decode cX0_give 76 = .ok (.ireturn, 1) := by decide +kernel
theorem dX0_removeEmpty_0 : decode cX0_removeEmpty 0 = .ok (.iconst 0, 1) := by decide +kernel
theorem dX0_removeEmpty_1 : decode cX0_removeEmpty 1 = .ok (.istore_n 1, 1) := by decide +kernel
theorem dX0_removeEmpty_2 : decode cX0_removeEmpty 2 = .ok (.iconst 0, 1) := by decide +kernel
theorem dX0_removeEmpty_3 : decode cX0_removeEmpty 3 = .ok (.istore_n 2, 1) := by decide +kernel
theorem dX0_removeEmpty_4 : decode cX0_removeEmpty 4 = .ok (.iload_n 2, 1) := by decide +kernel
theorem dX0_removeEmpty_5 : decode cX0_removeEmpty 5 = .ok (.aload_n 0, 1) := by decide +kernel
theorem dX0_removeEmpty_6 : decode cX0_removeEmpty 6 = .ok (.getfield 46, 3) := by decide +kernel
theorem dX0_removeEmpty_9 : decode cX0_removeEmpty 9 = .ok (.if_icmp .ge 26, 3) := by decide +kernel
theorem dX0_removeEmpty_12 : decode cX0_removeEmpty 12 = .ok (.aload_n 0, 1) := by decide +kernel
theorem dX0_removeEmpty_13 : decode cX0_removeEmpty 13 = .ok (.iload_n 2, 1) := by decide +kernel
theorem dX0_removeEmpty_14 : decode cX0_removeEmpty 14 = .ok (.invokevirtual 53, 3) := by decide +kernel
theorem dX0_removeEmpty_17 : decode cX0_removeEmpty 17 = .ok (.ifCond .le 12, 3) := by decide +kernel
theorem dX0_removeEmpty_20 : decode cX0_removeEmpty 20 = .ok (.aload_n 0, 1) := by decide +kernel
theorem dX0_removeEmpty_21 : decode cX0_removeEmpty 21 = .ok (.iload_n 2, 1) := by decide +kernel
theorem dX0_removeEmpty_22 : decode cX0_removeEmpty 22 = .ok (.iload_n 1, 1) := by decide +kernel
theorem dX0_removeEmpty_23 : decode cX0_removeEmpty 23 = .ok (.invokevirtual 83, 3) := by decide +kernel
theorem dX0_removeEmpty_26 : decode cX0_removeEmpty 26 = .ok (.iinc 1 1, 3) := by decide +kernel
theorem dX0_removeEmpty_29 : decode cX0_removeEmpty 29 = .ok (.iinc 2 1, 3) := by decide +kernel
theorem dX0_removeEmpty_32 : decode cX0_removeEmpty 32 = .ok (.goto (-28), 3) := by decide +kernel
theorem dX0_removeEmpty_35 : decode cX0_removeEmpty 35 = .ok (.aload_n 0, 1) := by decide +kernel
theorem dX0_removeEmpty_36 : decode cX0_removeEmpty 36 = .ok (.getfield 46, 3) := by decide +kernel
theorem dX0_removeEmpty_39 : decode cX0_removeEmpty 39 = .ok (.iload_n 1, 1) := by decide +kernel
theorem dX0_removeEmpty_40 : decode cX0_removeEmpty 40 = .ok (.isub, 1) := by decide +kernel
theorem dX0_removeEmpty_41 : decode cX0_removeEmpty 41 = .ok (.istore_n 2, 1) := by decide +kernel
theorem dX0_removeEmpty_42 : decode cX0_removeEmpty 42 = .ok (.aload_n 0, 1) := by decide +kernel
theorem dX0_removeEmpty_43 : decode cX0_removeEmpty 43 = .ok (.iload_n 1, 1) := by decide +kernel
theorem dX0_removeEmpty_44 : decode cX0_removeEmpty 44 = .ok (.putfield 46, 3) := by decide +kernel
theorem dX0_removeEmpty_47 : decode cX0_removeEmpty 47 = .ok (.iload_n 2, 1) := by decide +kernel
theorem dX0_removeEmpty_48 : decode cX0_removeEmpty 48 = .ok (.ireturn, 1) := by decide +kernel
theorem dX0_isWholePart_0 : decode cX0_isWholePart 0 = .ok (.aload_n 0, 1) := by decide +kernel
theorem dX0_isWholePart_1 : decode cX0_isWholePart 1 = .ok (.invokevirtual 87, 3) := by decide +kernel
theorem dX0_isWholePart_4 : decode cX0_isWholePart 4 = .ok (.aload_n 0, 1) := by decide +kernel
theorem dX0_isWholePart_5 : decode cX0_isWholePart 5 = .ok (.getfield 46, 3) := by decide +kernel
theorem dX0_isWholePart_8 : decode cX0_isWholePart 8 = .ok (.if_icmp .ne 14, 3) := by decide +kernel
theorem dX0_isWholePart_11 : decode cX0_isWholePart 11 = .ok (.aload_n 0, 1) := by decide +kernel
theorem dX0_isWholePart_12 : decode cX0_isWholePart 12 = .ok (.invokevirtual 91, 3) := by decide +kernel
theorem dX0_isWholePart_15 : decode cX0_isWholePart 15 = .ok (.ifCond .eq 7, 3) := by decide +kernel
theorem dX0_isWholePart_18 : decode cX0_isWholePart 18 = .ok (.iconst 1, 1) := by decide +kernel
theorem dX0_isWholePart_19 : decode cX0_isWholePart 19 = .ok (.goto 4, 3) := by decide +kernel
theorem dX0_isWholePart_22 : decode cX0_isWholePart 22 = .ok (.iconst 0, 1) := by decide +kernel
theorem dX0_isWholePart_23 : decode cX0_isWholePart 23 = .ok (.ireturn, 1) := by decide +kernel
theorem dX0_countNumbers_0 : decode cX0_countNumbers 0 = .ok (.iconst 0, 1) := by decide +kernel
theorem dX0_countNumbers_1 : decode cX0_countNumbers 1 = .ok (.istore_n 1, 1) := by decide +kernel
theorem dX0_countNumbers_2 : decode cX0_countNumbers 2 = .ok (.iconst 0, 1) := by decide +kernel
theorem dX0_countNumbers_3 : decode cX0_countNumbers 3 = .ok (.istore_n 2, 1) := by decide +kernel
theorem dX0_countNumbers_4 : decode cX0_countNumbers 4 = .ok (.iload_n 2, 1) := by decide +kernel
theorem dX0_countNumbers_5 : decode cX0_countNumbers 5 = .ok (.aload_n 0, 1) := by decide +kernel
theorem dX0_countNumbers_6 : decode cX0_countNumbers 6 = .ok (.getfield 46, 3) := by decide +kernel
theorem dX0_countNumbers_9 : decode cX0_countNumbers 9 = .ok (.if_icmp .ge 25, 3) := by decide +kernel
theorem dX0_countNumbers_12 : decode cX0_countNumbers 12 = .ok (.iload_n 1, 1) := by decide +kernel
theorem dX0_countNumbers_13 : decode cX0_countNumbers 13 = .ok (.aload_n 0, 1) := by decide +kernel
theorem dX0_countNumbers_14 : decode cX0_countNumbers 14 = .ok (.iload_n 2, 1) := by decide +kernel
theorem dX0_countNumbers_15 : decode cX0_countNumbers 15 = .ok (.invokevirtual 49, 3) := by decide +kernel
theorem dX0_countNumbers_18 : decode cX0_countNumbers 18 = .ok (.ifCond .eq 7, 3) := by decide +kernel
theorem dX0_countNumbers_21 : decode cX0_countNumbers 21 = .ok (.iconst 1, 1) := by decide +kernel
theorem dX0_countNumbers_22 : decode cX0_countNumbers 22 = .ok (.goto 4, 3) := by decide +kernel
theorem dX0_countNumbers_25 : decode cX0_countNumbers 25 = .ok (.iconst 0, 1) := by decide +kernel
theorem dX0_countNumbers_26 : decode cX0_countNumbers 26 = .ok (.iadd, 1) := by decide +kernel
theorem dX0_countNumbers_27 : decode cX0_countNumbers 27 = .ok (.istore_n 1, 1) := by decide +kernel
theorem dX0_countNumbers_28 : decode cX0_countNumbers 28 = .ok (.iinc 2 1, 3) := by decide +kernel
theorem dX0_countNumbers_31 : decode cX0_countNumbers 31 = .ok (.goto (-27), 3) := by decide +kernel
theorem dX0_countNumbers_34 : decode cX0_countNumbers 34 = .ok (.iload_n 1, 1) := by decide +kernel
theorem dX0_countNumbers_35 : decode cX0_countNumbers 35 = .ok (.ireturn, 1) := by decide +kernel
theorem dX0_countLeft_0 : decode cX0_countLeft 0 = .ok (.iconst 0, 1) := by decide +kernel
theorem dX0_countLeft_1 : decode cX0_countLeft 1 = .ok (.istore_n 1, 1) := by decide +kernel
theorem dX0_countLeft_2 : decode cX0_countLeft 2 = .ok (.iconst 0, 1) := by decide +kernel
theorem dX0_countLeft_3 : decode cX0_countLeft 3 = .ok (.istore_n 2, 1) := by decide +kernel
theorem dX0_countLeft_4 : decode cX0_countLeft 4 = .ok (.iload_n 2, 1) := by decide +kernel
theorem dX0_countLeft_5 : decode cX0_countLeft 5 = .ok (.aload_n 0, 1) := by decide +kernel
theorem dX0_countLeft_6 : decode cX0_countLeft 6 = .ok (.getfield 46, 3) := by decide +kernel
theorem dX0_countLeft_9 : decode cX0_countLeft 9 = .ok (.if_icmp .ge 17, 3) := by decide +kernel
theorem dX0_countLeft_12 : decode cX0_countLeft 12 = .ok (.iload_n 1, 1) := by decide +kernel
theorem dX0_countLeft_13 : decode cX0_countLeft 13 = .ok (.aload_n 0, 1) := by decide +kernel
theorem dX0_countLeft_14 : decode cX0_countLeft 14 = .ok (.iload_n 2, 1) := by decide +kernel
theorem dX0_countLeft_15 : decode cX0_countLeft 15 = .ok (.invokevirtual 57, 3) := by decide +kernel
theorem dX0_countLeft_18 : decode cX0_countLeft 18 = .ok (.iadd, 1) := by decide +kernel
theorem dX0_countLeft_19 : decode cX0_countLeft 19 = .ok (.istore_n 1, 1) := by decide +kernel
theorem dX0_countLeft_20 : decode cX0_countLeft 20 = .ok (.iinc 2 1, 3) := by decide +kernel
theorem dX0_countLeft_23 : decode cX0_countLeft 23 = .ok (.goto (-19), 3) := by decide +kernel
theorem dX0_countLeft_26 : decode cX0_countLeft 26 = .ok (.iload_n 1, 1) := by decide +kernel
theorem dX0_countLeft_27 : decode cX0_countLeft 27 = .ok (.ireturn, 1) := by decide +kernel
theorem dX0_addTo_0 : decode cX0_addTo 0 = .ok (.ldc2_w 95, 3) := by decide +kernel
theorem dX0_addTo_3 : decode cX0_addTo 3 = .ok (.lload_n 1, 1) := by decide +kernel
theorem dX0_addTo_4 : decode cX0_addTo 4 = .ok (.lmul, 1) := by decide +kernel
theorem dX0_addTo_5 : decode cX0_addTo 5 = .ok (.aload_n 0, 1) := by decide +kernel
theorem dX0_addTo_6 : decode cX0_addTo 6 = .ok (.getfield 46, 3) := by decide +kernel
theorem dX0_addTo_9 : decode cX0_addTo 9 = .ok (.i2l, 1) := by decide +kernel
theorem dX0_addTo_10 : decode cX0_addTo 10 = .ok (.ladd, 1) := by decide +kernel
theorem dX0_addTo_11 : decode cX0_addTo 11 = .ok (.lstore_n 3, 1) := by decide +kernel
theorem dX0_addTo_12 : decode cX0_addTo 12 = .ok (.iconst 0, 1) := by decide +kernel
theorem dX0_addTo_13 : decode cX0_addTo 13 = .ok (.istore 5, 2) := by decide +kernel
theorem dX0_addTo_15 : decode cX0_addTo 15 = .ok (.iload 5, 2) := by decide +kernel
theorem dX0_addTo_17 : decode cX0_addTo 17 = .ok (.aload_n 0, 1) := by decide +kernel
theorem dX0_addTo_18 : decode cX0_addTo 18 = .ok (.getfield 46, 3) := by decide +kernel
theorem dX0_addTo_21 : decode cX0_addTo 21 = .ok (.if_icmp .ge 57, 3) := by decide +kernel
theorem dX0_addTo_24 : decode cX0_addTo 24 = .ok (.ldc2_w 95, 3) := by decide +kernel
theorem dX0_addTo_27 : decode cX0_addTo 27 = .ok (.lload_n 3, 1) := by decide +kernel
theorem dX0_addTo_28 : decode cX0_addTo 28 = .ok (.lmul, 1) := by decide +kernel
theorem dX0_addTo_29 : decode cX0_addTo 29 = .ok (.aload_n 0, 1) := by decide +kernel
theorem dX0_addTo_30 : decode cX0_addTo 30 = .ok (.getfield 15, 3) := by decide +kernel
theorem dX0_addTo_33 : decode cX0_addTo 33 = .ok (.iload 5, 2) := by decide +kernel
theorem dX0_addTo_35 : decode cX0_addTo 35 = .ok (.iaload, 1) := by decide +kernel
theorem dX0_addTo_36 : decode cX0_addTo 36 = .ok (.i2l, 1) := by decide +kernel
theorem dX0_addTo_37 : decode cX0_addTo 37 = .ok (.ladd, 1) := by decide +kernel
theorem dX0_addTo_38 : decode cX0_addTo 38 = .ok (.lstore_n 3, 1) := by decide +kernel
theorem dX0_addTo_39 : decode cX0_addTo 39 = .ok (.ldc2_w 95, 3) := by decide +kernel
theorem dX0_addTo_42 : decode cX0_addTo 42 = .ok (.lload_n 3, 1) := by decide +kernel
theorem dX0_addTo_43 : decode cX0_addTo 43 = .ok (.lmul, 1) := by decide +kernel
theorem dX0_addTo_44 : decode cX0_addTo 44 = .ok (.aload_n 0, 1) := by decide +kernel
theorem dX0_addTo_45 : decode cX0_addTo 45 = .ok (.iload 5, 2) := by decide +kernel
theorem dX0_addTo_47 : decode cX0_addTo 47 = .ok (.invokevirtual 49, 3) := by decide +kernel
theorem dX0_addTo_50 : decode cX0_addTo 50 = .ok (.ifCond .eq 13, 3) := by decide +kernel
theorem dX0_addTo_53 : decode cX0_addTo 53 = .ok (.aload_n 0, 1) := by decide +kernel
theorem dX0_addTo_54 : decode cX0_addTo 54 = .ok (.getfield 19, 3) := by decide +kernel
theorem dX0_addTo_57 : decode cX0_addTo 57 = .ok (.iload 5, 2) := by decide +kernel
theorem dX0_addTo_59 : decode cX0_addTo 59 = .ok (.laload, 1) := by decide +kernel
theorem dX0_addTo_60 : decode cX0_addTo 60 = .ok (.goto 10, 3) := by decide +kernel
theorem dX0_addTo_63 : decode cX0_addTo 63 = .ok (.aload_n 0, 1) := by decide +kernel
theorem dX0_addTo_64 : decode cX0_addTo 64 = .ok (.iload 5, 2) := by decide +kernel
theorem dX0_addTo_66 : decode cX0_addTo 66 = .ok (.invokevirtual 57, 3) := by decide +kernel
theorem dX0_addTo_69 : decode cX0_addTo 69 = .ok (.i2l, 1) := by decide +kernel
theorem dX0_addTo_70 : decode cX0_addTo 70 = .ok (.ladd, 1) := by decide +kernel
theorem dX0_addTo_71 : decode cX0_addTo 71 = .ok (.lstore_n 3, 1) := by decide +kernel
theorem dX0_addTo_72 : decode cX0_addTo 72 = .ok (.iinc 5 1, 3) := by decide +kernel
theorem dX0_addTo_75 : decode cX0_addTo 75 = .ok (.goto (-60), 3) := by decide +kernel
theorem dX0_addTo_78 : decode cX0_addTo 78 = .ok (.lload_n 3, 1) := by decide +kernel
theorem dX0_addTo_79 : decode cX0_addTo 79 = .ok (.lreturn, 1) := by decide +kernel
theorem dX0_isInOrder_0 : decode cX0_isInOrder 0 = .ok (.iconst 0, 1) := by decide +kernel
theorem dX0_isInOrder_1 : decode cX0_isInOrder 1 = .ok (.istore_n 1, 1) := by decide +kernel
theorem dX0_isInOrder_2 : decode cX0_isInOrder 2 = .ok (.iconst 0, 1) := by decide +kernel
theorem dX0_isInOrder_3 : decode cX0_isInOrder 3 = .ok (.istore_n 2, 1) := by decide +kernel
theorem dX0_isInOrder_4 : decode cX0_isInOrder 4 = .ok (.iload_n 2, 1) := by decide +kernel
theorem dX0_isInOrder_5 : decode cX0_isInOrder 5 = .ok (.aload_n 0, 1) := by decide +kernel
theorem dX0_isInOrder_6 : decode cX0_isInOrder 6 = .ok (.getfield 46, 3) := by decide +kernel
theorem dX0_isInOrder_9 : decode cX0_isInOrder 9 = .ok (.if_icmp .ge 28, 3) := by decide +kernel
theorem dX0_isInOrder_12 : decode cX0_isInOrder 12 = .ok (.aload_n 0, 1) := by decide +kernel
theorem dX0_isInOrder_13 : decode cX0_isInOrder 13 = .ok (.iload_n 2, 1) := by decide +kernel
theorem dX0_isInOrder_14 : decode cX0_isInOrder 14 = .ok (.iload_n 1, 1) := by decide +kernel
theorem dX0_isInOrder_15 : decode cX0_isInOrder 15 = .ok (.invokevirtual 97, 3) := by decide +kernel
theorem dX0_isInOrder_18 : decode cX0_isInOrder 18 = .ok (.ifCond .ne 5, 3) := by decide +kernel
theorem dX0_isInOrder_21 : decode cX0_isInOrder 21 = .ok (.iconst 0, 1) := by decide +kernel
theorem dX0_isInOrder_22 : decode cX0_isInOrder 22 = .ok (.ireturn, 1) := by decide +kernel
theorem dX0_isInOrder_23 : decode cX0_isInOrder 23 = .ok (.iload_n 1, 1) := by decide +kernel
theorem dX0_isInOrder_24 : decode cX0_isInOrder 24 = .ok (.aload_n 0, 1) := by decide +kernel
theorem dX0_isInOrder_25 : decode cX0_isInOrder 25 = .ok (.iload_n 2, 1) := by decide +kernel
theorem dX0_isInOrder_26 : decode cX0_isInOrder 26 = .ok (.invokevirtual 53, 3) := by decide +kernel
theorem dX0_isInOrder_29 : decode cX0_isInOrder 29 = .ok (.iadd, 1) := by decide +kernel
theorem dX0_isInOrder_30 : decode cX0_isInOrder 30 = .ok (.istore_n 1, 1) := by decide +kernel
theorem dX0_isInOrder_31 : decode cX0_isInOrder 31 = .ok (.iinc 2 1, 3) := by decide +kernel
theorem dX0_isInOrder_34 : decode cX0_isInOrder 34 = .ok (.goto (-30), 3) := by decide +kernel
theorem dX0_isInOrder_37 : decode cX0_isInOrder 37 = .ok (.iload_n 1, 1) := by decide +kernel
theorem dX0_isInOrder_38 : decode cX0_isInOrder 38 = .ok (.aload_n 0, 1) := by decide +kernel
theorem dX0_isInOrder_39 : decode cX0_isInOrder 39 = .ok (.getfield 28, 3) := by decide +kernel
theorem dX0_isInOrder_42 : decode cX0_isInOrder 42 = .ok (.if_icmp .ne 7, 3) := by decide +kernel
theorem dX0_isInOrder_45 : decode cX0_isInOrder 45 = .ok (.iconst 1, 1) := by decide +kernel
theorem dX0_isInOrder_46 : decode cX0_isInOrder 46 = .ok (.goto 4, 3) := by decide +kernel
theorem dX0_isInOrder_49 : decode cX0_isInOrder 49 = .ok (.iconst 0, 1) := by decide +kernel
theorem dX0_isInOrder_50 : decode cX0_isInOrder 50 = .ok (.ireturn, 1) := by decide +kernel
theorem dX0_standsAt_0 : decode cX0_standsAt 0 = .ok (.aload_n 0, 1) := by decide +kernel
theorem dX0_standsAt_1 : decode cX0_standsAt 1 = .ok (.iload_n 1, 1) := by decide +kernel
theorem dX0_standsAt_2 : decode cX0_standsAt 2 = .ok (.invokevirtual 49, 3) := by decide +kernel
theorem dX0_standsAt_5 : decode cX0_standsAt 5 = .ok (.ifCond .eq 33, 3) := by decide +kernel
theorem dX0_standsAt_8 : decode cX0_standsAt 8 = .ok (.iload_n 2, 1) := by decide +kernel
theorem dX0_standsAt_9 : decode cX0_standsAt 9 = .ok (.aload_n 0, 1) := by decide +kernel
theorem dX0_standsAt_10 : decode cX0_standsAt 10 = .ok (.getfield 28, 3) := by decide +kernel
theorem dX0_standsAt_13 : decode cX0_standsAt 13 = .ok (.if_icmp .ge 23, 3) := by decide +kernel
theorem dX0_standsAt_16 : decode cX0_standsAt 16 = .ok (.aload_n 0, 1) := by decide +kernel
theorem dX0_standsAt_17 : decode cX0_standsAt 17 = .ok (.getfield 19, 3) := by decide +kernel
theorem dX0_standsAt_20 : decode cX0_standsAt 20 = .ok (.iload_n 1, 1) := by decide +kernel
theorem dX0_standsAt_21 : decode cX0_standsAt 21 = .ok (.laload, 1) := by decide +kernel
theorem dX0_standsAt_22 : decode cX0_standsAt 22 = .ok (.aload_n 0, 1) := by decide +kernel
theorem dX0_standsAt_23 : decode cX0_standsAt 23 = .ok (.getfield 9, 3) := by decide +kernel
theorem dX0_standsAt_26 : decode cX0_standsAt 26 = .ok (.iload_n 2, 1) := by decide +kernel
theorem dX0_standsAt_27 : decode cX0_standsAt 27 = .ok (.laload, 1) := by decide +kernel
theorem dX0_standsAt_28 : decode cX0_standsAt 28 = .ok (.lcmp, 1) := by decide +kernel
theorem dX0_standsAt_29 : decode cX0_standsAt 29 = .ok (.ifCond .ne 7, 3) := by decide +kernel
theorem dX0_standsAt_32 : decode cX0_standsAt 32 = .ok (.iconst 1, 1) := by decide +kernel
theorem dX0_standsAt_33 : decode cX0_standsAt 33 = .ok (.goto 4, 3) := by decide +kernel
theorem dX0_standsAt_36 : decode cX0_standsAt 36 = .ok (.iconst 0, 1) := by decide +kernel
theorem dX0_standsAt_37 : decode cX0_standsAt 37 = .ok (.ireturn, 1) := by decide +kernel
theorem dX0_standsAt_38 : decode cX0_standsAt 38 = .ok (.aload_n 0, 1) := by decide +kernel
theorem dX0_standsAt_39 : decode cX0_standsAt 39 = .ok (.getfield 22, 3) := by decide +kernel
theorem dX0_standsAt_42 : decode cX0_standsAt 42 = .ok (.iload_n 1, 1) := by decide +kernel
theorem dX0_standsAt_43 : decode cX0_standsAt 43 = .ok (.iaload, 1) := by decide +kernel
theorem dX0_standsAt_44 : decode cX0_standsAt 44 = .ok (.iload_n 2, 1) := by decide +kernel
theorem dX0_standsAt_45 : decode cX0_standsAt 45 = .ok (.if_icmp .ne 30, 3) := by decide +kernel
theorem dX0_standsAt_48 : decode cX0_standsAt 48 = .ok (.aload_n 0, 1) := by decide +kernel
theorem dX0_standsAt_49 : decode cX0_standsAt 49 = .ok (.getfield 25, 3) := by decide +kernel
theorem dX0_standsAt_52 : decode cX0_standsAt 52 = .ok (.iload_n 1, 1) := by decide +kernel
theorem dX0_standsAt_53 : decode cX0_standsAt 53 = .ok (.iaload, 1) := by decide +kernel
theorem dX0_standsAt_54 : decode cX0_standsAt 54 = .ok (.iload_n 2, 1) := by decide +kernel
theorem dX0_standsAt_55 : decode cX0_standsAt 55 = .ok (.if_icmp .lt 20, 3) := by decide +kernel
theorem dX0_standsAt_58 : decode cX0_standsAt 58 = .ok (.aload_n 0, 1) := by decide +kernel
theorem dX0_standsAt_59 : decode cX0_standsAt 59 = .ok (.getfield 25, 3) := by decide +kernel
theorem dX0_standsAt_62 : decode cX0_standsAt 62 = .ok (.iload_n 1, 1) := by decide +kernel
theorem dX0_standsAt_63 : decode cX0_standsAt 63 = .ok (.iaload, 1) := by decide +kernel
theorem dX0_standsAt_64 : decode cX0_standsAt 64 = .ok (.aload_n 0, 1) := by decide +kernel
theorem dX0_standsAt_65 : decode cX0_standsAt 65 = .ok (.getfield 28, 3) := by decide +kernel
theorem dX0_standsAt_68 : decode cX0_standsAt 68 = .ok (.if_icmp .gt 7, 3) := by decide +kernel
theorem dX0_standsAt_71 : decode cX0_standsAt 71 = .ok (.iconst 1, 1) := by decide +kernel
theorem dX0_standsAt_72 : decode cX0_standsAt 72 = .ok (.goto 4, 3) := by decide +kernel
theorem dX0_standsAt_75 : decode cX0_standsAt 75 = .ok (.iconst 0, 1) := by decide +kernel
theorem dX0_standsAt_76 : decode cX0_standsAt 76 = .ok (.istore_n 3, 1) := by decide +kernel
theorem dX0_standsAt_77 : decode cX0_standsAt 77 = .ok (.iload_n 3, 1) := by decide +kernel
theorem dX0_standsAt_78 : decode cX0_standsAt 78 = .ok (.ifCond .eq 29, 3) := by decide +kernel
theorem dX0_standsAt_81 : decode cX0_standsAt 81 = .ok (.aload_n 0, 1) := by decide +kernel
theorem dX0_standsAt_82 : decode cX0_standsAt 82 = .ok (.getfield 15, 3) := by decide +kernel
theorem dX0_standsAt_85 : decode cX0_standsAt 85 = .ok (.iload_n 1, 1) := by decide +kernel
theorem dX0_standsAt_86 : decode cX0_standsAt 86 = .ok (.iaload, 1) := by decide +kernel
theorem dX0_standsAt_87 : decode cX0_standsAt 87 = .ok (.bipush 116, 2) := by decide +kernel
theorem dX0_standsAt_89 : decode cX0_standsAt 89 = .ok (.if_icmp .eq 14, 3) := by decide +kernel
theorem dX0_standsAt_92 : decode cX0_standsAt 92 = .ok (.aload_n 0, 1) := by decide +kernel
theorem dX0_standsAt_93 : decode cX0_standsAt 93 = .ok (.iload_n 1, 1) := by decide +kernel
theorem dX0_standsAt_94 : decode cX0_standsAt 94 = .ok (.sipush 17488, 3) := by decide +kernel
theorem dX0_standsAt_97 : decode cX0_standsAt 97 = .ok (.invokevirtual 100, 3) := by decide +kernel
theorem dX0_standsAt_100 : decode cX0_standsAt 100 = .ok (.ifCond .eq 7, 3) := by decide +kernel
theorem dX0_standsAt_103 : decode cX0_standsAt 103 = .ok (.iconst 1, 1) := by decide +kernel
theorem dX0_standsAt_104 : decode cX0_standsAt 104 = .ok (.goto 4, 3) := by decide +kernel
theorem dX0_standsAt_107 : decode cX0_standsAt 107 = .ok (.iconst 0, 1) := by decide +kernel
theorem dX0_standsAt_108 : decode cX0_standsAt 108 = .ok (.ireturn, 1) := by decide +kernel
theorem dX0_width_0 : decode cX0_width 0 = .ok (.aload_n 0, 1) := by decide +kernel
theorem dX0_width_1 : decode cX0_width 1 = .ok (.iload_n 1, 1) := by decide +kernel
theorem dX0_width_2 : decode cX0_width 2 = .ok (.invokevirtual 49, 3) := by decide +kernel
theorem dX0_width_5 : decode cX0_width 5 = .ok (.ifCond .eq 7, 3) := by decide +kernel
theorem dX0_width_8 : decode cX0_width 8 = .ok (.iconst 1, 1) := by decide +kernel
theorem dX0_width_9 : decode cX0_width 9 = .ok (.goto 8, 3) := by decide +kernel
theorem dX0_width_12 : decode cX0_width 12 = .ok (.aload_n 0, 1) := by decide +kernel
theorem dX0_width_13 : decode cX0_width 13 = .ok (.iload_n 1, 1) := by decide +kernel
theorem dX0_width_14 : decode cX0_width 14 = .ok (.invokevirtual 57, 3) := by decide +kernel
theorem dX0_width_17 : decode cX0_width 17 = .ok (.ireturn, 1) := by decide +kernel
theorem dX0_isTooLong_0 : decode cX0_isTooLong 0 = .ok (.aload_n 0, 1) := by decide +kernel
theorem dX0_isTooLong_1 : decode cX0_isTooLong 1 = .ok (.getfield 15, 3) := by decide +kernel
theorem dX0_isTooLong_4 : decode cX0_isTooLong 4 = .ok (.iload_n 1, 1) := by decide +kernel
theorem dX0_isTooLong_5 : decode cX0_isTooLong 5 = .ok (.iaload, 1) := by decide +kernel
theorem dX0_isTooLong_6 : decode cX0_isTooLong 6 = .ok (.bipush 112, 2) := by decide +kernel
theorem dX0_isTooLong_8 : decode cX0_isTooLong 8 = .ok (.if_icmp .ne 16, 3) := by decide +kernel
theorem dX0_isTooLong_11 : decode cX0_isTooLong 11 = .ok (.aload_n 0, 1) := by decide +kernel
theorem dX0_isTooLong_12 : decode cX0_isTooLong 12 = .ok (.iload_n 1, 1) := by decide +kernel
theorem dX0_isTooLong_13 : decode cX0_isTooLong 13 = .ok (.invokevirtual 57, 3) := by decide +kernel
theorem dX0_isTooLong_16 : decode cX0_isTooLong 16 = .ok (.iload_n 2, 1) := by decide +kernel
theorem dX0_isTooLong_17 : decode cX0_isTooLong 17 = .ok (.if_icmp .le 7, 3) := by decide +kernel
theorem dX0_isTooLong_20 : decode cX0_isTooLong 20 = .ok (.iconst 1, 1) := by decide +kernel
theorem dX0_isTooLong_21 : decode cX0_isTooLong 21 = .ok (.goto 4, 3) := by decide +kernel
theorem dX0_isTooLong_24 : decode cX0_isTooLong 24 = .ok (.iconst 0, 1) := by decide +kernel
theorem dX0_isTooLong_25 : decode cX0_isTooLong 25 = .ok (.ireturn, 1) := by decide +kernel
theorem dX0_partAt_0 : decode cX0_partAt 0 = .ok (.iload_n 1, 1) := by decide +kernel
theorem dX0_partAt_1 : decode cX0_partAt 1 = .ok (.ifCond .lt 20, 3) := by decide +kernel
theorem dX0_partAt_4 : decode cX0_partAt 4 = .ok (.iload_n 1, 1) := by decide +kernel
theorem dX0_partAt_5 : decode cX0_partAt 5 = .ok (.aload_n 0, 1) := by decide +kernel
theorem dX0_partAt_6 : decode cX0_partAt 6 = .ok (.getfield 28, 3) := by decide +kernel
theorem dX0_partAt_9 : decode cX0_partAt 9 = .ok (.if_icmp .ge 12, 3) := by decide +kernel
theorem dX0_partAt_12 : decode cX0_partAt 12 = .ok (.aload_n 0, 1) := by decide +kernel
theorem dX0_partAt_13 : decode cX0_partAt 13 = .ok (.getfield 9, 3) := by decide +kernel
theorem dX0_partAt_16 : decode cX0_partAt 16 = .ok (.iload_n 1, 1) := by decide +kernel
theorem dX0_partAt_17 : decode cX0_partAt 17 = .ok (.laload, 1) := by decide +kernel
theorem dX0_partAt_18 : decode cX0_partAt 18 = .ok (.goto 4, 3) := by decide +kernel
theorem dX0_partAt_21 : decode cX0_partAt 21 = .ok (.lconst 0, 1) := by decide +kernel
theorem dX0_partAt_22 : decode cX0_partAt 22 = .ok (.lreturn, 1) := by decide +kernel
theorem dX0_putPiece_0 : decode cX0_putPiece 0 = .ok (.aload_n 0, 1) := by decide +kernel
theorem dX0_putPiece_1 : decode cX0_putPiece 1 = .ok (.getfield 15, 3) := by decide +kernel
theorem dX0_putPiece_4 : decode cX0_putPiece 4 = .ok (.iload_n 1, 1) := by decide +kernel
theorem dX0_putPiece_5 : decode cX0_putPiece 5 = .ok (.bipush 112, 2) := by decide +kernel
theorem dX0_putPiece_7 : decode cX0_putPiece 7 = .ok (.iastore, 1) := by decide +kernel
theorem dX0_putPiece_8 : decode cX0_putPiece 8 = .ok (.aload_n 0, 1) := by decide +kernel
theorem dX0_putPiece_9 : decode cX0_putPiece 9 = .ok (.getfield 22, 3) := by decide +kernel
theorem dX0_putPiece_12 : decode cX0_putPiece 12 = .ok (.iload_n 1, 1) := by decide +kernel
theorem dX0_putPiece_13 : decode cX0_putPiece 13 = .ok (.iload_n 2, 1) := by decide +kernel
theorem dX0_putPiece_14 : decode cX0_putPiece 14 = .ok (.iastore, 1) := by decide +kernel
theorem dX0_putPiece_15 : decode cX0_putPiece 15 = .ok (.aload_n 0, 1) := by decide +kernel
theorem dX0_putPiece_16 : decode cX0_putPiece 16 = .ok (.getfield 25, 3) := by decide +kernel
theorem dX0_putPiece_19 : decode cX0_putPiece 19 = .ok (.iload_n 1, 1) := by decide +kernel
theorem dX0_putPiece_20 : decode cX0_putPiece 20 = .ok (.iload_n 3, 1) := by decide +kernel
theorem dX0_putPiece_21 : decode cX0_putPiece 21 = .ok (.iastore, 1) := by decide +kernel
theorem dX0_putPiece_22 : decode cX0_putPiece 22 = .ok (.return_, 1) := by decide +kernel
theorem dX0_putNumber_0 : decode cX0_putNumber 0 = .ok (.aload_n 0, 1) := by decide +kernel
theorem dX0_putNumber_1 : decode cX0_putNumber 1 = .ok (.getfield 15, 3) := by decide +kernel
theorem dX0_putNumber_4 : decode cX0_putNumber 4 = .ok (.iload_n 1, 1) := by decide +kernel
theorem dX0_putNumber_5 : decode cX0_putNumber 5 = .ok (.bipush 110, 2) := by decide +kernel
theorem dX0_putNumber_7 : decode cX0_putNumber 7 = .ok (.iastore, 1) := by decide +kernel
theorem dX0_putNumber_8 : decode cX0_putNumber 8 = .ok (.aload_n 0, 1) := by decide +kernel
theorem dX0_putNumber_9 : decode cX0_putNumber 9 = .ok (.getfield 19, 3) := by decide +kernel
theorem dX0_putNumber_12 : decode cX0_putNumber 12 = .ok (.iload_n 1, 1) := by decide +kernel
theorem dX0_putNumber_13 : decode cX0_putNumber 13 = .ok (.lload_n 2, 1) := by decide +kernel
theorem dX0_putNumber_14 : decode cX0_putNumber 14 = .ok (.lastore, 1) := by decide +kernel
theorem dX0_putNumber_15 : decode cX0_putNumber 15 = .ok (.return_, 1) := by decide +kernel
theorem dX0_copyItem_0 : decode cX0_copyItem 0 = .ok (.aload_n 0, 1) := by decide +kernel
theorem dX0_copyItem_1 : decode cX0_copyItem 1 = .ok (.getfield 15, 3) := by decide +kernel
theorem dX0_copyItem_4 : decode cX0_copyItem 4 = .ok (.iload_n 2, 1) := by decide +kernel
theorem dX0_copyItem_5 : decode cX0_copyItem 5 = .ok (.aload_n 0, 1) := by decide +kernel
theorem dX0_copyItem_6 : decode cX0_copyItem 6 = .ok (.getfield 15, 3) := by decide +kernel
theorem dX0_copyItem_9 : decode cX0_copyItem 9 = .ok (.iload_n 1, 1) := by decide +kernel
theorem dX0_copyItem_10 : decode cX0_copyItem 10 = .ok (.iaload, 1) := by decide +kernel
theorem dX0_copyItem_11 : decode cX0_copyItem 11 = .ok (.iastore, 1) := by decide +kernel
theorem dX0_copyItem_12 : decode cX0_copyItem 12 = .ok (.aload_n 0, 1) := by decide +kernel
theorem dX0_copyItem_13 : decode cX0_copyItem 13 = .ok (.getfield 19, 3) := by decide +kernel
theorem dX0_copyItem_16 : decode cX0_copyItem 16 = .ok (.iload_n 2, 1) := by decide +kernel
theorem dX0_copyItem_17 : decode cX0_copyItem 17 = .ok (.aload_n 0, 1) := by decide +kernel
theorem dX0_copyItem_18 : decode cX0_copyItem 18 = .ok (.getfield 19, 3) := by decide +kernel
theorem dX0_copyItem_21 : decode cX0_copyItem 21 = .ok (.iload_n 1, 1) := by decide +kernel
theorem dX0_copyItem_22 : decode cX0_copyItem 22 = .ok (.laload, 1) := by decide +kernel
theorem dX0_copyItem_23 : decode cX0_copyItem 23 = .ok (.lastore, 1) := by decide +kernel
theorem dX0_copyItem_24 : decode cX0_copyItem 24 = .ok (.aload_n 0, 1) := by decide +kernel
theorem dX0_copyItem_25 : decode cX0_copyItem 25 = .ok (.getfield 22, 3) := by decide +kernel
theorem dX0_copyItem_28 : decode cX0_copyItem 28 = .ok (.iload_n 2, 1) := by decide +kernel
theorem dX0_copyItem_29 : decode cX0_copyItem 29 = .ok (.aload_n 0, 1) := by decide +kernel
theorem dX0_copyItem_30 : decode cX0_copyItem 30 = .ok (.getfield 22, 3) := by decide +kernel
theorem dX0_copyItem_33 : decode cX0_copyItem 33 = .ok (.iload_n 1, 1) := by decide +kernel
theorem dX0_copyItem_34 : decode cX0_copyItem 34 = .ok (.iaload, 1) := by decide +kernel
theorem dX0_copyItem_35 : decode cX0_copyItem 35 = .ok (.iastore, 1) := by decide +kernel
theorem dX0_copyItem_36 : decode cX0_copyItem 36 = .ok (.aload_n 0, 1) := by decide +kernel
theorem dX0_copyItem_37 : decode cX0_copyItem 37 = .ok (.getfield 25, 3) := by decide +kernel
theorem dX0_copyItem_40 : decode cX0_copyItem 40 = .ok (.iload_n 2, 1) := by decide +kernel
theorem dX0_copyItem_41 : decode cX0_copyItem 41 = .ok (.aload_n 0, 1) := by decide +kernel
theorem dX0_copyItem_42 : decode cX0_copyItem 42 = .ok (.getfield 25, 3) := by decide +kernel
theorem dX0_copyItem_45 : decode cX0_copyItem 45 = .ok (.iload_n 1, 1) := by decide +kernel
theorem dX0_copyItem_46 : decode cX0_copyItem 46 = .ok (.iaload, 1) := by decide +kernel
theorem dX0_copyItem_47 : decode cX0_copyItem 47 = .ok (.iastore, 1) := by decide +kernel
theorem dX0_copyItem_48 : decode cX0_copyItem 48 = .ok (.return_, 1) := by decide +kernel
theorem dX0_makeRoom_0 : decode cX0_makeRoom 0 = .ok (.aload_n 0, 1) := by decide +kernel
theorem dX0_makeRoom_1 : decode cX0_makeRoom 1 = .ok (.getfield 46, 3) := by decide +kernel
theorem dX0_makeRoom_4 : decode cX0_makeRoom 4 = .ok (.iload_n 1, 1) := by decide +kernel
theorem dX0_makeRoom_5 : decode cX0_makeRoom 5 = .ok (.isub, 1) := by decide +kernel
theorem dX0_makeRoom_6 : decode cX0_makeRoom 6 = .ok (.istore_n 3, 1) := by decide +kernel
theorem dX0_makeRoom_7 : decode cX0_makeRoom 7 = .ok (.iload_n 1, 1) := by decide +kernel
theorem dX0_makeRoom_8 : decode cX0_makeRoom 8 = .ok (.ifCond .lt 22, 3) := by decide +kernel
theorem dX0_makeRoom_11 : decode cX0_makeRoom 11 = .ok (.iload_n 2, 1) := by decide +kernel
theorem dX0_makeRoom_12 : decode cX0_makeRoom 12 = .ok (.ifCond .lt 18, 3) := by decide +kernel
theorem dX0_makeRoom_15 : decode cX0_makeRoom 15 = .ok (.iload_n 3, 1) := by decide +kernel
theorem dX0_makeRoom_16 : decode cX0_makeRoom 16 = .ok (.ifCond .lt 14, 3) := by decide +kernel
theorem dX0_makeRoom_19 : decode cX0_makeRoom 19 = .ok (.aload_n 0, 1) := by decide +kernel
theorem dX0_makeRoom_20 : decode cX0_makeRoom 20 = .ok (.getfield 46, 3) := by decide +kernel
theorem dX0_makeRoom_23 : decode cX0_makeRoom 23 = .ok (.iload_n 2, 1) := by decide +kernel
theorem dX0_makeRoom_24 : decode cX0_makeRoom 24 = .ok (.iadd, 1) := by decide +kernel
theorem dX0_makeRoom_25 : decode cX0_makeRoom 25 = .ok (.bipush 96, 2) := by decide +kernel
theorem dX0_makeRoom_27 : decode cX0_makeRoom 27 = .ok (.if_icmp .le 5, 3) := by decide +kernel
theorem dX0_makeRoom_30 : decode cX0_makeRoom 30 = .ok (.iconst 0, 1) := by decide +kernel
theorem dX0_makeRoom_31 : decode cX0_makeRoom 31 = .ok (.ireturn, 1) := by decide +kernel
theorem dX0_makeRoom_32 : decode cX0_makeRoom 32 = .ok (.aload_n 0, 1) := by decide +kernel
theorem dX0_makeRoom_33 : decode cX0_makeRoom 33 = .ok (.getfield 15, 3) := by decide +kernel
theorem dX0_makeRoom_36 : decode cX0_makeRoom 36 = .ok (.iload_n 1, 1) := by decide +kernel
theorem dX0_makeRoom_37 : decode cX0_makeRoom 37 = .ok (.aload_n 0, 1) := by decide +kernel
theorem dX0_makeRoom_38 : decode cX0_makeRoom 38 = .ok (.getfield 15, 3) := by decide +kernel
theorem dX0_makeRoom_41 : decode cX0_makeRoom 41 = .ok (.iload_n 1, 1) := by decide +kernel
theorem dX0_makeRoom_42 : decode cX0_makeRoom 42 = .ok (.iload_n 2, 1) := by decide +kernel
theorem dX0_makeRoom_43 : decode cX0_makeRoom 43 = .ok (.iadd, 1) := by decide +kernel
theorem dX0_makeRoom_44 : decode cX0_makeRoom 44 = .ok (.iload_n 3, 1) := by decide +kernel
theorem dX0_makeRoom_45 : decode cX0_makeRoom 45 = .ok (.invokestatic 103, 3) := by decide +kernel
theorem dX0_makeRoom_48 : decode cX0_makeRoom 48 = .ok (.aload_n 0, 1) := by decide +kernel
theorem dX0_makeRoom_49 : decode cX0_makeRoom 49 = .ok (.getfield 19, 3) := by decide +kernel
theorem dX0_makeRoom_52 : decode cX0_makeRoom 52 = .ok (.iload_n 1, 1) := by decide +kernel
theorem dX0_makeRoom_53 : decode cX0_makeRoom 53 = .ok (.aload_n 0, 1) := by decide +kernel
theorem dX0_makeRoom_54 : decode cX0_makeRoom 54 = .ok (.getfield 19, 3) := by decide +kernel
theorem dX0_makeRoom_57 : decode cX0_makeRoom 57 = .ok (.iload_n 1, 1) := by decide +kernel
theorem dX0_makeRoom_58 : decode cX0_makeRoom 58 = .ok (.iload_n 2, 1) := by decide +kernel
theorem dX0_makeRoom_59 : decode cX0_makeRoom 59 = .ok (.iadd, 1) := by decide +kernel
theorem dX0_makeRoom_60 : decode cX0_makeRoom 60 = .ok (.iload_n 3, 1) := by decide +kernel
theorem dX0_makeRoom_61 : decode cX0_makeRoom 61 = .ok (.invokestatic 103, 3) := by decide +kernel
theorem dX0_makeRoom_64 : decode cX0_makeRoom 64 = .ok (.aload_n 0, 1) := by decide +kernel
theorem dX0_makeRoom_65 : decode cX0_makeRoom 65 = .ok (.getfield 22, 3) := by decide +kernel
theorem dX0_makeRoom_68 : decode cX0_makeRoom 68 = .ok (.iload_n 1, 1) := by decide +kernel
theorem dX0_makeRoom_69 : decode cX0_makeRoom 69 = .ok (.aload_n 0, 1) := by decide +kernel
theorem dX0_makeRoom_70 : decode cX0_makeRoom 70 = .ok (.getfield 22, 3) := by decide +kernel
theorem dX0_makeRoom_73 : decode cX0_makeRoom 73 = .ok (.iload_n 1, 1) := by decide +kernel
theorem dX0_makeRoom_74 : decode cX0_makeRoom 74 = .ok (.iload_n 2, 1) := by decide +kernel
theorem dX0_makeRoom_75 : decode cX0_makeRoom 75 = .ok (.iadd, 1) := by decide +kernel
theorem dX0_makeRoom_76 : decode cX0_makeRoom 76 = .ok (.iload_n 3, 1) := by decide +kernel
theorem dX0_makeRoom_77 : decode cX0_makeRoom 77 = .ok (.invokestatic 103, 3) := by decide +kernel
theorem dX0_makeRoom_80 : decode cX0_makeRoom 80 = .ok (.aload_n 0, 1) := by decide +kernel
theorem dX0_makeRoom_81 : decode cX0_makeRoom 81 = .ok (.getfield 25, 3) := by decide +kernel
theorem dX0_makeRoom_84 : decode cX0_makeRoom 84 = .ok (.iload_n 1, 1) := by decide +kernel
theorem dX0_makeRoom_85 : decode cX0_makeRoom 85 = .ok (.aload_n 0, 1) := by decide +kernel
theorem dX0_makeRoom_86 : decode cX0_makeRoom 86 = .ok (.getfield 25, 3) := by decide +kernel
theorem dX0_makeRoom_89 : decode cX0_makeRoom 89 = .ok (.iload_n 1, 1) := by decide +kernel
theorem dX0_makeRoom_90 : decode cX0_makeRoom 90 = .ok (.iload_n 2, 1) := by decide +kernel
theorem dX0_makeRoom_91 : decode cX0_makeRoom 91 = .ok (.iadd, 1) := by decide +kernel
theorem dX0_makeRoom_92 : decode cX0_makeRoom 92 = .ok (.iload_n 3, 1) := by decide +kernel
theorem dX0_makeRoom_93 : decode cX0_makeRoom 93 = .ok (.invokestatic 103, 3) := by decide +kernel
theorem dX0_makeRoom_96 : decode cX0_makeRoom 96 = .ok (.aload_n 0, 1) := by decide +kernel
theorem dX0_makeRoom_97 : decode cX0_makeRoom 97 = .ok (.dup, 1) := by decide +kernel
theorem dX0_makeRoom_98 : decode cX0_makeRoom 98 = .ok (.getfield 46, 3) := by decide +kernel
theorem dX0_makeRoom_101 : decode cX0_makeRoom 101 = .ok (.iload_n 2, 1) := by decide +kernel
theorem dX0_makeRoom_102 : decode cX0_makeRoom 102 = .ok (.iadd, 1) := by decide +kernel
theorem dX0_makeRoom_103 : decode cX0_makeRoom 103 = .ok (.putfield 46, 3) := by decide +kernel
theorem dX0_makeRoom_106 : decode cX0_makeRoom 106 = .ok (.iconst 1, 1) := by decide +kernel
theorem dX0_makeRoom_107 : decode cX0_makeRoom 107 = .ok (.ireturn, 1) := by decide +kernel
theorem dX1_init_0 : decode cX1_init 0 = .ok (.aload_n 0, 1) := by decide +kernel
theorem dX1_init_1 : decode cX1_init 1 = .ok (.invokespecial 3, 3) := by decide +kernel
theorem dX1_init_4 : decode cX1_init 4 = .ok (.aload_n 0, 1) := by decide +kernel
theorem dX1_init_5 : decode cX1_init 5 = .ok (.bipush 48, 2) := by decide +kernel
theorem dX1_init_7 : decode cX1_init 7 = .ok (.newarray .long, 2) := by decide +kernel
theorem dX1_init_9 : decode cX1_init 9 = .ok (.putfield 9, 3) := by decide +kernel
theorem dX1_init_12 : decode cX1_init 12 = .ok (.return_, 1) := by decide +kernel
theorem dX1_add_0 : decode cX1_add 0 = .ok (.aload_n 0, 1) := by decide +kernel
theorem dX1_add_1 : decode cX1_add 1 = .ok (.getfield 15, 3) := by decide +kernel
theorem dX1_add_4 : decode cX1_add 4 = .ok (.aload_n 0, 1) := by decide +kernel
theorem dX1_add_5 : decode cX1_add 5 = .ok (.getfield 9, 3) := by decide +kernel
theorem dX1_add_8 : decode cX1_add 8 = .ok (.arraylength, 1) := by decide +kernel
theorem dX1_add_9 : decode cX1_add 9 = .ok (.if_icmp .lt 5, 3) := by decide +kernel
theorem dX1_add_12 : decode cX1_add 12 = .ok (.iconst 0, 1) := by decide +kernel
theorem dX1_add_13 : decode cX1_add 13 = .ok (.ireturn, 1) := by decide +kernel
theorem dX1_add_14 : decode cX1_add 14 = .ok (.aload_n 0, 1) := by decide +kernel
theorem dX1_add_15 : decode cX1_add 15 = .ok (.getfield 9, 3) := by decide +kernel
theorem dX1_add_18 : decode cX1_add 18 = .ok (.aload_n 0, 1) := by decide +kernel
theorem dX1_add_19 : decode cX1_add 19 = .ok (.getfield 15, 3) := by decide +kernel
theorem dX1_add_22 : decode cX1_add 22 = .ok (.lload_n 1, 1) := by decide +kernel
theorem dX1_add_23 : decode cX1_add 23 = .ok (.lastore, 1) := by decide +kernel
theorem dX1_add_24 : decode cX1_add 24 = .ok (.aload_n 0, 1) := by decide +kernel
theorem dX1_add_25 : decode cX1_add 25 = .ok (.dup, 1) := by decide +kernel
theorem dX1_add_26 : decode cX1_add 26 = .ok (.getfield 15, 3) := by decide +kernel
theorem dX1_add_29 : decode cX1_add 29 = .ok (.iconst 1, 1) := by decide +kernel
theorem dX1_add_30 : decode cX1_add 30 = .ok (.iadd, 1) := by decide +kernel
theorem dX1_add_31 : decode cX1_add 31 = .ok (.putfield 15, 3) := by decide +kernel
theorem dX1_add_34 : decode cX1_add 34 = .ok (.iconst 1, 1) := by decide +kernel
theorem dX1_add_35 : decode cX1_add 35 = .ok (.ireturn, 1) := by decide +kernel
theorem dX1_clear_0 : decode cX1_clear 0 = .ok (.aload_n 0, 1) := by decide +kernel
theorem dX1_clear_1 : decode cX1_clear 1 = .ok (.iconst 0, 1) := by decide +kernel
theorem dX1_clear_2 : decode cX1_clear 2 = .ok (.putfield 15, 3) := by decide +kernel
theorem dX1_clear_5 : decode cX1_clear 5 = .ok (.return_, 1) := by decide +kernel
theorem dX1_at_0 : decode cX1_at 0 = .ok (.iload_n 1, 1) := by decide +kernel
theorem dX1_at_1 : decode cX1_at 1 = .ok (.ifCond .lt 20, 3) := by decide +kernel
theorem dX1_at_4 : decode cX1_at 4 = .ok (.iload_n 1, 1) := by decide +kernel
theorem dX1_at_5 : decode cX1_at 5 = .ok (.aload_n 0, 1) := by decide +kernel
theorem dX1_at_6 : decode cX1_at 6 = .ok (.getfield 15, 3) := by decide +kernel
theorem dX1_at_9 : decode cX1_at 9 = .ok (.if_icmp .ge 12, 3) := by decide +kernel
theorem dX1_at_12 : decode cX1_at 12 = .ok (.aload_n 0, 1) := by decide +kernel
theorem dX1_at_13 : decode cX1_at 13 = .ok (.getfield 9, 3) := by decide +kernel
theorem dX1_at_16 : decode cX1_at 16 = .ok (.iload_n 1, 1) := by decide +kernel
theorem dX1_at_17 : decode cX1_at 17 = .ok (.laload, 1) := by decide +kernel
theorem dX1_at_18 : decode cX1_at 18 = .ok (.goto 4, 3) := by decide +kernel
theorem dX1_at_21 : decode cX1_at 21 = .ok (.lconst 0, 1) := by decide +kernel
theorem dX1_at_22 : decode cX1_at 22 = .ok (.lreturn, 1) := by decide +kernel
theorem dX1_reverse_0 : decode cX1_reverse 0 = .ok (.iconst 0, 1) := by decide +kernel
theorem dX1_reverse_1 : decode cX1_reverse 1 = .ok (.istore_n 1, 1) := by decide +kernel
theorem dX1_reverse_2 : decode cX1_reverse 2 = .ok (.iload_n 1, 1) := by decide +kernel
theorem dX1_reverse_3 : decode cX1_reverse 3 = .ok (.aload_n 0, 1) := by decide +kernel
theorem dX1_reverse_4 : decode cX1_reverse 4 = .ok (.getfield 15, 3) := by decide +kernel
theorem dX1_reverse_7 : decode cX1_reverse 7 = .ok (.iconst 2, 1) := by decide +kernel
theorem dX1_reverse_8 : decode cX1_reverse 8 = .ok (.idiv, 1) := by decide +kernel
theorem dX1_reverse_9 : decode cX1_reverse 9 = .ok (.if_icmp .ge 44, 3) := by decide +kernel
theorem dX1_reverse_12 : decode cX1_reverse 12 = .ok (.aload_n 0, 1) := by decide +kernel
theorem dX1_reverse_13 : decode cX1_reverse 13 = .ok (.getfield 15, 3) := by decide +kernel
theorem dX1_reverse_16 : decode cX1_reverse 16 = .ok (.iconst 1, 1) := by decide +kernel
theorem dX1_reverse_17 : decode cX1_reverse 17 = .ok (.isub, 1) := by decide +kernel
theorem dX1_reverse_18 : decode cX1_reverse 18 = .ok (.iload_n 1, 1) := by decide +kernel
theorem dX1_reverse_19 : decode cX1_reverse 19 = .ok (.isub, 1) := by decide +kernel
theorem dX1_reverse_20 : decode cX1_reverse 20 = .ok (.istore_n 2, 1) := by decide +kernel
theorem dX1_reverse_21 : decode cX1_reverse 21 = .ok (.aload_n 0, 1) := by decide +kernel
theorem dX1_reverse_22 : decode cX1_reverse 22 = .ok (.getfield 9, 3) := by decide +kernel
theorem dX1_reverse_25 : decode cX1_reverse 25 = .ok (.iload_n 1, 1) := by decide +kernel
theorem dX1_reverse_26 : decode cX1_reverse 26 = .ok (.laload, 1) := by decide +kernel
theorem dX1_reverse_27 : decode cX1_reverse 27 = .ok (.lstore_n 3, 1) := by decide +kernel
theorem dX1_reverse_28 : decode cX1_reverse 28 = .ok (.aload_n 0, 1) := by decide +kernel
theorem dX1_reverse_29 : decode cX1_reverse 29 = .ok (.getfield 9, 3) := by decide +kernel
theorem dX1_reverse_32 : decode cX1_reverse 32 = .ok (.iload_n 1, 1) := by decide +kernel
theorem dX1_reverse_33 : decode cX1_reverse 33 = .ok (.aload_n 0, 1) := by decide +kernel
theorem dX1_reverse_34 : decode cX1_reverse 34 = .ok (.getfield 9, 3) := by decide +kernel
theorem dX1_reverse_37 : decode cX1_reverse 37 = .ok (.iload_n 2, 1) := by decide +kernel
theorem dX1_reverse_38 : decode cX1_reverse 38 = .ok (.laload, 1) := by decide +kernel
theorem dX1_reverse_39 : decode cX1_reverse 39 = .ok (.lastore, 1) := by decide +kernel
theorem dX1_reverse_40 : decode cX1_reverse 40 = .ok (.aload_n 0, 1) := by decide +kernel
theorem dX1_reverse_41 : decode cX1_reverse 41 = .ok (.getfield 9, 3) := by decide +kernel
theorem dX1_reverse_44 : decode cX1_reverse 44 = .ok (.iload_n 2, 1) := by decide +kernel
theorem dX1_reverse_45 : decode cX1_reverse 45 = .ok (.lload_n 3, 1) := by decide +kernel
theorem dX1_reverse_46 : decode cX1_reverse 46 = .ok (.lastore, 1) := by decide +kernel
theorem dX1_reverse_47 : decode cX1_reverse 47 = .ok (.iinc 1 1, 3) := by decide +kernel
theorem dX1_reverse_50 : decode cX1_reverse 50 = .ok (.goto (-48), 3) := by decide +kernel
theorem dX1_reverse_53 : decode cX1_reverse 53 = .ok (.return_, 1) := by decide +kernel
theorem dX1_addTo_0 : decode cX1_addTo 0 = .ok (.ldc2_w 19, 3) := by decide +kernel
theorem dX1_addTo_3 : decode cX1_addTo 3 = .ok (.lload_n 1, 1) := by decide +kernel
theorem dX1_addTo_4 : decode cX1_addTo 4 = .ok (.lmul, 1) := by decide +kernel
theorem dX1_addTo_5 : decode cX1_addTo 5 = .ok (.aload_n 0, 1) := by decide +kernel
theorem dX1_addTo_6 : decode cX1_addTo 6 = .ok (.getfield 15, 3) := by decide +kernel
theorem dX1_addTo_9 : decode cX1_addTo 9 = .ok (.i2l, 1) := by decide +kernel
theorem dX1_addTo_10 : decode cX1_addTo 10 = .ok (.ladd, 1) := by decide +kernel
theorem dX1_addTo_11 : decode cX1_addTo 11 = .ok (.lstore_n 3, 1) := by decide +kernel
theorem dX1_addTo_12 : decode cX1_addTo 12 = .ok (.iconst 0, 1) := by decide +kernel
theorem dX1_addTo_13 : decode cX1_addTo 13 = .ok (.istore 5, 2) := by decide +kernel
theorem dX1_addTo_15 : decode cX1_addTo 15 = .ok (.iload 5, 2) := by decide +kernel
theorem dX1_addTo_17 : decode cX1_addTo 17 = .ok (.aload_n 0, 1) := by decide +kernel
theorem dX1_addTo_18 : decode cX1_addTo 18 = .ok (.getfield 15, 3) := by decide +kernel
theorem dX1_addTo_21 : decode cX1_addTo 21 = .ok (.if_icmp .ge 23, 3) := by decide +kernel
theorem dX1_addTo_24 : decode cX1_addTo 24 = .ok (.ldc2_w 19, 3) := by decide +kernel
theorem dX1_addTo_27 : decode cX1_addTo 27 = .ok (.lload_n 3, 1) := by decide +kernel
theorem dX1_addTo_28 : decode cX1_addTo 28 = .ok (.lmul, 1) := by decide +kernel
theorem dX1_addTo_29 : decode cX1_addTo 29 = .ok (.aload_n 0, 1) := by decide +kernel
theorem dX1_addTo_30 : decode cX1_addTo 30 = .ok (.getfield 9, 3) := by decide +kernel
theorem dX1_addTo_33 : decode cX1_addTo 33 = .ok (.iload 5, 2) := by decide +kernel
theorem dX1_addTo_35 : decode cX1_addTo 35 = .ok (.laload, 1) := by decide +kernel
theorem dX1_addTo_36 : decode cX1_addTo 36 = .ok (.ladd, 1) := by decide +kernel
theorem dX1_addTo_37 : decode cX1_addTo 37 = .ok (.lstore_n 3, 1) := by decide +kernel
theorem dX1_addTo_38 : decode cX1_addTo 38 = .ok (.iinc 5 1, 3) := by decide +kernel
theorem dX1_addTo_41 : decode cX1_addTo 41 = .ok (.goto (-26), 3) := by decide +kernel
theorem dX1_addTo_44 : decode cX1_addTo 44 = .ok (.lload_n 3, 1) := by decide +kernel
theorem dX1_addTo_45 : decode cX1_addTo 45 = .ok (.lreturn, 1) := by decide +kernel
theorem dX2_init_0 : decode cX2_init 0 = .ok (.aload_n 0, 1) := by decide +kernel
theorem dX2_init_1 : decode cX2_init 1 = .ok (.invokespecial 3, 3) := by decide +kernel
theorem dX2_init_4 : decode cX2_init 4 = .ok (.aload_n 0, 1) := by decide +kernel
theorem dX2_init_5 : decode cX2_init 5 = .ok (.getstatic 9, 3) := by decide +kernel
theorem dX2_init_8 : decode cX2_init 8 = .ok (.arraylength, 1) := by decide +kernel
theorem dX2_init_9 : decode cX2_init 9 = .ok (.iconst 4, 1) := by decide +kernel
theorem dX2_init_10 : decode cX2_init 10 = .ok (.imul, 1) := by decide +kernel
theorem dX2_init_11 : decode cX2_init 11 = .ok (.anewarray 13, 3) := by decide +kernel
theorem dX2_init_14 : decode cX2_init 14 = .ok (.putfield 15, 3) := by decide +kernel
theorem dX2_init_17 : decode cX2_init 17 = .ok (.aload_n 0, 1) := by decide +kernel
theorem dX2_init_18 : decode cX2_init 18 = .ok (.bipush 6, 2) := by decide +kernel
theorem dX2_init_20 : decode cX2_init 20 = .ok (.anewarray 19, 3) := by decide +kernel
theorem dX2_init_23 : decode cX2_init 23 = .ok (.putfield 21, 3) := by decide +kernel
theorem dX2_init_26 : decode cX2_init 26 = .ok (.aload_n 0, 1) := by decide +kernel
theorem dX2_init_27 : decode cX2_init 27 = .ok (.new 19, 3) := by decide +kernel
theorem dX2_init_30 : decode cX2_init 30 = .ok (.dup, 1) := by decide +kernel
theorem dX2_init_31 : decode cX2_init 31 = .ok (.invokespecial 25, 3) := by decide +kernel
theorem dX2_init_34 : decode cX2_init 34 = .ok (.putfield 26, 3) := by decide +kernel
theorem dX2_init_37 : decode cX2_init 37 = .ok (.iconst 0, 1) := by decide +kernel
theorem dX2_init_38 : decode cX2_init 38 = .ok (.istore_n 1, 1) := by decide +kernel
theorem dX2_init_39 : decode cX2_init 39 = .ok (.iload_n 1, 1) := by decide +kernel
theorem dX2_init_40 : decode cX2_init 40 = .ok (.aload_n 0, 1) := by decide +kernel
theorem dX2_init_41 : decode cX2_init 41 = .ok (.getfield 15, 3) := by decide +kernel
theorem dX2_init_44 : decode cX2_init 44 = .ok (.arraylength, 1) := by decide +kernel
theorem dX2_init_45 : decode cX2_init 45 = .ok (.if_icmp .ge 22, 3) := by decide +kernel
theorem dX2_init_48 : decode cX2_init 48 = .ok (.aload_n 0, 1) := by decide +kernel
theorem dX2_init_49 : decode cX2_init 49 = .ok (.getfield 15, 3) := by decide +kernel
theorem dX2_init_52 : decode cX2_init 52 = .ok (.iload_n 1, 1) := by decide +kernel
theorem dX2_init_53 : decode cX2_init 53 = .ok (.new 13, 3) := by decide +kernel
theorem dX2_init_56 : decode cX2_init 56 = .ok (.dup, 1) := by decide +kernel
theorem dX2_init_57 : decode cX2_init 57 = .ok (.invokespecial 30, 3) := by decide +kernel
theorem dX2_init_60 : decode cX2_init 60 = .ok (.aastore, 1) := by decide +kernel
theorem dX2_init_61 : decode cX2_init 61 = .ok (.iinc 1 1, 3) := by decide +kernel
theorem dX2_init_64 : decode cX2_init 64 = .ok (.goto (-25), 3) := by decide +kernel
theorem dX2_init_67 : decode cX2_init 67 = .ok (.iconst 0, 1) := by decide +kernel
theorem dX2_init_68 : decode cX2_init 68 = .ok (.istore_n 1, 1) := by decide +kernel
theorem dX2_init_69 : decode cX2_init 69 = .ok (.iload_n 1, 1) := by decide +kernel
theorem dX2_init_70 : decode cX2_init 70 = .ok (.aload_n 0, 1) := by decide +kernel
theorem dX2_init_71 : decode cX2_init 71 = .ok (.getfield 21, 3) := by decide +kernel
theorem dX2_init_74 : decode cX2_init 74 = .ok (.arraylength, 1) := by decide +kernel
theorem dX2_init_75 : decode cX2_init 75 = .ok (.if_icmp .ge 22, 3) := by decide +kernel
theorem dX2_init_78 : decode cX2_init 78 = .ok (.aload_n 0, 1) := by decide +kernel
theorem dX2_init_79 : decode cX2_init 79 = .ok (.getfield 21, 3) := by decide +kernel
theorem dX2_init_82 : decode cX2_init 82 = .ok (.iload_n 1, 1) := by decide +kernel
theorem dX2_init_83 : decode cX2_init 83 = .ok (.new 19, 3) := by decide +kernel
theorem dX2_init_86 : decode cX2_init 86 = .ok (.dup, 1) := by decide +kernel
theorem dX2_init_87 : decode cX2_init 87 = .ok (.invokespecial 25, 3) := by decide +kernel
theorem dX2_init_90 : decode cX2_init 90 = .ok (.aastore, 1) := by decide +kernel
theorem dX2_init_91 : decode cX2_init 91 = .ok (.iinc 1 1, 3) := by decide +kernel
theorem dX2_init_94 : decode cX2_init 94 = .ok (.goto (-25), 3) := by decide +kernel
theorem dX2_init_97 : decode cX2_init 97 = .ok (.return_, 1) := by decide +kernel
theorem dX2_append_0 : decode cX2_append 0 = .ok (.iload_n 1, 1) := by decide +kernel
theorem dX2_append_1 : decode cX2_append 1 = .ok (.invokestatic 31, 3) := by decide +kernel
theorem dX2_append_4 : decode cX2_append 4 = .ok (.ifCond .eq 21, 3) := by decide +kernel
theorem dX2_append_7 : decode cX2_append 7 = .ok (.lload_n 3, 1) := by decide +kernel
theorem dX2_append_8 : decode cX2_append 8 = .ok (.lload_n 3, 1) := by decide +kernel
theorem dX2_append_9 : decode cX2_append 9 = .ok (.l2i, 1) := by decide +kernel
theorem dX2_append_10 : decode cX2_append 10 = .ok (.i2l, 1) := by decide +kernel
theorem dX2_append_11 : decode cX2_append 11 = .ok (.lcmp, 1) := by decide +kernel
theorem dX2_append_12 : decode cX2_append 12 = .ok (.ifCond .eq 13, 3) := by decide +kernel
theorem dX2_append_15 : decode cX2_append 15 = .ok (.new 35, 3) := by decide +kernel
theorem dX2_append_18 : decode cX2_append 18 = .ok (.dup, 1) := by decide +kernel
theorem dX2_append_19 : decode cX2_append 19 = .ok (.ldc 37, 2) := by decide +kernel
theorem dX2_append_21 : decode cX2_append 21 = .ok (.invokespecial 39, 3) := by decide +kernel
theorem dX2_append_24 : decode cX2_append 24 = .ok (.athrow, 1) := by decide +kernel
theorem dX2_append_25 : decode cX2_append 25 = .ok (.aload_n 0, 1) := by decide +kernel
theorem dX2_append_26 : decode cX2_append 26 = .ok (.iload_n 1, 1) := by decide +kernel
theorem dX2_append_27 : decode cX2_append 27 = .ok (.iload_n 2, 1) := by decide +kernel
theorem dX2_append_28 : decode cX2_append 28 = .ok (.invokevirtual 42, 3) := by decide +kernel
theorem dX2_append_31 : decode cX2_append 31 = .ok (.astore 5, 2) := by decide +kernel
theorem dX2_append_33 : decode cX2_append 33 = .ok (.aload 5, 2) := by decide +kernel
theorem dX2_append_35 : decode cX2_append 35 = .ok (.lload_n 3, 1) := by decide +kernel
theorem dX2_append_36 : decode cX2_append 36 = .ok (.invokevirtual 46, 3) := by decide +kernel
theorem dX2_append_39 : decode cX2_append 39 = .ok (.ifCond .ne 13, 3) := by decide +kernel
theorem dX2_append_42 : decode cX2_append 42 = .ok (.new 50, 3) := by decide +kernel
theorem dX2_append_45 : decode cX2_append 45 = .ok (.dup, 1) := by decide +kernel
theorem dX2_append_46 : decode cX2_append 46 = .ok (.ldc 52, 2) := by decide +kernel
theorem dX2_append_48 : decode cX2_append 48 = .ok (.invokespecial 54, 3) := by decide +kernel
theorem dX2_append_51 : decode cX2_append 51 = .ok (.athrow, 1) := by decide +kernel
theorem dX2_append_52 : decode cX2_append 52 = .ok (.aload 5, 2) := by decide +kernel
theorem dX2_append_54 : decode cX2_append 54 = .ok (.getfield 55, 3) := by decide +kernel
theorem dX2_append_57 : decode cX2_append 57 = .ok (.ireturn, 1) := by decide +kernel
theorem dX2_lay_0 : decode cX2_lay 0 = .ok (.iload_n 3, 1) := by decide +kernel
theorem dX2_lay_1 : decode cX2_lay 1 = .ok (.ifCond .lt 9, 3) := by decide +kernel
theorem dX2_lay_4 : decode cX2_lay 4 = .ok (.iload_n 3, 1) := by decide +kernel
theorem dX2_lay_5 : decode cX2_lay 5 = .ok (.bipush 48, 2) := by decide +kernel
theorem dX2_lay_7 : decode cX2_lay 7 = .ok (.if_icmp .le 13, 3) := by decide +kernel
theorem dX2_lay_10 : decode cX2_lay 10 = .ok (.new 35, 3) := by decide +kernel
theorem dX2_lay_13 : decode cX2_lay 13 = .ok (.dup, 1) := by decide +kernel
theorem dX2_lay_14 : decode cX2_lay 14 = .ok (.ldc 59, 2) := by decide +kernel
theorem dX2_lay_16 : decode cX2_lay 16 = .ok (.invokespecial 39, 3) := by decide +kernel
theorem dX2_lay_19 : decode cX2_lay 19 = .ok (.athrow, 1) := by decide +kernel
theorem dX2_lay_20 : decode cX2_lay 20 = .ok (.aload_n 0, 1) := by decide +kernel
theorem dX2_lay_21 : decode cX2_lay 21 = .ok (.iload_n 1, 1) := by decide +kernel
theorem dX2_lay_22 : decode cX2_lay 22 = .ok (.iload_n 2, 1) := by decide +kernel
theorem dX2_lay_23 : decode cX2_lay 23 = .ok (.invokevirtual 42, 3) := by decide +kernel
theorem dX2_lay_26 : decode cX2_lay 26 = .ok (.astore 8, 2) := by decide +kernel
theorem dX2_lay_28 : decode cX2_lay 28 = .ok (.aload 8, 2) := by decide +kernel
theorem dX2_lay_30 : decode cX2_lay 30 = .ok (.getfield 55, 3) := by decide +kernel
theorem dX2_lay_33 : decode cX2_lay 33 = .ok (.istore 9, 2) := by decide +kernel
theorem dX2_lay_35 : decode cX2_lay 35 = .ok (.aload 8, 2) := by decide +kernel
theorem dX2_lay_37 : decode cX2_lay 37 = .ok (.invokevirtual 61, 3) := by decide +kernel
theorem dX2_lay_40 : decode cX2_lay 40 = .ok (.lload 4, 2) := by decide +kernel
theorem dX2_lay_42 : decode cX2_lay 42 = .ok (.lstore 10, 2) := by decide +kernel
theorem dX2_lay_44 : decode cX2_lay 44 = .ok (.iconst 0, 1) := by decide +kernel
theorem dX2_lay_45 : decode cX2_lay 45 = .ok (.istore 12, 2) := by decide +kernel
theorem dX2_lay_47 : decode cX2_lay 47 = .ok (.iload 12, 2) := by decide +kernel
theorem dX2_lay_49 : decode cX2_lay 49 = .ok (.iload_n 3, 1) := by decide +kernel
theorem dX2_lay_50 : decode cX2_lay 50 = .ok (.if_icmp .ge 38, 3) := by decide +kernel
theorem dX2_lay_53 : decode cX2_lay 53 = .ok (.aload 8, 2) := by decide +kernel
theorem dX2_lay_55 : decode cX2_lay 55 = .ok (.iload_n 1, 1) := by decide +kernel
theorem dX2_lay_56 : decode cX2_lay 56 = .ok (.invokestatic 31, 3) := by decide +kernel
theorem dX2_lay_59 : decode cX2_lay 59 = .ok (.ifCond .eq 10, 3) := by decide +kernel
theorem dX2_lay_62 : decode cX2_lay 62 = .ok (.lload 10, 2) := by decide +kernel
theorem dX2_lay_64 : decode cX2_lay 64 = .ok (.l2i, 1) := by decide +kernel
