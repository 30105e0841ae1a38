theorem dX2_foldsAgree_80 : decode cX2_foldsAgree 80 = .ok (.ireturn, 1) := by decide +kernel
theorem dX2_foldsAgree_81 : decode cX2_foldsAgree 81 = .ok (.iinc 9 1, 3) := by decide +kernel
theorem dX2_foldsAgree_84 : decode cX2_foldsAgree 84 = .ok (.goto (-39), 3) := by decide +kernel
theorem dX2_foldsAgree_87 : decode cX2_foldsAgree 87 = .ok (.iinc 3 1, 3) := by decide +kernel
theorem dX2_foldsAgree_90 : decode cX2_foldsAgree 90 = .ok (.goto (-81), 3) := by decide +kernel
theorem dX2_foldsAgree_93 : decode cX2_foldsAgree 93 = .ok (.iconst 1, 1) := by decide +kernel
theorem dX2_foldsAgree_94 : decode cX2_foldsAgree 94 = .ok (.ireturn, 1) := by decide +kernel
theorem dX2_piecesAgree_0 : decode cX2_piecesAgree 0 = .ok (.getstatic 258, 3) := by decide +kernel
theorem dX2_piecesAgree_3 : decode cX2_piecesAgree 3 = .ok (.astore_n 2, 1) := by decide +kernel
theorem dX2_piecesAgree_4 : decode cX2_piecesAgree 4 = .ok (.aload_n 2, 1) := by decide +kernel
theorem dX2_piecesAgree_5 : decode cX2_piecesAgree 5 = .ok (.arraylength, 1) := by decide +kernel
theorem dX2_piecesAgree_6 : decode cX2_piecesAgree 6 = .ok (.istore_n 3, 1) := by decide +kernel
theorem dX2_piecesAgree_7 : decode cX2_piecesAgree 7 = .ok (.iconst 0, 1) := by decide +kernel
theorem dX2_piecesAgree_8 : decode cX2_piecesAgree 8 = .ok (.istore 4, 2) := by decide +kernel
theorem dX2_piecesAgree_10 : decode cX2_piecesAgree 10 = .ok (.iload 4, 2) := by decide +kernel
theorem dX2_piecesAgree_12 : decode cX2_piecesAgree 12 = .ok (.iload_n 3, 1) := by decide +kernel
theorem dX2_piecesAgree_13 : decode cX2_piecesAgree 13 = .ok (.if_icmp .ge 37, 3) := by decide +kernel
theorem dX2_piecesAgree_16 : decode cX2_piecesAgree 16 = .ok (.aload_n 2, 1) := by decide +kernel
theorem dX2_piecesAgree_17 : decode cX2_piecesAgree 17 = .ok (.iload 4, 2) := by decide +kernel
theorem dX2_piecesAgree_19 : decode cX2_piecesAgree 19 = .ok (.iaload, 1) := by decide +kernel
theorem dX2_piecesAgree_20 : decode cX2_piecesAgree 20 = .ok (.istore 5, 2) := by decide +kernel
theorem dX2_piecesAgree_22 : decode cX2_piecesAgree 22 = .ok (.aload_n 0, 1) := by decide +kernel
theorem dX2_piecesAgree_23 : decode cX2_piecesAgree 23 = .ok (.aload_n 1, 1) := by decide +kernel
theorem dX2_piecesAgree_24 : decode cX2_piecesAgree 24 = .ok (.iload 5, 2) := by decide +kernel
theorem dX2_piecesAgree_26 : decode cX2_piecesAgree 26 = .ok (.invokevirtual 177, 3) := by decide +kernel
theorem dX2_piecesAgree_29 : decode cX2_piecesAgree 29 = .ok (.aload_n 1, 1) := by decide +kernel
theorem dX2_piecesAgree_30 : decode cX2_piecesAgree 30 = .ok (.getfield 55, 3) := by decide +kernel
theorem dX2_piecesAgree_33 : decode cX2_piecesAgree 33 = .ok (.iload 5, 2) := by decide +kernel
theorem dX2_piecesAgree_35 : decode cX2_piecesAgree 35 = .ok (.iconst 0, 1) := by decide +kernel
theorem dX2_piecesAgree_36 : decode cX2_piecesAgree 36 = .ok (.invokestatic 254, 3) := by decide +kernel
theorem dX2_piecesAgree_39 : decode cX2_piecesAgree 39 = .ok (.if_icmp .eq 5, 3) := by decide +kernel
theorem dX2_piecesAgree_42 : decode cX2_piecesAgree 42 = .ok (.iconst 0, 1) := by decide +kernel
theorem dX2_piecesAgree_43 : decode cX2_piecesAgree 43 = .ok (.ireturn, 1) := by decide +kernel
theorem dX2_piecesAgree_44 : decode cX2_piecesAgree 44 = .ok (.iinc 4 1, 3) := by decide +kernel
theorem dX2_piecesAgree_47 : decode cX2_piecesAgree 47 = .ok (.goto (-37), 3) := by decide +kernel
theorem dX2_piecesAgree_50 : decode cX2_piecesAgree 50 = .ok (.iconst 1, 1) := by decide +kernel
theorem dX2_piecesAgree_51 : decode cX2_piecesAgree 51 = .ok (.ireturn, 1) := by decide +kernel
theorem dX3_init_0 : decode cX3_init 0 = .ok (.aload_n 0, 1) := by decide +kernel
theorem dX3_init_1 : decode cX3_init 1 = .ok (.invokespecial 1, 3) := by decide +kernel
theorem dX3_init_4 : decode cX3_init 4 = .ok (.aload_n 0, 1) := by decide +kernel
theorem dX3_init_5 : decode cX3_init 5 = .ok (.iconst 3, 1) := by decide +kernel
theorem dX3_init_6 : decode cX3_init 6 = .ok (.iconst 4, 1) := by decide +kernel
theorem dX3_init_7 : decode cX3_init 7 = .ok (.bipush 48, 2) := by decide +kernel
theorem dX3_init_9 : decode cX3_init 9 = .ok (.multianewarray 9 3, 4) := by decide +kernel
theorem dX3_init_13 : decode cX3_init 13 = .ok (.putfield 11, 3) := by decide +kernel
theorem dX3_init_16 : decode cX3_init 16 = .ok (.aload_n 0, 1) := by decide +kernel
theorem dX3_init_17 : decode cX3_init 17 = .ok (.iconst 3, 1) := by decide +kernel
theorem dX3_init_18 : decode cX3_init 18 = .ok (.iconst 4, 1) := by decide +kernel
theorem dX3_init_19 : decode cX3_init 19 = .ok (.multianewarray 14 2, 4) := by decide +kernel
theorem dX3_init_23 : decode cX3_init 23 = .ok (.putfield 16, 3) := by decide +kernel
theorem dX3_init_26 : decode cX3_init 26 = .ok (.aload_n 0, 1) := by decide +kernel
theorem dX3_init_27 : decode cX3_init 27 = .ok (.bipush 6, 2) := by decide +kernel
theorem dX3_init_29 : decode cX3_init 29 = .ok (.bipush 48, 2) := by decide +kernel
theorem dX3_init_31 : decode cX3_init 31 = .ok (.multianewarray 19 2, 4) := by decide +kernel
theorem dX3_init_35 : decode cX3_init 35 = .ok (.putfield 21, 3) := by decide +kernel
theorem dX3_init_38 : decode cX3_init 38 = .ok (.aload_n 0, 1) := by decide +kernel
theorem dX3_init_39 : decode cX3_init 39 = .ok (.bipush 6, 2) := by decide +kernel
theorem dX3_init_41 : decode cX3_init 41 = .ok (.newarray .int, 2) := by decide +kernel
theorem dX3_init_43 : decode cX3_init 43 = .ok (.putfield 24, 3) := by decide +kernel
theorem dX3_init_46 : decode cX3_init 46 = .ok (.aload_n 0, 1) := by decide +kernel
theorem dX3_init_47 : decode cX3_init 47 = .ok (.bipush 6, 2) := by decide +kernel
theorem dX3_init_49 : decode cX3_init 49 = .ok (.newarray .boolean, 2) := by decide +kernel
theorem dX3_init_51 : decode cX3_init 51 = .ok (.putfield 28, 3) := by decide +kernel
theorem dX3_init_54 : decode cX3_init 54 = .ok (.aload_n 0, 1) := by decide +kernel
theorem dX3_init_55 : decode cX3_init 55 = .ok (.bipush 6, 2) := by decide +kernel
theorem dX3_init_57 : decode cX3_init 57 = .ok (.sipush 128, 3) := by decide +kernel
theorem dX3_init_60 : decode cX3_init 60 = .ok (.multianewarray 32 2, 4) := by decide +kernel
theorem dX3_init_64 : decode cX3_init 64 = .ok (.putfield 34, 3) := by decide +kernel
theorem dX3_init_67 : decode cX3_init 67 = .ok (.aload_n 0, 1) := by decide +kernel
theorem dX3_init_68 : decode cX3_init 68 = .ok (.bipush 6, 2) := by decide +kernel
theorem dX3_init_70 : decode cX3_init 70 = .ok (.sipush 128, 3) := by decide +kernel
theorem dX3_init_73 : decode cX3_init 73 = .ok (.multianewarray 14 2, 4) := by decide +kernel
theorem dX3_init_77 : decode cX3_init 77 = .ok (.putfield 37, 3) := by decide +kernel
theorem dX3_init_80 : decode cX3_init 80 = .ok (.aload_n 0, 1) := by decide +kernel
theorem dX3_init_81 : decode cX3_init 81 = .ok (.bipush 6, 2) := by decide +kernel
theorem dX3_init_83 : decode cX3_init 83 = .ok (.newarray .int, 2) := by decide +kernel
theorem dX3_init_85 : decode cX3_init 85 = .ok (.putfield 40, 3) := by decide +kernel
theorem dX3_init_88 : decode cX3_init 88 = .ok (.return_, 1) := by decide +kernel
theorem dX3_thrown_0 : decode cX3_thrown 0 = .ok (.aload_n 0, 1) := by decide +kernel
theorem dX3_thrown_1 : decode cX3_thrown 1 = .ok (.getfield 43, 3) := by decide +kernel
theorem dX3_thrown_4 : decode cX3_thrown 4 = .ok (.ireturn, 1) := by decide +kernel
theorem dX3_can_0 : decode cX3_can 0 = .ok (.aload_n 0, 1) := by decide +kernel
theorem dX3_can_1 : decode cX3_can 1 = .ok (.iload_n 1, 1) := by decide +kernel
theorem dX3_can_2 : decode cX3_can 2 = .ok (.ifCond .ne 7, 3) := by decide +kernel
theorem dX3_can_5 : decode cX3_can 5 = .ok (.iconst 1, 1) := by decide +kernel
theorem dX3_can_6 : decode cX3_can 6 = .ok (.goto 20, 3) := by decide +kernel
theorem dX3_can_9 : decode cX3_can 9 = .ok (.iload_n 2, 1) := by decide +kernel
theorem dX3_can_10 : decode cX3_can 10 = .ok (.ifCond .ne 7, 3) := by decide +kernel
theorem dX3_can_13 : decode cX3_can 13 = .ok (.iconst 2, 1) := by decide +kernel
theorem dX3_can_14 : decode cX3_can 14 = .ok (.goto 12, 3) := by decide +kernel
theorem dX3_can_17 : decode cX3_can 17 = .ok (.iload_n 3, 1) := by decide +kernel
theorem dX3_can_18 : decode cX3_can 18 = .ok (.ifCond .ne 7, 3) := by decide +kernel
theorem dX3_can_21 : decode cX3_can 21 = .ok (.iconst 3, 1) := by decide +kernel
theorem dX3_can_22 : decode cX3_can 22 = .ok (.goto 4, 3) := by decide +kernel
theorem dX3_can_25 : decode cX3_can 25 = .ok (.iconst 0, 1) := by decide +kernel
theorem dX3_can_26 : decode cX3_can 26 = .ok (.putfield 43, 3) := by decide +kernel
theorem dX3_can_29 : decode cX3_can 29 = .ok (.aload_n 0, 1) := by decide +kernel
theorem dX3_can_30 : decode cX3_can 30 = .ok (.getfield 43, 3) := by decide +kernel
theorem dX3_can_33 : decode cX3_can 33 = .ok (.ifCond .ne 7, 3) := by decide +kernel
theorem dX3_can_36 : decode cX3_can 36 = .ok (.iconst 1, 1) := by decide +kernel
theorem dX3_can_37 : decode cX3_can 37 = .ok (.goto 4, 3) := by decide +kernel
theorem dX3_can_40 : decode cX3_can 40 = .ok (.iconst 0, 1) := by decide +kernel
theorem dX3_can_41 : decode cX3_can 41 = .ok (.ireturn, 1) := by decide +kernel
theorem dX3_kind_0 : decode cX3_kind 0 = .ok (.iload_n 0, 1) := by decide +kernel
theorem dX3_kind_1 : decode cX3_kind 1 = .ok (.bipush 105, 2) := by decide +kernel
theorem dX3_kind_3 : decode cX3_kind 3 = .ok (.if_icmp .ne 7, 3) := by decide +kernel
theorem dX3_kind_6 : decode cX3_kind 6 = .ok (.iconst 0, 1) := by decide +kernel
theorem dX3_kind_7 : decode cX3_kind 7 = .ok (.goto 24, 3) := by decide +kernel
theorem dX3_kind_10 : decode cX3_kind 10 = .ok (.iload_n 0, 1) := by decide +kernel
theorem dX3_kind_11 : decode cX3_kind 11 = .ok (.bipush 108, 2) := by decide +kernel
theorem dX3_kind_13 : decode cX3_kind 13 = .ok (.if_icmp .ne 7, 3) := by decide +kernel
theorem dX3_kind_16 : decode cX3_kind 16 = .ok (.iconst 1, 1) := by decide +kernel
theorem dX3_kind_17 : decode cX3_kind 17 = .ok (.goto 14, 3) := by decide +kernel
theorem dX3_kind_20 : decode cX3_kind 20 = .ok (.iload_n 0, 1) := by decide +kernel
theorem dX3_kind_21 : decode cX3_kind 21 = .ok (.bipush 111, 2) := by decide +kernel
theorem dX3_kind_23 : decode cX3_kind 23 = .ok (.if_icmp .ne 7, 3) := by decide +kernel
theorem dX3_kind_26 : decode cX3_kind 26 = .ok (.iconst 2, 1) := by decide +kernel
theorem dX3_kind_27 : decode cX3_kind 27 = .ok (.goto 4, 3) := by decide +kernel
theorem dX3_kind_30 : decode cX3_kind 30 = .ok (.iconst (-1), 1) := by decide +kernel
theorem dX3_kind_31 : decode cX3_kind 31 = .ok (.ireturn, 1) := by decide +kernel
theorem dX3_isRow_0 : decode cX3_isRow 0 = .ok (.iload_n 0, 1) := by decide +kernel
theorem dX3_isRow_1 : decode cX3_isRow 1 = .ok (.ifCond .lt 12, 3) := by decide +kernel
theorem dX3_isRow_4 : decode cX3_isRow 4 = .ok (.iload_n 0, 1) := by decide +kernel
theorem dX3_isRow_5 : decode cX3_isRow 5 = .ok (.iconst 4, 1) := by decide +kernel
theorem dX3_isRow_6 : decode cX3_isRow 6 = .ok (.if_icmp .ge 7, 3) := by decide +kernel
theorem dX3_isRow_9 : decode cX3_isRow 9 = .ok (.iconst 1, 1) := by decide +kernel
theorem dX3_isRow_10 : decode cX3_isRow 10 = .ok (.goto 4, 3) := by decide +kernel
theorem dX3_isRow_13 : decode cX3_isRow 13 = .ok (.iconst 0, 1) := by decide +kernel
theorem dX3_isRow_14 : decode cX3_isRow 14 = .ok (.ireturn, 1) := by decide +kernel
theorem dX3_isNumber_0 : decode cX3_isNumber 0 = .ok (.iload_n 0, 1) := by decide +kernel
theorem dX3_isNumber_1 : decode cX3_isNumber 1 = .ok (.iconst 1, 1) := by decide +kernel
theorem dX3_isNumber_2 : decode cX3_isNumber 2 = .ok (.if_icmp .eq 19, 3) := by decide +kernel
theorem dX3_isNumber_5 : decode cX3_isNumber 5 = .ok (.lload_n 1, 1) := by decide +kernel
theorem dX3_isNumber_6 : decode cX3_isNumber 6 = .ok (.ldc2_w 47, 3) := by decide +kernel
theorem dX3_isNumber_9 : decode cX3_isNumber 9 = .ok (.lcmp, 1) := by decide +kernel
theorem dX3_isNumber_10 : decode cX3_isNumber 10 = .ok (.ifCond .lt 15, 3) := by decide +kernel
theorem dX3_isNumber_13 : decode cX3_isNumber 13 = .ok (.lload_n 1, 1) := by decide +kernel
theorem dX3_isNumber_14 : decode cX3_isNumber 14 = .ok (.ldc2_w 49, 3) := by decide +kernel
theorem dX3_isNumber_17 : decode cX3_isNumber 17 = .ok (.lcmp, 1) := by decide +kernel
theorem dX3_isNumber_18 : decode cX3_isNumber 18 = .ok (.ifCond .gt 7, 3) := by decide +kernel
theorem dX3_isNumber_21 : decode cX3_isNumber 21 = .ok (.iconst 1, 1) := by decide +kernel
theorem dX3_isNumber_22 : decode cX3_isNumber 22 = .ok (.goto 4, 3) := by decide +kernel
theorem dX3_isNumber_25 : decode cX3_isNumber 25 = .ok (.iconst 0, 1) := by decide +kernel
theorem dX3_isNumber_26 : decode cX3_isNumber 26 = .ok (.ireturn, 1) := by decide +kernel
theorem dX3_append_0 : decode cX3_append 0 = .ok (.iload_n 1, 1) := by decide +kernel
theorem dX3_append_1 : decode cX3_append 1 = .ok (.invokestatic 51, 3) := by decide +kernel
theorem dX3_append_4 : decode cX3_append 4 = .ok (.istore 5, 2) := by decide +kernel
theorem dX3_append_6 : decode cX3_append 6 = .ok (.aload_n 0, 1) := by decide +kernel
theorem dX3_append_7 : decode cX3_append 7 = .ok (.iload 5, 2) := by decide +kernel
theorem dX3_append_9 : decode cX3_append 9 = .ok (.ifCond .lt 16, 3) := by decide +kernel
theorem dX3_append_12 : decode cX3_append 12 = .ok (.iload 5, 2) := by decide +kernel
theorem dX3_append_14 : decode cX3_append 14 = .ok (.lload_n 3, 1) := by decide +kernel
theorem dX3_append_15 : decode cX3_append 15 = .ok (.invokestatic 55, 3) := by decide +kernel
theorem dX3_append_18 : decode cX3_append 18 = .ok (.ifCond .eq 7, 3) := by decide +kernel
theorem dX3_append_21 : decode cX3_append 21 = .ok (.iconst 1, 1) := by decide +kernel
theorem dX3_append_22 : decode cX3_append 22 = .ok (.goto 4, 3) := by decide +kernel
theorem dX3_append_25 : decode cX3_append 25 = .ok (.iconst 0, 1) := by decide +kernel
theorem dX3_append_26 : decode cX3_append 26 = .ok (.iload_n 2, 1) := by decide +kernel
theorem dX3_append_27 : decode cX3_append 27 = .ok (.invokestatic 59, 3) := by decide +kernel
theorem dX3_append_30 : decode cX3_append 30 = .ok (.iconst 1, 1) := by decide +kernel
theorem dX3_append_31 : decode cX3_append 31 = .ok (.invokevirtual 63, 3) := by decide +kernel
theorem dX3_append_34 : decode cX3_append 34 = .ok (.ifCond .eq 31, 3) := by decide +kernel
theorem dX3_append_37 : decode cX3_append 37 = .ok (.aload_n 0, 1) := by decide +kernel
theorem dX3_append_38 : decode cX3_append 38 = .ok (.iconst 1, 1) := by decide +kernel
theorem dX3_append_39 : decode cX3_append 39 = .ok (.iconst 1, 1) := by decide +kernel
theorem dX3_append_40 : decode cX3_append 40 = .ok (.aload_n 0, 1) := by decide +kernel
theorem dX3_append_41 : decode cX3_append 41 = .ok (.getfield 16, 3) := by decide +kernel
theorem dX3_append_44 : decode cX3_append 44 = .ok (.iload 5, 2) := by decide +kernel
theorem dX3_append_46 : decode cX3_append 46 = .ok (.aaload, 1) := by decide +kernel
theorem dX3_append_47 : decode cX3_append 47 = .ok (.iload_n 2, 1) := by decide +kernel
theorem dX3_append_48 : decode cX3_append 48 = .ok (.iaload, 1) := by decide +kernel
theorem dX3_append_49 : decode cX3_append 49 = .ok (.bipush 48, 2) := by decide +kernel
theorem dX3_append_51 : decode cX3_append 51 = .ok (.if_icmp .ge 7, 3) := by decide +kernel
theorem dX3_append_54 : decode cX3_append 54 = .ok (.iconst 1, 1) := by decide +kernel
theorem dX3_append_55 : decode cX3_append 55 = .ok (.goto 4, 3) := by decide +kernel
theorem dX3_append_58 : decode cX3_append 58 = .ok (.iconst 0, 1) := by decide +kernel
theorem dX3_append_59 : decode cX3_append 59 = .ok (.invokevirtual 63, 3) := by decide +kernel
theorem dX3_append_62 : decode cX3_append 62 = .ok (.ifCond .ne 5, 3) := by decide +kernel
theorem dX3_append_65 : decode cX3_append 65 = .ok (.iconst 0, 1) := by decide +kernel
theorem dX3_append_66 : decode cX3_append 66 = .ok (.ireturn, 1) := by decide +kernel
theorem dX3_append_67 : decode cX3_append 67 = .ok (.aload_n 0, 1) := by decide +kernel
theorem dX3_append_68 : decode cX3_append 68 = .ok (.getfield 11, 3) := by decide +kernel
theorem dX3_append_71 : decode cX3_append 71 = .ok (.iload 5, 2) := by decide +kernel
theorem dX3_append_73 : decode cX3_append 73 = .ok (.aaload, 1) := by decide +kernel
theorem dX3_append_74 : decode cX3_append 74 = .ok (.iload_n 2, 1) := by decide +kernel
theorem dX3_append_75 : decode cX3_append 75 = .ok (.aaload, 1) := by decide +kernel
theorem dX3_append_76 : decode cX3_append 76 = .ok (.aload_n 0, 1) := by decide +kernel
theorem dX3_append_77 : decode cX3_append 77 = .ok (.getfield 16, 3) := by decide +kernel
theorem dX3_append_80 : decode cX3_append 80 = .ok (.iload 5, 2) := by decide +kernel
theorem dX3_append_82 : decode cX3_append 82 = .ok (.aaload, 1) := by decide +kernel
theorem dX3_append_83 : decode cX3_append 83 = .ok (.iload_n 2, 1) := by decide +kernel
theorem dX3_append_84 : decode cX3_append 84 = .ok (.iaload, 1) := by decide +kernel
theorem dX3_append_85 : decode cX3_append 85 = .ok (.lload_n 3, 1) := by decide +kernel
theorem dX3_append_86 : decode cX3_append 86 = .ok (.lastore, 1) := by decide +kernel
theorem dX3_append_87 : decode cX3_append 87 = .ok (.aload_n 0, 1) := by decide +kernel
theorem dX3_append_88 : decode cX3_append 88 = .ok (.getfield 16, 3) := by decide +kernel
theorem dX3_append_91 : decode cX3_append 91 = .ok (.iload 5, 2) := by decide +kernel
theorem dX3_append_93 : decode cX3_append 93 = .ok (.aaload, 1) := by decide +kernel
theorem dX3_append_94 : decode cX3_append 94 = .ok (.iload_n 2, 1) := by decide +kernel
theorem dX3_append_95 : decode cX3_append 95 = .ok (.dup2, 1) := by decide +kernel
theorem dX3_append_96 : decode cX3_append 96 = .ok (.iaload, 1) := by decide +kernel
theorem dX3_append_97 : decode cX3_append 97 = .ok (.iconst 1, 1) := by decide +kernel
theorem dX3_append_98 : decode cX3_append 98 = .ok (.iadd, 1) := by decide +kernel
theorem dX3_append_99 : decode cX3_append 99 = .ok (.iastore, 1) := by decide +kernel
theorem dX3_append_100 : decode cX3_append 100 = .ok (.aload_n 0, 1) := by decide +kernel
theorem dX3_append_101 : decode cX3_append 101 = .ok (.getfield 16, 3) := by decide +kernel
theorem dX3_append_104 : decode cX3_append 104 = .ok (.iload 5, 2) := by decide +kernel
theorem dX3_append_106 : decode cX3_append 106 = .ok (.aaload, 1) := by decide +kernel
theorem dX3_append_107 : decode cX3_append 107 = .ok (.iload_n 2, 1) := by decide +kernel
theorem dX3_append_108 : decode cX3_append 108 = .ok (.iaload, 1) := by decide +kernel
theorem dX3_append_109 : decode cX3_append 109 = .ok (.ireturn, 1) := by decide +kernel
theorem dX3_lay_0 : decode cX3_lay 0 = .ok (.iload_n 1, 1) := by decide +kernel
theorem dX3_lay_1 : decode cX3_lay 1 = .ok (.invokestatic 51, 3) := by decide +kernel
theorem dX3_lay_4 : decode cX3_lay 4 = .ok (.istore 8, 2) := by decide +kernel
theorem dX3_lay_6 : decode cX3_lay 6 = .ok (.aload_n 0, 1) := by decide +kernel
theorem dX3_lay_7 : decode cX3_lay 7 = .ok (.iload 8, 2) := by decide +kernel
theorem dX3_lay_9 : decode cX3_lay 9 = .ok (.ifCond .lt 17, 3) := by decide +kernel
theorem dX3_lay_12 : decode cX3_lay 12 = .ok (.iload_n 3, 1) := by decide +kernel
theorem dX3_lay_13 : decode cX3_lay 13 = .ok (.ifCond .lt 13, 3) := by decide +kernel
theorem dX3_lay_16 : decode cX3_lay 16 = .ok (.iload_n 3, 1) := by decide +kernel
theorem dX3_lay_17 : decode cX3_lay 17 = .ok (.bipush 48, 2) := by decide +kernel
theorem dX3_lay_19 : decode cX3_lay 19 = .ok (.if_icmp .gt 7, 3) := by decide +kernel
theorem dX3_lay_22 : decode cX3_lay 22 = .ok (.iconst 1, 1) := by decide +kernel
theorem dX3_lay_23 : decode cX3_lay 23 = .ok (.goto 4, 3) := by decide +kernel
theorem dX3_lay_26 : decode cX3_lay 26 = .ok (.iconst 0, 1) := by decide +kernel
theorem dX3_lay_27 : decode cX3_lay 27 = .ok (.iload_n 2, 1) := by decide +kernel
theorem dX3_lay_28 : decode cX3_lay 28 = .ok (.invokestatic 59, 3) := by decide +kernel
theorem dX3_lay_31 : decode cX3_lay 31 = .ok (.iconst 1, 1) := by decide +kernel
theorem dX3_lay_32 : decode cX3_lay 32 = .ok (.invokevirtual 63, 3) := by decide +kernel
theorem dX3_lay_35 : decode cX3_lay 35 = .ok (.ifCond .ne 5, 3) := by decide +kernel
theorem dX3_lay_38 : decode cX3_lay 38 = .ok (.iconst 0, 1) := by decide +kernel
theorem dX3_lay_39 : decode cX3_lay 39 = .ok (.ireturn, 1) := by decide +kernel
theorem dX3_lay_40 : decode cX3_lay 40 = .ok (.aload_n 0, 1) := by decide +kernel
theorem dX3_lay_41 : decode cX3_lay 41 = .ok (.getfield 16, 3) := by decide +kernel
theorem dX3_lay_44 : decode cX3_lay 44 = .ok (.iload 8, 2) := by decide +kernel
theorem dX3_lay_46 : decode cX3_lay 46 = .ok (.aaload, 1) := by decide +kernel
theorem dX3_lay_47 : decode cX3_lay 47 = .ok (.iload_n 2, 1) := by decide +kernel
theorem dX3_lay_48 : decode cX3_lay 48 = .ok (.iaload, 1) := by decide +kernel
theorem dX3_lay_49 : decode cX3_lay 49 = .ok (.istore 9, 2) := by decide +kernel
theorem dX3_lay_51 : decode cX3_lay 51 = .ok (.lload 4, 2) := by decide +kernel
theorem dX3_lay_53 : decode cX3_lay 53 = .ok (.lstore 10, 2) := by decide +kernel
theorem dX3_lay_55 : decode cX3_lay 55 = .ok (.iconst 0, 1) := by decide +kernel
theorem dX3_lay_56 : decode cX3_lay 56 = .ok (.istore 12, 2) := by decide +kernel
theorem dX3_lay_58 : decode cX3_lay 58 = .ok (.iload 12, 2) := by decide +kernel
theorem dX3_lay_60 : decode cX3_lay 60 = .ok (.iload_n 3, 1) := by decide +kernel
theorem dX3_lay_61 : decode cX3_lay 61 = .ok (.if_icmp .ge 43, 3) := by decide +kernel
theorem dX3_lay_64 : decode cX3_lay 64 = .ok (.aload_n 0, 1) := by decide +kernel
theorem dX3_lay_65 : decode cX3_lay 65 = .ok (.getfield 11, 3) := by decide +kernel
theorem dX3_lay_68 : decode cX3_lay 68 = .ok (.iload 8, 2) := by decide +kernel
theorem dX3_lay_70 : decode cX3_lay 70 = .ok (.aaload, 1) := by decide +kernel
theorem dX3_lay_71 : decode cX3_lay 71 = .ok (.iload_n 2, 1) := by decide +kernel
theorem dX3_lay_72 : decode cX3_lay 72 = .ok (.aaload, 1) := by decide +kernel
theorem dX3_lay_73 : decode cX3_lay 73 = .ok (.iload 12, 2) := by decide +kernel
theorem dX3_lay_75 : decode cX3_lay 75 = .ok (.iload 8, 2) := by decide +kernel
theorem dX3_lay_77 : decode cX3_lay 77 = .ok (.iconst 1, 1) := by decide +kernel
theorem dX3_lay_78 : decode cX3_lay 78 = .ok (.if_icmp .ne 8, 3) := by decide +kernel
theorem dX3_lay_81 : decode cX3_lay 81 = .ok (.lload 10, 2) := by decide +kernel
theorem dX3_lay_83 : decode cX3_lay 83 = .ok (.goto 7, 3) := by decide +kernel
theorem dX3_lay_86 : decode cX3_lay 86 = .ok (.lload 10, 2) := by decide +kernel
theorem dX3_lay_88 : decode cX3_lay 88 = .ok (.l2i, 1) := by decide +kernel
theorem dX3_lay_89 : decode cX3_lay 89 = .ok (.i2l, 1) := by decide +kernel
theorem dX3_lay_90 : decode cX3_lay 90 = .ok (.lastore, 1) := by decide +kernel
theorem dX3_lay_91 : decode cX3_lay 91 = .ok (.lload 10, 2) := by decide +kernel
theorem dX3_lay_93 : decode cX3_lay 93 = .ok (.lload 6, 2) := by decide +kernel
theorem dX3_lay_95 : decode cX3_lay 95 = .ok (.ladd, 1) := by decide +kernel
theorem dX3_lay_96 : decode cX3_lay 96 = .ok (.lstore 10, 2) := by decide +kernel
theorem dX3_lay_98 : decode cX3_lay 98 = .ok (.iinc 12 1, 3) := by decide +kernel
theorem dX3_lay_101 : decode cX3_lay 101 = .ok (.goto (-43), 3) := by decide +kernel
theorem dX3_lay_104 : decode cX3_lay 104 = .ok (.aload_n 0, 1) := by decide +kernel
theorem dX3_lay_105 : decode cX3_lay 105 = .ok (.getfield 16, 3) := by decide +kernel
theorem dX3_lay_108 : decode cX3_lay 108 = .ok (.iload 8, 2) := by decide +kernel
theorem dX3_lay_110 : decode cX3_lay 110 = .ok (.aaload, 1) := by decide +kernel
theorem dX3_lay_111 : decode cX3_lay 111 = .ok (.iload_n 2, 1) := by decide +kernel
theorem dX3_lay_112 : decode cX3_lay 112 = .ok (.iload_n 3, 1) := by decide +kernel
theorem dX3_lay_113 : decode cX3_lay 113 = .ok (.iastore, 1) := by decide +kernel
theorem dX3_lay_114 : decode cX3_lay 114 = .ok (.iload 9, 2) := by decide +kernel
theorem dX3_lay_116 : decode cX3_lay 116 = .ok (.ireturn, 1) := by decide +kernel
theorem dX3_turn_0 : decode cX3_turn 0 = .ok (.iload_n 1, 1) := by decide +kernel
theorem dX3_turn_1 : decode cX3_turn 1 = .ok (.invokestatic 51, 3) := by decide +kernel
theorem dX3_turn_4 : decode cX3_turn 4 = .ok (.istore_n 3, 1) := by decide +kernel
theorem dX3_turn_5 : decode cX3_turn 5 = .ok (.aload_n 0, 1) := by decide +kernel
theorem dX3_turn_6 : decode cX3_turn 6 = .ok (.iload_n 3, 1) := by decide +kernel
theorem dX3_turn_7 : decode cX3_turn 7 = .ok (.ifCond .lt 7, 3) := by decide +kernel
theorem dX3_turn_10 : decode cX3_turn 10 = .ok (.iconst 1, 1) := by decide +kernel
theorem dX3_turn_11 : decode cX3_turn 11 = .ok (.goto 4, 3) := by decide +kernel
theorem dX3_turn_14 : decode cX3_turn 14 = .ok (.iconst 0, 1) := by decide +kernel
theorem dX3_turn_15 : decode cX3_turn 15 = .ok (.iload_n 2, 1) := by decide +kernel
theorem dX3_turn_16 : decode cX3_turn 16 = .ok (.invokestatic 59, 3) := by decide +kernel
theorem dX3_turn_19 : decode cX3_turn 19 = .ok (.iconst 1, 1) := by decide +kernel
theorem dX3_turn_20 : decode cX3_turn 20 = .ok (.invokevirtual 63, 3) := by decide +kernel
theorem dX3_turn_23 : decode cX3_turn 23 = .ok (.ifCond .ne 5, 3) := by decide +kernel
theorem dX3_turn_26 : decode cX3_turn 26 = .ok (.iconst 0, 1) := by decide +kernel
theorem dX3_turn_27 : decode cX3_turn 27 = .ok (.ireturn, 1) := by decide +kernel
theorem dX3_turn_28 : decode cX3_turn 28 = .ok (.aload_n 0, 1) := by decide +kernel
theorem dX3_turn_29 : decode cX3_turn 29 = .ok (.getfield 16, 3) := by decide +kernel
theorem dX3_turn_32 : decode cX3_turn 32 = .ok (.iload_n 3, 1) := by decide +kernel
theorem dX3_turn_33 : decode cX3_turn 33 = .ok (.aaload, 1) := by decide +kernel
theorem dX3_turn_34 : decode cX3_turn 34 = .ok (.iload_n 2, 1) := by decide +kernel
theorem dX3_turn_35 : decode cX3_turn 35 = .ok (.iaload, 1) := by decide +kernel
theorem dX3_turn_36 : decode cX3_turn 36 = .ok (.istore 4, 2) := by decide +kernel
theorem dX3_turn_38 : decode cX3_turn 38 = .ok (.iload 4, 2) := by decide +kernel
theorem dX3_turn_40 : decode cX3_turn 40 = .ok (.newarray .long, 2) := by decide +kernel
theorem dX3_turn_42 : decode cX3_turn 42 = .ok (.astore 5, 2) := by decide +kernel
theorem dX3_turn_44 : decode cX3_turn 44 = .ok (.iconst 0, 1) := by decide +kernel
theorem dX3_turn_45 : decode cX3_turn 45 = .ok (.istore 6, 2) := by decide +kernel
theorem dX3_turn_47 : decode cX3_turn 47 = .ok (.iload 6, 2) := by decide +kernel
theorem dX3_turn_49 : decode cX3_turn 49 = .ok (.iload 4, 2) := by decide +kernel
theorem dX3_turn_51 : decode cX3_turn 51 = .ok (.if_icmp .ge 25, 3) := by decide +kernel
theorem dX3_turn_54 : decode cX3_turn 54 = .ok (.aload 5, 2) := by decide +kernel
theorem dX3_turn_56 : decode cX3_turn 56 = .ok (.iload 6, 2) := by decide +kernel
theorem dX3_turn_58 : decode cX3_turn 58 = .ok (.aload_n 0, 1) := by decide +kernel
theorem dX3_turn_59 : decode cX3_turn 59 = .ok (.getfield 11, 3) := by decide +kernel
theorem dX3_turn_62 : decode cX3_turn 62 = .ok (.iload_n 3, 1) := by decide +kernel
theorem dX3_turn_63 : decode cX3_turn 63 = .ok (.aaload, 1) := by decide +kernel
theorem dX3_turn_64 : decode cX3_turn 64 = .ok (.iload_n 2, 1) := by decide +kernel
theorem dX3_turn_65 : decode cX3_turn 65 = .ok (.aaload, 1) := by decide +kernel
theorem dX3_turn_66 : decode cX3_turn 66 = .ok (.iload 6, 2) := by decide +kernel
theorem dX3_turn_68 : decode cX3_turn 68 = .ok (.laload, 1) := by decide +kernel
theorem dX3_turn_69 : decode cX3_turn 69 = .ok (.lastore, 1) := by decide +kernel
theorem dX3_turn_70 : decode cX3_turn 70 = .ok (.iinc 6 1, 3) := by decide +kernel
theorem dX3_turn_73 : decode cX3_turn 73 = .ok (.goto (-26), 3) := by decide +kernel
theorem dX3_turn_76 : decode cX3_turn 76 = .ok (.iconst 0, 1) := by decide +kernel
theorem dX3_turn_77 : decode cX3_turn 77 = .ok (.istore 6, 2) := by decide +kernel
theorem dX3_turn_79 : decode cX3_turn 79 = .ok (.iload 6, 2) := by decide +kernel
theorem dX3_turn_81 : decode cX3_turn 81 = .ok (.iload 4, 2) := by decide +kernel
theorem dX3_turn_83 : decode cX3_turn 83 = .ok (.if_icmp .ge 30, 3) := by decide +kernel
theorem dX3_turn_86 : decode cX3_turn 86 = .ok (.aload_n 0, 1) := by decide +kernel
theorem dX3_turn_87 : decode cX3_turn 87 = .ok (.getfield 11, 3) := by decide +kernel
theorem dX3_turn_90 : decode cX3_turn 90 = .ok (.iload_n 3, 1) := by decide +kernel
theorem dX3_turn_91 : decode cX3_turn 91 = .ok (.aaload, 1) := by decide +kernel
theorem dX3_turn_92 : decode cX3_turn 92 = .ok (.iload_n 2, 1) := by decide +kernel
theorem dX3_turn_93 : decode cX3_turn 93 = .ok (.aaload, 1) := by decide +kernel
theorem dX3_turn_94 : decode cX3_turn 94 = .ok (.iload 6, 2) := by decide +kernel
theorem dX3_turn_96 : decode cX3_turn 96 = .ok (.aload 5, 2) := by decide +kernel
theorem dX3_turn_98 : decode cX3_turn 98 = .ok (.iload 4, 2) := by decide +kernel
theorem dX3_turn_100 : decode cX3_turn 100 = .ok (.iconst 1, 1) := by decide +kernel
theorem dX3_turn_101 : decode cX3_turn 101 = .ok (.isub, 1) := by decide +kernel
theorem dX3_turn_102 : decode cX3_turn 102 = .ok (.iload 6, 2) := by decide +kernel
theorem dX3_turn_104 : decode cX3_turn 104 = .ok (.isub, 1) := by decide +kernel
theorem dX3_turn_105 : decode cX3_turn 105 = .ok (.laload, 1) := by decide +kernel
theorem dX3_turn_106 : decode cX3_turn 106 = .ok (.lastore, 1) := by decide +kernel
theorem dX3_turn_107 : decode cX3_turn 107 = .ok (.iinc 6 1, 3) := by decide +kernel
theorem dX3_turn_110 : decode cX3_turn 110 = .ok (.goto (-31), 3) := by decide +kernel
theorem dX3_turn_113 : decode cX3_turn 113 = .ok (.iload 4, 2) := by decide +kernel
theorem dX3_turn_115 : decode cX3_turn 115 = .ok (.ireturn, 1) := by decide +kernel
theorem dX3_length_0 : decode cX3_length 0 = .ok (.iload_n 1, 1) := by decide +kernel
theorem dX3_length_1 : decode cX3_length 1 = .ok (.invokestatic 51, 3) := by decide +kernel
theorem dX3_length_4 : decode cX3_length 4 = .ok (.istore_n 3, 1) := by decide +kernel
theorem dX3_length_5 : decode cX3_length 5 = .ok (.aload_n 0, 1) := by decide +kernel
theorem dX3_length_6 : decode cX3_length 6 = .ok (.iload_n 3, 1) := by decide +kernel
theorem dX3_length_7 : decode cX3_length 7 = .ok (.ifCond .lt 7, 3) := by decide +kernel
theorem dX3_length_10 : decode cX3_length 10 = .ok (.iconst 1, 1) := by decide +kernel
theorem dX3_length_11 : decode cX3_length 11 = .ok (.goto 4, 3) := by decide +kernel
theorem dX3_length_14 : decode cX3_length 14 = .ok (.iconst 0, 1) := by decide +kernel
theorem dX3_length_15 : decode cX3_length 15 = .ok (.iload_n 2, 1) := by decide +kernel
theorem dX3_length_16 : decode cX3_length 16 = .ok (.invokestatic 59, 3) := by decide +kernel
theorem dX3_length_19 : decode cX3_length 19 = .ok (.iconst 1, 1) := by decide +kernel
theorem dX3_length_20 : decode cX3_length 20 = .ok (.invokevirtual 63, 3) := by decide +kernel
theorem dX3_length_23 : decode cX3_length 23 = .ok (.ifCond .eq 14, 3) := by decide +kernel
theorem dX3_length_26 : decode cX3_length 26 = .ok (.aload_n 0, 1) := by decide +kernel
theorem dX3_length_27 : decode cX3_length 27 = .ok (.getfield 16, 3) := by decide +kernel
theorem dX3_length_30 : decode cX3_length 30 = .ok (.iload_n 3, 1) := by decide +kernel
theorem dX3_length_31 : decode cX3_length 31 = .ok (.aaload, 1) := by decide +kernel
theorem dX3_length_32 : decode cX3_length 32 = .ok (.iload_n 2, 1) := by decide +kernel
theorem dX3_length_33 : decode cX3_length 33 = .ok (.iaload, 1) := by decide +kernel
theorem dX3_length_34 : decode cX3_length 34 = .ok (.goto 4, 3) := by decide +kernel
theorem dX3_length_37 : decode cX3_length 37 = .ok (.iconst 0, 1) := by decide +kernel
theorem dX3_length_38 : decode cX3_length 38 = .ok (.ireturn, 1) := by decide +kernel
theorem dX3_number_0 : decode cX3_number 0 = .ok (.iload_n 1, 1) := by decide +kernel
theorem dX3_number_1 : decode cX3_number 1 = .ok (.invokestatic 51, 3) := by decide +kernel
theorem dX3_number_4 : decode cX3_number 4 = .ok (.istore 4, 2) := by decide +kernel
theorem dX3_number_6 : decode cX3_number 6 = .ok (.aload_n 0, 1) := by decide +kernel
theorem dX3_number_7 : decode cX3_number 7 = .ok (.iload 4, 2) := by decide +kernel
theorem dX3_number_9 : decode cX3_number 9 = .ok (.ifCond .lt 7, 3) := by decide +kernel
theorem dX3_number_12 : decode cX3_number 12 = .ok (.iconst 1, 1) := by decide +kernel
theorem dX3_number_13 : decode cX3_number 13 = .ok (.goto 4, 3) := by decide +kernel
theorem dX3_number_16 : decode cX3_number 16 = .ok (.iconst 0, 1) := by decide +kernel
theorem dX3_number_17 : decode cX3_number 17 = .ok (.iload_n 2, 1) := by decide +kernel
theorem dX3_number_18 : decode cX3_number 18 = .ok (.invokestatic 59, 3) := by decide +kernel
theorem dX3_number_21 : decode cX3_number 21 = .ok (.iconst 1, 1) := by decide +kernel
theorem dX3_number_22 : decode cX3_number 22 = .ok (.invokevirtual 63, 3) := by decide +kernel
theorem dX3_number_25 : decode cX3_number 25 = .ok (.ifCond .eq 34, 3) := by decide +kernel
theorem dX3_number_28 : decode cX3_number 28 = .ok (.aload_n 0, 1) := by decide +kernel
theorem dX3_number_29 : decode cX3_number 29 = .ok (.iconst 1, 1) := by decide +kernel
theorem dX3_number_30 : decode cX3_number 30 = .ok (.iload_n 3, 1) := by decide +kernel
theorem dX3_number_31 : decode cX3_number 31 = .ok (.ifCond .lt 20, 3) := by decide +kernel
theorem dX3_number_34 : decode cX3_number 34 = .ok (.iload_n 3, 1) := by decide +kernel
theorem dX3_number_35 : decode cX3_number 35 = .ok (.aload_n 0, 1) := by decide +kernel
theorem dX3_number_36 : decode cX3_number 36 = .ok (.getfield 16, 3) := by decide +kernel
theorem dX3_number_39 : decode cX3_number 39 = .ok (.iload 4, 2) := by decide +kernel
theorem dX3_number_41 : decode cX3_number 41 = .ok (.aaload, 1) := by decide +kernel
theorem dX3_number_42 : decode cX3_number 42 = .ok (.iload_n 2, 1) := by decide +kernel
theorem dX3_number_43 : decode cX3_number 43 = .ok (.iaload, 1) := by decide +kernel
theorem dX3_number_44 : decode cX3_number 44 = .ok (.if_icmp .ge 7, 3) := by decide +kernel
theorem dX3_number_47 : decode cX3_number 47 = .ok (.iconst 1, 1) := by decide +kernel
theorem dX3_number_48 : decode cX3_number 48 = .ok (.goto 4, 3) := by decide +kernel
theorem dX3_number_51 : decode cX3_number 51 = .ok (.iconst 0, 1) := by decide +kernel
theorem dX3_number_52 : decode cX3_number 52 = .ok (.iconst 1, 1) := by decide +kernel
theorem dX3_number_53 : decode cX3_number 53 = .ok (.invokevirtual 63, 3) := by decide +kernel
theorem dX3_number_56 : decode cX3_number 56 = .ok (.ifCond .ne 5, 3) := by decide +kernel
theorem dX3_number_59 : decode cX3_number 59 = .ok (.lconst 0, 1) := by decide +kernel
theorem dX3_number_60 : decode cX3_number 60 = .ok (.lreturn, 1) := by decide +kernel
theorem dX3_number_61 : decode cX3_number 61 = .ok (.aload_n 0, 1) := by decide +kernel
theorem dX3_number_62 : decode cX3_number 62 = .ok (.getfield 11, 3) := by decide +kernel
theorem dX3_number_65 : decode cX3_number 65 = .ok (.iload 4, 2) := by decide +kernel
theorem dX3_number_67 : decode cX3_number 67 = .ok (.aaload, 1) := by decide +kernel
theorem dX3_number_68 : decode cX3_number 68 = .ok (.iload_n 2, 1) := by decide +kernel
theorem dX3_number_69 : decode cX3_number 69 = .ok (.aaload, 1) := by decide +kernel
theorem dX3_number_70 : decode cX3_number 70 = .ok (.iload_n 3, 1) := by decide +kernel
theorem dX3_number_71 : decode cX3_number 71 = .ok (.laload, 1) := by decide +kernel
theorem dX3_number_72 : decode cX3_number 72 = .ok (.lreturn, 1) := by decide +kernel
theorem dX3_isBench_0 : decode cX3_isBench 0 = .ok (.iload_n 0, 1) := by decide +kernel
theorem dX3_isBench_1 : decode cX3_isBench 1 = .ok (.ifCond .lt 13, 3) := by decide +kernel
theorem dX3_isBench_4 : decode cX3_isBench 4 = .ok (.iload_n 0, 1) := by decide +kernel
theorem dX3_isBench_5 : decode cX3_isBench 5 = .ok (.bipush 6, 2) := by decide +kernel
theorem dX3_isBench_7 : decode cX3_isBench 7 = .ok (.if_icmp .ge 7, 3) := by decide +kernel
theorem dX3_isBench_10 : decode cX3_isBench 10 = .ok (.iconst 1, 1) := by decide +kernel
theorem dX3_isBench_11 : decode cX3_isBench 11 = .ok (.goto 4, 3) := by decide +kernel
theorem dX3_isBench_14 : decode cX3_isBench 14 = .ok (.iconst 0, 1) := by decide +kernel
theorem dX3_isBench_15 : decode cX3_isBench 15 = .ok (.ireturn, 1) := by decide +kernel
theorem dX3_opened_0 : decode cX3_opened 0 = .ok (.aload_n 0, 1) := by decide +kernel
theorem dX3_opened_1 : decode cX3_opened 1 = .ok (.getfield 24, 3) := by decide +kernel
theorem dX3_opened_4 : decode cX3_opened 4 = .ok (.iload_n 1, 1) := by decide +kernel
theorem dX3_opened_5 : decode cX3_opened 5 = .ok (.iload 5, 2) := by decide +kernel
theorem dX3_opened_7 : decode cX3_opened 7 = .ok (.iload 4, 2) := by decide +kernel
theorem dX3_opened_9 : decode cX3_opened 9 = .ok (.isub, 1) := by decide +kernel
theorem dX3_opened_10 : decode cX3_opened 10 = .ok (.iastore, 1) := by decide +kernel
theorem dX3_opened_11 : decode cX3_opened 11 = .ok (.iload 4, 2) := by decide +kernel
theorem dX3_opened_13 : decode cX3_opened 13 = .ok (.istore 6, 2) := by decide +kernel
theorem dX3_opened_15 : decode cX3_opened 15 = .ok (.iload 6, 2) := by decide +kernel
theorem dX3_opened_17 : decode cX3_opened 17 = .ok (.iload 5, 2) := by decide +kernel
theorem dX3_opened_19 : decode cX3_opened 19 = .ok (.if_icmp .ge 32, 3) := by decide +kernel
theorem dX3_opened_22 : decode cX3_opened 22 = .ok (.aload_n 0, 1) := by decide +kernel
theorem dX3_opened_23 : decode cX3_opened 23 = .ok (.getfield 21, 3) := by decide +kernel
theorem dX3_opened_26 : decode cX3_opened 26 = .ok (.iload_n 1, 1) := by decide +kernel
theorem dX3_opened_27 : decode cX3_opened 27 = .ok (.aaload, 1) := by decide +kernel
theorem dX3_opened_28 : decode cX3_opened 28 = .ok (.iload 6, 2) := by decide +kernel
theorem dX3_opened_30 : decode cX3_opened 30 = .ok (.iload 4, 2) := by decide +kernel
theorem dX3_opened_32 : decode cX3_opened 32 = .ok (.isub, 1) := by decide +kernel
theorem dX3_opened_33 : decode cX3_opened 33 = .ok (.aload_n 0, 1) := by decide +kernel
theorem dX3_opened_34 : decode cX3_opened 34 = .ok (.getfield 11, 3) := by decide +kernel
theorem dX3_opened_37 : decode cX3_opened 37 = .ok (.iload_n 2, 1) := by decide +kernel
theorem dX3_opened_38 : decode cX3_opened 38 = .ok (.aaload, 1) := by decide +kernel
theorem dX3_opened_39 : decode cX3_opened 39 = .ok (.iload_n 3, 1) := by decide +kernel
theorem dX3_opened_40 : decode cX3_opened 40 = .ok (.aaload, 1) := by decide +kernel
theorem dX3_opened_41 : decode cX3_opened 41 = .ok (.iload 6, 2) := by decide +kernel
theorem dX3_opened_43 : decode cX3_opened 43 = .ok (.laload, 1) := by decide +kernel
theorem dX3_opened_44 : decode cX3_opened 44 = .ok (.lastore, 1) := by decide +kernel
theorem dX3_opened_45 : decode cX3_opened 45 = .ok (.iinc 6 1, 3) := by decide +kernel
theorem dX3_opened_48 : decode cX3_opened 48 = .ok (.goto (-33), 3) := by decide +kernel
theorem dX3_opened_51 : decode cX3_opened 51 = .ok (.aload_n 0, 1) := by decide +kernel
theorem dX3_opened_52 : decode cX3_opened 52 = .ok (.getfield 28, 3) := by decide +kernel
theorem dX3_opened_55 : decode cX3_opened 55 = .ok (.iload_n 1, 1) := by decide +kernel
theorem dX3_opened_56 : decode cX3_opened 56 = .ok (.iload_n 2, 1) := by decide +kernel
theorem dX3_opened_57 : decode cX3_opened 57 = .ok (.iconst 2, 1) := by decide +kernel
theorem dX3_opened_58 : decode cX3_opened 58 = .ok (.if_icmp .ne 7, 3) := by decide +kernel
theorem dX3_opened_61 : decode cX3_opened 61 = .ok (.iconst 1, 1) := by decide +kernel
theorem dX3_opened_62 : decode cX3_opened 62 = .ok (.goto 4, 3) := by decide +kernel
theorem dX3_opened_65 : decode cX3_opened 65 = .ok (.iconst 0, 1) := by decide +kernel
theorem dX3_opened_66 : decode cX3_opened 66 = .ok (.bastore, 1) := by decide +kernel
theorem dX3_opened_67 : decode cX3_opened 67 = .ok (.aload_n 0, 1) := by decide +kernel
theorem dX3_opened_68 : decode cX3_opened 68 = .ok (.getfield 34, 3) := by decide +kernel
theorem dX3_opened_71 : decode cX3_opened 71 = .ok (.iload_n 1, 1) := by decide +kernel
theorem dX3_opened_72 : decode cX3_opened 72 = .ok (.aaload, 1) := by decide +kernel
theorem dX3_opened_73 : decode cX3_opened 73 = .ok (.iconst 0, 1) := by decide +kernel
theorem dX3_opened_74 : decode cX3_opened 74 = .ok (.bipush 112, 2) := by decide +kernel
theorem dX3_opened_76 : decode cX3_opened 76 = .ok (.castore, 1) := by decide +kernel
theorem dX3_opened_77 : decode cX3_opened 77 = .ok (.aload_n 0, 1) := by decide +kernel
theorem dX3_opened_78 : decode cX3_opened 78 = .ok (.getfield 37, 3) := by decide +kernel
theorem dX3_opened_81 : decode cX3_opened 81 = .ok (.iload_n 1, 1) := by decide +kernel
theorem dX3_opened_82 : decode cX3_opened 82 = .ok (.aaload, 1) := by decide +kernel
theorem dX3_opened_83 : decode cX3_opened 83 = .ok (.iconst 0, 1) := by decide +kernel
theorem dX3_opened_84 : decode cX3_opened 84 = .ok (.iload 5, 2) := by decide +kernel
theorem dX3_opened_86 : decode cX3_opened 86 = .ok (.iload 4, 2) := by decide +kernel
theorem dX3_opened_88 : decode cX3_opened 88 = .ok (.isub, 1) := by decide +kernel
theorem dX3_opened_89 : decode cX3_opened 89 = .ok (.iastore, 1) := by decide +kernel
theorem dX3_opened_90 : decode cX3_opened 90 = .ok (.aload_n 0, 1) := by decide +kernel
theorem dX3_opened_91 : decode cX3_opened 91 = .ok (.getfield 40, 3) := by decide +kernel
theorem dX3_opened_94 : decode cX3_opened 94 = .ok (.iload_n 1, 1) := by decide +kernel
theorem dX3_opened_95 : decode cX3_opened 95 = .ok (.iconst 1, 1) := by decide +kernel
theorem dX3_opened_96 : decode cX3_opened 96 = .ok (.iastore, 1) := by decide +kernel
theorem dX3_opened_97 : decode cX3_opened 97 = .ok (.iload 5, 2) := by decide +kernel
theorem dX3_opened_99 : decode cX3_opened 99 = .ok (.iload 4, 2) := by decide +kernel
theorem dX3_opened_101 : decode cX3_opened 101 = .ok (.isub, 1) := by decide +kernel
theorem dX3_opened_102 : decode cX3_opened 102 = .ok (.ireturn, 1) := by decide +kernel
theorem dX3_open_0 : decode cX3_open 0 = .ok (.iload_n 2, 1) := by decide +kernel
theorem dX3_open_1 : decode cX3_open 1 = .ok (.invokestatic 51, 3) := by decide +kernel
theorem dX3_open_4 : decode cX3_open 4 = .ok (.istore 6, 2) := by decide +kernel
theorem dX3_open_6 : decode cX3_open 6 = .ok (.aload_n 0, 1) := by decide +kernel
theorem dX3_open_7 : decode cX3_open 7 = .ok (.iload 6, 2) := by decide +kernel
theorem dX3_open_9 : decode cX3_open 9 = .ok (.ifCond .lt 7, 3) := by decide +kernel
theorem dX3_open_12 : decode cX3_open 12 = .ok (.iconst 1, 1) := by decide +kernel
theorem dX3_open_13 : decode cX3_open 13 = .ok (.goto 4, 3) := by decide +kernel
theorem dX3_open_16 : decode cX3_open 16 = .ok (.iconst 0, 1) := by decide +kernel
theorem dX3_open_17 : decode cX3_open 17 = .ok (.iload_n 1, 1) := by decide +kernel
theorem dX3_open_18 : decode cX3_open 18 = .ok (.invokestatic 67, 3) := by decide +kernel
theorem dX3_open_21 : decode cX3_open 21 = .ok (.ifCond .eq 26, 3) := by decide +kernel
theorem dX3_open_24 : decode cX3_open 24 = .ok (.iload_n 3, 1) := by decide +kernel
theorem dX3_open_25 : decode cX3_open 25 = .ok (.invokestatic 59, 3) := by decide +kernel
theorem dX3_open_28 : decode cX3_open 28 = .ok (.ifCond .eq 19, 3) := by decide +kernel
theorem dX3_open_31 : decode cX3_open 31 = .ok (.iload 4, 2) := by decide +kernel
theorem dX3_open_33 : decode cX3_open 33 = .ok (.ifCond .lt 14, 3) := by decide +kernel
theorem dX3_open_36 : decode cX3_open 36 = .ok (.iload 4, 2) := by decide +kernel
theorem dX3_open_38 : decode cX3_open 38 = .ok (.iload 5, 2) := by decide +kernel
theorem dX3_open_40 : decode cX3_open 40 = .ok (.if_icmp .gt 7, 3) := by decide +kernel
theorem dX3_open_43 : decode cX3_open 43 = .ok (.iconst 1, 1) := by decide +kernel
theorem dX3_open_44 : decode cX3_open 44 = .ok (.goto 4, 3) := by decide +kernel
theorem dX3_open_47 : decode cX3_open 47 = .ok (.iconst 0, 1) := by decide +kernel
theorem dX3_open_48 : decode cX3_open 48 = .ok (.iconst 1, 1) := by decide +kernel
theorem dX3_open_49 : decode cX3_open 49 = .ok (.invokevirtual 63, 3) := by decide +kernel
theorem dX3_open_52 : decode cX3_open 52 = .ok (.ifCond .eq 31, 3) := by decide +kernel
theorem dX3_open_55 : decode cX3_open 55 = .ok (.aload_n 0, 1) := by decide +kernel
theorem dX3_open_56 : decode cX3_open 56 = .ok (.iconst 1, 1) := by decide +kernel
theorem dX3_open_57 : decode cX3_open 57 = .ok (.iload 5, 2) := by decide +kernel
theorem dX3_open_59 : decode cX3_open 59 = .ok (.aload_n 0, 1) := by decide +kernel
theorem dX3_open_60 : decode cX3_open 60 = .ok (.getfield 16, 3) := by decide +kernel
theorem dX3_open_63 : decode cX3_open 63 = .ok (.iload 6, 2) := by decide +kernel
theorem dX3_open_65 : decode cX3_open 65 = .ok (.aaload, 1) := by decide +kernel
theorem dX3_open_66 : decode cX3_open 66 = .ok (.iload_n 3, 1) := by decide +kernel
theorem dX3_open_67 : decode cX3_open 67 = .ok (.iaload, 1) := by decide +kernel
theorem dX3_open_68 : decode cX3_open 68 = .ok (.if_icmp .gt 7, 3) := by decide +kernel
theorem dX3_open_71 : decode cX3_open 71 = .ok (.iconst 1, 1) := by decide +kernel
theorem dX3_open_72 : decode cX3_open 72 = .ok (.goto 4, 3) := by decide +kernel
theorem dX3_open_75 : decode cX3_open 75 = .ok (.iconst 0, 1) := by decide +kernel
theorem dX3_open_76 : decode cX3_open 76 = .ok (.iconst 1, 1) := by decide +kernel
theorem dX3_open_77 : decode cX3_open 77 = .ok (.invokevirtual 63, 3) := by decide +kernel
theorem dX3_open_80 : decode cX3_open 80 = .ok (.ifCond .ne 5, 3) := by decide +kernel
theorem dX3_open_83 : decode cX3_open 83 = .ok (.iconst 0, 1) := by decide +kernel
theorem dX3_open_84 : decode cX3_open 84 = .ok (.ireturn, 1) := by decide +kernel
theorem dX3_open_85 : decode cX3_open 85 = .ok (.aload_n 0, 1) := by decide +kernel
theorem dX3_open_86 : decode cX3_open 86 = .ok (.iload_n 1, 1) := by decide +kernel
theorem dX3_open_87 : decode cX3_open 87 = .ok (.iload 6, 2) := by decide +kernel
theorem dX3_open_89 : decode cX3_open 89 = .ok (.iload_n 3, 1) := by decide +kernel
theorem dX3_open_90 : decode cX3_open 90 = .ok (.iload 4, 2) := by decide +kernel
theorem dX3_open_92 : decode cX3_open 92 = .ok (.iload 5, 2) := by decide +kernel
theorem dX3_open_94 : decode cX3_open 94 = .ok (.invokevirtual 70, 3) := by decide +kernel
theorem dX3_open_97 : decode cX3_open 97 = .ok (.ireturn, 1) := by decide +kernel
theorem dX3_openAll_0 : decode cX3_openAll 0 = .ok (.iload_n 2, 1) := by decide +kernel
theorem dX3_openAll_1 : decode cX3_openAll 1 = .ok (.invokestatic 51, 3) := by decide +kernel
theorem dX3_openAll_4 : decode cX3_openAll 4 = .ok (.istore 4, 2) := by decide +kernel
theorem dX3_openAll_6 : decode cX3_openAll 6 = .ok (.aload_n 0, 1) := by decide +kernel
theorem dX3_openAll_7 : decode cX3_openAll 7 = .ok (.iload 4, 2) := by decide +kernel
theorem dX3_openAll_9 : decode cX3_openAll 9 = .ok (.ifCond .lt 7, 3) := by decide +kernel
theorem dX3_openAll_12 : decode cX3_openAll 12 = .ok (.iconst 1, 1) := by decide +kernel
theorem dX3_openAll_13 : decode cX3_openAll 13 = .ok (.goto 4, 3) := by decide +kernel
theorem dX3_openAll_16 : decode cX3_openAll 16 = .ok (.iconst 0, 1) := by decide +kernel
theorem dX3_openAll_17 : decode cX3_openAll 17 = .ok (.iload_n 1, 1) := by decide +kernel
theorem dX3_openAll_18 : decode cX3_openAll 18 = .ok (.invokestatic 67, 3) := by decide +kernel
theorem dX3_openAll_21 : decode cX3_openAll 21 = .ok (.ifCond .eq 14, 3) := by decide +kernel
theorem dX3_openAll_24 : decode cX3_openAll 24 = .ok (.iload_n 3, 1) := by decide +kernel
theorem dX3_openAll_25 : decode cX3_openAll 25 = .ok (.invokestatic 59, 3) := by decide +kernel
theorem dX3_openAll_28 : decode cX3_openAll 28 = .ok (.ifCond .eq 7, 3) := by decide +kernel
theorem dX3_openAll_31 : decode cX3_openAll 31 = .ok (.iconst 1, 1) := by decide +kernel
theorem dX3_openAll_32 : decode cX3_openAll 32 = .ok (.goto 4, 3) := by decide +kernel
theorem dX3_openAll_35 : decode cX3_openAll 35 = .ok (.iconst 0, 1) := by decide +kernel
theorem dX3_openAll_36 : decode cX3_openAll 36 = .ok (.iconst 1, 1) := by decide +kernel
theorem dX3_openAll_37 : decode cX3_openAll 37 = .ok (.invokevirtual 63, 3) := by decide +kernel
theorem dX3_openAll_40 : decode cX3_openAll 40 = .ok (.ifCond .eq 24, 3) := by decide +kernel
theorem dX3_openAll_43 : decode cX3_openAll 43 = .ok (.aload_n 0, 1) := by decide +kernel
theorem dX3_openAll_44 : decode cX3_openAll 44 = .ok (.iload_n 1, 1) := by decide +kernel
theorem dX3_openAll_45 : decode cX3_openAll 45 = .ok (.iload 4, 2) := by decide +kernel
theorem dX3_openAll_47 : decode cX3_openAll 47 = .ok (.iload_n 3, 1) := by decide +kernel
theorem dX3_openAll_48 : decode cX3_openAll 48 = .ok (.iconst 0, 1) := by decide +kernel
theorem dX3_openAll_49 : decode cX3_openAll 49 = .ok (.aload_n 0, 1) := by decide +kernel
theorem dX3_openAll_50 : decode cX3_openAll 50 = .ok (.getfield 16, 3) := by decide +kernel
theorem dX3_openAll_53 : decode cX3_openAll 53 = .ok (.iload 4, 2) := by decide +kernel
theorem dX3_openAll_55 : decode cX3_openAll 55 = .ok (.aaload, 1) := by decide +kernel
theorem dX3_openAll_56 : decode cX3_openAll 56 = .ok (.iload_n 3, 1) := by decide +kernel
theorem dX3_openAll_57 : decode cX3_openAll 57 = .ok (.iaload, 1) := by decide +kernel
theorem dX3_openAll_58 : decode cX3_openAll 58 = .ok (.invokevirtual 70, 3) := by decide +kernel
theorem dX3_openAll_61 : decode cX3_openAll 61 = .ok (.goto 4, 3) := by decide +kernel
theorem dX3_openAll_64 : decode cX3_openAll 64 = .ok (.iconst 0, 1) := by decide +kernel
theorem dX3_openAll_65 : decode cX3_openAll 65 = .ok (.ireturn, 1) := by decide +kernel
theorem dX3_items_0 : decode cX3_items 0 = .ok (.aload_n 0, 1) := by decide +kernel
theorem dX3_items_1 : decode cX3_items 1 = .ok (.iload_n 1, 1) := by decide +kernel
theorem dX3_items_2 : decode cX3_items 2 = .ok (.invokestatic 67, 3) := by decide +kernel
theorem dX3_items_5 : decode cX3_items 5 = .ok (.iconst 1, 1) := by decide +kernel
theorem dX3_items_6 : decode cX3_items 6 = .ok (.iconst 1, 1) := by decide +kernel
theorem dX3_items_7 : decode cX3_items 7 = .ok (.invokevirtual 63, 3) := by decide +kernel
theorem dX3_items_10 : decode cX3_items 10 = .ok (.ifCond .eq 12, 3) := by decide +kernel
theorem dX3_items_13 : decode cX3_items 13 = .ok (.aload_n 0, 1) := by decide +kernel
theorem dX3_items_14 : decode cX3_items 14 = .ok (.getfield 40, 3) := by decide +kernel
theorem dX3_items_17 : decode cX3_items 17 = .ok (.iload_n 1, 1) := by decide +kernel
theorem dX3_items_18 : decode cX3_items 18 = .ok (.iaload, 1) := by decide +kernel
theorem dX3_items_19 : decode cX3_items 19 = .ok (.goto 4, 3) := by decide +kernel
theorem dX3_items_22 : decode cX3_items 22 = .ok (.iconst 0, 1) := by decide +kernel
theorem dX3_items_23 : decode cX3_items 23 = .ok (.ireturn, 1) := by decide +kernel
theorem dX3_isItem_0 : decode cX3_isItem 0 = .ok (.iload_n 1, 1) := by decide +kernel
theorem dX3_isItem_1 : decode cX3_isItem 1 = .ok (.invokestatic 67, 3) := by decide +kernel
theorem dX3_isItem_4 : decode cX3_isItem 4 = .ok (.ifCond .eq 21, 3) := by decide +kernel
theorem dX3_isItem_7 : decode cX3_isItem 7 = .ok (.iload_n 2, 1) := by decide +kernel
theorem dX3_isItem_8 : decode cX3_isItem 8 = .ok (.ifCond .lt 17, 3) := by decide +kernel
theorem dX3_isItem_11 : decode cX3_isItem 11 = .ok (.iload_n 2, 1) := by decide +kernel
theorem dX3_isItem_12 : decode cX3_isItem 12 = .ok (.aload_n 0, 1) := by decide +kernel
theorem dX3_isItem_13 : decode cX3_isItem 13 = .ok (.getfield 40, 3) := by decide +kernel
theorem dX3_isItem_16 : decode cX3_isItem 16 = .ok (.iload_n 1, 1) := by decide +kernel
theorem dX3_isItem_17 : decode cX3_isItem 17 = .ok (.iaload, 1) := by decide +kernel
theorem dX3_isItem_18 : decode cX3_isItem 18 = .ok (.if_icmp .ge 7, 3) := by decide +kernel
theorem dX3_isItem_21 : decode cX3_isItem 21 = .ok (.iconst 1, 1) := by decide +kernel
theorem dX3_isItem_22 : decode cX3_isItem 22 = .ok (.goto 4, 3) := by decide +kernel
theorem dX3_isItem_25 : decode cX3_isItem 25 = .ok (.iconst 0, 1) := by decide +kernel
theorem dX3_isItem_26 : decode cX3_isItem 26 = .ok (.ireturn, 1) := by decide +kernel
theorem dX3_isOf_0 : decode cX3_isOf 0 = .ok (.aload_n 0, 1) := by decide +kernel
theorem dX3_isOf_1 : decode cX3_isOf 1 = .ok (.aload_n 0, 1) := by decide +kernel
theorem dX3_isOf_2 : decode cX3_isOf 2 = .ok (.iload_n 1, 1) := by decide +kernel
theorem dX3_isOf_3 : decode cX3_isOf 3 = .ok (.iload_n 2, 1) := by decide +kernel
theorem dX3_isOf_4 : decode cX3_isOf 4 = .ok (.invokevirtual 74, 3) := by decide +kernel
theorem dX3_isOf_7 : decode cX3_isOf 7 = .ok (.iconst 1, 1) := by decide +kernel
theorem dX3_isOf_8 : decode cX3_isOf 8 = .ok (.iconst 1, 1) := by decide +kernel
theorem dX3_isOf_9 : decode cX3_isOf 9 = .ok (.invokevirtual 63, 3) := by decide +kernel
theorem dX3_isOf_12 : decode cX3_isOf 12 = .ok (.ifCond .ne 5, 3) := by decide +kernel
theorem dX3_isOf_15 : decode cX3_isOf 15 = .ok (.iconst 0, 1) := by decide +kernel
theorem dX3_isOf_16 : decode cX3_isOf 16 = .ok (.ireturn, 1) := by decide +kernel
theorem dX3_isOf_17 : decode cX3_isOf 17 = .ok (.aload_n 0, 1) := by decide +kernel
theorem dX3_isOf_18 : decode cX3_isOf 18 = .ok (.iconst 1, 1) := by decide +kernel
theorem dX3_isOf_19 : decode cX3_isOf 19 = .ok (.aload_n 0, 1) := by decide +kernel
theorem dX3_isOf_20 : decode cX3_isOf 20 = .ok (.getfield 34, 3) := by decide +kernel
theorem dX3_isOf_23 : decode cX3_isOf 23 = .ok (.iload_n 1, 1) := by decide +kernel
theorem dX3_isOf_24 : decode cX3_isOf 24 = .ok (.aaload, 1) := by decide +kernel
theorem dX3_isOf_25 : decode cX3_isOf 25 = .ok (.iload_n 2, 1) := by decide +kernel
theorem dX3_isOf_26 : decode cX3_isOf 26 = .ok (.caload, 1) := by decide +kernel
theorem dX3_isOf_27 : decode cX3_isOf 27 = .ok (.iload_n 3, 1) := by decide +kernel
theorem dX3_isOf_28 : decode cX3_isOf 28 = .ok (.if_icmp .eq 16, 3) := by decide +kernel
theorem dX3_isOf_31 : decode cX3_isOf 31 = .ok (.aload_n 0, 1) := by decide +kernel
theorem dX3_isOf_32 : decode cX3_isOf 32 = .ok (.getfield 34, 3) := by decide +kernel
theorem dX3_isOf_35 : decode cX3_isOf 35 = .ok (.iload_n 1, 1) := by decide +kernel
theorem dX3_isOf_36 : decode cX3_isOf 36 = .ok (.aaload, 1) := by decide +kernel
theorem dX3_isOf_37 : decode cX3_isOf 37 = .ok (.iload_n 2, 1) := by decide +kernel
theorem dX3_isOf_38 : decode cX3_isOf 38 = .ok (.caload, 1) := by decide +kernel
theorem dX3_isOf_39 : decode cX3_isOf 39 = .ok (.iload 4, 2) := by decide +kernel
theorem dX3_isOf_41 : decode cX3_isOf 41 = .ok (.if_icmp .ne 7, 3) := by decide +kernel
theorem dX3_isOf_44 : decode cX3_isOf 44 = .ok (.iconst 1, 1) := by decide +kernel
theorem dX3_isOf_45 : decode cX3_isOf 45 = .ok (.goto 4, 3) := by decide +kernel
theorem dX3_isOf_48 : decode cX3_isOf 48 = .ok (.iconst 0, 1) := by decide +kernel
theorem dX3_isOf_49 : decode cX3_isOf 49 = .ok (.iconst 1, 1) := by decide +kernel
theorem dX3_isOf_50 : decode cX3_isOf 50 = .ok (.invokevirtual 63, 3) := by decide +kernel
theorem dX3_isOf_53 : decode cX3_isOf 53 = .ok (.ireturn, 1) := by decide +kernel
theorem dX3_kindOf_0 : decode cX3_kindOf 0 = .ok (.aload_n 0, 1) := by decide +kernel
theorem dX3_kindOf_1 : decode cX3_kindOf 1 = .ok (.aload_n 0, 1) := by decide +kernel
theorem dX3_kindOf_2 : decode cX3_kindOf 2 = .ok (.iload_n 1, 1) := by decide +kernel
theorem dX3_kindOf_3 : decode cX3_kindOf 3 = .ok (.iload_n 2, 1) := by decide +kernel
theorem dX3_kindOf_4 : decode cX3_kindOf 4 = .ok (.invokevirtual 74, 3) := by decide +kernel
theorem dX3_kindOf_7 : decode cX3_kindOf 7 = .ok (.iconst 1, 1) := by decide +kernel
theorem dX3_kindOf_8 : decode cX3_kindOf 8 = .ok (.iconst 1, 1) := by decide +kernel
theorem dX3_kindOf_9 : decode cX3_kindOf 9 = .ok (.invokevirtual 63, 3) := by decide +kernel
theorem dX3_kindOf_12 : decode cX3_kindOf 12 = .ok (.ifCond .eq 14, 3) := by decide +kernel
theorem dX3_kindOf_15 : decode cX3_kindOf 15 = .ok (.aload_n 0, 1) := by decide +kernel
theorem dX3_kindOf_16 : decode cX3_kindOf 16 = .ok (.getfield 34, 3) := by decide +kernel
theorem dX3_kindOf_19 : decode cX3_kindOf 19 = .ok (.iload_n 1, 1) := by decide +kernel
theorem dX3_kindOf_20 : decode cX3_kindOf 20 = .ok (.aaload, 1) := by decide +kernel
theorem dX3_kindOf_21 : decode cX3_kindOf 21 = .ok (.iload_n 2, 1) := by decide +kernel
theorem dX3_kindOf_22 : decode cX3_kindOf 22 = .ok (.caload, 1) := by decide +kernel
theorem dX3_kindOf_23 : decode cX3_kindOf 23 = .ok (.goto 4, 3) := by decide +kernel
theorem dX3_kindOf_26 : decode cX3_kindOf 26 = .ok (.iconst 0, 1) := by decide +kernel
theorem dX3_kindOf_27 : decode cX3_kindOf 27 = .ok (.ireturn, 1) := by decide +kernel
theorem dX3_before_0 : decode cX3_before 0 = .ok (.iconst 0, 1) := by decide +kernel
theorem dX3_before_1 : decode cX3_before 1 = .ok (.istore_n 3, 1) := by decide +kernel
theorem dX3_before_2 : decode cX3_before 2 = .ok (.iconst 0, 1) := by decide +kernel
theorem dX3_before_3 : decode cX3_before 3 = .ok (.istore 4, 2) := by decide +kernel
theorem dX3_before_5 : decode cX3_before 5 = .ok (.iload 4, 2) := by decide +kernel
theorem dX3_before_7 : decode cX3_before 7 = .ok (.iload_n 2, 1) := by decide +kernel
theorem dX3_before_8 : decode cX3_before 8 = .ok (.if_icmp .ge 21, 3) := by decide +kernel
theorem dX3_before_11 : decode cX3_before 11 = .ok (.iload_n 3, 1) := by decide +kernel
theorem dX3_before_12 : decode cX3_before 12 = .ok (.aload_n 0, 1) := by decide +kernel
theorem dX3_before_13 : decode cX3_before 13 = .ok (.getfield 37, 3) := by decide +kernel
theorem dX3_before_16 : decode cX3_before 16 = .ok (.iload_n 1, 1) := by decide +kernel
theorem dX3_before_17 : decode cX3_before 17 = .ok (.aaload, 1) := by decide +kernel
theorem dX3_before_18 : decode cX3_before 18 = .ok (.iload 4, 2) := by decide +kernel
theorem dX3_before_20 : decode cX3_before 20 = .ok (.iaload, 1) := by decide +kernel
theorem dX3_before_21 : decode cX3_before 21 = .ok (.iadd, 1) := by decide +kernel
theorem dX3_before_22 : decode cX3_before 22 = .ok (.istore_n 3, 1) := by decide +kernel
theorem dX3_before_23 : decode cX3_before 23 = .ok (.iinc 4 1, 3) := by decide +kernel
theorem dX3_before_26 : decode cX3_before 26 = .ok (.goto (-21), 3) := by decide +kernel
theorem dX3_before_29 : decode cX3_before 29 = .ok (.iload_n 3, 1) := by decide +kernel
theorem dX3_before_30 : decode cX3_before 30 = .ok (.ireturn, 1) := by decide +kernel
theorem dX3_given_0 : decode cX3_given 0 = .ok (.aload_n 0, 1) := by decide +kernel
theorem dX3_given_1 : decode cX3_given 1 = .ok (.iload_n 1, 1) := by decide +kernel
theorem dX3_given_2 : decode cX3_given 2 = .ok (.iload_n 2, 1) := by decide +kernel
theorem dX3_given_3 : decode cX3_given 3 = .ok (.bipush 110, 2) := by decide +kernel
theorem dX3_given_5 : decode cX3_given 5 = .ok (.bipush 110, 2) := by decide +kernel
theorem dX3_given_7 : decode cX3_given 7 = .ok (.invokevirtual 78, 3) := by decide +kernel
theorem dX3_given_10 : decode cX3_given 10 = .ok (.ifCond .eq 19, 3) := by decide +kernel
theorem dX3_given_13 : decode cX3_given 13 = .ok (.aload_n 0, 1) := by decide +kernel
theorem dX3_given_14 : decode cX3_given 14 = .ok (.getfield 21, 3) := by decide +kernel
theorem dX3_given_17 : decode cX3_given 17 = .ok (.iload_n 1, 1) := by decide +kernel
theorem dX3_given_18 : decode cX3_given 18 = .ok (.aaload, 1) := by decide +kernel
theorem dX3_given_19 : decode cX3_given 19 = .ok (.aload_n 0, 1) := by decide +kernel
theorem dX3_given_20 : decode cX3_given 20 = .ok (.iload_n 1, 1) := by decide +kernel
theorem dX3_given_21 : decode cX3_given 21 = .ok (.iload_n 2, 1) := by decide +kernel
theorem dX3_given_22 : decode cX3_given 22 = .ok (.invokevirtual 82, 3) := by decide +kernel
theorem dX3_given_25 : decode cX3_given 25 = .ok (.laload, 1) := by decide +kernel
theorem dX3_given_26 : decode cX3_given 26 = .ok (.goto 4, 3) := by decide +kernel
theorem dX3_given_29 : decode cX3_given 29 = .ok (.lconst 0, 1) := by decide +kernel
theorem dX3_given_30 : decode cX3_given 30 = .ok (.lreturn, 1) := by decide +kernel
theorem dX3_left_0 : decode cX3_left 0 = .ok (.aload_n 0, 1) := by decide +kernel
theorem dX3_left_1 : decode cX3_left 1 = .ok (.iload_n 1, 1) := by decide +kernel
theorem dX3_left_2 : decode cX3_left 2 = .ok (.iload_n 2, 1) := by decide +kernel
theorem dX3_left_3 : decode cX3_left 3 = .ok (.bipush 112, 2) := by decide +kernel
theorem dX3_left_5 : decode cX3_left 5 = .ok (.bipush 116, 2) := by decide +kernel
theorem dX3_left_7 : decode cX3_left 7 = .ok (.invokevirtual 78, 3) := by decide +kernel
theorem dX3_left_10 : decode cX3_left 10 = .ok (.ifCond .eq 14, 3) := by decide +kernel
theorem dX3_left_13 : decode cX3_left 13 = .ok (.aload_n 0, 1) := by decide +kernel
theorem dX3_left_14 : decode cX3_left 14 = .ok (.getfield 37, 3) := by decide +kernel
theorem dX3_left_17 : decode cX3_left 17 = .ok (.iload_n 1, 1) := by decide +kernel
theorem dX3_left_18 : decode cX3_left 18 = .ok (.aaload, 1) := by decide +kernel
theorem dX3_left_19 : decode cX3_left 19 = .ok (.iload_n 2, 1) := by decide +kernel
theorem dX3_left_20 : decode cX3_left 20 = .ok (.iaload, 1) := by decide +kernel
theorem dX3_left_21 : decode cX3_left 21 = .ok (.goto 4, 3) := by decide +kernel
theorem dX3_left_24 : decode cX3_left 24 = .ok (.iconst 0, 1) := by decide +kernel
theorem dX3_left_25 : decode cX3_left 25 = .ok (.ireturn, 1) := by decide +kernel
theorem dX3_ahead_0 : decode cX3_ahead 0 = .ok (.aload_n 0, 1) := by decide +kernel
theorem dX3_ahead_1 : decode cX3_ahead 1 = .ok (.aload_n 0, 1) := by decide +kernel
theorem dX3_ahead_2 : decode cX3_ahead 2 = .ok (.iload_n 1, 1) := by decide +kernel
theorem dX3_ahead_3 : decode cX3_ahead 3 = .ok (.iload_n 2, 1) := by decide +kernel
theorem dX3_ahead_4 : decode cX3_ahead 4 = .ok (.invokevirtual 74, 3) := by decide +kernel
theorem dX3_ahead_7 : decode cX3_ahead 7 = .ok (.iconst 1, 1) := by decide +kernel
theorem dX3_ahead_8 : decode cX3_ahead 8 = .ok (.iconst 1, 1) := by decide +kernel
theorem dX3_ahead_9 : decode cX3_ahead 9 = .ok (.invokevirtual 63, 3) := by decide +kernel
theorem dX3_ahead_12 : decode cX3_ahead 12 = .ok (.ifCond .eq 12, 3) := by decide +kernel
theorem dX3_ahead_15 : decode cX3_ahead 15 = .ok (.aload_n 0, 1) := by decide +kernel
theorem dX3_ahead_16 : decode cX3_ahead 16 = .ok (.iload_n 1, 1) := by decide +kernel
theorem dX3_ahead_17 : decode cX3_ahead 17 = .ok (.iload_n 2, 1) := by decide +kernel
theorem dX3_ahead_18 : decode cX3_ahead 18 = .ok (.invokevirtual 82, 3) := by decide +kernel
theorem dX3_ahead_21 : decode cX3_ahead 21 = .ok (.goto 4, 3) := by decide +kernel
theorem dX3_ahead_24 : decode cX3_ahead 24 = .ok (.iconst 0, 1) := by decide +kernel
theorem dX3_ahead_25 : decode cX3_ahead 25 = .ok (.ireturn, 1) := by decide +kernel
theorem dX3_has_0 : decode cX3_has 0 = .ok (.aload_n 0, 1) := by decide +kernel
theorem dX3_has_1 : decode cX3_has 1 = .ok (.iload_n 1, 1) := by decide +kernel
theorem dX3_has_2 : decode cX3_has 2 = .ok (.iload_n 2, 1) := by decide +kernel
theorem dX3_has_3 : decode cX3_has 3 = .ok (.bipush 112, 2) := by decide +kernel
theorem dX3_has_5 : decode cX3_has 5 = .ok (.bipush 112, 2) := by decide +kernel
theorem dX3_has_7 : decode cX3_has 7 = .ok (.invokevirtual 78, 3) := by decide +kernel
theorem dX3_has_10 : decode cX3_has 10 = .ok (.ifCond .eq 51, 3) := by decide +kernel
theorem dX3_has_13 : decode cX3_has 13 = .ok (.aload_n 0, 1) := by decide +kernel
theorem dX3_has_14 : decode cX3_has 14 = .ok (.iconst 1, 1) := by decide +kernel
theorem dX3_has_15 : decode cX3_has 15 = .ok (.iconst 1, 1) := by decide +kernel
theorem dX3_has_16 : decode cX3_has 16 = .ok (.iload_n 3, 1) := by decide +kernel
theorem dX3_has_17 : decode cX3_has 17 = .ok (.bipush 111, 2) := by decide +kernel
theorem dX3_has_19 : decode cX3_has 19 = .ok (.if_icmp .eq 27, 3) := by decide +kernel
theorem dX3_has_22 : decode cX3_has 22 = .ok (.iload_n 3, 1) := by decide +kernel
theorem dX3_has_23 : decode cX3_has 23 = .ok (.bipush 115, 2) := by decide +kernel
theorem dX3_has_25 : decode cX3_has 25 = .ok (.if_icmp .eq 21, 3) := by decide +kernel
theorem dX3_has_28 : decode cX3_has 28 = .ok (.iload_n 3, 1) := by decide +kernel
theorem dX3_has_29 : decode cX3_has 29 = .ok (.bipush 117, 2) := by decide +kernel
theorem dX3_has_31 : decode cX3_has 31 = .ok (.if_icmp .eq 15, 3) := by decide +kernel
theorem dX3_has_34 : decode cX3_has 34 = .ok (.iload_n 3, 1) := by decide +kernel
theorem dX3_has_35 : decode cX3_has 35 = .ok (.bipush 105, 2) := by decide +kernel
theorem dX3_has_37 : decode cX3_has 37 = .ok (.if_icmp .eq 9, 3) := by decide +kernel
theorem dX3_has_40 : decode cX3_has 40 = .ok (.iload_n 3, 1) := by decide +kernel
theorem dX3_has_41 : decode cX3_has 41 = .ok (.bipush 97, 2) := by decide +kernel
theorem dX3_has_43 : decode cX3_has 43 = .ok (.if_icmp .ne 7, 3) := by decide +kernel
theorem dX3_has_46 : decode cX3_has 46 = .ok (.iconst 1, 1) := by decide +kernel
theorem dX3_has_47 : decode cX3_has 47 = .ok (.goto 4, 3) := by decide +kernel
theorem dX3_has_50 : decode cX3_has 50 = .ok (.iconst 0, 1) := by decide +kernel
theorem dX3_has_51 : decode cX3_has 51 = .ok (.invokevirtual 63, 3) := by decide +kernel
theorem dX3_has_54 : decode cX3_has 54 = .ok (.ifCond .eq 7, 3) := by decide +kernel
theorem dX3_has_57 : decode cX3_has 57 = .ok (.iconst 1, 1) := by decide +kernel
theorem dX3_has_58 : decode cX3_has 58 = .ok (.goto 4, 3) := by decide +kernel
theorem dX3_has_61 : decode cX3_has 61 = .ok (.iconst 0, 1) := by decide +kernel
theorem dX3_has_62 : decode cX3_has 62 = .ok (.ireturn, 1) := by decide +kernel
theorem dX3_isExact_0 : decode cX3_isExact 0 = .ok (.aload_n 0, 1) := by decide +kernel
theorem dX3_isExact_1 : decode cX3_isExact 1 = .ok (.iload_n 1, 1) := by decide +kernel
theorem dX3_isExact_2 : decode cX3_isExact 2 = .ok (.iload_n 2, 1) := by decide +kernel
theorem dX3_isExact_3 : decode cX3_isExact 3 = .ok (.bipush 112, 2) := by decide +kernel
theorem dX3_isExact_5 : decode cX3_isExact 5 = .ok (.bipush 112, 2) := by decide +kernel
theorem dX3_isExact_7 : decode cX3_isExact 7 = .ok (.invokevirtual 78, 3) := by decide +kernel
theorem dX3_isExact_10 : decode cX3_isExact 10 = .ok (.ireturn, 1) := by decide +kernel
theorem dX3_enter_0 : decode cX3_enter 0 = .ok (.aload_n 0, 1) := by decide +kernel
theorem dX3_enter_1 : decode cX3_enter 1 = .ok (.getfield 40, 3) := by decide +kernel
theorem dX3_enter_4 : decode cX3_enter 4 = .ok (.iload_n 1, 1) := by decide +kernel
theorem dX3_enter_5 : decode cX3_enter 5 = .ok (.iaload, 1) := by decide +kernel
theorem dX3_enter_6 : decode cX3_enter 6 = .ok (.istore 5, 2) := by decide +kernel
theorem dX3_enter_8 : decode cX3_enter 8 = .ok (.iload 5, 2) := by decide +kernel
theorem dX3_enter_10 : decode cX3_enter 10 = .ok (.iload_n 2, 1) := by decide +kernel
theorem dX3_enter_11 : decode cX3_enter 11 = .ok (.if_icmp .le 49, 3) := by decide +kernel
theorem dX3_enter_14 : decode cX3_enter 14 = .ok (.aload_n 0, 1) := by decide +kernel
theorem dX3_enter_15 : decode cX3_enter 15 = .ok (.getfield 34, 3) := by decide +kernel
theorem dX3_enter_18 : decode cX3_enter 18 = .ok (.iload_n 1, 1) := by decide +kernel
theorem dX3_enter_19 : decode cX3_enter 19 = .ok (.aaload, 1) := by decide +kernel
theorem dX3_enter_20 : decode cX3_enter 20 = .ok (.iload 5, 2) := by decide +kernel
theorem dX3_enter_22 : decode cX3_enter 22 = .ok (.aload_n 0, 1) := by decide +kernel
theorem dX3_enter_23 : decode cX3_enter 23 = .ok (.getfield 34, 3) := by decide +kernel
theorem dX3_enter_26 : decode cX3_enter 26 = .ok (.iload_n 1, 1) := by decide +kernel
theorem dX3_enter_27 : decode cX3_enter 27 = .ok (.aaload, 1) := by decide +kernel
theorem dX3_enter_28 : decode cX3_enter 28 = .ok (.iload 5, 2) := by decide +kernel
theorem dX3_enter_30 : decode cX3_enter 30 = .ok (.iconst 1, 1) := by decide +kernel
theorem dX3_enter_31 : decode cX3_enter 31 = .ok (.isub, 1) := by decide +kernel
theorem dX3_enter_32 : decode cX3_enter 32 = .ok (.caload, 1) := by decide +kernel
theorem dX3_enter_33 : decode cX3_enter 33 = .ok (.castore, 1) := by decide +kernel
theorem dX3_enter_34 : decode cX3_enter 34 = .ok (.aload_n 0, 1) := by decide +kernel
theorem dX3_enter_35 : decode cX3_enter 35 = .ok (.getfield 37, 3) := by decide +kernel
theorem dX3_enter_38 : decode cX3_enter 38 = .ok (.iload_n 1, 1) := by decide +kernel
theorem dX3_enter_39 : decode cX3_enter 39 = .ok (.aaload, 1) := by decide +kernel
theorem dX3_enter_40 : decode cX3_enter 40 = .ok (.iload 5, 2) := by decide +kernel
theorem dX3_enter_42 : decode cX3_enter 42 = .ok (.aload_n 0, 1) := by decide +kernel
theorem dX3_enter_43 : decode cX3_enter 43 = .ok (.getfield 37, 3) := by decide +kernel
theorem dX3_enter_46 : decode cX3_enter 46 = .ok (.iload_n 1, 1) := by decide +kernel
theorem dX3_enter_47 : decode cX3_enter 47 = .ok (.aaload, 1) := by decide +kernel
theorem dX3_enter_48 : decode cX3_enter 48 = .ok (.iload 5, 2) := by decide +kernel
theorem dX3_enter_50 : decode cX3_enter 50 = .ok (.iconst 1, 1) := by decide +kernel
theorem dX3_enter_51 : decode cX3_enter 51 = .ok (.isub, 1) := by decide +kernel
theorem dX3_enter_52 : decode cX3_enter 52 = .ok (.iaload, 1) := by decide +kernel
theorem dX3_enter_53 : decode cX3_enter 53 = .ok (.iastore, 1) := by decide +kernel
theorem dX3_enter_54 : decode cX3_enter 54 = .ok (.iinc 5 (-1), 3) := by decide +kernel
theorem dX3_enter_57 : decode cX3_enter 57 = .ok (.goto (-49), 3) := by decide +kernel
theorem dX3_enter_60 : decode cX3_enter 60 = .ok (.aload_n 0, 1) := by decide +kernel
theorem dX3_enter_61 : decode cX3_enter 61 = .ok (.getfield 34, 3) := by decide +kernel
theorem dX3_enter_64 : decode cX3_enter 64 = .ok (.iload_n 1, 1) := by decide +kernel
theorem dX3_enter_65 : decode cX3_enter 65 = .ok (.aaload, 1) := by decide +kernel
theorem dX3_enter_66 : decode cX3_enter 66 = .ok (.iload_n 2, 1) := by decide +kernel
theorem dX3_enter_67 : decode cX3_enter 67 = .ok (.iload_n 3, 1) := by decide +kernel
theorem dX3_enter_68 : decode cX3_enter 68 = .ok (.castore, 1) := by decide +kernel
theorem dX3_enter_69 : decode cX3_enter 69 = .ok (.aload_n 0, 1) := by decide +kernel
theorem dX3_enter_70 : decode cX3_enter 70 = .ok (.getfield 37, 3) := by decide +kernel
theorem dX3_enter_73 : decode cX3_enter 73 = .ok (.iload_n 1, 1) := by decide +kernel
theorem dX3_enter_74 : decode cX3_enter 74 = .ok (.aaload, 1) := by decide +kernel
theorem dX3_enter_75 : decode cX3_enter 75 = .ok (.iload_n 2, 1) := by decide +kernel
theorem dX3_enter_76 : decode cX3_enter 76 = .ok (.iload 4, 2) := by decide +kernel
theorem dX3_enter_78 : decode cX3_enter 78 = .ok (.iastore, 1) := by decide +kernel
theorem dX3_enter_79 : decode cX3_enter 79 = .ok (.aload_n 0, 1) := by decide +kernel
theorem dX3_enter_80 : decode cX3_enter 80 = .ok (.getfield 40, 3) := by decide +kernel
theorem dX3_enter_83 : decode cX3_enter 83 = .ok (.iload_n 1, 1) := by decide +kernel
theorem dX3_enter_84 : decode cX3_enter 84 = .ok (.dup2, 1) := by decide +kernel
theorem dX3_enter_85 : decode cX3_enter 85 = .ok (.iaload, 1) := by decide +kernel
theorem dX3_enter_86 : decode cX3_enter 86 = .ok (.iconst 1, 1) := by decide +kernel
theorem dX3_enter_87 : decode cX3_enter 87 = .ok (.iadd, 1) := by decide +kernel
theorem dX3_enter_88 : decode cX3_enter 88 = .ok (.iastore, 1) := by decide +kernel
theorem dX3_enter_89 : decode cX3_enter 89 = .ok (.return_, 1) := by decide +kernel
theorem dX3_halved_0 : decode cX3_halved 0 = .ok (.aload_n 0, 1) := by decide +kernel
theorem dX3_halved_1 : decode cX3_halved 1 = .ok (.getfield 37, 3) := by decide +kernel
theorem dX3_halved_4 : decode cX3_halved 4 = .ok (.iload_n 1, 1) := by decide +kernel
theorem dX3_halved_5 : decode cX3_halved 5 = .ok (.aaload, 1) := by decide +kernel
theorem dX3_halved_6 : decode cX3_halved 6 = .ok (.iload_n 2, 1) := by decide +kernel
theorem dX3_halved_7 : decode cX3_halved 7 = .ok (.iaload, 1) := by decide +kernel
theorem dX3_halved_8 : decode cX3_halved 8 = .ok (.iconst 2, 1) := by decide +kernel
theorem dX3_halved_9 : decode cX3_halved 9 = .ok (.idiv, 1) := by decide +kernel
theorem dX3_halved_10 : decode cX3_halved 10 = .ok (.istore_n 3, 1) := by decide +kernel
theorem dX3_halved_11 : decode cX3_halved 11 = .ok (.aload_n 0, 1) := by decide +kernel
theorem dX3_halved_12 : decode cX3_halved 12 = .ok (.getfield 37, 3) := by decide +kernel
theorem dX3_halved_15 : decode cX3_halved 15 = .ok (.iload_n 1, 1) := by decide +kernel
theorem dX3_halved_16 : decode cX3_halved 16 = .ok (.aaload, 1) := by decide +kernel
theorem dX3_halved_17 : decode cX3_halved 17 = .ok (.iload_n 2, 1) := by decide +kernel
theorem dX3_halved_18 : decode cX3_halved 18 = .ok (.dup2, 1) := by decide +kernel
theorem dX3_halved_19 : decode cX3_halved 19 = .ok (.iaload, 1) := by decide +kernel
theorem dX3_halved_20 : decode cX3_halved 20 = .ok (.iload_n 3, 1) := by decide +kernel
theorem dX3_halved_21 : decode cX3_halved 21 = .ok (.isub, 1) := by decide +kernel
theorem dX3_halved_22 : decode cX3_halved 22 = .ok (.iastore, 1) := by decide +kernel
theorem dX3_halved_23 : decode cX3_halved 23 = .ok (.aload_n 0, 1) := by decide +kernel
theorem dX3_halved_24 : decode cX3_halved 24 = .ok (.iload_n 1, 1) := by decide +kernel
theorem dX3_halved_25 : decode cX3_halved 25 = .ok (.iload_n 2, 1) := by decide +kernel
theorem dX3_halved_26 : decode cX3_halved 26 = .ok (.bipush 112, 2) := by decide +kernel
theorem dX3_halved_28 : decode cX3_halved 28 = .ok (.iload_n 3, 1) := by decide +kernel
theorem dX3_halved_29 : decode cX3_halved 29 = .ok (.invokevirtual 86, 3) := by decide +kernel
theorem dX3_halved_32 : decode cX3_halved 32 = .ok (.iload_n 3, 1) := by decide +kernel
theorem dX3_halved_33 : decode cX3_halved 33 = .ok (.ireturn, 1) := by decide +kernel
theorem dX3_split_0 : decode cX3_split 0 = .ok (.aload_n 0, 1) := by decide +kernel
theorem dX3_split_1 : decode cX3_split 1 = .ok (.iload_n 1, 1) := by decide +kernel
theorem dX3_split_2 : decode cX3_split 2 = .ok (.iload_n 2, 1) := by decide +kernel
theorem dX3_split_3 : decode cX3_split 3 = .ok (.bipush 112, 2) := by decide +kernel
theorem dX3_split_5 : decode cX3_split 5 = .ok (.bipush 112, 2) := by decide +kernel
theorem dX3_split_7 : decode cX3_split 7 = .ok (.invokevirtual 78, 3) := by decide +kernel
theorem dX3_split_10 : decode cX3_split 10 = .ok (.ifCond .ne 5, 3) := by decide +kernel
theorem dX3_split_13 : decode cX3_split 13 = .ok (.iconst 0, 1) := by decide +kernel
theorem dX3_split_14 : decode cX3_split 14 = .ok (.ireturn, 1) := by decide +kernel
theorem dX3_split_15 : decode cX3_split 15 = .ok (.aload_n 0, 1) := by decide +kernel
theorem dX3_split_16 : decode cX3_split 16 = .ok (.getfield 37, 3) := by decide +kernel
